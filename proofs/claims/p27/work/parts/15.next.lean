abbrev q_J1_indexOfChar_4cfef (G : gG) (E : gS) (k : Nat) (v : Int32) (A : Nat → Prop) : Array Value → State → Outcome → State → Prop := va_Qi (fun (r : Int32) (u : Unit) => match u with | _ => r = gIxF k v.toInt8.toInt32 (gLen.getD k 0) 0) (fun (u : Unit) t => match u with | _ => va_P G.1 vwCl [] t.heap ∧ gK G t ∧ va_D A []) A
set_option maxHeartbeats 4000000 in
set_option maxRecDepth 100000 in
theorem c_J1_indexOfChar_4cfef (l : Launch) (G : gG) (E : gS) (k : Nat) (v : Int32) (sz : Nat) (hk : k < 14) : Met l yJ1_indexOfChar_4cfef wsJ1_indexOfChar_4cfef ({ frames := 0, cells := 0, slots := 0, locals := 0 }) (gPreE G E [.ref (E.2 k), .int v, .int 0, .int (nI (gLen.getD k 0))] [] sz) (q_J1_indexOfChar_4cfef G E k v (va_A [] sz)) 0 0 (va_A [] sz) := by
  refine Met.ofW (cc := cJ1_indexOfChar_4cfef) (maxL := 6) (ret := (some .int)) (by decide) rfl ?_
  intro p e s m args below meth c s₁ B hml hv
  obtain ⟨rfl, hsz, hP, hK, hD0, hE⟩ := hv
  have hx := B.exec
  have hb := B.bytes
  have hr := B.returns
  have hts := atoms_spec (ws := wsJ1_indexOfChar_4cfef) B.pre
  have hown : s.vm.findClass RJ1 = some m.cls := findClass_of_methodNamed B.named
  have hlocks := B.notSynchronized
  subst hsz
  have hD := hD0.self (sz := s.heap.size)
  generalize hAe : va_A [] s.heap.size = A at hD hE ⊢
  have hA : ∀ q : Nat, s.heap.size ≤ q → A q := fun q h => by rw [← hAe]; exact Or.inr h
  have hS : va_S A s.heap s.heap [] := va_S.rf
  have hP : va_P G.1 vwCl [] s.heap := hP
  have hD : va_D A [] := hD
  have hl := lv_entry ([.ref (E.2 k), .int v, .int 0, .int (nI (gLen.getD k 0))]) (n := 6) (Nat.le_of_ble_eq_true rfl)
  rw [lg_entry_eq]
  generalize (lg_sl ([.ref (E.2 k), .int v, .int 0, .int (nI (gLen.getD k 0))]) ++ List.replicate (6 - (lg_sl ([.ref (E.2 k), .int v, .int 0, .int (nI (gLen.getD k 0))])).length) Slot.unset).toArray = ls at hl ⊢
  have hl : lv_has ls 6 [zR 0 (E.2 k), zI 1 v, zI 2 0, zI 3 (nI (gLen.getD k 0))] := hl
  have h41 := (gLen_ok k hk).2
  refine lv_iload_n hx hb dJ1_indexOfChar_4cfef_0 rfl (lv_at hl 1 rfl) ?_
  refine lv_i2b (v := v.toInt8.toInt32) hx hb dJ1_indexOfChar_4cfef_1 rfl ?_
  refine lv_istore (lv' := [zI 4 v.toInt8.toInt32, zR 0 (E.2 k), zI 1 v, zI 2 0, zI 3 (nI (gLen.getD k 0))]) hx hb dJ1_indexOfChar_4cfef_2 hl (by decide) rfl (fun ls hl => ?_)
  refine lv_iload_n hx hb dJ1_indexOfChar_4cfef_4 rfl (lv_at hl 3 rfl) ?_
  refine lv_istore (lv' := [zI 5 0, zI 4 v.toInt8.toInt32, zR 0 (E.2 k), zI 1 v, zI 2 0, zI 3 (nI (gLen.getD k 0))]) hx hb dJ1_indexOfChar_4cfef_5 hl (by decide) rfl (fun ls hl => ?_)
  have loop_7 : ∀ (n9 : Nat) (j : Nat), (j ≤ gLen.getD k 0) → (gIxF k v.toInt8.toInt32 (gLen.getD k 0 - j) j = gIxF k v.toInt8.toInt32 (gLen.getD k 0) 0) → (gLen.getD k 0 - j) < n9 → ∀ (H : Heap) (locs : List Loc), va_P G.1 vwCl [] H → va_D A [] → va_S A s.heap H locs → ∀ ls : Array Slot, lv_has ls 6 [zI 5 (nI j), zI 4 v.toInt8.toInt32, zR 0 (E.2 k), zI 1 v, zI 3 (nI (gLen.getD k 0))] → W p l e (headSpec wsJ1_indexOfChar_4cfef ({ frames := 0, cells := 0, slots := 0, locals := 0 })).room s m ([.ref (E.2 k), .int v, .int 0, .int (nI (gLen.getD k 0))] : List Value).toArray below meth c H locs 0 0 (MQ below (q_J1_indexOfChar_4cfef G E k v A) ([.ref (E.2 k), .int v, .int 0, .int (nI (gLen.getD k 0))] : List Value).toArray s 0 0 A) (F0 m 7 ls []) := by
    intro n9
    induction n9 with
    | zero => intro j hj hI hm9; exact absurd hm9 (Nat.not_lt_zero _)
    | succ n9 ih9 =>
      intro j hj hI hm9 H locs hP hD hS ls hl
      refine lv_iload hx hb dJ1_indexOfChar_4cfef_7 (lv_at hl 0 rfl) ?_
      refine lv_iload_n hx hb dJ1_indexOfChar_4cfef_9 rfl (lv_at hl 4 rfl) ?_
      refine lv_icmp_ge (tgt := 31) hx hb dJ1_indexOfChar_4cfef_10 (by decide) (fun c_1 => ?_) (fun c_1 => ?_)
      · skip
        have hj2 : gLen.getD k 0 ≤ j := (nI_leI (by omega) (by omega)).mp c_1
        refine lv_iconst (v := -1) hx hb dJ1_indexOfChar_4cfef_31 (by decide) ?_
        have hP9 := hP.sub (ws' := []) [] rfl
        have hD9 := hD.sub (ws' := []) [] (by decide) rfl
        have hpost : (fun (r : Int32) (u : Unit) => match u with | _ => r = gIxF k v.toInt8.toInt32 (gLen.getD k 0) 0) (-1) () := by rw [← hI, show gLen.getD k 0 - j = 0 by omega, gIxF]
        exact W.iret (v := (-1)) hx hb hr (fun t ht hW => ⟨⟨(-1), (), rfl, hpost, by rw [ht]; exact hP9, va_K.moved hW.alike hK, hD9⟩, hS.F ht⟩) hS.2.2 dJ1_indexOfChar_4cfef_32
      · skip
        have hj2 : j < gLen.getD k 0 := by
          rcases Nat.lt_or_ge j (gLen.getD k 0) with z | z
          · exact z
          · exact absurd (nI_le z (by omega)) c_1
        refine lv_aload_n hx hb dJ1_indexOfChar_4cfef_13 rfl (lv_at hl 2 rfl) ?_
        refine lv_iload hx hb dJ1_indexOfChar_4cfef_14 (lv_at hl 0 rfl) ?_
        refine va_tb hx hb (hE.1.1 k hk).2.2.2 hS (i := nI j) (vp_in_nI hj2 (by have := (gLen_ok k hk).2; omega)) (v := .int (gCh k j)) (by rw [nI_clamp (by have := (gLen_ok k hk).2; have := hj2; omega)]; rfl) dJ1_indexOfChar_4cfef_16 ?_
        refine lv_iload hx hb dJ1_indexOfChar_4cfef_17 (lv_at hl 1 rfl) ?_
        refine lv_icmp_ne (tgt := 25) hx hb dJ1_indexOfChar_4cfef_19 (by decide) (fun c_2 => ?_) (fun c_2 => ?_)
        · skip
          have hne := c_2
          refine lv_iinc (v := nI (j + 1)) (lv' := [zI 5 (nI (j + 1)), zI 4 v.toInt8.toInt32, zR 0 (E.2 k), zI 1 v, zI 3 (nI (gLen.getD k 0))]) hx hb dJ1_indexOfChar_4cfef_25 hl (k := 0) rfl (nI_1 j) (by decide) rfl (fun ls hl => ?_)
          refine lv_goto (tgt := 7) hx hb dJ1_indexOfChar_4cfef_28 (by decide) ?_
          exact ih9 (j + 1) (hj2) (by rw [← hI, show gLen.getD k 0 - j = (gLen.getD k 0 - (j + 1)) + 1 by omega, gIxF, if_neg hne]) (by omega) _ _ (hP.sub [] rfl) (hD.sub [] (by decide) rfl) hS ls (lv_sub hl [0, 1, 2, 3, 4] rfl)
        · skip
          have heq := c_2
          refine lv_iload hx hb dJ1_indexOfChar_4cfef_22 (lv_at hl 0 rfl) ?_
          have hP9 := hP.sub (ws' := []) [] rfl
          have hD9 := hD.sub (ws' := []) [] (by decide) rfl
          have hpost : (fun (r : Int32) (u : Unit) => match u with | _ => r = gIxF k v.toInt8.toInt32 (gLen.getD k 0) 0) (nI j) () := by rw [← hI, show gLen.getD k 0 - j = (gLen.getD k 0 - (j + 1)) + 1 by omega, gIxF, if_pos heq]
          exact W.iret (v := (nI j)) hx hb hr (fun t ht hW => ⟨⟨(nI j), (), rfl, hpost, by rw [ht]; exact hP9, va_K.moved hW.alike hK, hD9⟩, hS.F ht⟩) hS.2.2 dJ1_indexOfChar_4cfef_24
  exact loop_7 (gLen.getD k 0 + 1) 0 (Nat.zero_le _) (rfl) (by omega) _ _ (hP.sub [] rfl) (hD.sub [] (by decide) rfl) hS ls (lv_sub hl [0, 1, 2, 3, 5] rfl)
abbrev q_J1_indexOf_4cfef (G : gG) (E : gS) (k : Nat) (v : Int32) (A : Nat → Prop) : Array Value → State → Outcome → State → Prop := va_Qi (fun (r : Int32) (u : Unit) => match u with | _ => r = gIx k v) (fun (u : Unit) t => match u with | _ => va_P G.1 vwCl [] t.heap ∧ gK G t ∧ va_D A []) A
set_option maxHeartbeats 4000000 in
set_option maxRecDepth 100000 in
theorem c_J1_indexOf_4cfef (l : Launch) (G : gG) (E : gS) (k : Nat) (v : Int32) (sz : Nat) (hk : k < 14) (h0k : 0 < gLen.getD k 0) : Met l yJ1_indexOf_4cfef wsJ1_indexOf_4cfef ({ frames := 1, cells := 0, slots := 0, locals := 60 }) (gPreE G E [.ref (E.2 k), .int v, .int 0, .int (nI (gLen.getD k 0))] [] sz) (q_J1_indexOf_4cfef G E k v (va_A [] sz)) 0 0 (va_A [] sz) := by
  refine Met.ofW (cc := cJ1_indexOf_4cfef) (maxL := 4) (ret := (some .int)) (by decide) rfl ?_
  intro p e s m args below meth c s₁ B hml hv
  obtain ⟨rfl, hsz, hP, hK, hD0, hE⟩ := hv
  have hx := B.exec
  have hb := B.bytes
  have hr := B.returns
  have hts := atoms_spec (ws := wsJ1_indexOf_4cfef) B.pre
  have hown : s.vm.findClass RJ1 = some m.cls := findClass_of_methodNamed B.named
  have hlocks := B.notSynchronized
  subst hsz
  have hD := hD0.self (sz := s.heap.size)
  generalize hAe : va_A [] s.heap.size = A at hD hE ⊢
  have hA : ∀ q : Nat, s.heap.size ≤ q → A q := fun q h => by rw [← hAe]; exact Or.inr h
  have hS : va_S A s.heap s.heap [] := va_S.rf
  have hP : va_P G.1 vwCl [] s.heap := hP
  have hD : va_D A [] := hD
  have hl := lv_entry ([.ref (E.2 k), .int v, .int 0, .int (nI (gLen.getD k 0))]) (n := 4) (Nat.le_of_ble_eq_true rfl)
  rw [lg_entry_eq]
  generalize (lg_sl ([.ref (E.2 k), .int v, .int 0, .int (nI (gLen.getD k 0))]) ++ List.replicate (4 - (lg_sl ([.ref (E.2 k), .int v, .int 0, .int (nI (gLen.getD k 0))])).length) Slot.unset).toArray = ls at hl ⊢
  have hl : lv_has ls 4 [zR 0 (E.2 k), zI 1 v, zI 2 0, zI 3 (nI (gLen.getD k 0))] := hl
  refine lv_iload_n hx hb dJ1_indexOf_4cfef_0 rfl (lv_at hl 1 rfl) ?_
  have hPc : va_P G.1 vwCl [] s.heap := hP.sub [] rfl
  have hDc : va_D A [] := hD.sub [] (by decide) rfl
  have hFc := va_free (wc := []) hD hS hA [] rfl
  refine va_calli (va_runS (As := [.int v]) (rest := []) ⟨hx, hb, hml, hown, hts⟩ (c_J1_canEncode_9a6ad l G v s.heap.size) (va_cwS 1 hts gJ1_indexOf_4cfef_J1_canEncode_9a6ad rfl rfl rfl (by decide +kernel) ⟨Nat.le_of_ble_eq_true rfl, Nat.le_of_ble_eq_true rfl⟩) ⟨gPre_blind, fun U hU hW => gPre_of hU hW hK hPc hDc⟩ rfl rfl hl.1 rfl (lv_room (Nat.le_of_ble_eq_true rfl)) dJ1_indexOf_4cfef_1 ⟨Nat.le_of_ble_eq_true rfl, Nat.le_of_ble_eq_true rfl⟩) hS (fun q _ h => hFc q h) hFc (fun r_1 u t H locs ht hvm w_2 hB hz1 hk1 hS => ?_)
  obtain ⟨hP1, hK1, hD1⟩ := hB
  rw [ht] at hP1
  have hP1 : va_P G.1 vwCl [] H := hP1
  have hD1 : va_D (va_A [] s.heap.size) [] := hD1
  have w_2 : r_1 = bz (decide (0 ≤ v ∧ v ≤ 255)) := w_2
  obtain ⟨hP, hD⟩ := va_join (wr := []) (w1 := []) hP hD [] [] rfl rfl (by decide) (by decide) hk1 hFc hP1 hD1
  have hP : va_P G.1 vwCl [] H := hP
  have hD : va_D A [] := hD
  have hcan := w_2
  refine lv_if_ne (tgt := 9) hx hb dJ1_indexOf_4cfef_4 (by decide) (fun c_3 => ?_) (fun c_3 => ?_)
  · skip
    have p_4 : 0 ≤ v ∧ v ≤ 255 := of_decide_eq_true (bz_ne w_2 c_3)
    have hye : 0 ≤ v ∧ v ≤ 255 := by
      by_cases z : 0 ≤ v ∧ v ≤ 255
      · exact z
      · rw [hcan, show decide (0 ≤ v ∧ v ≤ 255) = false from decide_eq_false z] at c_3; exact absurd rfl c_3
    refine lv_iload_n hx hb dJ1_indexOf_4cfef_9 rfl (lv_at hl 2 rfl) ?_
    refine lv_iconst (v := 0) hx hb dJ1_indexOf_4cfef_10 (by decide) ?_
    refine va_mmax hx hb (by rw [hml]; exact hl.1.symm) hown (hts (.methodLink RJ1 92 Lib.Math.max.name) (by decide +kernel)) (hts (.static Lib.Math.max.name) (by decide +kernel)) (hts (.initialized "java/lang/Math") (by decide +kernel)) (hts (.code Lib.Math.max.name Lib.Math.max.code 2 (some .int)) (by decide +kernel)) (Nat.le_of_ble_eq_true rfl) (Nat.le_of_ble_eq_true rfl) (Nat.le_of_ble_eq_true rfl) (Nat.le_of_ble_eq_true rfl) dJ1_indexOf_4cfef_11 ?_
    refine lv_topi (fun v_6 ev_6 => ?_)
    have ev_6 : v_6 = 0 := ev_6.trans (by decide)
    subst ev_6
    refine lv_istore_n (lv' := [zI 2 0, zR 0 (E.2 k), zI 1 v, zI 3 (nI (gLen.getD k 0))]) hx hb dJ1_indexOf_4cfef_14 rfl hl (by decide) rfl (fun ls hl => ?_)
    refine lv_iload_n hx hb dJ1_indexOf_4cfef_15 rfl (lv_at hl 3 rfl) ?_
    refine lv_aload_n hx hb dJ1_indexOf_4cfef_16 rfl (lv_at hl 1 rfl) ?_
    refine va_tlen hx hb (hE.1.1 k hk).2.2.2 hS (v := nI (gLen.getD k 0)) rfl dJ1_indexOf_4cfef_17 ?_
    refine va_mmin hx hb (by rw [hml]; exact hl.1.symm) hown (hts (.methodLink RJ1 38 Lib.Math.min.name) (by decide +kernel)) (hts (.static Lib.Math.min.name) (by decide +kernel)) (hts (.initialized "java/lang/Math") (by decide +kernel)) (hts (.code Lib.Math.min.name Lib.Math.min.code 2 (some .int)) (by decide +kernel)) (Nat.le_of_ble_eq_true rfl) (Nat.le_of_ble_eq_true rfl) (Nat.le_of_ble_eq_true rfl) (Nat.le_of_ble_eq_true rfl) dJ1_indexOf_4cfef_18 ?_
    refine lv_topi (fun v_7 ev_7 => ?_)
    have ev_7 : v_7 = nI (gLen.getD k 0) := ev_7.trans (ite_self _)
    subst ev_7
    refine lv_istore_n (lv' := [zI 3 (nI (gLen.getD k 0)), zI 2 0, zR 0 (E.2 k), zI 1 v]) hx hb dJ1_indexOf_4cfef_21 rfl hl (by decide) rfl (fun ls hl => ?_)
    refine lv_iload_n hx hb dJ1_indexOf_4cfef_22 rfl (lv_at hl 1 rfl) ?_
    refine lv_iload_n hx hb dJ1_indexOf_4cfef_23 rfl (lv_at hl 0 rfl) ?_
    refine lv_icmp_lt (tgt := 29) hx hb dJ1_indexOf_4cfef_24 (by decide) (fun c_8 => ?_) (fun c_8 => ?_)
    rotate_left
    · exact absurd (nI_lt (a := 0) h0k (by have := (gLen_ok k hk).2; omega)) c_8
    refine lv_aload_n hx hb dJ1_indexOf_4cfef_29 rfl (lv_at hl 2 rfl) ?_
    refine lv_iload_n hx hb dJ1_indexOf_4cfef_30 rfl (lv_at hl 3 rfl) ?_
    refine lv_iload_n hx hb dJ1_indexOf_4cfef_31 rfl (lv_at hl 1 rfl) ?_
    refine lv_iload_n hx hb dJ1_indexOf_4cfef_32 rfl (lv_at hl 0 rfl) ?_
    have hPc : va_P G.1 vwCl [] H := hP.sub [] rfl
    have hDc : va_D A [] := hD.sub [] (by decide) rfl
    have hFc := va_free (wc := []) hD hS hA [] rfl
    refine va_calli (va_runS (As := [.ref (E.2 k), .int v, .int 0, .int (nI (gLen.getD k 0))]) (rest := []) ⟨hx, hb, hml, hown, hts⟩ (c_J1_indexOfChar_4cfef l G E k v H.size (hk)) (va_cwS 4 hts gJ1_indexOf_4cfef_J1_indexOfChar_4cfef rfl rfl rfl (by decide +kernel) ⟨Nat.le_of_ble_eq_true rfl, Nat.le_of_ble_eq_true rfl⟩) ⟨gPreE_blind, fun U hU hW => gPreE_of hU hW hK hPc hDc hE hS hFc⟩ rfl rfl hl.1 rfl (lv_room (Nat.le_of_ble_eq_true rfl)) dJ1_indexOf_4cfef_33 ⟨Nat.le_of_ble_eq_true rfl, Nat.le_of_ble_eq_true rfl⟩) hS (fun q _ h => hFc q h) hFc (fun r_9 u t H locs ht hvm w_10 hB hz1 hk1 hS => ?_)
    obtain ⟨hP1, hK1, hD1⟩ := hB
    rw [ht] at hP1
    have hP1 : va_P G.1 vwCl [] H := hP1
    have hD1 : va_D (va_A [] _) [] := hD1
    have w_10 : r_9 = gIxF k v.toInt8.toInt32 (gLen.getD k 0) 0 := w_10
    obtain ⟨hP, hD⟩ := va_join (wr := []) (w1 := []) hP hD [] [] rfl rfl (by decide) (by decide) hk1 hFc hP1 hD1
    have hP : va_P G.1 vwCl [] H := hP
    have hD : va_D A [] := hD
    have hix := w_10
    have hP9 := hP.sub (ws' := []) [] rfl
    have hD9 := hD.sub (ws' := []) [] (by decide) rfl
    have hpost : (fun (r : Int32) (u : Unit) => match u with | _ => r = gIx k v) r_9 () := by rw [gIx, if_pos hye]; exact hix
    exact W.iret (v := r_9) hx hb hr (fun t ht hW => ⟨⟨r_9, (), rfl, hpost, by rw [ht]; exact hP9, va_K.moved hW.alike hK, hD9⟩, hS.F ht⟩) hS.2.2 dJ1_indexOf_4cfef_36
  · skip
    have n_5 : ¬ (0 ≤ v ∧ v ≤ 255) := of_decide_eq_false (bz_eq w_2 c_3)
    have hno : ¬ (0 ≤ v ∧ v ≤ 255) := fun z => by rw [hcan, show decide (0 ≤ v ∧ v ≤ 255) = true from decide_eq_true z] at c_3; exact absurd c_3 (by decide)
    refine lv_iconst (v := -1) hx hb dJ1_indexOf_4cfef_7 (by decide) ?_
    have hP9 := hP.sub (ws' := []) [] rfl
    have hD9 := hD.sub (ws' := []) [] (by decide) rfl
    have hpost : (fun (r : Int32) (u : Unit) => match u with | _ => r = gIx k v) (-1) () := by rw [gIx, if_neg hno]
    exact W.iret (v := (-1)) hx hb hr (fun t ht hW => ⟨⟨(-1), (), rfl, hpost, by rw [ht]; exact hP9, va_K.moved hW.alike hK, hD9⟩, hS.F ht⟩) hS.2.2 dJ1_indexOf_4cfef_8
abbrev q_J0_indexOf_7cf53 (G : gG) (E : gS) (k : Nat) (v : Int32) (A : Nat → Prop) : Array Value → State → Outcome → State → Prop := va_Qi (fun (r : Int32) (u : Unit) => match u with | _ => r = gIx k v) (fun (u : Unit) t => match u with | _ => va_P G.1 vwCl [] t.heap ∧ gK G t ∧ va_D A []) A
set_option maxHeartbeats 4000000 in
set_option maxRecDepth 100000 in
theorem c_J0_indexOf_7cf53 (l : Launch) (G : gG) (E : gS) (k : Nat) (v : Int32) (sz : Nat) (hk : k < 14) (h0k : 0 < gLen.getD k 0) : Met l yJ0_indexOf_7cf53 wsJ0_indexOf_7cf53 ({ frames := 2, cells := 0, slots := 0, locals := 83 }) (gPreE G E [.ref (E.1 k), .int v, .int 0] [] sz) (q_J0_indexOf_7cf53 G E k v (va_A [] sz)) 0 0 (va_A [] sz) := by
  refine Met.ofW (cc := cJ0_indexOf_7cf53) (maxL := 3) (ret := (some .int)) (by decide) rfl ?_
  intro p e s m args below meth c s₁ B hml hv
  obtain ⟨rfl, hsz, hP, hK, hD0, hE⟩ := hv
  have hx := B.exec
  have hb := B.bytes
  have hr := B.returns
  have hts := atoms_spec (ws := wsJ0_indexOf_7cf53) B.pre
  have hown : s.vm.findClass RJ0 = some m.cls := findClass_of_methodNamed B.named
  have hlocks := B.notSynchronized
  subst hsz
  have hD := hD0.self (sz := s.heap.size)
  generalize hAe : va_A [] s.heap.size = A at hD hE ⊢
  have hA : ∀ q : Nat, s.heap.size ≤ q → A q := fun q h => by rw [← hAe]; exact Or.inr h
  have hS : va_S A s.heap s.heap [] := va_S.rf
  have hP : va_P G.1 vwCl [] s.heap := hP
  have hD : va_D A [] := hD
  have hl := lv_entry ([.ref (E.1 k), .int v, .int 0]) (n := 3) (Nat.le_of_ble_eq_true rfl)
  rw [lg_entry_eq]
  generalize (lg_sl ([.ref (E.1 k), .int v, .int 0]) ++ List.replicate (3 - (lg_sl ([.ref (E.1 k), .int v, .int 0])).length) Slot.unset).toArray = ls at hl ⊢
  have hl : lv_has ls 3 [zR 0 (E.1 k), zI 1 v, zI 2 0] := hl
  refine lv_aload_n hx hb dJ0_indexOf_7cf53_0 rfl (lv_at hl 0 rfl) ?_
  have hPc : va_P G.1 vwCl [] s.heap := hP.sub [] rfl
  have hDc : va_D A [] := hD.sub [] (by decide) rfl
  have hFc := va_free (wc := []) hD hS hA [] rfl
  refine va_calli (va_runV (As := []) (rest := []) ⟨hx, hb, hml, hown, hts⟩ (c_J0_isLatin1_aae02 l G E k s.heap.size (hk)) (cwV 0 hts gJ0_indexOf_7cf53_J0_isLatin1_aae02 rfl rfl rfl (by decide +kernel) ⟨Nat.le_of_ble_eq_true rfl, Nat.le_of_ble_eq_true rfl⟩) ⟨gPreE_blind, vk_recv hE.1 hk hS, fun U hU hW => gPreE_of hU hW hK hPc hDc hE hS hFc⟩ rfl rfl hl.1 rfl (lv_room (Nat.le_of_ble_eq_true rfl)) dJ0_indexOf_7cf53_1 ⟨Nat.le_of_ble_eq_true rfl, Nat.le_of_ble_eq_true rfl⟩) hS (fun q _ h => hFc q h) hFc (fun r_1 u t H locs ht hvm w_2 hB hz1 hk1 hS => ?_)
  obtain ⟨hP1, hK1, hD1⟩ := hB
  rw [ht] at hP1
  have hP1 : va_P G.1 vwCl [] H := hP1
  have hD1 : va_D (va_A [] s.heap.size) [] := hD1
  have w_2 : r_1 = 1 := w_2
  obtain ⟨hP, hD⟩ := va_join (wr := []) (w1 := []) hP hD [] [] rfl rfl (by decide) (by decide) hk1 hFc hP1 hD1
  have hP : va_P G.1 vwCl [] H := hP
  have hD : va_D A [] := hD
  have w_2 : r_1 = 1 := w_2
  subst w_2
  refine lv_if_eq (tgt := 23) hx hb dJ0_indexOf_7cf53_4 (by decide) (fun c_3 => ?_) (fun c_3 => ?_)
  · exact absurd c_3 (by decide)
  refine lv_aload_n hx hb dJ0_indexOf_7cf53_7 rfl (lv_at hl 0 rfl) ?_
  refine vk_getf hx hb (hE.1.1 k hk).2.2.1 hS hown (hts (.fieldLink RJ0 9 "java/lang/String" "value" "[B") (by decide +kernel)) (fun _ h9 => h9) dJ0_indexOf_7cf53_8 ?_
  refine lv_iload_n hx hb dJ0_indexOf_7cf53_11 rfl (lv_at hl 1 rfl) ?_
  refine lv_iload_n hx hb dJ0_indexOf_7cf53_12 rfl (lv_at hl 2 rfl) ?_
  refine lv_aload_n hx hb dJ0_indexOf_7cf53_13 rfl (lv_at hl 0 rfl) ?_
  have hPc : va_P G.1 vwCl [] H := hP.sub [] rfl
  have hDc : va_D A [] := hD.sub [] (by decide) rfl
  have hFc := va_free (wc := []) hD hS hA [] rfl
  refine va_calli (va_runV (As := []) (rest := [.int 0, .int v, .ref (E.2 k)]) ⟨hx, hb, hml, hown, hts⟩ (c_J0_length_8abf5 l G E k H.size (hk)) (cwV 0 hts gJ0_indexOf_7cf53_J0_length_8abf5 rfl rfl rfl (by decide +kernel) ⟨Nat.le_of_ble_eq_true rfl, Nat.le_of_ble_eq_true rfl⟩) ⟨gPreE_blind, vk_recv hE.1 hk hS, fun U hU hW => gPreE_of hU hW hK hPc hDc hE hS hFc⟩ rfl rfl hl.1 rfl (lv_room (Nat.le_of_ble_eq_true rfl)) dJ0_indexOf_7cf53_14 ⟨Nat.le_of_ble_eq_true rfl, Nat.le_of_ble_eq_true rfl⟩) hS (fun q _ h => hFc q h) hFc (fun r_4 u t H locs ht hvm w_5 hB hz1 hk1 hS => ?_)
  obtain ⟨hP1, hK1, hD1⟩ := hB
  rw [ht] at hP1
  have hP1 : va_P G.1 vwCl [] H := hP1
  have hD1 : va_D (va_A [] _) [] := hD1
  have w_5 : r_4 = nI (gLen.getD k 0) := w_5
  obtain ⟨hP, hD⟩ := va_join (wr := []) (w1 := []) hP hD [] [] rfl rfl (by decide) (by decide) hk1 hFc hP1 hD1
  have hP : va_P G.1 vwCl [] H := hP
  have hD : va_D A [] := hD
  have w_5 : r_4 = nI (gLen.getD k 0) := w_5
  subst w_5
  have hPc : va_P G.1 vwCl [] H := hP.sub [] rfl
  have hDc : va_D A [] := hD.sub [] (by decide) rfl
  have hFc := va_free (wc := []) hD hS hA [] rfl
  refine va_calli (va_runS (As := [.ref (E.2 k), .int v, .int 0, .int (nI (gLen.getD k 0))]) (rest := []) ⟨hx, hb, hml, hown, hts⟩ (c_J1_indexOf_4cfef l G E k v H.size (hk) (h0k)) (va_cwS 4 hts gJ0_indexOf_7cf53_J1_indexOf_4cfef rfl rfl rfl (by decide +kernel) ⟨Nat.le_of_ble_eq_true rfl, Nat.le_of_ble_eq_true rfl⟩) ⟨gPreE_blind, fun U hU hW => gPreE_of hU hW hK hPc hDc hE hS hFc⟩ rfl rfl hl.1 rfl (lv_room (Nat.le_of_ble_eq_true rfl)) dJ0_indexOf_7cf53_17 ⟨Nat.le_of_ble_eq_true rfl, Nat.le_of_ble_eq_true rfl⟩) hS (fun q _ h => hFc q h) hFc (fun r_6 u t H locs ht hvm w_7 hB hz1 hk1 hS => ?_)
  obtain ⟨hP1, hK1, hD1⟩ := hB
  rw [ht] at hP1
  have hP1 : va_P G.1 vwCl [] H := hP1
  have hD1 : va_D (va_A [] _) [] := hD1
  have w_7 : r_6 = gIx k v := w_7
  obtain ⟨hP, hD⟩ := va_join (wr := []) (w1 := []) hP hD [] [] rfl rfl (by decide) (by decide) hk1 hFc hP1 hD1
  have hP : va_P G.1 vwCl [] H := hP
  have hD : va_D A [] := hD
  have hix := w_7
  refine lv_goto (tgt := 36) hx hb dJ0_indexOf_7cf53_20 (by decide) ?_
  have hP9 := hP.sub (ws' := []) [] rfl
  have hD9 := hD.sub (ws' := []) [] (by decide) rfl
  have hpost : (fun (r : Int32) (u : Unit) => match u with | _ => r = gIx k v) r_6 () := hix
  exact W.iret (v := r_6) hx hb hr (fun t ht hW => ⟨⟨r_6, (), rfl, hpost, by rw [ht]; exact hP9, va_K.moved hW.alike hK, hD9⟩, hS.F ht⟩) hS.2.2 dJ0_indexOf_7cf53_36
abbrev q_J0_indexOf_0f7a4 (G : gG) (E : gS) (k : Nat) (v : Int32) (A : Nat → Prop) : Array Value → State → Outcome → State → Prop := va_Qi (fun (r : Int32) (u : Unit) => match u with | _ => r = gIx k v) (fun (u : Unit) t => match u with | _ => va_P G.1 vwCl [] t.heap ∧ gK G t ∧ va_D A []) A
set_option maxHeartbeats 4000000 in
set_option maxRecDepth 100000 in
theorem c_J0_indexOf_0f7a4 (l : Launch) (G : gG) (E : gS) (k : Nat) (v : Int32) (sz : Nat) (hk : k < 14) (h0k : 0 < gLen.getD k 0) : Met l yJ0_indexOf_0f7a4 wsJ0_indexOf_0f7a4 ({ frames := 3, cells := 0, slots := 0, locals := 105 }) (gPreE G E [.ref (E.1 k), .int v] [] sz) (q_J0_indexOf_0f7a4 G E k v (va_A [] sz)) 0 0 (va_A [] sz) := by
  refine Met.ofW (cc := cJ0_indexOf_0f7a4) (maxL := 2) (ret := (some .int)) (by decide) rfl ?_
  intro p e s m args below meth c s₁ B hml hv
  obtain ⟨rfl, hsz, hP, hK, hD0, hE⟩ := hv
  have hx := B.exec
  have hb := B.bytes
  have hr := B.returns
  have hts := atoms_spec (ws := wsJ0_indexOf_0f7a4) B.pre
  have hown : s.vm.findClass RJ0 = some m.cls := findClass_of_methodNamed B.named
  have hlocks := B.notSynchronized
  subst hsz
  have hD := hD0.self (sz := s.heap.size)
  generalize hAe : va_A [] s.heap.size = A at hD hE ⊢
  have hA : ∀ q : Nat, s.heap.size ≤ q → A q := fun q h => by rw [← hAe]; exact Or.inr h
  have hS : va_S A s.heap s.heap [] := va_S.rf
  have hP : va_P G.1 vwCl [] s.heap := hP
  have hD : va_D A [] := hD
  have hl := lv_entry ([.ref (E.1 k), .int v]) (n := 2) (Nat.le_of_ble_eq_true rfl)
  rw [lg_entry_eq]
  generalize (lg_sl ([.ref (E.1 k), .int v]) ++ List.replicate (2 - (lg_sl ([.ref (E.1 k), .int v])).length) Slot.unset).toArray = ls at hl ⊢
  have hl : lv_has ls 2 [zR 0 (E.1 k), zI 1 v] := hl
  refine lv_aload_n hx hb dJ0_indexOf_0f7a4_0 rfl (lv_at hl 0 rfl) ?_
  refine lv_iload_n hx hb dJ0_indexOf_0f7a4_1 rfl (lv_at hl 1 rfl) ?_
  refine lv_iconst (v := 0) hx hb dJ0_indexOf_0f7a4_2 (by decide) ?_
  have hPc : va_P G.1 vwCl [] s.heap := hP.sub [] rfl
  have hDc : va_D A [] := hD.sub [] (by decide) rfl
  have hFc := va_free (wc := []) hD hS hA [] rfl
  refine va_calli (va_runV (As := [.int v, .int 0]) (rest := []) ⟨hx, hb, hml, hown, hts⟩ (c_J0_indexOf_7cf53 l G E k v s.heap.size (hk) (h0k)) (cwV 2 hts gJ0_indexOf_0f7a4_J0_indexOf_7cf53 rfl rfl rfl (by decide +kernel) ⟨Nat.le_of_ble_eq_true rfl, Nat.le_of_ble_eq_true rfl⟩) ⟨gPreE_blind, vk_recv hE.1 hk hS, fun U hU hW => gPreE_of hU hW hK hPc hDc hE hS hFc⟩ rfl rfl hl.1 rfl (lv_room (Nat.le_of_ble_eq_true rfl)) dJ0_indexOf_0f7a4_3 ⟨Nat.le_of_ble_eq_true rfl, Nat.le_of_ble_eq_true rfl⟩) hS (fun q _ h => hFc q h) hFc (fun r_1 u t H locs ht hvm w_2 hB hz1 hk1 hS => ?_)
  obtain ⟨hP1, hK1, hD1⟩ := hB
  rw [ht] at hP1
  have hP1 : va_P G.1 vwCl [] H := hP1
  have hD1 : va_D (va_A [] s.heap.size) [] := hD1
  have w_2 : r_1 = gIx k v := w_2
  obtain ⟨hP, hD⟩ := va_join (wr := []) (w1 := []) hP hD [] [] rfl rfl (by decide) (by decide) hk1 hFc hP1 hD1
  have hP : va_P G.1 vwCl [] H := hP
  have hD : va_D A [] := hD
  have hix := w_2
  have hP9 := hP.sub (ws' := []) [] rfl
  have hD9 := hD.sub (ws' := []) [] (by decide) rfl
  have hpost : (fun (r : Int32) (u : Unit) => match u with | _ => r = gIx k v) r_1 () := hix
  exact W.iret (v := r_1) hx hb hr (fun t ht hW => ⟨⟨r_1, (), rfl, hpost, by rw [ht]; exact hP9, va_K.moved hW.alike hK, hD9⟩, hS.F ht⟩) hS.2.2 dJ0_indexOf_0f7a4_6
abbrev q_X1_next (G : gG) (E : gS) (h0 t0 b0 : Nat) (f : Nat → Int32) (x3 : Int32) (x4 : Int32) (x5 : Int32) (n : Nat) (a : Nat) (A : Nat → Prop) : Array Value → State → Outcome → State → Prop := va_Qv (fun (u : Nat × Int32 × Nat × Int32) => match u with | (zb, zt, zp, zm) => (zb, zt, zp, zm) = mNext f n a x5) (fun (u : Nat × Int32 × Nat × Int32) t => match u with | (zb, zt, zp, zm) => va_P G.1 vwCl [zo1 h0 t0 b0 (nI zb) zt (nI zp) zm (nI n), zi G b0 160 f] t.heap ∧ gK G t ∧ va_D A [zo1 h0 t0 b0 (nI zb) zt (nI zp) zm (nI n), zi G b0 160 f]) A
set_option maxHeartbeats 4000000 in
set_option maxRecDepth 100000 in
theorem c_X1_next (l : Launch) (G : gG) (E : gS) (h0 t0 b0 : Nat) (f : Nat → Int32) (x3 : Int32) (x4 : Int32) (x5 : Int32) (n : Nat) (a : Nat) (sz : Nat) (hn : n ≤ 160) (ha : a ≤ n) : Met l yX1_next wsX1_next ({ frames := 6, cells := 0, slots := 0, locals := 128 }) (gPreE G E [.ref h0] [zo1 h0 t0 b0 (nI a) x3 x4 x5 (nI n), zi G b0 160 f] sz) (q_X1_next G E h0 t0 b0 f x3 x4 x5 n a (va_A [zo1 h0 t0 b0 (nI a) x3 x4 x5 (nI n), zi G b0 160 f] sz)) 0 0 (va_A [zo1 h0 t0 b0 (nI a) x3 x4 x5 (nI n), zi G b0 160 f] sz) := by
  refine Met.ofW (cc := cX1_next) (maxL := 1) (ret := none) (by decide) rfl ?_
  intro p e s m args below meth c s₁ B hml hv
  obtain ⟨rfl, hsz, hP, hK, hD0, hE⟩ := hv
  have hx := B.exec
  have hb := B.bytes
  have hr := B.returns
  have hts := atoms_spec (ws := wsX1_next) B.pre
  have hown : s.vm.findClass RX1 = some m.cls := findClass_of_methodNamed B.named
  have hlocks := B.notSynchronized
  subst hsz
  have hD := hD0.self (sz := s.heap.size)
  generalize hAe : va_A [zo1 h0 t0 b0 (nI a) x3 x4 x5 (nI n), zi G b0 160 f] s.heap.size = A at hD hE ⊢
  have hA : ∀ q : Nat, s.heap.size ≤ q → A q := fun q h => by rw [← hAe]; exact Or.inr h
  have hS : va_S A s.heap s.heap [] := va_S.rf
  have hP : va_P G.1 vwCl [zo1 h0 t0 b0 (nI a) x3 x4 x5 (nI n), zi G b0 160 f] s.heap := hP
  have hD : va_D A [zo1 h0 t0 b0 (nI a) x3 x4 x5 (nI n), zi G b0 160 f] := hD
  have hl := lv_entry ([.ref h0]) (n := 1) (Nat.le_of_ble_eq_true rfl)
  rw [lg_entry_eq]
  generalize (lg_sl ([.ref h0]) ++ List.replicate (1 - (lg_sl ([.ref h0])).length) Slot.unset).toArray = ls at hl ⊢
  have hl : lv_has ls 1 [zR 0 h0] := hl
  have kf23 := hts (.fieldLink RX1 23 "PebbleInShoe$Reader" "at" "I") (by decide +kernel)
  have hiX1 := (by decide +kernel : ∀ w ∈ wsX10, w ∈ wsX1_next)
  have kf19 := hts (.fieldLink RX1 19 "PebbleInShoe$Reader" "length" "I") (by decide +kernel)
  have kf39 := hts (.fieldLink RX1 39 "PebbleInShoe$Reader" "place" "I") (by decide +kernel)
  have kf9 := hts (.fieldLink RX1 9 "PebbleInShoe$Reader" "bytes" "[I") (by decide +kernel)
  have kf45 := hts (.fieldLink RX1 45 "PebbleInShoe$Reader" "token" "I") (by decide +kernel)
  have loop_0 : ∀ (n9 : Nat) (a1 : Nat), (a ≤ a1 ∧ a1 ≤ n) → (mRun mBlank f n (n - a1) a1 = mRun mBlank f n (n - a) a) → (n - a1) < n9 → ∀ (H : Heap) (locs : List Loc), va_P G.1 vwCl [zo1 h0 t0 b0 (nI a1) x3 x4 x5 (nI n), zi G b0 160 f] H → va_D A [zo1 h0 t0 b0 (nI a1) x3 x4 x5 (nI n), zi G b0 160 f] → va_S A s.heap H locs → ∀ ls : Array Slot, lv_has ls 1 [zR 0 h0] → W p l e (headSpec wsX1_next ({ frames := 6, cells := 0, slots := 0, locals := 128 })).room s m ([.ref h0] : List Value).toArray below meth c H locs 0 0 (MQ below (q_X1_next G E h0 t0 b0 f x3 x4 x5 n a A) ([.ref h0] : List Value).toArray s 0 0 A) (F0 m 0 ls []) := by
    intro n9
    induction n9 with
    | zero => intro a1 ha1 hR hm9; exact absurd hm9 (Nat.not_lt_zero _)
    | succ n9 ih9 =>
      intro a1 ha1 hR hm9 H locs hP hD hS ls hl
      refine lv_aload_n hx hb dX1_next_0 rfl (lv_at hl 0 rfl) ?_
      refine va_get (D := G.1) (ci := 1) (v := .int (nI a1)) (C := RX1) (T := TX1) (N := 7) hx hb hts hiX1 hown hK hP 0 rfl rfl 2 (by decide) kf23 (fun _ h9 => h9) rfl dX1_next_1 ?_
      refine lv_aload_n hx hb dX1_next_4 rfl (lv_at hl 0 rfl) ?_
      refine va_get (D := G.1) (ci := 1) (v := .int (nI n)) (C := RX1) (T := TX1) (N := 7) hx hb hts hiX1 hown hK hP 0 rfl rfl 6 (by decide) kf19 (fun _ h9 => h9) rfl dX1_next_5 ?_
      refine lv_icmp_ge (tgt := 52) hx hb dX1_next_8 (by decide) (fun c_1 => ?_) (fun c_1 => ?_)
      · skip
        have hge : n ≤ a1 := (nI_leI (by omega) (by omega)).mp c_1
        have hB : a1 = mRun mBlank f n (n - a) a := by rw [← hR]; exact (mRun_stop _ (by first | exact Or.inl (by omega) | exact Or.inr hbl)).symm
        refine lv_aload_n hx hb dX1_next_52 rfl (lv_at hl 0 rfl) ?_
        refine lv_aload_n hx hb dX1_next_53 rfl (lv_at hl 0 rfl) ?_
        refine va_get (D := G.1) (ci := 1) (v := .int (nI a1)) (C := RX1) (T := TX1) (N := 7) hx hb hts hiX1 hown hK hP 0 rfl rfl 2 (by decide) kf23 (fun _ h9 => h9) rfl dX1_next_54 ?_
        refine va_put (D := G.1) (ci := 1) (v := .int (nI a1)) (ty := .int) (C := RX1) (T := TX1) (N := 7) hx hb hts hiX1 tyX1 tyX1_ok nmX1 hown hK hP hD hS 0 rfl rfl 4 (by decide) kf39 (fun _ h9 => h9) rfl (by decide +kernel) rfl rfl (Nat.le_of_ble_eq_true rfl) dX1_next_57 (fun H locs hP hD hS => ?_)
        have hP : va_P G.1 vwCl [zo1 h0 t0 b0 (nI a1) x3 (nI a1) x5 (nI n), zi G b0 160 f] H := hP
        have hD : va_D A [zo1 h0 t0 b0 (nI a1) x3 (nI a1) x5 (nI n), zi G b0 160 f] := hD
        refine lv_aload_n hx hb dX1_next_60 rfl (lv_at hl 0 rfl) ?_
        refine va_get (D := G.1) (ci := 1) (v := .int (nI a1)) (C := RX1) (T := TX1) (N := 7) hx hb hts hiX1 hown hK hP 0 rfl rfl 2 (by decide) kf23 (fun _ h9 => h9) rfl dX1_next_61 ?_
        refine lv_aload_n hx hb dX1_next_64 rfl (lv_at hl 0 rfl) ?_
        refine va_get (D := G.1) (ci := 1) (v := .int (nI n)) (C := RX1) (T := TX1) (N := 7) hx hb hts hiX1 hown hK hP 0 rfl rfl 6 (by decide) kf19 (fun _ h9 => h9) rfl dX1_next_65 ?_
        refine lv_icmp_lt (tgt := 79) hx hb dX1_next_68 (by decide) (fun c_2 => ?_) (fun c_2 => ?_)
        · skip
          have hlt2 : a1 < n := by
            rcases Nat.lt_or_ge a1 n with z | z
            · exact z
            · exact absurd c_2 (nI_nlt z (by omega))
          refine lv_aload_n hx hb dX1_next_79 rfl (lv_at hl 0 rfl) ?_
          refine lv_aload_n hx hb dX1_next_80 rfl (lv_at hl 0 rfl) ?_
          refine va_get (D := G.1) (ci := 1) (v := .int (nI a1)) (C := RX1) (T := TX1) (N := 7) hx hb hts hiX1 hown hK hP 0 rfl rfl 2 (by decide) kf23 (fun _ h9 => h9) rfl dX1_next_81 ?_
          have hPc : va_P G.1 vwCl [zo1 h0 t0 b0 (nI a1) x3 (nI a1) x5 (nI n), zi G b0 160 f] H := hP.sub [0, 1] rfl
          have hDc : va_D A [zo1 h0 t0 b0 (nI a1) x3 (nI a1) x5 (nI n), zi G b0 160 f] := hD.sub [0, 1] (by decide) rfl
          have hFc := va_free (wc := [zo1 h0 t0 b0 (nI a1) x3 (nI a1) x5 (nI n), zi G b0 160 f]) hD hS hA [0, 1] rfl
          refine va_calli (va_runV (As := [.int (nI a1)]) (rest := []) ⟨hx, hb, hml, hown, hts⟩ (c_X1_isLetter l G h0 t0 b0 f (nI a1) x3 (nI a1) x5 (nI n) a1 H.size (by omega)) (cwV 1 hts gX1_next_X1_isLetter rfl rfl rfl (by decide +kernel) ⟨Nat.le_of_ble_eq_true rfl, Nat.le_of_ble_eq_true rfl⟩) ⟨gPre_blind, va_recv hK hPc (ci := 1) (q0 := 0) rfl rfl, fun U hU hW => gPre_of hU hW hK hPc hDc⟩ rfl rfl hl.1 rfl (lv_room (Nat.le_of_ble_eq_true rfl)) dX1_next_84 ⟨Nat.le_of_ble_eq_true rfl, Nat.le_of_ble_eq_true rfl⟩) hS (fun q _ h => hFc q h) hFc (fun r_3 u t H locs ht hvm w_4 hB hz1 hk1 hS => ?_)
          obtain ⟨hP1, hK1, hD1⟩ := hB
          rw [ht] at hP1
          have hP1 : va_P G.1 vwCl [zo1 h0 t0 b0 (nI a1) x3 (nI a1) x5 (nI n), zi G b0 160 f] H := hP1
          have hD1 : va_D (va_A [zo1 h0 t0 b0 (nI a1) x3 (nI a1) x5 (nI n), zi G b0 160 f] _) [zo1 h0 t0 b0 (nI a1) x3 (nI a1) x5 (nI n), zi G b0 160 f] := hD1
          have w_4 : r_3 = bz (mLet (f a1)) := w_4
          obtain ⟨hP, hD⟩ := va_join (wr := []) (w1 := [zo1 h0 t0 b0 (nI a1) x3 (nI a1) x5 (nI n), zi G b0 160 f]) hP hD [0, 1] [] rfl rfl (by decide) (by decide) hk1 hFc hP1 hD1
          have hP : va_P G.1 vwCl [zo1 h0 t0 b0 (nI a1) x3 (nI a1) x5 (nI n), zi G b0 160 f] H := hP
          have hD : va_D A [zo1 h0 t0 b0 (nI a1) x3 (nI a1) x5 (nI n), zi G b0 160 f] := hD
          have hlet := w_4
          refine lv_if_eq (tgt := 97) hx hb dX1_next_87 (by decide) (fun c_5 => ?_) (fun c_5 => ?_)
          · skip
            have n_7 : (mLet (f a1)) = false := bz_eq w_4 c_5
            have hst : mLet (f a1) = false := by
              cases hq : mLet (f a1) with
              | false => rfl
              | true => rw [hq] at hlet; rw [hlet] at c_5; exact absurd c_5 (by decide)
            refine lv_aload_n hx hb dX1_next_97 rfl (lv_at hl 0 rfl) ?_
            refine lv_aload_n hx hb dX1_next_98 rfl (lv_at hl 0 rfl) ?_
            refine va_get (D := G.1) (ci := 1) (v := .int (nI a1)) (C := RX1) (T := TX1) (N := 7) hx hb hts hiX1 hown hK hP 0 rfl rfl 2 (by decide) kf23 (fun _ h9 => h9) rfl dX1_next_99 ?_
            have hPc : va_P G.1 vwCl [zo1 h0 t0 b0 (nI a1) x3 (nI a1) x5 (nI n), zi G b0 160 f] H := hP.sub [0, 1] rfl
            have hDc : va_D A [zo1 h0 t0 b0 (nI a1) x3 (nI a1) x5 (nI n), zi G b0 160 f] := hD.sub [0, 1] (by decide) rfl
            have hFc := va_free (wc := [zo1 h0 t0 b0 (nI a1) x3 (nI a1) x5 (nI n), zi G b0 160 f]) hD hS hA [0, 1] rfl
            refine va_calli (va_runV (As := [.int (nI a1)]) (rest := []) ⟨hx, hb, hml, hown, hts⟩ (c_X1_isDigit l G h0 t0 b0 f (nI a1) x3 (nI a1) x5 (nI n) a1 H.size (by omega)) (cwV 1 hts gX1_next_X1_isDigit rfl rfl rfl (by decide +kernel) ⟨Nat.le_of_ble_eq_true rfl, Nat.le_of_ble_eq_true rfl⟩) ⟨gPre_blind, va_recv hK hPc (ci := 1) (q0 := 0) rfl rfl, fun U hU hW => gPre_of hU hW hK hPc hDc⟩ rfl rfl hl.1 rfl (lv_room (Nat.le_of_ble_eq_true rfl)) dX1_next_102 ⟨Nat.le_of_ble_eq_true rfl, Nat.le_of_ble_eq_true rfl⟩) hS (fun q _ h => hFc q h) hFc (fun r_8 u t H locs ht hvm w_9 hB hz1 hk1 hS => ?_)
            obtain ⟨hP1, hK1, hD1⟩ := hB
            rw [ht] at hP1
            have hP1 : va_P G.1 vwCl [zo1 h0 t0 b0 (nI a1) x3 (nI a1) x5 (nI n), zi G b0 160 f] H := hP1
            have hD1 : va_D (va_A [zo1 h0 t0 b0 (nI a1) x3 (nI a1) x5 (nI n), zi G b0 160 f] _) [zo1 h0 t0 b0 (nI a1) x3 (nI a1) x5 (nI n), zi G b0 160 f] := hD1
            have w_9 : r_8 = bz (mDig (f a1)) := w_9
            obtain ⟨hP, hD⟩ := va_join (wr := []) (w1 := [zo1 h0 t0 b0 (nI a1) x3 (nI a1) x5 (nI n), zi G b0 160 f]) hP hD [0, 1] [] rfl rfl (by decide) (by decide) hk1 hFc hP1 hD1
            have hP : va_P G.1 vwCl [zo1 h0 t0 b0 (nI a1) x3 (nI a1) x5 (nI n), zi G b0 160 f] H := hP
            have hD : va_D A [zo1 h0 t0 b0 (nI a1) x3 (nI a1) x5 (nI n), zi G b0 160 f] := hD
            have hdig := w_9
            refine lv_if_eq (tgt := 115) hx hb dX1_next_105 (by decide) (fun c_10 => ?_) (fun c_10 => ?_)
            · skip
              have n_12 : (mDig (f a1)) = false := bz_eq w_9 c_10
              have hst2 : mDig (f a1) = false := by
                cases hq : mDig (f a1) with
                | false => rfl
                | true => rw [hq] at hdig; rw [hdig] at c_10; exact absurd c_10 (by decide)
              refine lv_aload_n hx hb dX1_next_115 rfl (lv_at hl 0 rfl) ?_
              refine va_ldcS hx hb hown (hE.2.1 12 (RX1, 89, "();+-*<=") rfl) dX1_next_116 ?_
              refine lv_aload_n hx hb dX1_next_118 rfl (lv_at hl 0 rfl) ?_
              refine va_get (D := G.1) (ci := 1) (v := .ref b0) (C := RX1) (T := TX1) (N := 7) hx hb hts hiX1 hown hK hP 0 rfl rfl 1 (by decide) kf9 (fun _ h9 => h9) rfl dX1_next_119 ?_
              refine lv_aload_n hx hb dX1_next_122 rfl (lv_at hl 0 rfl) ?_
              refine va_get (D := G.1) (ci := 1) (v := .int (nI a1)) (C := RX1) (T := TX1) (N := 7) hx hb hts hiX1 hown hK hP 0 rfl rfl 2 (by decide) kf23 (fun _ h9 => h9) rfl dX1_next_123 ?_
              refine va_iald (D := G.1) hx hb hK hP 1 0 rfl rfl (i := (nI a1)) (vp_in_nI (by omega) (by omega)) dX1_next_126 ?_
              refine lv_topi (fun v_13 ev_13 => ?_)
              have ev_13 : v_13 = f a1 := ev_13.trans (by rw [nI_clamp (by omega)])
              subst ev_13
              refine lv_i2c (v := ((f a1).toUInt32 % 65536).toInt32) hx hb dX1_next_127 rfl ?_
              refine lv_topi (fun v_14 ev_14 => ?_)
              have ev_14 : v_14 = mChar (f a1) := ev_14.trans (rfl)
              subst ev_14
              have hPc : va_P G.1 vwCl [] H := hP.sub [] rfl
              have hDc : va_D A [] := hD.sub [] (by decide) rfl
              have hFc := va_free (wc := []) hD hS hA [] rfl
              refine va_calli (va_runV (As := [.int (mChar (f a1))]) (rest := [.ref h0]) ⟨hx, hb, hml, hown, hts⟩ (c_J0_indexOf_0f7a4 l G E 12 (mChar (f a1)) H.size (by decide) (by decide)) (cwV 1 hts gX1_next_J0_indexOf_0f7a4 rfl rfl rfl (by decide +kernel) ⟨Nat.le_of_ble_eq_true rfl, Nat.le_of_ble_eq_true rfl⟩) ⟨gPreE_blind, vk_recv hE.1 (by decide) hS, fun U hU hW => gPreE_of hU hW hK hPc hDc hE hS hFc⟩ rfl rfl hl.1 rfl (lv_room (Nat.le_of_ble_eq_true rfl)) dX1_next_128 ⟨Nat.le_of_ble_eq_true rfl, Nat.le_of_ble_eq_true rfl⟩) hS (fun q _ h => hFc q h) hFc (fun r_15 u t H locs ht hvm w_16 hB hz1 hk1 hS => ?_)
              obtain ⟨hP1, hK1, hD1⟩ := hB
              rw [ht] at hP1
              have hP1 : va_P G.1 vwCl [] H := hP1
              have hD1 : va_D (va_A [] _) [] := hD1
              have w_16 : r_15 = gIx 12 (mChar (f a1)) := w_16
              obtain ⟨hP, hD⟩ := va_join (wr := [zo1 h0 t0 b0 (nI a1) x3 (nI a1) x5 (nI n), zi G b0 160 f]) (w1 := []) hP hD [] [0, 1] rfl rfl (by decide) (by decide) hk1 hFc hP1 hD1
              have hP : va_P G.1 vwCl [zo1 h0 t0 b0 (nI a1) x3 (nI a1) x5 (nI n), zi G b0 160 f] H := hP
              have hD : va_D A [zo1 h0 t0 b0 (nI a1) x3 (nI a1) x5 (nI n), zi G b0 160 f] := hD
              have w_16 : r_15 = gIx 12 (mChar (f a1)) := w_16
              subst w_16
              refine lv_if_lt (tgt := 146) hx hb dX1_next_131 (by decide) (fun c_17 => ?_) (fun c_17 => ?_)
              · skip
                have hix : ¬ 0 ≤ gIx 12 (mChar (f a1)) := Int32.not_le.mpr c_17
                refine lv_iconst (v := 1) hx hb dX1_next_146 (by decide) ?_
                refine va_put (D := G.1) (ci := 1) (v := .int 1) (ty := .int) (C := RX1) (T := TX1) (N := 7) hx hb hts hiX1 tyX1 tyX1_ok nmX1 hown hK hP hD hS 0 rfl rfl 3 (by decide) kf45 (fun _ h9 => h9) rfl (by decide +kernel) rfl rfl (Nat.le_of_ble_eq_true rfl) dX1_next_147 (fun H locs hP hD hS => ?_)
                have hP : va_P G.1 vwCl [zo1 h0 t0 b0 (nI a1) 1 (nI a1) x5 (nI n), zi G b0 160 f] H := hP
                have hD : va_D A [zo1 h0 t0 b0 (nI a1) 1 (nI a1) x5 (nI n), zi G b0 160 f] := hD
                refine lv_aload_n hx hb dX1_next_150 rfl (lv_at hl 0 rfl) ?_
                refine lv_dup hx hb dX1_next_151 rfl ?_
                refine va_get (D := G.1) (ci := 1) (v := .int (nI a1)) (C := RX1) (T := TX1) (N := 7) hx hb hts hiX1 hown hK hP 0 rfl rfl 2 (by decide) kf23 (fun _ h9 => h9) rfl dX1_next_152 ?_
                refine lv_iconst (v := 1) hx hb dX1_next_155 (by decide) ?_
                refine lv_iadd hx hb dX1_next_156 ?_
                refine lv_topi (fun v_18 ev_18 => ?_)
                have ev_18 : v_18 = nI (a1 + 1) := ev_18.trans (nI_1 a1)
                subst ev_18
                refine va_put (D := G.1) (ci := 1) (v := .int (nI (a1 + 1))) (ty := .int) (C := RX1) (T := TX1) (N := 7) hx hb hts hiX1 tyX1 tyX1_ok nmX1 hown hK hP hD hS 0 rfl rfl 2 (by decide) kf23 (fun _ h9 => h9) rfl (by decide +kernel) rfl rfl (Nat.le_of_ble_eq_true rfl) dX1_next_157 (fun H locs hP hD hS => ?_)
                have hP : va_P G.1 vwCl [zo1 h0 t0 b0 (nI (a1 + 1)) 1 (nI a1) x5 (nI n), zi G b0 160 f] H := hP
                have hD : va_D A [zo1 h0 t0 b0 (nI (a1 + 1)) 1 (nI a1) x5 (nI n), zi G b0 160 f] := hD
                have hP9 := hP.sub (ws' := [zo1 h0 t0 b0 (nI (a1 + 1)) 1 (nI a1) x5 (nI n), zi G b0 160 f]) [0, 1] rfl
                have hD9 := hD.sub (ws' := [zo1 h0 t0 b0 (nI (a1 + 1)) 1 (nI a1) x5 (nI n), zi G b0 160 f]) [0, 1] (by decide) rfl
                have hpost : (fun (u : Nat × Int32 × Nat × Int32) => match u with | (zb, zt, zp, zm) => (zb, zt, zp, zm) = mNext f n a x5) ((a1 + 1), 1, a1, x5) := by rw [mNext, ← hB, mNextAt, if_neg (by omega), if_neg (by rw [hst]; decide), if_neg (by rw [hst2]; decide), if_neg hix]
                exact W.vret hx hb hr (fun t ht hW => ⟨⟨((a1 + 1), 1, a1, x5), rfl, hpost, by rw [ht]; exact hP9, va_K.moved hW.alike hK, hD9⟩, hS.F ht⟩) hS.2.2 dX1_next_160
              · skip
                have hix : 0 ≤ gIx 12 (mChar (f a1)) := Int32.not_lt.mp c_17
                refine lv_aload_n hx hb dX1_next_134 rfl (lv_at hl 0 rfl) ?_
                refine va_get (D := G.1) (ci := 1) (v := .ref b0) (C := RX1) (T := TX1) (N := 7) hx hb hts hiX1 hown hK hP 0 rfl rfl 1 (by decide) kf9 (fun _ h9 => h9) rfl dX1_next_135 ?_
                refine lv_aload_n hx hb dX1_next_138 rfl (lv_at hl 0 rfl) ?_
                refine va_get (D := G.1) (ci := 1) (v := .int (nI a1)) (C := RX1) (T := TX1) (N := 7) hx hb hts hiX1 hown hK hP 0 rfl rfl 2 (by decide) kf23 (fun _ h9 => h9) rfl dX1_next_139 ?_
                refine va_iald (D := G.1) hx hb hK hP 1 0 rfl rfl (i := (nI a1)) (vp_in_nI (by omega) (by omega)) dX1_next_142 ?_
                refine lv_topi (fun v_19 ev_19 => ?_)
                have ev_19 : v_19 = f a1 := ev_19.trans (by rw [nI_clamp (by omega)])
                subst ev_19
                refine lv_goto (tgt := 147) hx hb dX1_next_143 (by decide) ?_
                refine va_put (D := G.1) (ci := 1) (v := .int (f a1)) (ty := .int) (C := RX1) (T := TX1) (N := 7) hx hb hts hiX1 tyX1 tyX1_ok nmX1 hown hK hP hD hS 0 rfl rfl 3 (by decide) kf45 (fun _ h9 => h9) rfl (by decide +kernel) rfl rfl (Nat.le_of_ble_eq_true rfl) dX1_next_147 (fun H locs hP hD hS => ?_)
                have hP : va_P G.1 vwCl [zo1 h0 t0 b0 (nI a1) (f a1) (nI a1) x5 (nI n), zi G b0 160 f] H := hP
                have hD : va_D A [zo1 h0 t0 b0 (nI a1) (f a1) (nI a1) x5 (nI n), zi G b0 160 f] := hD
                refine lv_aload_n hx hb dX1_next_150 rfl (lv_at hl 0 rfl) ?_
                refine lv_dup hx hb dX1_next_151 rfl ?_
                refine va_get (D := G.1) (ci := 1) (v := .int (nI a1)) (C := RX1) (T := TX1) (N := 7) hx hb hts hiX1 hown hK hP 0 rfl rfl 2 (by decide) kf23 (fun _ h9 => h9) rfl dX1_next_152 ?_
                refine lv_iconst (v := 1) hx hb dX1_next_155 (by decide) ?_
                refine lv_iadd hx hb dX1_next_156 ?_
                refine lv_topi (fun v_20 ev_20 => ?_)
                have ev_20 : v_20 = nI (a1 + 1) := ev_20.trans (nI_1 a1)
                subst ev_20
                refine va_put (D := G.1) (ci := 1) (v := .int (nI (a1 + 1))) (ty := .int) (C := RX1) (T := TX1) (N := 7) hx hb hts hiX1 tyX1 tyX1_ok nmX1 hown hK hP hD hS 0 rfl rfl 2 (by decide) kf23 (fun _ h9 => h9) rfl (by decide +kernel) rfl rfl (Nat.le_of_ble_eq_true rfl) dX1_next_157 (fun H locs hP hD hS => ?_)
                have hP : va_P G.1 vwCl [zo1 h0 t0 b0 (nI (a1 + 1)) (f a1) (nI a1) x5 (nI n), zi G b0 160 f] H := hP
                have hD : va_D A [zo1 h0 t0 b0 (nI (a1 + 1)) (f a1) (nI a1) x5 (nI n), zi G b0 160 f] := hD
                have hP9 := hP.sub (ws' := [zo1 h0 t0 b0 (nI (a1 + 1)) (f a1) (nI a1) x5 (nI n), zi G b0 160 f]) [0, 1] rfl
                have hD9 := hD.sub (ws' := [zo1 h0 t0 b0 (nI (a1 + 1)) (f a1) (nI a1) x5 (nI n), zi G b0 160 f]) [0, 1] (by decide) rfl
                have hpost : (fun (u : Nat × Int32 × Nat × Int32) => match u with | (zb, zt, zp, zm) => (zb, zt, zp, zm) = mNext f n a x5) ((a1 + 1), f a1, a1, x5) := by rw [mNext, ← hB, mNextAt, if_neg (by omega), if_neg (by rw [hst]; decide), if_neg (by rw [hst2]; decide), if_pos hix]
                exact W.vret hx hb hr (fun t ht hW => ⟨⟨((a1 + 1), f a1, a1, x5), rfl, hpost, by rw [ht]; exact hP9, va_K.moved hW.alike hK, hD9⟩, hS.F ht⟩) hS.2.2 dX1_next_160
            · skip
              have p_11 : (mDig (f a1)) = true := bz_ne w_9 c_10
              have hgo2 : mDig (f a1) = true := by
                cases hq : mDig (f a1) with
                | true => rfl
                | false => rw [hq] at hdig; rw [hdig] at c_10; exact absurd rfl c_10
              refine lv_aload_n hx hb dX1_next_108 rfl (lv_at hl 0 rfl) ?_
              have hPc : va_P G.1 vwCl [zo1 h0 t0 b0 (nI a1) x3 (nI a1) x5 (nI n), zi G b0 160 f] H := hP.sub [0, 1] rfl
              have hDc : va_D A [zo1 h0 t0 b0 (nI a1) x3 (nI a1) x5 (nI n), zi G b0 160 f] := hD.sub [0, 1] (by decide) rfl
              have hFc := va_free (wc := [zo1 h0 t0 b0 (nI a1) x3 (nI a1) x5 (nI n), zi G b0 160 f]) hD hS hA [0, 1] rfl
              refine va_callv (va_runV (As := []) (rest := []) ⟨hx, hb, hml, hown, hts⟩ (c_X1_nextNumber l G h0 t0 b0 f x3 x5 n a1 a1 H.size (hn) ((by omega)) (Nat.le_refl _)) (cwV 0 hts gX1_next_X1_nextNumber rfl rfl rfl (by decide +kernel) ⟨Nat.le_of_ble_eq_true rfl, Nat.le_of_ble_eq_true rfl⟩) ⟨gPre_blind, va_recv hK hPc (ci := 1) (q0 := 0) rfl rfl, fun U hU hW => gPre_of hU hW hK hPc hDc⟩ rfl rfl hl.1 rfl (lv_room (Nat.le_of_ble_eq_true rfl)) dX1_next_109 ⟨Nat.le_of_ble_eq_true rfl, Nat.le_of_ble_eq_true rfl⟩) hS (fun q _ h => hFc q h) hFc (fun u t H locs ht hvm w_22 hB hz1 hk1 hS => ?_)
              obtain ⟨zb_23, zt_24, zm_25⟩ := u
              obtain ⟨hP1, hK1, hD1⟩ := hB
              rw [ht] at hP1
              have hP1 : va_P G.1 vwCl [zo1 h0 t0 b0 (nI zb_23) zt_24 (nI a1) zm_25 (nI n), zi G b0 160 f] H := hP1
              have hD1 : va_D (va_A [zo1 h0 t0 b0 (nI a1) x3 (nI a1) x5 (nI n), zi G b0 160 f] _) [zo1 h0 t0 b0 (nI zb_23) zt_24 (nI a1) zm_25 (nI n), zi G b0 160 f] := hD1
              have w_22 : (zb_23, zm_25) = mNumR f n (n - a1) a1 0 ∧ zt_24 = (if 4 < zb_23 - a1 then 1 else 2) := w_22
              obtain ⟨hP, hD⟩ := va_join (wr := []) (w1 := [zo1 h0 t0 b0 (nI zb_23) zt_24 (nI a1) zm_25 (nI n), zi G b0 160 f]) hP hD [0, 1] [] rfl rfl (by decide) (by decide) hk1 hFc hP1 hD1
              have hP : va_P G.1 vwCl [zo1 h0 t0 b0 (nI zb_23) zt_24 (nI a1) zm_25 (nI n), zi G b0 160 f] H := hP
              have hD : va_D A [zo1 h0 t0 b0 (nI zb_23) zt_24 (nI a1) zm_25 (nI n), zi G b0 160 f] := hD
              have hnum := w_22
              refine lv_goto (tgt := 160) hx hb dX1_next_112 (by decide) ?_
              have hP9 := hP.sub (ws' := [zo1 h0 t0 b0 (nI zb_23) zt_24 (nI a1) zm_25 (nI n), zi G b0 160 f]) [0, 1] rfl
              have hD9 := hD.sub (ws' := [zo1 h0 t0 b0 (nI zb_23) zt_24 (nI a1) zm_25 (nI n), zi G b0 160 f]) [0, 1] (by decide) rfl
              have hpost : (fun (u : Nat × Int32 × Nat × Int32) => match u with | (zb, zt, zp, zm) => (zb, zt, zp, zm) = mNext f n a x5) (zb_23, zt_24, a1, zm_25) := by first | (obtain ⟨g1, g2, g3⟩ := hword; subst g1; rw [g2, g3, mNext, ← hB, mNextAt, if_neg (by omega), if_pos hgo]) | (obtain ⟨g1, g2⟩ := hnum; rw [mNext, ← hB, mNextAt, if_neg (by omega), if_neg (by rw [hst]; decide), if_pos hgo2, ← g1, g2])
              exact W.vret hx hb hr (fun t ht hW => ⟨⟨(zb_23, zt_24, a1, zm_25), rfl, hpost, by rw [ht]; exact hP9, va_K.moved hW.alike hK, hD9⟩, hS.F ht⟩) hS.2.2 dX1_next_160
          · skip
            have p_6 : (mLet (f a1)) = true := bz_ne w_4 c_5
            have hgo : mLet (f a1) = true := by
              cases hq : mLet (f a1) with
              | true => rfl
              | false => rw [hq] at hlet; rw [hlet] at c_5; exact absurd rfl c_5
            refine lv_aload_n hx hb dX1_next_90 rfl (lv_at hl 0 rfl) ?_
            have hPc : va_P G.1 vwCl [zo1 h0 t0 b0 (nI a1) x3 (nI a1) x5 (nI n), zi G b0 160 f] H := hP.sub [0, 1] rfl
            have hDc : va_D A [zo1 h0 t0 b0 (nI a1) x3 (nI a1) x5 (nI n), zi G b0 160 f] := hD.sub [0, 1] (by decide) rfl
            have hFc := va_free (wc := [zo1 h0 t0 b0 (nI a1) x3 (nI a1) x5 (nI n), zi G b0 160 f]) hD hS hA [0, 1] rfl
            refine va_callv (va_runV (As := []) (rest := []) ⟨hx, hb, hml, hown, hts⟩ (c_X1_nextWord l G E h0 t0 b0 f x3 x5 n a1 a1 H.size (hn) ((by omega)) (Nat.le_refl _)) (cwV 0 hts gX1_next_X1_nextWord rfl rfl rfl (by decide +kernel) ⟨Nat.le_of_ble_eq_true rfl, Nat.le_of_ble_eq_true rfl⟩) ⟨gPreE_blind, va_recv hK hPc (ci := 1) (q0 := 0) rfl rfl, fun U hU hW => gPreE_of hU hW hK hPc hDc hE hS hFc⟩ rfl rfl hl.1 rfl (lv_room (Nat.le_of_ble_eq_true rfl)) dX1_next_91 ⟨Nat.le_of_ble_eq_true rfl, Nat.le_of_ble_eq_true rfl⟩) hS (fun q _ h => hFc q h) hFc (fun u t H locs ht hvm w_27 hB hz1 hk1 hS => ?_)
            obtain ⟨zb_28, zt_29, zm_30⟩ := u
            obtain ⟨hP1, hK1, hD1⟩ := hB
            rw [ht] at hP1
            have hP1 : va_P G.1 vwCl [zo1 h0 t0 b0 (nI zb_28) zt_29 (nI a1) zm_30 (nI n), zi G b0 160 f] H := hP1
            have hD1 : va_D (va_A [zo1 h0 t0 b0 (nI a1) x3 (nI a1) x5 (nI n), zi G b0 160 f] _) [zo1 h0 t0 b0 (nI zb_28) zt_29 (nI a1) zm_30 (nI n), zi G b0 160 f] := hD1
            have w_27 : zb_28 = mRun mLet f n (n - a1) a1 ∧ zt_29 = (mWords f zb_28 a1 12 0 (1, x5)).1 ∧ zm_30 = (mWords f zb_28 a1 12 0 (1, x5)).2 := w_27
            obtain ⟨hP, hD⟩ := va_join (wr := []) (w1 := [zo1 h0 t0 b0 (nI zb_28) zt_29 (nI a1) zm_30 (nI n), zi G b0 160 f]) hP hD [0, 1] [] rfl rfl (by decide) (by decide) hk1 hFc hP1 hD1
            have hP : va_P G.1 vwCl [zo1 h0 t0 b0 (nI zb_28) zt_29 (nI a1) zm_30 (nI n), zi G b0 160 f] H := hP
            have hD : va_D A [zo1 h0 t0 b0 (nI zb_28) zt_29 (nI a1) zm_30 (nI n), zi G b0 160 f] := hD
            have hword := w_27
            refine lv_goto (tgt := 160) hx hb dX1_next_94 (by decide) ?_
            have hP9 := hP.sub (ws' := [zo1 h0 t0 b0 (nI zb_28) zt_29 (nI a1) zm_30 (nI n), zi G b0 160 f]) [0, 1] rfl
            have hD9 := hD.sub (ws' := [zo1 h0 t0 b0 (nI zb_28) zt_29 (nI a1) zm_30 (nI n), zi G b0 160 f]) [0, 1] (by decide) rfl
            have hpost : (fun (u : Nat × Int32 × Nat × Int32) => match u with | (zb, zt, zp, zm) => (zb, zt, zp, zm) = mNext f n a x5) (zb_28, zt_29, a1, zm_30) := by first | (obtain ⟨g1, g2, g3⟩ := hword; subst g1; rw [g2, g3, mNext, ← hB, mNextAt, if_neg (by omega), if_pos hgo]) | (obtain ⟨g1, g2⟩ := hnum; rw [mNext, ← hB, mNextAt, if_neg (by omega), if_neg (by rw [hst]; decide), if_pos hgo2, ← g1, g2])
            exact W.vret hx hb hr (fun t ht hW => ⟨⟨(zb_28, zt_29, a1, zm_30), rfl, hpost, by rw [ht]; exact hP9, va_K.moved hW.alike hK, hD9⟩, hS.F ht⟩) hS.2.2 dX1_next_160
        · skip
          have hge2 : n ≤ a1 := by
            rcases Nat.lt_or_ge a1 n with z | z
            · exact absurd (nI_lt z (by omega)) c_2
            · exact z
          refine lv_aload_n hx hb dX1_next_71 rfl (lv_at hl 0 rfl) ?_
          refine lv_iconst (v := 0) hx hb dX1_next_72 (by decide) ?_
          refine va_put (D := G.1) (ci := 1) (v := .int 0) (ty := .int) (C := RX1) (T := TX1) (N := 7) hx hb hts hiX1 tyX1 tyX1_ok nmX1 hown hK hP hD hS 0 rfl rfl 3 (by decide) kf45 (fun _ h9 => h9) rfl (by decide +kernel) rfl rfl (Nat.le_of_ble_eq_true rfl) dX1_next_73 (fun H locs hP hD hS => ?_)
          have hP : va_P G.1 vwCl [zo1 h0 t0 b0 (nI a1) 0 (nI a1) x5 (nI n), zi G b0 160 f] H := hP
          have hD : va_D A [zo1 h0 t0 b0 (nI a1) 0 (nI a1) x5 (nI n), zi G b0 160 f] := hD
          refine lv_goto (tgt := 160) hx hb dX1_next_76 (by decide) ?_
          have hP9 := hP.sub (ws' := [zo1 h0 t0 b0 (nI a1) 0 (nI a1) x5 (nI n), zi G b0 160 f]) [0, 1] rfl
          have hD9 := hD.sub (ws' := [zo1 h0 t0 b0 (nI a1) 0 (nI a1) x5 (nI n), zi G b0 160 f]) [0, 1] (by decide) rfl
          have hpost : (fun (u : Nat × Int32 × Nat × Int32) => match u with | (zb, zt, zp, zm) => (zb, zt, zp, zm) = mNext f n a x5) (a1, 0, a1, x5) := by rw [mNext, ← hB, mNextAt, if_pos (by omega)]
          exact W.vret hx hb hr (fun t ht hW => ⟨⟨(a1, 0, a1, x5), rfl, hpost, by rw [ht]; exact hP9, va_K.moved hW.alike hK, hD9⟩, hS.F ht⟩) hS.2.2 dX1_next_160
      · skip
        have hlt : a1 < n := by
          rcases Nat.lt_or_ge a1 n with z | z
          · exact z
          · exact absurd (nI_le z (by omega)) c_1
        refine lv_aload_n hx hb dX1_next_11 rfl (lv_at hl 0 rfl) ?_
        refine va_get (D := G.1) (ci := 1) (v := .ref b0) (C := RX1) (T := TX1) (N := 7) hx hb hts hiX1 hown hK hP 0 rfl rfl 1 (by decide) kf9 (fun _ h9 => h9) rfl dX1_next_12 ?_
        refine lv_aload_n hx hb dX1_next_15 rfl (lv_at hl 0 rfl) ?_
        refine va_get (D := G.1) (ci := 1) (v := .int (nI a1)) (C := RX1) (T := TX1) (N := 7) hx hb hts hiX1 hown hK hP 0 rfl rfl 2 (by decide) kf23 (fun _ h9 => h9) rfl dX1_next_16 ?_
        refine va_iald (D := G.1) hx hb hK hP 1 0 rfl rfl (i := (nI a1)) (vp_in_nI (by omega) (by omega)) dX1_next_19 ?_
        refine lv_topi (fun v_31 ev_31 => ?_)
        have ev_31 : v_31 = f a1 := ev_31.trans (by rw [nI_clamp (by omega)])
        subst ev_31
        refine lv_bipush (v := 32) hx hb dX1_next_20 (by decide) ?_
        refine lv_icmp_eq (tgt := 39) hx hb dX1_next_22 (by decide) (fun c_32 => ?_) (fun c_32 => ?_)
        · skip
          have hbl : mBlank (f a1) = true := by simp [mBlank, c_32]
          refine lv_aload_n hx hb dX1_next_39 rfl (lv_at hl 0 rfl) ?_
          refine lv_dup hx hb dX1_next_40 rfl ?_
          refine va_get (D := G.1) (ci := 1) (v := .int (nI a1)) (C := RX1) (T := TX1) (N := 7) hx hb hts hiX1 hown hK hP 0 rfl rfl 2 (by decide) kf23 (fun _ h9 => h9) rfl dX1_next_41 ?_
          refine lv_iconst (v := 1) hx hb dX1_next_44 (by decide) ?_
          refine lv_iadd hx hb dX1_next_45 ?_
          refine lv_topi (fun v_33 ev_33 => ?_)
          have ev_33 : v_33 = nI (a1 + 1) := ev_33.trans (nI_1 a1)
          subst ev_33
          refine va_put (D := G.1) (ci := 1) (v := .int (nI (a1 + 1))) (ty := .int) (C := RX1) (T := TX1) (N := 7) hx hb hts hiX1 tyX1 tyX1_ok nmX1 hown hK hP hD hS 0 rfl rfl 2 (by decide) kf23 (fun _ h9 => h9) rfl (by decide +kernel) rfl rfl (Nat.le_of_ble_eq_true rfl) dX1_next_46 (fun H locs hP hD hS => ?_)
          have hP : va_P G.1 vwCl [zo1 h0 t0 b0 (nI (a1 + 1)) x3 x4 x5 (nI n), zi G b0 160 f] H := hP
          have hD : va_D A [zo1 h0 t0 b0 (nI (a1 + 1)) x3 x4 x5 (nI n), zi G b0 160 f] := hD
          refine lv_goto (tgt := 0) hx hb dX1_next_49 (by decide) ?_
          exact ih9 (a1 + 1) (by omega) (by rw [← hR, mRun_go hlt hbl]) (by omega) _ _ (hP.sub [0, 1] rfl) (hD.sub [0, 1] (by decide) rfl) hS ls (lv_sub hl [0] rfl)
        · skip
          have hb32 := c_32
          refine lv_aload_n hx hb dX1_next_25 rfl (lv_at hl 0 rfl) ?_
          refine va_get (D := G.1) (ci := 1) (v := .ref b0) (C := RX1) (T := TX1) (N := 7) hx hb hts hiX1 hown hK hP 0 rfl rfl 1 (by decide) kf9 (fun _ h9 => h9) rfl dX1_next_26 ?_
          refine lv_aload_n hx hb dX1_next_29 rfl (lv_at hl 0 rfl) ?_
          refine va_get (D := G.1) (ci := 1) (v := .int (nI a1)) (C := RX1) (T := TX1) (N := 7) hx hb hts hiX1 hown hK hP 0 rfl rfl 2 (by decide) kf23 (fun _ h9 => h9) rfl dX1_next_30 ?_
          refine va_iald (D := G.1) hx hb hK hP 1 0 rfl rfl (i := (nI a1)) (vp_in_nI (by omega) (by omega)) dX1_next_33 ?_
          refine lv_topi (fun v_34 ev_34 => ?_)
          have ev_34 : v_34 = f a1 := ev_34.trans (by rw [nI_clamp (by omega)])
          subst ev_34
          refine lv_bipush (v := 10) hx hb dX1_next_34 (by decide) ?_
          refine lv_icmp_ne (tgt := 52) hx hb dX1_next_36 (by decide) (fun c_35 => ?_) (fun c_35 => ?_)
          · skip
            have hbl : mBlank (f a1) = false := by simp [mBlank, hb32, c_35]
            have hB : a1 = mRun mBlank f n (n - a) a := by rw [← hR]; exact (mRun_stop _ (by first | exact Or.inl (by omega) | exact Or.inr hbl)).symm
            refine lv_aload_n hx hb dX1_next_52 rfl (lv_at hl 0 rfl) ?_
            refine lv_aload_n hx hb dX1_next_53 rfl (lv_at hl 0 rfl) ?_
            refine va_get (D := G.1) (ci := 1) (v := .int (nI a1)) (C := RX1) (T := TX1) (N := 7) hx hb hts hiX1 hown hK hP 0 rfl rfl 2 (by decide) kf23 (fun _ h9 => h9) rfl dX1_next_54 ?_
            refine va_put (D := G.1) (ci := 1) (v := .int (nI a1)) (ty := .int) (C := RX1) (T := TX1) (N := 7) hx hb hts hiX1 tyX1 tyX1_ok nmX1 hown hK hP hD hS 0 rfl rfl 4 (by decide) kf39 (fun _ h9 => h9) rfl (by decide +kernel) rfl rfl (Nat.le_of_ble_eq_true rfl) dX1_next_57 (fun H locs hP hD hS => ?_)
            have hP : va_P G.1 vwCl [zo1 h0 t0 b0 (nI a1) x3 (nI a1) x5 (nI n), zi G b0 160 f] H := hP
            have hD : va_D A [zo1 h0 t0 b0 (nI a1) x3 (nI a1) x5 (nI n), zi G b0 160 f] := hD
            refine lv_aload_n hx hb dX1_next_60 rfl (lv_at hl 0 rfl) ?_
            refine va_get (D := G.1) (ci := 1) (v := .int (nI a1)) (C := RX1) (T := TX1) (N := 7) hx hb hts hiX1 hown hK hP 0 rfl rfl 2 (by decide) kf23 (fun _ h9 => h9) rfl dX1_next_61 ?_
            refine lv_aload_n hx hb dX1_next_64 rfl (lv_at hl 0 rfl) ?_
            refine va_get (D := G.1) (ci := 1) (v := .int (nI n)) (C := RX1) (T := TX1) (N := 7) hx hb hts hiX1 hown hK hP 0 rfl rfl 6 (by decide) kf19 (fun _ h9 => h9) rfl dX1_next_65 ?_
            refine lv_icmp_lt (tgt := 79) hx hb dX1_next_68 (by decide) (fun c_36 => ?_) (fun c_36 => ?_)
            · skip
              have hlt2 : a1 < n := by
                rcases Nat.lt_or_ge a1 n with z | z
                · exact z
                · exact absurd c_36 (nI_nlt z (by omega))
              refine lv_aload_n hx hb dX1_next_79 rfl (lv_at hl 0 rfl) ?_
              refine lv_aload_n hx hb dX1_next_80 rfl (lv_at hl 0 rfl) ?_
              refine va_get (D := G.1) (ci := 1) (v := .int (nI a1)) (C := RX1) (T := TX1) (N := 7) hx hb hts hiX1 hown hK hP 0 rfl rfl 2 (by decide) kf23 (fun _ h9 => h9) rfl dX1_next_81 ?_
              have hPc : va_P G.1 vwCl [zo1 h0 t0 b0 (nI a1) x3 (nI a1) x5 (nI n), zi G b0 160 f] H := hP.sub [0, 1] rfl
              have hDc : va_D A [zo1 h0 t0 b0 (nI a1) x3 (nI a1) x5 (nI n), zi G b0 160 f] := hD.sub [0, 1] (by decide) rfl
              have hFc := va_free (wc := [zo1 h0 t0 b0 (nI a1) x3 (nI a1) x5 (nI n), zi G b0 160 f]) hD hS hA [0, 1] rfl
              refine va_calli (va_runV (As := [.int (nI a1)]) (rest := []) ⟨hx, hb, hml, hown, hts⟩ (c_X1_isLetter l G h0 t0 b0 f (nI a1) x3 (nI a1) x5 (nI n) a1 H.size (by omega)) (cwV 1 hts gX1_next_X1_isLetter rfl rfl rfl (by decide +kernel) ⟨Nat.le_of_ble_eq_true rfl, Nat.le_of_ble_eq_true rfl⟩) ⟨gPre_blind, va_recv hK hPc (ci := 1) (q0 := 0) rfl rfl, fun U hU hW => gPre_of hU hW hK hPc hDc⟩ rfl rfl hl.1 rfl (lv_room (Nat.le_of_ble_eq_true rfl)) dX1_next_84 ⟨Nat.le_of_ble_eq_true rfl, Nat.le_of_ble_eq_true rfl⟩) hS (fun q _ h => hFc q h) hFc (fun r_37 u t H locs ht hvm w_38 hB hz1 hk1 hS => ?_)
              obtain ⟨hP1, hK1, hD1⟩ := hB
              rw [ht] at hP1
              have hP1 : va_P G.1 vwCl [zo1 h0 t0 b0 (nI a1) x3 (nI a1) x5 (nI n), zi G b0 160 f] H := hP1
              have hD1 : va_D (va_A [zo1 h0 t0 b0 (nI a1) x3 (nI a1) x5 (nI n), zi G b0 160 f] _) [zo1 h0 t0 b0 (nI a1) x3 (nI a1) x5 (nI n), zi G b0 160 f] := hD1
              have w_38 : r_37 = bz (mLet (f a1)) := w_38
              obtain ⟨hP, hD⟩ := va_join (wr := []) (w1 := [zo1 h0 t0 b0 (nI a1) x3 (nI a1) x5 (nI n), zi G b0 160 f]) hP hD [0, 1] [] rfl rfl (by decide) (by decide) hk1 hFc hP1 hD1
              have hP : va_P G.1 vwCl [zo1 h0 t0 b0 (nI a1) x3 (nI a1) x5 (nI n), zi G b0 160 f] H := hP
              have hD : va_D A [zo1 h0 t0 b0 (nI a1) x3 (nI a1) x5 (nI n), zi G b0 160 f] := hD
              have hlet := w_38
              refine lv_if_eq (tgt := 97) hx hb dX1_next_87 (by decide) (fun c_39 => ?_) (fun c_39 => ?_)
              · skip
                have n_41 : (mLet (f a1)) = false := bz_eq w_38 c_39
                have hst : mLet (f a1) = false := by
                  cases hq : mLet (f a1) with
                  | false => rfl
                  | true => rw [hq] at hlet; rw [hlet] at c_39; exact absurd c_39 (by decide)
                refine lv_aload_n hx hb dX1_next_97 rfl (lv_at hl 0 rfl) ?_
                refine lv_aload_n hx hb dX1_next_98 rfl (lv_at hl 0 rfl) ?_
                refine va_get (D := G.1) (ci := 1) (v := .int (nI a1)) (C := RX1) (T := TX1) (N := 7) hx hb hts hiX1 hown hK hP 0 rfl rfl 2 (by decide) kf23 (fun _ h9 => h9) rfl dX1_next_99 ?_
                have hPc : va_P G.1 vwCl [zo1 h0 t0 b0 (nI a1) x3 (nI a1) x5 (nI n), zi G b0 160 f] H := hP.sub [0, 1] rfl
                have hDc : va_D A [zo1 h0 t0 b0 (nI a1) x3 (nI a1) x5 (nI n), zi G b0 160 f] := hD.sub [0, 1] (by decide) rfl
                have hFc := va_free (wc := [zo1 h0 t0 b0 (nI a1) x3 (nI a1) x5 (nI n), zi G b0 160 f]) hD hS hA [0, 1] rfl
                refine va_calli (va_runV (As := [.int (nI a1)]) (rest := []) ⟨hx, hb, hml, hown, hts⟩ (c_X1_isDigit l G h0 t0 b0 f (nI a1) x3 (nI a1) x5 (nI n) a1 H.size (by omega)) (cwV 1 hts gX1_next_X1_isDigit rfl rfl rfl (by decide +kernel) ⟨Nat.le_of_ble_eq_true rfl, Nat.le_of_ble_eq_true rfl⟩) ⟨gPre_blind, va_recv hK hPc (ci := 1) (q0 := 0) rfl rfl, fun U hU hW => gPre_of hU hW hK hPc hDc⟩ rfl rfl hl.1 rfl (lv_room (Nat.le_of_ble_eq_true rfl)) dX1_next_102 ⟨Nat.le_of_ble_eq_true rfl, Nat.le_of_ble_eq_true rfl⟩) hS (fun q _ h => hFc q h) hFc (fun r_42 u t H locs ht hvm w_43 hB hz1 hk1 hS => ?_)
                obtain ⟨hP1, hK1, hD1⟩ := hB
                rw [ht] at hP1
                have hP1 : va_P G.1 vwCl [zo1 h0 t0 b0 (nI a1) x3 (nI a1) x5 (nI n), zi G b0 160 f] H := hP1
                have hD1 : va_D (va_A [zo1 h0 t0 b0 (nI a1) x3 (nI a1) x5 (nI n), zi G b0 160 f] _) [zo1 h0 t0 b0 (nI a1) x3 (nI a1) x5 (nI n), zi G b0 160 f] := hD1
                have w_43 : r_42 = bz (mDig (f a1)) := w_43
                obtain ⟨hP, hD⟩ := va_join (wr := []) (w1 := [zo1 h0 t0 b0 (nI a1) x3 (nI a1) x5 (nI n), zi G b0 160 f]) hP hD [0, 1] [] rfl rfl (by decide) (by decide) hk1 hFc hP1 hD1
                have hP : va_P G.1 vwCl [zo1 h0 t0 b0 (nI a1) x3 (nI a1) x5 (nI n), zi G b0 160 f] H := hP
                have hD : va_D A [zo1 h0 t0 b0 (nI a1) x3 (nI a1) x5 (nI n), zi G b0 160 f] := hD
                have hdig := w_43
                refine lv_if_eq (tgt := 115) hx hb dX1_next_105 (by decide) (fun c_44 => ?_) (fun c_44 => ?_)
                · skip
                  have n_46 : (mDig (f a1)) = false := bz_eq w_43 c_44
                  have hst2 : mDig (f a1) = false := by
                    cases hq : mDig (f a1) with
                    | false => rfl
                    | true => rw [hq] at hdig; rw [hdig] at c_44; exact absurd c_44 (by decide)
                  refine lv_aload_n hx hb dX1_next_115 rfl (lv_at hl 0 rfl) ?_
                  refine va_ldcS hx hb hown (hE.2.1 12 (RX1, 89, "();+-*<=") rfl) dX1_next_116 ?_
                  refine lv_aload_n hx hb dX1_next_118 rfl (lv_at hl 0 rfl) ?_
                  refine va_get (D := G.1) (ci := 1) (v := .ref b0) (C := RX1) (T := TX1) (N := 7) hx hb hts hiX1 hown hK hP 0 rfl rfl 1 (by decide) kf9 (fun _ h9 => h9) rfl dX1_next_119 ?_
                  refine lv_aload_n hx hb dX1_next_122 rfl (lv_at hl 0 rfl) ?_
                  refine va_get (D := G.1) (ci := 1) (v := .int (nI a1)) (C := RX1) (T := TX1) (N := 7) hx hb hts hiX1 hown hK hP 0 rfl rfl 2 (by decide) kf23 (fun _ h9 => h9) rfl dX1_next_123 ?_
                  refine va_iald (D := G.1) hx hb hK hP 1 0 rfl rfl (i := (nI a1)) (vp_in_nI (by omega) (by omega)) dX1_next_126 ?_
                  refine lv_topi (fun v_47 ev_47 => ?_)
                  have ev_47 : v_47 = f a1 := ev_47.trans (by rw [nI_clamp (by omega)])
                  subst ev_47
                  refine lv_i2c (v := ((f a1).toUInt32 % 65536).toInt32) hx hb dX1_next_127 rfl ?_
                  refine lv_topi (fun v_48 ev_48 => ?_)
                  have ev_48 : v_48 = mChar (f a1) := ev_48.trans (rfl)
                  subst ev_48
                  have hPc : va_P G.1 vwCl [] H := hP.sub [] rfl
                  have hDc : va_D A [] := hD.sub [] (by decide) rfl
                  have hFc := va_free (wc := []) hD hS hA [] rfl
                  refine va_calli (va_runV (As := [.int (mChar (f a1))]) (rest := [.ref h0]) ⟨hx, hb, hml, hown, hts⟩ (c_J0_indexOf_0f7a4 l G E 12 (mChar (f a1)) H.size (by decide) (by decide)) (cwV 1 hts gX1_next_J0_indexOf_0f7a4 rfl rfl rfl (by decide +kernel) ⟨Nat.le_of_ble_eq_true rfl, Nat.le_of_ble_eq_true rfl⟩) ⟨gPreE_blind, vk_recv hE.1 (by decide) hS, fun U hU hW => gPreE_of hU hW hK hPc hDc hE hS hFc⟩ rfl rfl hl.1 rfl (lv_room (Nat.le_of_ble_eq_true rfl)) dX1_next_128 ⟨Nat.le_of_ble_eq_true rfl, Nat.le_of_ble_eq_true rfl⟩) hS (fun q _ h => hFc q h) hFc (fun r_49 u t H locs ht hvm w_50 hB hz1 hk1 hS => ?_)
                  obtain ⟨hP1, hK1, hD1⟩ := hB
                  rw [ht] at hP1
                  have hP1 : va_P G.1 vwCl [] H := hP1
                  have hD1 : va_D (va_A [] _) [] := hD1
                  have w_50 : r_49 = gIx 12 (mChar (f a1)) := w_50
                  obtain ⟨hP, hD⟩ := va_join (wr := [zo1 h0 t0 b0 (nI a1) x3 (nI a1) x5 (nI n), zi G b0 160 f]) (w1 := []) hP hD [] [0, 1] rfl rfl (by decide) (by decide) hk1 hFc hP1 hD1
                  have hP : va_P G.1 vwCl [zo1 h0 t0 b0 (nI a1) x3 (nI a1) x5 (nI n), zi G b0 160 f] H := hP
                  have hD : va_D A [zo1 h0 t0 b0 (nI a1) x3 (nI a1) x5 (nI n), zi G b0 160 f] := hD
                  have w_50 : r_49 = gIx 12 (mChar (f a1)) := w_50
                  subst w_50
                  refine lv_if_lt (tgt := 146) hx hb dX1_next_131 (by decide) (fun c_51 => ?_) (fun c_51 => ?_)
                  · skip
                    have hix : ¬ 0 ≤ gIx 12 (mChar (f a1)) := Int32.not_le.mpr c_51
                    refine lv_iconst (v := 1) hx hb dX1_next_146 (by decide) ?_
                    refine va_put (D := G.1) (ci := 1) (v := .int 1) (ty := .int) (C := RX1) (T := TX1) (N := 7) hx hb hts hiX1 tyX1 tyX1_ok nmX1 hown hK hP hD hS 0 rfl rfl 3 (by decide) kf45 (fun _ h9 => h9) rfl (by decide +kernel) rfl rfl (Nat.le_of_ble_eq_true rfl) dX1_next_147 (fun H locs hP hD hS => ?_)
                    have hP : va_P G.1 vwCl [zo1 h0 t0 b0 (nI a1) 1 (nI a1) x5 (nI n), zi G b0 160 f] H := hP
                    have hD : va_D A [zo1 h0 t0 b0 (nI a1) 1 (nI a1) x5 (nI n), zi G b0 160 f] := hD
                    refine lv_aload_n hx hb dX1_next_150 rfl (lv_at hl 0 rfl) ?_
                    refine lv_dup hx hb dX1_next_151 rfl ?_
                    refine va_get (D := G.1) (ci := 1) (v := .int (nI a1)) (C := RX1) (T := TX1) (N := 7) hx hb hts hiX1 hown hK hP 0 rfl rfl 2 (by decide) kf23 (fun _ h9 => h9) rfl dX1_next_152 ?_
                    refine lv_iconst (v := 1) hx hb dX1_next_155 (by decide) ?_
                    refine lv_iadd hx hb dX1_next_156 ?_
                    refine lv_topi (fun v_52 ev_52 => ?_)
                    have ev_52 : v_52 = nI (a1 + 1) := ev_52.trans (nI_1 a1)
                    subst ev_52
                    refine va_put (D := G.1) (ci := 1) (v := .int (nI (a1 + 1))) (ty := .int) (C := RX1) (T := TX1) (N := 7) hx hb hts hiX1 tyX1 tyX1_ok nmX1 hown hK hP hD hS 0 rfl rfl 2 (by decide) kf23 (fun _ h9 => h9) rfl (by decide +kernel) rfl rfl (Nat.le_of_ble_eq_true rfl) dX1_next_157 (fun H locs hP hD hS => ?_)
                    have hP : va_P G.1 vwCl [zo1 h0 t0 b0 (nI (a1 + 1)) 1 (nI a1) x5 (nI n), zi G b0 160 f] H := hP
                    have hD : va_D A [zo1 h0 t0 b0 (nI (a1 + 1)) 1 (nI a1) x5 (nI n), zi G b0 160 f] := hD
                    have hP9 := hP.sub (ws' := [zo1 h0 t0 b0 (nI (a1 + 1)) 1 (nI a1) x5 (nI n), zi G b0 160 f]) [0, 1] rfl
                    have hD9 := hD.sub (ws' := [zo1 h0 t0 b0 (nI (a1 + 1)) 1 (nI a1) x5 (nI n), zi G b0 160 f]) [0, 1] (by decide) rfl
                    have hpost : (fun (u : Nat × Int32 × Nat × Int32) => match u with | (zb, zt, zp, zm) => (zb, zt, zp, zm) = mNext f n a x5) ((a1 + 1), 1, a1, x5) := by rw [mNext, ← hB, mNextAt, if_neg (by omega), if_neg (by rw [hst]; decide), if_neg (by rw [hst2]; decide), if_neg hix]
                    exact W.vret hx hb hr (fun t ht hW => ⟨⟨((a1 + 1), 1, a1, x5), rfl, hpost, by rw [ht]; exact hP9, va_K.moved hW.alike hK, hD9⟩, hS.F ht⟩) hS.2.2 dX1_next_160
                  · skip
                    have hix : 0 ≤ gIx 12 (mChar (f a1)) := Int32.not_lt.mp c_51
                    refine lv_aload_n hx hb dX1_next_134 rfl (lv_at hl 0 rfl) ?_
                    refine va_get (D := G.1) (ci := 1) (v := .ref b0) (C := RX1) (T := TX1) (N := 7) hx hb hts hiX1 hown hK hP 0 rfl rfl 1 (by decide) kf9 (fun _ h9 => h9) rfl dX1_next_135 ?_
                    refine lv_aload_n hx hb dX1_next_138 rfl (lv_at hl 0 rfl) ?_
                    refine va_get (D := G.1) (ci := 1) (v := .int (nI a1)) (C := RX1) (T := TX1) (N := 7) hx hb hts hiX1 hown hK hP 0 rfl rfl 2 (by decide) kf23 (fun _ h9 => h9) rfl dX1_next_139 ?_
                    refine va_iald (D := G.1) hx hb hK hP 1 0 rfl rfl (i := (nI a1)) (vp_in_nI (by omega) (by omega)) dX1_next_142 ?_
                    refine lv_topi (fun v_53 ev_53 => ?_)
                    have ev_53 : v_53 = f a1 := ev_53.trans (by rw [nI_clamp (by omega)])
                    subst ev_53
                    refine lv_goto (tgt := 147) hx hb dX1_next_143 (by decide) ?_
                    refine va_put (D := G.1) (ci := 1) (v := .int (f a1)) (ty := .int) (C := RX1) (T := TX1) (N := 7) hx hb hts hiX1 tyX1 tyX1_ok nmX1 hown hK hP hD hS 0 rfl rfl 3 (by decide) kf45 (fun _ h9 => h9) rfl (by decide +kernel) rfl rfl (Nat.le_of_ble_eq_true rfl) dX1_next_147 (fun H locs hP hD hS => ?_)
                    have hP : va_P G.1 vwCl [zo1 h0 t0 b0 (nI a1) (f a1) (nI a1) x5 (nI n), zi G b0 160 f] H := hP
                    have hD : va_D A [zo1 h0 t0 b0 (nI a1) (f a1) (nI a1) x5 (nI n), zi G b0 160 f] := hD
                    refine lv_aload_n hx hb dX1_next_150 rfl (lv_at hl 0 rfl) ?_
                    refine lv_dup hx hb dX1_next_151 rfl ?_
                    refine va_get (D := G.1) (ci := 1) (v := .int (nI a1)) (C := RX1) (T := TX1) (N := 7) hx hb hts hiX1 hown hK hP 0 rfl rfl 2 (by decide) kf23 (fun _ h9 => h9) rfl dX1_next_152 ?_
                    refine lv_iconst (v := 1) hx hb dX1_next_155 (by decide) ?_
                    refine lv_iadd hx hb dX1_next_156 ?_
                    refine lv_topi (fun v_54 ev_54 => ?_)
                    have ev_54 : v_54 = nI (a1 + 1) := ev_54.trans (nI_1 a1)
                    subst ev_54
                    refine va_put (D := G.1) (ci := 1) (v := .int (nI (a1 + 1))) (ty := .int) (C := RX1) (T := TX1) (N := 7) hx hb hts hiX1 tyX1 tyX1_ok nmX1 hown hK hP hD hS 0 rfl rfl 2 (by decide) kf23 (fun _ h9 => h9) rfl (by decide +kernel) rfl rfl (Nat.le_of_ble_eq_true rfl) dX1_next_157 (fun H locs hP hD hS => ?_)
                    have hP : va_P G.1 vwCl [zo1 h0 t0 b0 (nI (a1 + 1)) (f a1) (nI a1) x5 (nI n), zi G b0 160 f] H := hP
                    have hD : va_D A [zo1 h0 t0 b0 (nI (a1 + 1)) (f a1) (nI a1) x5 (nI n), zi G b0 160 f] := hD
                    have hP9 := hP.sub (ws' := [zo1 h0 t0 b0 (nI (a1 + 1)) (f a1) (nI a1) x5 (nI n), zi G b0 160 f]) [0, 1] rfl
                    have hD9 := hD.sub (ws' := [zo1 h0 t0 b0 (nI (a1 + 1)) (f a1) (nI a1) x5 (nI n), zi G b0 160 f]) [0, 1] (by decide) rfl
                    have hpost : (fun (u : Nat × Int32 × Nat × Int32) => match u with | (zb, zt, zp, zm) => (zb, zt, zp, zm) = mNext f n a x5) ((a1 + 1), f a1, a1, x5) := by rw [mNext, ← hB, mNextAt, if_neg (by omega), if_neg (by rw [hst]; decide), if_neg (by rw [hst2]; decide), if_pos hix]
                    exact W.vret hx hb hr (fun t ht hW => ⟨⟨((a1 + 1), f a1, a1, x5), rfl, hpost, by rw [ht]; exact hP9, va_K.moved hW.alike hK, hD9⟩, hS.F ht⟩) hS.2.2 dX1_next_160
                · skip
                  have p_45 : (mDig (f a1)) = true := bz_ne w_43 c_44
                  have hgo2 : mDig (f a1) = true := by
                    cases hq : mDig (f a1) with
                    | true => rfl
                    | false => rw [hq] at hdig; rw [hdig] at c_44; exact absurd rfl c_44
                  refine lv_aload_n hx hb dX1_next_108 rfl (lv_at hl 0 rfl) ?_
                  have hPc : va_P G.1 vwCl [zo1 h0 t0 b0 (nI a1) x3 (nI a1) x5 (nI n), zi G b0 160 f] H := hP.sub [0, 1] rfl
                  have hDc : va_D A [zo1 h0 t0 b0 (nI a1) x3 (nI a1) x5 (nI n), zi G b0 160 f] := hD.sub [0, 1] (by decide) rfl
                  have hFc := va_free (wc := [zo1 h0 t0 b0 (nI a1) x3 (nI a1) x5 (nI n), zi G b0 160 f]) hD hS hA [0, 1] rfl
                  refine va_callv (va_runV (As := []) (rest := []) ⟨hx, hb, hml, hown, hts⟩ (c_X1_nextNumber l G h0 t0 b0 f x3 x5 n a1 a1 H.size (hn) ((by omega)) (Nat.le_refl _)) (cwV 0 hts gX1_next_X1_nextNumber rfl rfl rfl (by decide +kernel) ⟨Nat.le_of_ble_eq_true rfl, Nat.le_of_ble_eq_true rfl⟩) ⟨gPre_blind, va_recv hK hPc (ci := 1) (q0 := 0) rfl rfl, fun U hU hW => gPre_of hU hW hK hPc hDc⟩ rfl rfl hl.1 rfl (lv_room (Nat.le_of_ble_eq_true rfl)) dX1_next_109 ⟨Nat.le_of_ble_eq_true rfl, Nat.le_of_ble_eq_true rfl⟩) hS (fun q _ h => hFc q h) hFc (fun u t H locs ht hvm w_56 hB hz1 hk1 hS => ?_)
                  obtain ⟨zb_57, zt_58, zm_59⟩ := u
                  obtain ⟨hP1, hK1, hD1⟩ := hB
                  rw [ht] at hP1
                  have hP1 : va_P G.1 vwCl [zo1 h0 t0 b0 (nI zb_57) zt_58 (nI a1) zm_59 (nI n), zi G b0 160 f] H := hP1
                  have hD1 : va_D (va_A [zo1 h0 t0 b0 (nI a1) x3 (nI a1) x5 (nI n), zi G b0 160 f] _) [zo1 h0 t0 b0 (nI zb_57) zt_58 (nI a1) zm_59 (nI n), zi G b0 160 f] := hD1
                  have w_56 : (zb_57, zm_59) = mNumR f n (n - a1) a1 0 ∧ zt_58 = (if 4 < zb_57 - a1 then 1 else 2) := w_56
                  obtain ⟨hP, hD⟩ := va_join (wr := []) (w1 := [zo1 h0 t0 b0 (nI zb_57) zt_58 (nI a1) zm_59 (nI n), zi G b0 160 f]) hP hD [0, 1] [] rfl rfl (by decide) (by decide) hk1 hFc hP1 hD1
                  have hP : va_P G.1 vwCl [zo1 h0 t0 b0 (nI zb_57) zt_58 (nI a1) zm_59 (nI n), zi G b0 160 f] H := hP
                  have hD : va_D A [zo1 h0 t0 b0 (nI zb_57) zt_58 (nI a1) zm_59 (nI n), zi G b0 160 f] := hD
                  have hnum := w_56
                  refine lv_goto (tgt := 160) hx hb dX1_next_112 (by decide) ?_
                  have hP9 := hP.sub (ws' := [zo1 h0 t0 b0 (nI zb_57) zt_58 (nI a1) zm_59 (nI n), zi G b0 160 f]) [0, 1] rfl
                  have hD9 := hD.sub (ws' := [zo1 h0 t0 b0 (nI zb_57) zt_58 (nI a1) zm_59 (nI n), zi G b0 160 f]) [0, 1] (by decide) rfl
                  have hpost : (fun (u : Nat × Int32 × Nat × Int32) => match u with | (zb, zt, zp, zm) => (zb, zt, zp, zm) = mNext f n a x5) (zb_57, zt_58, a1, zm_59) := by first | (obtain ⟨g1, g2, g3⟩ := hword; subst g1; rw [g2, g3, mNext, ← hB, mNextAt, if_neg (by omega), if_pos hgo]) | (obtain ⟨g1, g2⟩ := hnum; rw [mNext, ← hB, mNextAt, if_neg (by omega), if_neg (by rw [hst]; decide), if_pos hgo2, ← g1, g2])
                  exact W.vret hx hb hr (fun t ht hW => ⟨⟨(zb_57, zt_58, a1, zm_59), rfl, hpost, by rw [ht]; exact hP9, va_K.moved hW.alike hK, hD9⟩, hS.F ht⟩) hS.2.2 dX1_next_160
              · skip
                have p_40 : (mLet (f a1)) = true := bz_ne w_38 c_39
                have hgo : mLet (f a1) = true := by
                  cases hq : mLet (f a1) with
                  | true => rfl
                  | false => rw [hq] at hlet; rw [hlet] at c_39; exact absurd rfl c_39
                refine lv_aload_n hx hb dX1_next_90 rfl (lv_at hl 0 rfl) ?_
                have hPc : va_P G.1 vwCl [zo1 h0 t0 b0 (nI a1) x3 (nI a1) x5 (nI n), zi G b0 160 f] H := hP.sub [0, 1] rfl
                have hDc : va_D A [zo1 h0 t0 b0 (nI a1) x3 (nI a1) x5 (nI n), zi G b0 160 f] := hD.sub [0, 1] (by decide) rfl
                have hFc := va_free (wc := [zo1 h0 t0 b0 (nI a1) x3 (nI a1) x5 (nI n), zi G b0 160 f]) hD hS hA [0, 1] rfl
                refine va_callv (va_runV (As := []) (rest := []) ⟨hx, hb, hml, hown, hts⟩ (c_X1_nextWord l G E h0 t0 b0 f x3 x5 n a1 a1 H.size (hn) ((by omega)) (Nat.le_refl _)) (cwV 0 hts gX1_next_X1_nextWord rfl rfl rfl (by decide +kernel) ⟨Nat.le_of_ble_eq_true rfl, Nat.le_of_ble_eq_true rfl⟩) ⟨gPreE_blind, va_recv hK hPc (ci := 1) (q0 := 0) rfl rfl, fun U hU hW => gPreE_of hU hW hK hPc hDc hE hS hFc⟩ rfl rfl hl.1 rfl (lv_room (Nat.le_of_ble_eq_true rfl)) dX1_next_91 ⟨Nat.le_of_ble_eq_true rfl, Nat.le_of_ble_eq_true rfl⟩) hS (fun q _ h => hFc q h) hFc (fun u t H locs ht hvm w_61 hB hz1 hk1 hS => ?_)
                obtain ⟨zb_62, zt_63, zm_64⟩ := u
                obtain ⟨hP1, hK1, hD1⟩ := hB
                rw [ht] at hP1
                have hP1 : va_P G.1 vwCl [zo1 h0 t0 b0 (nI zb_62) zt_63 (nI a1) zm_64 (nI n), zi G b0 160 f] H := hP1
                have hD1 : va_D (va_A [zo1 h0 t0 b0 (nI a1) x3 (nI a1) x5 (nI n), zi G b0 160 f] _) [zo1 h0 t0 b0 (nI zb_62) zt_63 (nI a1) zm_64 (nI n), zi G b0 160 f] := hD1
                have w_61 : zb_62 = mRun mLet f n (n - a1) a1 ∧ zt_63 = (mWords f zb_62 a1 12 0 (1, x5)).1 ∧ zm_64 = (mWords f zb_62 a1 12 0 (1, x5)).2 := w_61
                obtain ⟨hP, hD⟩ := va_join (wr := []) (w1 := [zo1 h0 t0 b0 (nI zb_62) zt_63 (nI a1) zm_64 (nI n), zi G b0 160 f]) hP hD [0, 1] [] rfl rfl (by decide) (by decide) hk1 hFc hP1 hD1
                have hP : va_P G.1 vwCl [zo1 h0 t0 b0 (nI zb_62) zt_63 (nI a1) zm_64 (nI n), zi G b0 160 f] H := hP
                have hD : va_D A [zo1 h0 t0 b0 (nI zb_62) zt_63 (nI a1) zm_64 (nI n), zi G b0 160 f] := hD
                have hword := w_61
                refine lv_goto (tgt := 160) hx hb dX1_next_94 (by decide) ?_
                have hP9 := hP.sub (ws' := [zo1 h0 t0 b0 (nI zb_62) zt_63 (nI a1) zm_64 (nI n), zi G b0 160 f]) [0, 1] rfl
                have hD9 := hD.sub (ws' := [zo1 h0 t0 b0 (nI zb_62) zt_63 (nI a1) zm_64 (nI n), zi G b0 160 f]) [0, 1] (by decide) rfl
                have hpost : (fun (u : Nat × Int32 × Nat × Int32) => match u with | (zb, zt, zp, zm) => (zb, zt, zp, zm) = mNext f n a x5) (zb_62, zt_63, a1, zm_64) := by first | (obtain ⟨g1, g2, g3⟩ := hword; subst g1; rw [g2, g3, mNext, ← hB, mNextAt, if_neg (by omega), if_pos hgo]) | (obtain ⟨g1, g2⟩ := hnum; rw [mNext, ← hB, mNextAt, if_neg (by omega), if_neg (by rw [hst]; decide), if_pos hgo2, ← g1, g2])
                exact W.vret hx hb hr (fun t ht hW => ⟨⟨(zb_62, zt_63, a1, zm_64), rfl, hpost, by rw [ht]; exact hP9, va_K.moved hW.alike hK, hD9⟩, hS.F ht⟩) hS.2.2 dX1_next_160
            · skip
              have hge2 : n ≤ a1 := by
                rcases Nat.lt_or_ge a1 n with z | z
                · exact absurd (nI_lt z (by omega)) c_36
                · exact z
              refine lv_aload_n hx hb dX1_next_71 rfl (lv_at hl 0 rfl) ?_
              refine lv_iconst (v := 0) hx hb dX1_next_72 (by decide) ?_
              refine va_put (D := G.1) (ci := 1) (v := .int 0) (ty := .int) (C := RX1) (T := TX1) (N := 7) hx hb hts hiX1 tyX1 tyX1_ok nmX1 hown hK hP hD hS 0 rfl rfl 3 (by decide) kf45 (fun _ h9 => h9) rfl (by decide +kernel) rfl rfl (Nat.le_of_ble_eq_true rfl) dX1_next_73 (fun H locs hP hD hS => ?_)
              have hP : va_P G.1 vwCl [zo1 h0 t0 b0 (nI a1) 0 (nI a1) x5 (nI n), zi G b0 160 f] H := hP
              have hD : va_D A [zo1 h0 t0 b0 (nI a1) 0 (nI a1) x5 (nI n), zi G b0 160 f] := hD
              refine lv_goto (tgt := 160) hx hb dX1_next_76 (by decide) ?_
              have hP9 := hP.sub (ws' := [zo1 h0 t0 b0 (nI a1) 0 (nI a1) x5 (nI n), zi G b0 160 f]) [0, 1] rfl
              have hD9 := hD.sub (ws' := [zo1 h0 t0 b0 (nI a1) 0 (nI a1) x5 (nI n), zi G b0 160 f]) [0, 1] (by decide) rfl
              have hpost : (fun (u : Nat × Int32 × Nat × Int32) => match u with | (zb, zt, zp, zm) => (zb, zt, zp, zm) = mNext f n a x5) (a1, 0, a1, x5) := by rw [mNext, ← hB, mNextAt, if_pos (by omega)]
              exact W.vret hx hb hr (fun t ht hW => ⟨⟨(a1, 0, a1, x5), rfl, hpost, by rw [ht]; exact hP9, va_K.moved hW.alike hK, hD9⟩, hS.F ht⟩) hS.2.2 dX1_next_160
          · skip
            have hbl : mBlank (f a1) = true := by simp [mBlank, c_35]
            refine lv_aload_n hx hb dX1_next_39 rfl (lv_at hl 0 rfl) ?_
            refine lv_dup hx hb dX1_next_40 rfl ?_
            refine va_get (D := G.1) (ci := 1) (v := .int (nI a1)) (C := RX1) (T := TX1) (N := 7) hx hb hts hiX1 hown hK hP 0 rfl rfl 2 (by decide) kf23 (fun _ h9 => h9) rfl dX1_next_41 ?_
            refine lv_iconst (v := 1) hx hb dX1_next_44 (by decide) ?_
            refine lv_iadd hx hb dX1_next_45 ?_
            refine lv_topi (fun v_65 ev_65 => ?_)
            have ev_65 : v_65 = nI (a1 + 1) := ev_65.trans (nI_1 a1)
            subst ev_65
            refine va_put (D := G.1) (ci := 1) (v := .int (nI (a1 + 1))) (ty := .int) (C := RX1) (T := TX1) (N := 7) hx hb hts hiX1 tyX1 tyX1_ok nmX1 hown hK hP hD hS 0 rfl rfl 2 (by decide) kf23 (fun _ h9 => h9) rfl (by decide +kernel) rfl rfl (Nat.le_of_ble_eq_true rfl) dX1_next_46 (fun H locs hP hD hS => ?_)
            have hP : va_P G.1 vwCl [zo1 h0 t0 b0 (nI (a1 + 1)) x3 x4 x5 (nI n), zi G b0 160 f] H := hP
            have hD : va_D A [zo1 h0 t0 b0 (nI (a1 + 1)) x3 x4 x5 (nI n), zi G b0 160 f] := hD
            refine lv_goto (tgt := 0) hx hb dX1_next_49 (by decide) ?_
            exact ih9 (a1 + 1) (by omega) (by rw [← hR, mRun_go hlt hbl]) (by omega) _ _ (hP.sub [0, 1] rfl) (hD.sub [0, 1] (by decide) rfl) hS ls (lv_sub hl [0] rfl)
  exact loop_0 (n - a + 1) a (⟨Nat.le_refl a, ha⟩) (rfl) (by omega) _ _ (hP.sub [0, 1] rfl) (hD.sub [0, 1] (by decide) rfl) hS ls (lv_sub hl [0] rfl)
