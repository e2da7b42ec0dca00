abbrev q_X0_hasJudge_g (G : gG) (h0 tt n1 n2 n3 n4 n5 n6 n7 n8 : Nat) (jg : Nat) (pb : Nat) (lw : Nat) (v0 : Int32) (A : Nat → Prop) : Array Value → State → Outcome → State → Prop := va_Qi (fun (r : Int32) (u : Unit) => match u with | _ => r = bz (mHas jg v0)) (fun (u : Unit) t => match u with | _ => va_P G.1 vwCl [zo0 h0 tt n1 n2 n3 n4 n5 n6 n7 n8 (nI jg) (nI pb) (nI lw)] t.heap ∧ gK G t ∧ va_D A [zo0 h0 tt n1 n2 n3 n4 n5 n6 n7 n8 (nI jg) (nI pb) (nI lw)]) A
set_option maxHeartbeats 4000000 in
set_option maxRecDepth 100000 in
theorem c_X0_hasJudge_g (l : Launch) (G : gG) (h0 tt n1 n2 n3 n4 n5 n6 n7 n8 : Nat) (jg : Nat) (pb : Nat) (lw : Nat) (v0 : Int32) (sz : Nat) (hjg : jg ≤ 4) (hpb : pb ≤ 6) : Met l yX0_hasJudge wsX0_hasJudge ({ frames := 0, cells := 0, slots := 0, locals := 0 }) (gPre G [.ref h0, .int v0] [zo0 h0 tt n1 n2 n3 n4 n5 n6 n7 n8 (nI jg) (nI pb) (nI lw)] sz) (q_X0_hasJudge_g G h0 tt n1 n2 n3 n4 n5 n6 n7 n8 jg pb lw v0 (va_A [zo0 h0 tt n1 n2 n3 n4 n5 n6 n7 n8 (nI jg) (nI pb) (nI lw)] sz)) 0 0 (va_A [zo0 h0 tt n1 n2 n3 n4 n5 n6 n7 n8 (nI jg) (nI pb) (nI lw)] sz) := by
  refine Met.ofW (cc := cX0_hasJudge) (maxL := 2) (ret := (some .boolean)) (by decide +kernel) rfl ?_
  intro p e s m args below meth c s₁ B hml hv
  obtain ⟨rfl, hsz, hP, hK, hD0⟩ := hv
  have hx := B.exec
  have hb := B.bytes
  have hr := B.returns
  have hts := atoms_spec (ws := wsX0_hasJudge) B.pre
  have hown : s.vm.findClass RX0 = some m.cls := findClass_of_methodNamed B.named
  have hlocks := B.notSynchronized
  subst hsz
  have hD := hD0.self (sz := s.heap.size)
  generalize hAe : va_A [zo0 h0 tt n1 n2 n3 n4 n5 n6 n7 n8 (nI jg) (nI pb) (nI lw)] s.heap.size = A at hD ⊢
  have hA : ∀ q : Nat, s.heap.size ≤ q → A q := fun q h => by rw [← hAe]; exact Or.inr h
  have hS : va_S A s.heap s.heap [] := va_S.rf
  have hz9 : gPD G A [zo0 h0 tt n1 n2 n3 n4 n5 n6 n7 n8 (nI jg) (nI pb) (nI lw)] s.heap := ⟨hP, hD⟩
  have hP := hz9.1
  have hD := hz9.2
  have hl := lv_entry ([.ref h0, .int v0]) (n := 2) (Nat.le_of_ble_eq_true rfl)
  rw [lg_entry_eq]
  generalize (lg_sl ([.ref h0, .int v0]) ++ List.replicate (2 - (lg_sl ([.ref h0, .int v0])).length) Slot.unset).toArray = ls at hl ⊢
  have hl : lv_has ls 2 [zR 0 h0, zI 1 v0] := hl
  have kf48 := hts (.fieldLink RX0 48 "PebbleInShoe$Court" "judges" "I") (by decide +kernel)
  have hiX0 := (by decide +kernel : ∀ w ∈ wsX00, w ∈ wsX0_hasJudge)
  refine lv_iload_n hx hb dX0_hasJudge_0 rfl (lv_at hl 1 rfl) ?_
  refine lv_if_lt (tgt := 16) hx hb dX0_hasJudge_1 (by decide +kernel) (fun c_1 => ?_) (fun c_1 => ?_)
  · skip
    refine lv_iconst (v := 0) hx hb dX0_hasJudge_16 (by decide +kernel) ?_
    have hpost : (fun (r : Int32) (u : Unit) => match u with | _ => r = bz (mHas jg v0)) 0 () := by show (0 : Int32) = bz (mHas jg v0); rw [mHas_f1 c_1]; rfl
    exact W.zret (v := 0) hx hb hr (rfl) (fun t ht hW => ⟨⟨0, (), rfl, hpost, by rw [ht]; exact hP, va_K.moved hW.alike hK, hD⟩, hS.F ht⟩) hS.2.2 dX0_hasJudge_17
  · skip
    have hv_2 : v0 = nI (nC v0) := nC_eq (Int32.not_lt.mp c_1)
    have hk_3 : nC v0 < 2 ^ 31 := nC_31 _
    refine lv_iload_n hx hb dX0_hasJudge_4 rfl (lv_at hl 1 rfl) ?_
    refine g_topi (y := nI (nC v0)) hv_2 ?_
    refine g_aget (D := G.1) (ci := 0) (v := .int (nI jg)) (C := RX0) (T := TX0) (N := 12) hx hb dX0_hasJudge_5 rfl (lv_at hl 0 rfl) hts hiX0 hown hK hP 0 rfl rfl 9 (by decide +kernel) kf48 (fun _ h9 => h9) rfl dX0_hasJudge_6 ?_
    refine lv_icmp_ge (tgt := 16) hx hb dX0_hasJudge_9 (by decide +kernel) (fun c_5 => ?_) (fun c_5 => ?_)
    · skip
      have c_5N : jg ≤ (nC v0) := nI_le1 (a := jg) (b := (nC v0)) (by omega) (by omega) c_5
      refine lv_iconst (v := 0) hx hb dX0_hasJudge_16 (by decide +kernel) ?_
      have hpost : (fun (r : Int32) (u : Unit) => match u with | _ => r = bz (mHas jg v0)) 0 () := by show (0 : Int32) = bz (mHas jg v0); rw [mHas_f2 c_1 c_5]; rfl
      exact W.zret (v := 0) hx hb hr (rfl) (fun t ht hW => ⟨⟨0, (), rfl, hpost, by rw [ht]; exact hP, va_K.moved hW.alike hK, hD⟩, hS.F ht⟩) hS.2.2 dX0_hasJudge_17
    · skip
      have c_5N : (nC v0) < jg := nI_le0 (a := jg) (b := (nC v0)) (by omega) (by omega) c_5
      refine lv_iconst (v := 1) hx hb dX0_hasJudge_12 (by decide +kernel) ?_
      refine lv_goto (tgt := 17) hx hb dX0_hasJudge_13 (by decide +kernel) ?_
      have hpost : (fun (r : Int32) (u : Unit) => match u with | _ => r = bz (mHas jg v0)) 1 () := by show (1 : Int32) = bz (mHas jg v0); rw [mHas_t2 (c_1) c_5]; rfl
      exact W.zret (v := 1) hx hb hr (rfl) (fun t ht hW => ⟨⟨1, (), rfl, hpost, by rw [ht]; exact hP, va_K.moved hW.alike hK, hD⟩, hS.F ht⟩) hS.2.2 dX0_hasJudge_17
abbrev q_X0_hasPebble_g (G : gG) (h0 tt n1 n2 n3 n4 n5 n6 n7 n8 : Nat) (jg : Nat) (pb : Nat) (lw : Nat) (v0 : Int32) (A : Nat → Prop) : Array Value → State → Outcome → State → Prop := va_Qi (fun (r : Int32) (u : Unit) => match u with | _ => r = bz (mHas pb v0)) (fun (u : Unit) t => match u with | _ => va_P G.1 vwCl [zo0 h0 tt n1 n2 n3 n4 n5 n6 n7 n8 (nI jg) (nI pb) (nI lw)] t.heap ∧ gK G t ∧ va_D A [zo0 h0 tt n1 n2 n3 n4 n5 n6 n7 n8 (nI jg) (nI pb) (nI lw)]) A
set_option maxHeartbeats 4000000 in
set_option maxRecDepth 100000 in
theorem c_X0_hasPebble_g (l : Launch) (G : gG) (h0 tt n1 n2 n3 n4 n5 n6 n7 n8 : Nat) (jg : Nat) (pb : Nat) (lw : Nat) (v0 : Int32) (sz : Nat) (hjg : jg ≤ 4) (hpb : pb ≤ 6) : Met l yX0_hasPebble wsX0_hasPebble ({ frames := 0, cells := 0, slots := 0, locals := 0 }) (gPre G [.ref h0, .int v0] [zo0 h0 tt n1 n2 n3 n4 n5 n6 n7 n8 (nI jg) (nI pb) (nI lw)] sz) (q_X0_hasPebble_g G h0 tt n1 n2 n3 n4 n5 n6 n7 n8 jg pb lw v0 (va_A [zo0 h0 tt n1 n2 n3 n4 n5 n6 n7 n8 (nI jg) (nI pb) (nI lw)] sz)) 0 0 (va_A [zo0 h0 tt n1 n2 n3 n4 n5 n6 n7 n8 (nI jg) (nI pb) (nI lw)] sz) := by
  refine Met.ofW (cc := cX0_hasPebble) (maxL := 2) (ret := (some .boolean)) (by decide +kernel) rfl ?_
  intro p e s m args below meth c s₁ B hml hv
  obtain ⟨rfl, hsz, hP, hK, hD0⟩ := hv
  have hx := B.exec
  have hb := B.bytes
  have hr := B.returns
  have hts := atoms_spec (ws := wsX0_hasPebble) B.pre
  have hown : s.vm.findClass RX0 = some m.cls := findClass_of_methodNamed B.named
  have hlocks := B.notSynchronized
  subst hsz
  have hD := hD0.self (sz := s.heap.size)
  generalize hAe : va_A [zo0 h0 tt n1 n2 n3 n4 n5 n6 n7 n8 (nI jg) (nI pb) (nI lw)] s.heap.size = A at hD ⊢
  have hA : ∀ q : Nat, s.heap.size ≤ q → A q := fun q h => by rw [← hAe]; exact Or.inr h
  have hS : va_S A s.heap s.heap [] := va_S.rf
  have hz9 : gPD G A [zo0 h0 tt n1 n2 n3 n4 n5 n6 n7 n8 (nI jg) (nI pb) (nI lw)] s.heap := ⟨hP, hD⟩
  have hP := hz9.1
  have hD := hz9.2
  have hl := lv_entry ([.ref h0, .int v0]) (n := 2) (Nat.le_of_ble_eq_true rfl)
  rw [lg_entry_eq]
  generalize (lg_sl ([.ref h0, .int v0]) ++ List.replicate (2 - (lg_sl ([.ref h0, .int v0])).length) Slot.unset).toArray = ls at hl ⊢
  have hl : lv_has ls 2 [zR 0 h0, zI 1 v0] := hl
  have kf52 := hts (.fieldLink RX0 52 "PebbleInShoe$Court" "pebbles" "I") (by decide +kernel)
  have hiX0 := (by decide +kernel : ∀ w ∈ wsX00, w ∈ wsX0_hasPebble)
  refine lv_iload_n hx hb dX0_hasPebble_0 rfl (lv_at hl 1 rfl) ?_
  refine lv_if_lt (tgt := 16) hx hb dX0_hasPebble_1 (by decide +kernel) (fun c_1 => ?_) (fun c_1 => ?_)
  · skip
    refine lv_iconst (v := 0) hx hb dX0_hasPebble_16 (by decide +kernel) ?_
    have hpost : (fun (r : Int32) (u : Unit) => match u with | _ => r = bz (mHas pb v0)) 0 () := by show (0 : Int32) = bz (mHas pb v0); rw [mHas_f1 c_1]; rfl
    exact W.zret (v := 0) hx hb hr (rfl) (fun t ht hW => ⟨⟨0, (), rfl, hpost, by rw [ht]; exact hP, va_K.moved hW.alike hK, hD⟩, hS.F ht⟩) hS.2.2 dX0_hasPebble_17
  · skip
    have hv_2 : v0 = nI (nC v0) := nC_eq (Int32.not_lt.mp c_1)
    have hk_3 : nC v0 < 2 ^ 31 := nC_31 _
    refine lv_iload_n hx hb dX0_hasPebble_4 rfl (lv_at hl 1 rfl) ?_
    refine g_topi (y := nI (nC v0)) hv_2 ?_
    refine g_aget (D := G.1) (ci := 0) (v := .int (nI pb)) (C := RX0) (T := TX0) (N := 12) hx hb dX0_hasPebble_5 rfl (lv_at hl 0 rfl) hts hiX0 hown hK hP 0 rfl rfl 10 (by decide +kernel) kf52 (fun _ h9 => h9) rfl dX0_hasPebble_6 ?_
    refine lv_icmp_ge (tgt := 16) hx hb dX0_hasPebble_9 (by decide +kernel) (fun c_5 => ?_) (fun c_5 => ?_)
    · skip
      have c_5N : pb ≤ (nC v0) := nI_le1 (a := pb) (b := (nC v0)) (by omega) (by omega) c_5
      refine lv_iconst (v := 0) hx hb dX0_hasPebble_16 (by decide +kernel) ?_
      have hpost : (fun (r : Int32) (u : Unit) => match u with | _ => r = bz (mHas pb v0)) 0 () := by show (0 : Int32) = bz (mHas pb v0); rw [mHas_f2 c_1 c_5]; rfl
      exact W.zret (v := 0) hx hb hr (rfl) (fun t ht hW => ⟨⟨0, (), rfl, hpost, by rw [ht]; exact hP, va_K.moved hW.alike hK, hD⟩, hS.F ht⟩) hS.2.2 dX0_hasPebble_17
    · skip
      have c_5N : (nC v0) < pb := nI_le0 (a := pb) (b := (nC v0)) (by omega) (by omega) c_5
      refine lv_iconst (v := 1) hx hb dX0_hasPebble_12 (by decide +kernel) ?_
      refine lv_goto (tgt := 17) hx hb dX0_hasPebble_13 (by decide +kernel) ?_
      have hpost : (fun (r : Int32) (u : Unit) => match u with | _ => r = bz (mHas pb v0)) 1 () := by show (1 : Int32) = bz (mHas pb v0); rw [mHas_t2 (c_1) c_5]; rfl
      exact W.zret (v := 1) hx hb hr (rfl) (fun t ht hW => ⟨⟨1, (), rfl, hpost, by rw [ht]; exact hP, va_K.moved hW.alike hK, hD⟩, hS.F ht⟩) hS.2.2 dX0_hasPebble_17
abbrev q_X0_hasBoth_g (G : gG) (h0 tt n1 n2 n3 n4 n5 n6 n7 n8 : Nat) (jg : Nat) (pb : Nat) (lw : Nat) (v0 : Int32) (v1 : Int32) (A : Nat → Prop) : Array Value → State → Outcome → State → Prop := va_Qi (fun (r : Int32) (u : Unit) => match u with | _ => r = bz (mBoth jg pb v0 v1)) (fun (u : Unit) t => match u with | _ => va_P G.1 vwCl [zo0 h0 tt n1 n2 n3 n4 n5 n6 n7 n8 (nI jg) (nI pb) (nI lw)] t.heap ∧ gK G t ∧ va_D A [zo0 h0 tt n1 n2 n3 n4 n5 n6 n7 n8 (nI jg) (nI pb) (nI lw)]) A
set_option maxHeartbeats 4000000 in
set_option maxRecDepth 100000 in
theorem c_X0_hasBoth_g (l : Launch) (G : gG) (h0 tt n1 n2 n3 n4 n5 n6 n7 n8 : Nat) (jg : Nat) (pb : Nat) (lw : Nat) (v0 : Int32) (v1 : Int32) (sz : Nat) (hjg : jg ≤ 4) (hpb : pb ≤ 6) : Met l yX0_hasBoth wsX0_hasBoth ({ frames := 1, cells := 0, slots := 0, locals := 21 }) (gPre G [.ref h0, .int v0, .int v1] [zo0 h0 tt n1 n2 n3 n4 n5 n6 n7 n8 (nI jg) (nI pb) (nI lw)] sz) (q_X0_hasBoth_g G h0 tt n1 n2 n3 n4 n5 n6 n7 n8 jg pb lw v0 v1 (va_A [zo0 h0 tt n1 n2 n3 n4 n5 n6 n7 n8 (nI jg) (nI pb) (nI lw)] sz)) 0 0 (va_A [zo0 h0 tt n1 n2 n3 n4 n5 n6 n7 n8 (nI jg) (nI pb) (nI lw)] sz) := by
  refine Met.ofW (cc := cX0_hasBoth) (maxL := 3) (ret := (some .boolean)) (by decide +kernel) rfl ?_
  intro p e s m args below meth c s₁ B hml hv
  obtain ⟨rfl, hsz, hP, hK, hD0⟩ := hv
  have hx := B.exec
  have hb := B.bytes
  have hr := B.returns
  have hts := atoms_spec (ws := wsX0_hasBoth) B.pre
  have hown : s.vm.findClass RX0 = some m.cls := findClass_of_methodNamed B.named
  have hlocks := B.notSynchronized
  subst hsz
  have hD := hD0.self (sz := s.heap.size)
  generalize hAe : va_A [zo0 h0 tt n1 n2 n3 n4 n5 n6 n7 n8 (nI jg) (nI pb) (nI lw)] s.heap.size = A at hD ⊢
  have hA : ∀ q : Nat, s.heap.size ≤ q → A q := fun q h => by rw [← hAe]; exact Or.inr h
  have hS : va_S A s.heap s.heap [] := va_S.rf
  have hz9 : gPD G A [zo0 h0 tt n1 n2 n3 n4 n5 n6 n7 n8 (nI jg) (nI pb) (nI lw)] s.heap := ⟨hP, hD⟩
  have hP := hz9.1
  have hD := hz9.2
  have hl := lv_entry ([.ref h0, .int v0, .int v1]) (n := 3) (Nat.le_of_ble_eq_true rfl)
  rw [lg_entry_eq]
  generalize (lg_sl ([.ref h0, .int v0, .int v1]) ++ List.replicate (3 - (lg_sl ([.ref h0, .int v0, .int v1])).length) Slot.unset).toArray = ls at hl ⊢
  have hl : lv_has ls 3 [zR 0 h0, zI 1 v0, zI 2 v1] := hl
  refine lv_aload_n hx hb dX0_hasBoth_0 rfl (lv_at hl 0 rfl) ?_
  refine lv_iload_n hx hb dX0_hasBoth_1 rfl (lv_at hl 1 rfl) ?_
  refine z_calli [0] (v := bz (mHas jg v0)) (fun _ _ h => h) (va_runV (As := [.int v0]) (rest := []) ⟨hx, hb, hml, hown, hts⟩ (c_X0_hasJudge_g l G h0 tt n1 n2 n3 n4 n5 n6 n7 n8 jg pb lw v0 s.heap.size (by first | exact hjg | assumption | omega) (by first | exact hpb | assumption | omega)) (cwV 1 hts gX0_hasBoth_X0_hasJudge rfl rfl rfl (by decide +kernel) ⟨Nat.le_of_ble_eq_true rfl, Nat.le_of_ble_eq_true rfl⟩) ⟨gPre_blind, va_recv (q := (RX0, TX0, 12)) hK hP (ci := 0) (q0 := 0) rfl rfl, fun U hU hW => gPre_of hU hW hK hP hD⟩ rfl rfl hl.1 rfl (lv_room (Nat.le_of_ble_eq_true rfl)) dX0_hasBoth_2 ⟨Nat.le_of_ble_eq_true rfl, Nat.le_of_ble_eq_true rfl⟩) hS hD hA rfl (fun u t H locs ht hvm hB hz1 hk1 hFq hAq hS => ?_)
  obtain ⟨hP1, hK1, hD1⟩ := hB
  have hP := zKeep hP hD [0] hAq hk1 ht hP1 rfl
  refine lv_if_eq (tgt := 20) hx hb dX0_hasBoth_5 (by decide +kernel) (fun c_3 => ?_) (fun c_3 => ?_)
  · skip
    have n_5 : (mHas jg v0) = false := bz_eq rfl c_3
    have n_5N : ¬ ((mHas jg v0) = true) := by rw [n_5]; decide
    refine lv_iconst (v := 0) hx hb dX0_hasBoth_20 (by decide +kernel) ?_
    have hpost : (fun (r : Int32) (u : Unit) => match u with | _ => r = bz (mBoth jg pb v0 v1)) 0 () := by show (0 : Int32) = bz (mBoth jg pb v0 v1); rw [mBoth, n_5, Bool.false_and]; rfl
    exact W.zret (v := 0) hx hb hr (rfl) (fun t ht hW => ⟨⟨0, (), rfl, hpost, by rw [ht]; exact hP, va_K.moved hW.alike hK, hD⟩, hS.F ht⟩) hS.2.2 dX0_hasBoth_21
  · skip
    have p_4 : (mHas jg v0) = true := bz_ne rfl c_3
    have hv_6 : v0 = nI (nC v0) := mHas_eq p_4
    have hk_7 : nC v0 < jg := mHas_lt (by omega) p_4
    refine lv_aload_n hx hb dX0_hasBoth_8 rfl (lv_at hl 0 rfl) ?_
    refine lv_iload_n hx hb dX0_hasBoth_9 rfl (lv_at hl 2 rfl) ?_
    refine z_calli [0] (v := bz (mHas pb v1)) (fun _ _ h => h) (va_runV (As := [.int v1]) (rest := []) ⟨hx, hb, hml, hown, hts⟩ (c_X0_hasPebble_g l G h0 tt n1 n2 n3 n4 n5 n6 n7 n8 jg pb lw v1 H.size (by first | exact hjg | assumption | omega) (by first | exact hpb | assumption | omega)) (cwV 1 hts gX0_hasBoth_X0_hasPebble rfl rfl rfl (by decide +kernel) ⟨Nat.le_of_ble_eq_true rfl, Nat.le_of_ble_eq_true rfl⟩) ⟨gPre_blind, va_recv (q := (RX0, TX0, 12)) hK hP (ci := 0) (q0 := 0) rfl rfl, fun U hU hW => gPre_of hU hW hK hP hD⟩ rfl rfl hl.1 rfl (lv_room (Nat.le_of_ble_eq_true rfl)) dX0_hasBoth_10 ⟨Nat.le_of_ble_eq_true rfl, Nat.le_of_ble_eq_true rfl⟩) hS hD hA rfl (fun u t H locs ht hvm hB hz1 hk1 hFq hAq hS => ?_)
    obtain ⟨hP1, hK1, hD1⟩ := hB
    have hP := zKeep hP hD [0] hAq hk1 ht hP1 rfl
    refine lv_if_eq (tgt := 20) hx hb dX0_hasBoth_13 (by decide +kernel) (fun c_10 => ?_) (fun c_10 => ?_)
    · skip
      have n_12 : (mHas pb v1) = false := bz_eq rfl c_10
      have n_12N : ¬ ((mHas pb v1) = true) := by rw [n_12]; decide
      refine lv_iconst (v := 0) hx hb dX0_hasBoth_20 (by decide +kernel) ?_
      have hpost : (fun (r : Int32) (u : Unit) => match u with | _ => r = bz (mBoth jg pb v0 v1)) 0 () := by show (0 : Int32) = bz (mBoth jg pb v0 v1); rw [mBoth, p_4, n_12]; rfl
      exact W.zret (v := 0) hx hb hr (rfl) (fun t ht hW => ⟨⟨0, (), rfl, hpost, by rw [ht]; exact hP, va_K.moved hW.alike hK, hD⟩, hS.F ht⟩) hS.2.2 dX0_hasBoth_21
    · skip
      have p_11 : (mHas pb v1) = true := bz_ne rfl c_10
      have hv_13 : v1 = nI (nC v1) := mHas_eq p_11
      have hk_14 : nC v1 < pb := mHas_lt (by omega) p_11
      refine lv_iconst (v := 1) hx hb dX0_hasBoth_16 (by decide +kernel) ?_
      refine lv_goto (tgt := 21) hx hb dX0_hasBoth_17 (by decide +kernel) ?_
      have hpost : (fun (r : Int32) (u : Unit) => match u with | _ => r = bz (mBoth jg pb v0 v1)) 1 () := by show (1 : Int32) = bz (mBoth jg pb v0 v1); rw [mBoth, p_4, p_11]; rfl
      exact W.zret (v := 1) hx hb hr (rfl) (fun t ht hW => ⟨⟨1, (), rfl, hpost, by rw [ht]; exact hP, va_K.moved hW.alike hK, hD⟩, hS.F ht⟩) hS.2.2 dX0_hasBoth_21
noncomputable def m_X0_addJudge (jg : Nat) : Int32 := if (nI jg) < 4 then nI jg else -4
noncomputable def m_X0_addJudge_h09 (jg : Nat) : Nat := if (nI jg) < 4 then (jg + 1) else jg
noncomputable def m_X0_addJudge_n2 (jg : Nat) (fso : Nat → Int32) (v0 : Int32) : Nat → Int32 := if (nI jg) < 4 then upd fso jg v0 else fso
noncomputable def m_X0_addJudge_n3 (jg : Nat) (fmi : Nat → Int32) : Nat → Int32 := if (nI jg) < 4 then upd fmi jg 0 else fmi
noncomputable def m_X0_addJudge_n4 (jg : Nat) (fpa : Nat → Int32) : Nat → Int32 := if (nI jg) < 4 then upd fpa jg 0 else fpa
abbrev q_X0_addJudge (G : gG) (h0 tt n1 n2 n3 n4 n5 n6 n7 n8 : Nat) (jg : Nat) (pb : Nat) (lw : Nat) (fso : Nat → Int32) (fmi : Nat → Int32) (fpa : Nat → Int32) (v0 : Int32) (A : Nat → Prop) : Array Value → State → Outcome → State → Prop := va_Qi (fun (r : Int32) (u : Unit) => match u with | _ => r = m_X0_addJudge jg) (fun (u : Unit) t => match u with | _ => va_P G.1 vwCl [zo0 h0 tt n1 n2 n3 n4 n5 n6 n7 n8 (nI (m_X0_addJudge_h09 jg)) (nI pb) (nI lw), zi G n2 4 (m_X0_addJudge_n2 jg fso v0), zi G n3 4 (m_X0_addJudge_n3 jg fmi), zi G n4 4 (m_X0_addJudge_n4 jg fpa)] t.heap ∧ gK G t ∧ va_D A [zo0 h0 tt n1 n2 n3 n4 n5 n6 n7 n8 (nI (m_X0_addJudge_h09 jg)) (nI pb) (nI lw), zi G n2 4 (m_X0_addJudge_n2 jg fso v0), zi G n3 4 (m_X0_addJudge_n3 jg fmi), zi G n4 4 (m_X0_addJudge_n4 jg fpa)]) A
set_option maxHeartbeats 4000000 in
set_option maxRecDepth 100000 in
theorem c_X0_addJudge (l : Launch) (G : gG) (h0 tt n1 n2 n3 n4 n5 n6 n7 n8 : Nat) (jg : Nat) (pb : Nat) (lw : Nat) (fso : Nat → Int32) (fmi : Nat → Int32) (fpa : Nat → Int32) (v0 : Int32) (sz : Nat) (hjg : jg ≤ 4) (hpb : pb ≤ 6) : Met l yX0_addJudge wsX0_addJudge ({ frames := 0, cells := 0, slots := 0, locals := 0 }) (gPre G [.ref h0, .int v0] [zo0 h0 tt n1 n2 n3 n4 n5 n6 n7 n8 (nI jg) (nI pb) (nI lw), zi G n2 4 fso, zi G n3 4 fmi, zi G n4 4 fpa] sz) (q_X0_addJudge G h0 tt n1 n2 n3 n4 n5 n6 n7 n8 jg pb lw fso fmi fpa v0 (va_A [zo0 h0 tt n1 n2 n3 n4 n5 n6 n7 n8 (nI jg) (nI pb) (nI lw), zi G n2 4 fso, zi G n3 4 fmi, zi G n4 4 fpa] sz)) 0 0 (va_A [zo0 h0 tt n1 n2 n3 n4 n5 n6 n7 n8 (nI jg) (nI pb) (nI lw), zi G n2 4 fso, zi G n3 4 fmi, zi G n4 4 fpa] sz) := by
  refine Met.ofW (cc := cX0_addJudge) (maxL := 3) (ret := (some .int)) (by decide +kernel) rfl ?_
  intro p e s m args below meth c s₁ B hml hv
  obtain ⟨rfl, hsz, hP, hK, hD0⟩ := hv
  have hx := B.exec
  have hb := B.bytes
  have hr := B.returns
  have hts := atoms_spec (ws := wsX0_addJudge) B.pre
  have hown : s.vm.findClass RX0 = some m.cls := findClass_of_methodNamed B.named
  have hlocks := B.notSynchronized
  subst hsz
  have hD := hD0.self (sz := s.heap.size)
  generalize hAe : va_A [zo0 h0 tt n1 n2 n3 n4 n5 n6 n7 n8 (nI jg) (nI pb) (nI lw), zi G n2 4 fso, zi G n3 4 fmi, zi G n4 4 fpa] s.heap.size = A at hD ⊢
  have hA : ∀ q : Nat, s.heap.size ≤ q → A q := fun q h => by rw [← hAe]; exact Or.inr h
  have hS : va_S A s.heap s.heap [] := va_S.rf
  have hz9 : gPD G A [zo0 h0 tt n1 n2 n3 n4 n5 n6 n7 n8 (nI jg) (nI pb) (nI lw), zi G n2 4 fso, zi G n3 4 fmi, zi G n4 4 fpa] s.heap := ⟨hP, hD⟩
  have hP := hz9.1
  have hD := hz9.2
  have hl := lv_entry ([.ref h0, .int v0]) (n := 3) (Nat.le_of_ble_eq_true rfl)
  rw [lg_entry_eq]
  generalize (lg_sl ([.ref h0, .int v0]) ++ List.replicate (3 - (lg_sl ([.ref h0, .int v0])).length) Slot.unset).toArray = ls at hl ⊢
  have hl : lv_has ls 3 [zR 0 h0, zI 1 v0] := hl
  have kf48 := hts (.fieldLink RX0 48 "PebbleInShoe$Court" "judges" "I") (by decide +kernel)
  have hiX0 := (by decide +kernel : ∀ w ∈ wsX00, w ∈ wsX0_addJudge)
  have kf17 := hts (.fieldLink RX0 17 "PebbleInShoe$Court" "soles" "[I") (by decide +kernel)
  have kf20 := hts (.fieldLink RX0 20 "PebbleInShoe$Court" "miles" "[I") (by decide +kernel)
  have kf23 := hts (.fieldLink RX0 23 "PebbleInShoe$Court" "pains" "[I") (by decide +kernel)
  refine g_aget (D := G.1) (ci := 0) (v := .int (nI jg)) (C := RX0) (T := TX0) (N := 12) hx hb dX0_addJudge_0 rfl (lv_at hl 0 rfl) hts hiX0 hown hK hP 0 rfl rfl 9 (by decide +kernel) kf48 (fun _ h9 => h9) rfl dX0_addJudge_1 ?_
  refine lv_iconst (v := 4) hx hb dX0_addJudge_4 (by decide +kernel) ?_
  refine lv_icmp_lt (tgt := 11) hx hb dX0_addJudge_5 (by decide +kernel) (fun c_1 => ?_) (fun c_1 => ?_)
  · skip
    have c_1N : jg < 4 := nI_lt1 (a := jg) (b := 4) (by omega) (by omega) c_1
    refine g_aget (D := G.1) (ci := 0) (v := .int (nI jg)) (C := RX0) (T := TX0) (N := 12) hx hb dX0_addJudge_11 rfl (lv_at hl 0 rfl) hts hiX0 hown hK hP 0 rfl rfl 9 (by decide +kernel) kf48 (fun _ h9 => h9) rfl dX0_addJudge_12 ?_
    refine lv_istore_n (lv' := [zI 2 (nI jg), zR 0 h0, zI 1 v0]) hx hb dX0_addJudge_15 rfl hl (by decide +kernel) rfl (fun ls hl => ?_)
    refine g_aget (D := G.1) (ci := 0) (v := .ref n2) (C := RX0) (T := TX0) (N := 12) hx hb dX0_addJudge_16 rfl (lv_at hl 1 rfl) hts hiX0 hown hK hP 0 rfl rfl 2 (by decide +kernel) kf17 (fun _ h9 => h9) rfl dX0_addJudge_17 ?_
    refine lv_iload_n hx hb dX0_addJudge_20 rfl (lv_at hl 0 rfl) ?_
    refine lv_iload_n hx hb dX0_addJudge_21 rfl (lv_at hl 2 rfl) ?_
    refine g_iast (D := G.1) hx hb hK hP hD hS 1 0 rfl rfl (k := jg) (x := v0) (by omega) rfl dX0_addJudge_22 (fun H locs hP hD hS => ?_)
    have hz9 : gPD G A [zo0 h0 tt n1 n2 n3 n4 n5 n6 n7 n8 (nI jg) (nI pb) (nI lw), zi G n2 4 (upd fso jg v0), zi G n3 4 fmi, zi G n4 4 fpa] H := ⟨hP, hD⟩
    have hP := hz9.1
    have hD := hz9.2
    refine g_aget (D := G.1) (ci := 0) (v := .ref n3) (C := RX0) (T := TX0) (N := 12) hx hb dX0_addJudge_23 rfl (lv_at hl 1 rfl) hts hiX0 hown hK hP 0 rfl rfl 3 (by decide +kernel) kf20 (fun _ h9 => h9) rfl dX0_addJudge_24 ?_
    refine lv_iload_n hx hb dX0_addJudge_27 rfl (lv_at hl 0 rfl) ?_
    refine lv_iconst (v := 0) hx hb dX0_addJudge_28 (by decide +kernel) ?_
    refine g_iast (D := G.1) hx hb hK hP hD hS 2 0 rfl rfl (k := jg) (x := 0) (by omega) rfl dX0_addJudge_29 (fun H locs hP hD hS => ?_)
    have hz9 : gPD G A [zo0 h0 tt n1 n2 n3 n4 n5 n6 n7 n8 (nI jg) (nI pb) (nI lw), zi G n2 4 (upd fso jg v0), zi G n3 4 (upd fmi jg 0), zi G n4 4 fpa] H := ⟨hP, hD⟩
    have hP := hz9.1
    have hD := hz9.2
    refine g_aget (D := G.1) (ci := 0) (v := .ref n4) (C := RX0) (T := TX0) (N := 12) hx hb dX0_addJudge_30 rfl (lv_at hl 1 rfl) hts hiX0 hown hK hP 0 rfl rfl 4 (by decide +kernel) kf23 (fun _ h9 => h9) rfl dX0_addJudge_31 ?_
    refine lv_iload_n hx hb dX0_addJudge_34 rfl (lv_at hl 0 rfl) ?_
    refine lv_iconst (v := 0) hx hb dX0_addJudge_35 (by decide +kernel) ?_
    refine g_iast (D := G.1) hx hb hK hP hD hS 3 0 rfl rfl (k := jg) (x := 0) (by omega) rfl dX0_addJudge_36 (fun H locs hP hD hS => ?_)
    have hz9 : gPD G A [zo0 h0 tt n1 n2 n3 n4 n5 n6 n7 n8 (nI jg) (nI pb) (nI lw), zi G n2 4 (upd fso jg v0), zi G n3 4 (upd fmi jg 0), zi G n4 4 (upd fpa jg 0)] H := ⟨hP, hD⟩
    have hP := hz9.1
    have hD := hz9.2
    refine lv_aload_n hx hb dX0_addJudge_37 rfl (lv_at hl 1 rfl) ?_
    refine lv_dup hx hb dX0_addJudge_38 rfl ?_
    refine va_get (D := G.1) (ci := 0) (v := .int (nI jg)) (C := RX0) (T := TX0) (N := 12) hx hb hts hiX0 hown hK hP 0 rfl rfl 9 (by decide +kernel) kf48 (fun _ h9 => h9) rfl dX0_addJudge_39 ?_
    refine lv_iconst (v := 1) hx hb dX0_addJudge_42 (by decide +kernel) ?_
    refine lv_iadd hx hb dX0_addJudge_43 ?_
    refine g_topi (y := nI (jg + 1)) (nI_add jg 1) ?_
    refine va_put (D := G.1) (ci := 0) (v := .int (nI (jg + 1))) (ty := .int) (C := RX0) (T := TX0) (N := 12) hx hb hts hiX0 tyX0 tyX0_ok nmX0 hown hK hP hD hS 0 rfl rfl 9 (by decide +kernel) kf48 (fun _ h9 => h9) rfl (by decide +kernel) rfl rfl (Nat.le_of_ble_eq_true rfl) dX0_addJudge_44 (fun H locs hP hD hS => ?_)
    have hz9 : gPD G A [zo0 h0 tt n1 n2 n3 n4 n5 n6 n7 n8 (nI (jg + 1)) (nI pb) (nI lw), zi G n2 4 (upd fso jg v0), zi G n3 4 (upd fmi jg 0), zi G n4 4 (upd fpa jg 0)] H := ⟨hP, hD⟩
    have hP := hz9.1
    have hD := hz9.2
    refine lv_iload_n hx hb dX0_addJudge_47 rfl (lv_at hl 0 rfl) ?_
    have q_3 : m_X0_addJudge_h09 jg = jg + 1 := by unfold m_X0_addJudge_h09; rw [if_pos c_1]
    have q_4 : m_X0_addJudge_n2 jg fso v0 = upd fso jg v0 := by unfold m_X0_addJudge_n2; rw [if_pos c_1]
    have q_5 : m_X0_addJudge_n3 jg fmi = upd fmi jg 0 := by unfold m_X0_addJudge_n3; rw [if_pos c_1]
    have q_6 : m_X0_addJudge_n4 jg fpa = upd fpa jg 0 := by unfold m_X0_addJudge_n4; rw [if_pos c_1]
    have hz9 : gPD G A [zo0 h0 tt n1 n2 n3 n4 n5 n6 n7 n8 (nI (m_X0_addJudge_h09 jg)) (nI pb) (nI lw), zi G n2 4 (m_X0_addJudge_n2 jg fso v0), zi G n3 4 (m_X0_addJudge_n3 jg fmi), zi G n4 4 (m_X0_addJudge_n4 jg fpa)] H := ⟨by rw [q_3, q_4, q_5, q_6]; exact hP, by rw [q_3, q_4, q_5, q_6]; exact hD⟩
    have hP9 := hz9.1
    have hD9 := hz9.2
    have hpost : (fun (r : Int32) (u : Unit) => match u with | _ => r = m_X0_addJudge jg) (nI jg) () := (show m_X0_addJudge jg = (nI jg) from by unfold m_X0_addJudge; rw [if_pos c_1]).symm
    exact W.iret (v := (nI jg)) hx hb hr (fun t ht hW => ⟨⟨(nI jg), (), rfl, hpost, by rw [ht]; exact hP9, va_K.moved hW.alike hK, hD9⟩, hS.F ht⟩) hS.2.2 dX0_addJudge_48
  · skip
    have c_1N : 4 ≤ jg := nI_lt0 (a := jg) (b := 4) (by omega) (by omega) c_1
    refine lv_bipush (v := -4) hx hb dX0_addJudge_8 (by decide +kernel) ?_
    have q_7 : m_X0_addJudge_h09 jg = jg := by unfold m_X0_addJudge_h09; rw [if_neg c_1]
    have q_8 : m_X0_addJudge_n2 jg fso v0 = fso := by unfold m_X0_addJudge_n2; rw [if_neg c_1]
    have q_9 : m_X0_addJudge_n3 jg fmi = fmi := by unfold m_X0_addJudge_n3; rw [if_neg c_1]
    have q_10 : m_X0_addJudge_n4 jg fpa = fpa := by unfold m_X0_addJudge_n4; rw [if_neg c_1]
    have hz9 : gPD G A [zo0 h0 tt n1 n2 n3 n4 n5 n6 n7 n8 (nI (m_X0_addJudge_h09 jg)) (nI pb) (nI lw), zi G n2 4 (m_X0_addJudge_n2 jg fso v0), zi G n3 4 (m_X0_addJudge_n3 jg fmi), zi G n4 4 (m_X0_addJudge_n4 jg fpa)] s.heap := ⟨by rw [q_7, q_8, q_9, q_10]; exact hP, by rw [q_7, q_8, q_9, q_10]; exact hD⟩
    have hP9 := hz9.1
    have hD9 := hz9.2
    have hpost : (fun (r : Int32) (u : Unit) => match u with | _ => r = m_X0_addJudge jg) (-4) () := (show m_X0_addJudge jg = (-4) from by unfold m_X0_addJudge; rw [if_neg c_1]).symm
    exact W.iret (v := (-4)) hx hb hr (fun t ht hW => ⟨⟨(-4), (), rfl, hpost, by rw [ht]; exact hP9, va_K.moved hW.alike hK, hD9⟩, hS.F ht⟩) hS.2.2 dX0_addJudge_10
noncomputable def m_X0_addPebble (pb : Nat) : Int32 := if (nI pb) < 6 then nI pb else -4
noncomputable def m_X0_addPebble_h010 (pb : Nat) : Nat := if (nI pb) < 6 then (pb + 1) else pb
noncomputable def m_X0_addPebble_n5 (pb : Nat) (fki : Nat → Int32) (v0 : Int32) : Nat → Int32 := if (nI pb) < 6 then upd fki pb (v0 / 10) else fki
noncomputable def m_X0_addPebble_n6 (pb : Nat) (fmo : Nat → Int32) (v0 : Int32) : Nat → Int32 := if (nI pb) < 6 then upd fmo pb (iRem v0 10) else fmo
noncomputable def m_X0_addPebble_n7 (pb : Nat) (fsz : Nat → Int32) (v1 : Int32) : Nat → Int32 := if (nI pb) < 6 then upd fsz pb (v1 / 100) else fsz
noncomputable def m_X0_addPebble_n8 (pb : Nat) (frd : Nat → Int32) (v1 : Int32) : Nat → Int32 := if (nI pb) < 6 then upd frd pb (iRem v1 100) else frd
abbrev q_X0_addPebble (G : gG) (h0 tt n1 n2 n3 n4 n5 n6 n7 n8 : Nat) (jg : Nat) (pb : Nat) (lw : Nat) (fki : Nat → Int32) (fmo : Nat → Int32) (fsz : Nat → Int32) (frd : Nat → Int32) (v0 : Int32) (v1 : Int32) (A : Nat → Prop) : Array Value → State → Outcome → State → Prop := va_Qi (fun (r : Int32) (u : Unit) => match u with | _ => r = m_X0_addPebble pb) (fun (u : Unit) t => match u with | _ => va_P G.1 vwCl [zo0 h0 tt n1 n2 n3 n4 n5 n6 n7 n8 (nI jg) (nI (m_X0_addPebble_h010 pb)) (nI lw), zi G n5 6 (m_X0_addPebble_n5 pb fki v0), zi G n6 6 (m_X0_addPebble_n6 pb fmo v0), zi G n7 6 (m_X0_addPebble_n7 pb fsz v1), zi G n8 6 (m_X0_addPebble_n8 pb frd v1)] t.heap ∧ gK G t ∧ va_D A [zo0 h0 tt n1 n2 n3 n4 n5 n6 n7 n8 (nI jg) (nI (m_X0_addPebble_h010 pb)) (nI lw), zi G n5 6 (m_X0_addPebble_n5 pb fki v0), zi G n6 6 (m_X0_addPebble_n6 pb fmo v0), zi G n7 6 (m_X0_addPebble_n7 pb fsz v1), zi G n8 6 (m_X0_addPebble_n8 pb frd v1)]) A
set_option maxHeartbeats 4000000 in
set_option maxRecDepth 100000 in
theorem c_X0_addPebble (l : Launch) (G : gG) (h0 tt n1 n2 n3 n4 n5 n6 n7 n8 : Nat) (jg : Nat) (pb : Nat) (lw : Nat) (fki : Nat → Int32) (fmo : Nat → Int32) (fsz : Nat → Int32) (frd : Nat → Int32) (v0 : Int32) (v1 : Int32) (sz : Nat) (hjg : jg ≤ 4) (hpb : pb ≤ 6) : Met l yX0_addPebble wsX0_addPebble ({ frames := 0, cells := 0, slots := 0, locals := 0 }) (gPre G [.ref h0, .int v0, .int v1] [zo0 h0 tt n1 n2 n3 n4 n5 n6 n7 n8 (nI jg) (nI pb) (nI lw), zi G n5 6 fki, zi G n6 6 fmo, zi G n7 6 fsz, zi G n8 6 frd] sz) (q_X0_addPebble G h0 tt n1 n2 n3 n4 n5 n6 n7 n8 jg pb lw fki fmo fsz frd v0 v1 (va_A [zo0 h0 tt n1 n2 n3 n4 n5 n6 n7 n8 (nI jg) (nI pb) (nI lw), zi G n5 6 fki, zi G n6 6 fmo, zi G n7 6 fsz, zi G n8 6 frd] sz)) 0 0 (va_A [zo0 h0 tt n1 n2 n3 n4 n5 n6 n7 n8 (nI jg) (nI pb) (nI lw), zi G n5 6 fki, zi G n6 6 fmo, zi G n7 6 fsz, zi G n8 6 frd] sz) := by
  refine Met.ofW (cc := cX0_addPebble) (maxL := 4) (ret := (some .int)) (by decide +kernel) rfl ?_
  intro p e s m args below meth c s₁ B hml hv
  obtain ⟨rfl, hsz, hP, hK, hD0⟩ := hv
  have hx := B.exec
  have hb := B.bytes
  have hr := B.returns
  have hts := atoms_spec (ws := wsX0_addPebble) B.pre
  have hown : s.vm.findClass RX0 = some m.cls := findClass_of_methodNamed B.named
  have hlocks := B.notSynchronized
  subst hsz
  have hD := hD0.self (sz := s.heap.size)
  generalize hAe : va_A [zo0 h0 tt n1 n2 n3 n4 n5 n6 n7 n8 (nI jg) (nI pb) (nI lw), zi G n5 6 fki, zi G n6 6 fmo, zi G n7 6 fsz, zi G n8 6 frd] s.heap.size = A at hD ⊢
  have hA : ∀ q : Nat, s.heap.size ≤ q → A q := fun q h => by rw [← hAe]; exact Or.inr h
  have hS : va_S A s.heap s.heap [] := va_S.rf
  have hz9 : gPD G A [zo0 h0 tt n1 n2 n3 n4 n5 n6 n7 n8 (nI jg) (nI pb) (nI lw), zi G n5 6 fki, zi G n6 6 fmo, zi G n7 6 fsz, zi G n8 6 frd] s.heap := ⟨hP, hD⟩
  have hP := hz9.1
  have hD := hz9.2
  have hl := lv_entry ([.ref h0, .int v0, .int v1]) (n := 4) (Nat.le_of_ble_eq_true rfl)
  rw [lg_entry_eq]
  generalize (lg_sl ([.ref h0, .int v0, .int v1]) ++ List.replicate (4 - (lg_sl ([.ref h0, .int v0, .int v1])).length) Slot.unset).toArray = ls at hl ⊢
  have hl : lv_has ls 4 [zR 0 h0, zI 1 v0, zI 2 v1] := hl
  have kf52 := hts (.fieldLink RX0 52 "PebbleInShoe$Court" "pebbles" "I") (by decide +kernel)
  have hiX0 := (by decide +kernel : ∀ w ∈ wsX00, w ∈ wsX0_addPebble)
  have kf26 := hts (.fieldLink RX0 26 "PebbleInShoe$Court" "kind" "[I") (by decide +kernel)
  have kf29 := hts (.fieldLink RX0 29 "PebbleInShoe$Court" "more" "[I") (by decide +kernel)
  have kf32 := hts (.fieldLink RX0 32 "PebbleInShoe$Court" "size" "[I") (by decide +kernel)
  have kf35 := hts (.fieldLink RX0 35 "PebbleInShoe$Court" "round" "[I") (by decide +kernel)
  refine g_aget (D := G.1) (ci := 0) (v := .int (nI pb)) (C := RX0) (T := TX0) (N := 12) hx hb dX0_addPebble_0 rfl (lv_at hl 0 rfl) hts hiX0 hown hK hP 0 rfl rfl 10 (by decide +kernel) kf52 (fun _ h9 => h9) rfl dX0_addPebble_1 ?_
  refine lv_bipush (v := 6) hx hb dX0_addPebble_4 (by decide +kernel) ?_
  refine lv_icmp_lt (tgt := 12) hx hb dX0_addPebble_6 (by decide +kernel) (fun c_1 => ?_) (fun c_1 => ?_)
  · skip
    have c_1N : pb < 6 := nI_lt1 (a := pb) (b := 6) (by omega) (by omega) c_1
    refine g_aget (D := G.1) (ci := 0) (v := .int (nI pb)) (C := RX0) (T := TX0) (N := 12) hx hb dX0_addPebble_12 rfl (lv_at hl 0 rfl) hts hiX0 hown hK hP 0 rfl rfl 10 (by decide +kernel) kf52 (fun _ h9 => h9) rfl dX0_addPebble_13 ?_
    refine lv_istore_n (lv' := [zI 3 (nI pb), zR 0 h0, zI 1 v0, zI 2 v1]) hx hb dX0_addPebble_16 rfl hl (by decide +kernel) rfl (fun ls hl => ?_)
    refine g_aget (D := G.1) (ci := 0) (v := .ref n5) (C := RX0) (T := TX0) (N := 12) hx hb dX0_addPebble_17 rfl (lv_at hl 1 rfl) hts hiX0 hown hK hP 0 rfl rfl 5 (by decide +kernel) kf26 (fun _ h9 => h9) rfl dX0_addPebble_18 ?_
    refine lv_iload_n hx hb dX0_addPebble_21 rfl (lv_at hl 0 rfl) ?_
    refine lv_iload_n hx hb dX0_addPebble_22 rfl (lv_at hl 2 rfl) ?_
    refine lv_bipush (v := 10) hx hb dX0_addPebble_23 (by decide +kernel) ?_
    refine lv_idiv hx hb dX0_addPebble_25 (by decide +kernel) ?_
    refine g_iast (D := G.1) hx hb hK hP hD hS 1 0 rfl rfl (k := pb) (x := (v0 / 10)) (by omega) rfl dX0_addPebble_26 (fun H locs hP hD hS => ?_)
    have hz9 : gPD G A [zo0 h0 tt n1 n2 n3 n4 n5 n6 n7 n8 (nI jg) (nI pb) (nI lw), zi G n5 6 (upd fki pb (v0 / 10)), zi G n6 6 fmo, zi G n7 6 fsz, zi G n8 6 frd] H := ⟨hP, hD⟩
    have hP := hz9.1
    have hD := hz9.2
    refine g_aget (D := G.1) (ci := 0) (v := .ref n6) (C := RX0) (T := TX0) (N := 12) hx hb dX0_addPebble_27 rfl (lv_at hl 1 rfl) hts hiX0 hown hK hP 0 rfl rfl 6 (by decide +kernel) kf29 (fun _ h9 => h9) rfl dX0_addPebble_28 ?_
    refine lv_iload_n hx hb dX0_addPebble_31 rfl (lv_at hl 0 rfl) ?_
    refine lv_iload_n hx hb dX0_addPebble_32 rfl (lv_at hl 2 rfl) ?_
    refine lv_bipush (v := 10) hx hb dX0_addPebble_33 (by decide +kernel) ?_
    refine lv_irem hx hb dX0_addPebble_35 (by decide +kernel) ?_
    refine g_topi (y := iRem v0 10) (rfl) ?_
    refine g_iast (D := G.1) hx hb hK hP hD hS 2 0 rfl rfl (k := pb) (x := (iRem v0 10)) (by omega) rfl dX0_addPebble_36 (fun H locs hP hD hS => ?_)
    have hz9 : gPD G A [zo0 h0 tt n1 n2 n3 n4 n5 n6 n7 n8 (nI jg) (nI pb) (nI lw), zi G n5 6 (upd fki pb (v0 / 10)), zi G n6 6 (upd fmo pb (iRem v0 10)), zi G n7 6 fsz, zi G n8 6 frd] H := ⟨hP, hD⟩
    have hP := hz9.1
    have hD := hz9.2
    refine g_aget (D := G.1) (ci := 0) (v := .ref n7) (C := RX0) (T := TX0) (N := 12) hx hb dX0_addPebble_37 rfl (lv_at hl 1 rfl) hts hiX0 hown hK hP 0 rfl rfl 7 (by decide +kernel) kf32 (fun _ h9 => h9) rfl dX0_addPebble_38 ?_
    refine lv_iload_n hx hb dX0_addPebble_41 rfl (lv_at hl 0 rfl) ?_
    refine lv_iload_n hx hb dX0_addPebble_42 rfl (lv_at hl 3 rfl) ?_
    refine lv_bipush (v := 100) hx hb dX0_addPebble_43 (by decide +kernel) ?_
    refine lv_idiv hx hb dX0_addPebble_45 (by decide +kernel) ?_
    refine g_iast (D := G.1) hx hb hK hP hD hS 3 0 rfl rfl (k := pb) (x := (v1 / 100)) (by omega) rfl dX0_addPebble_46 (fun H locs hP hD hS => ?_)
    have hz9 : gPD G A [zo0 h0 tt n1 n2 n3 n4 n5 n6 n7 n8 (nI jg) (nI pb) (nI lw), zi G n5 6 (upd fki pb (v0 / 10)), zi G n6 6 (upd fmo pb (iRem v0 10)), zi G n7 6 (upd fsz pb (v1 / 100)), zi G n8 6 frd] H := ⟨hP, hD⟩
    have hP := hz9.1
    have hD := hz9.2
    refine g_aget (D := G.1) (ci := 0) (v := .ref n8) (C := RX0) (T := TX0) (N := 12) hx hb dX0_addPebble_47 rfl (lv_at hl 1 rfl) hts hiX0 hown hK hP 0 rfl rfl 8 (by decide +kernel) kf35 (fun _ h9 => h9) rfl dX0_addPebble_48 ?_
    refine lv_iload_n hx hb dX0_addPebble_51 rfl (lv_at hl 0 rfl) ?_
    refine lv_iload_n hx hb dX0_addPebble_52 rfl (lv_at hl 3 rfl) ?_
    refine lv_bipush (v := 100) hx hb dX0_addPebble_53 (by decide +kernel) ?_
    refine lv_irem hx hb dX0_addPebble_55 (by decide +kernel) ?_
    refine g_topi (y := iRem v1 100) (rfl) ?_
    refine g_iast (D := G.1) hx hb hK hP hD hS 4 0 rfl rfl (k := pb) (x := (iRem v1 100)) (by omega) rfl dX0_addPebble_56 (fun H locs hP hD hS => ?_)
    have hz9 : gPD G A [zo0 h0 tt n1 n2 n3 n4 n5 n6 n7 n8 (nI jg) (nI pb) (nI lw), zi G n5 6 (upd fki pb (v0 / 10)), zi G n6 6 (upd fmo pb (iRem v0 10)), zi G n7 6 (upd fsz pb (v1 / 100)), zi G n8 6 (upd frd pb (iRem v1 100))] H := ⟨hP, hD⟩
    have hP := hz9.1
    have hD := hz9.2
    refine lv_aload_n hx hb dX0_addPebble_57 rfl (lv_at hl 1 rfl) ?_
    refine lv_dup hx hb dX0_addPebble_58 rfl ?_
    refine va_get (D := G.1) (ci := 0) (v := .int (nI pb)) (C := RX0) (T := TX0) (N := 12) hx hb hts hiX0 hown hK hP 0 rfl rfl 10 (by decide +kernel) kf52 (fun _ h9 => h9) rfl dX0_addPebble_59 ?_
    refine lv_iconst (v := 1) hx hb dX0_addPebble_62 (by decide +kernel) ?_
    refine lv_iadd hx hb dX0_addPebble_63 ?_
    refine g_topi (y := nI (pb + 1)) (nI_add pb 1) ?_
    refine va_put (D := G.1) (ci := 0) (v := .int (nI (pb + 1))) (ty := .int) (C := RX0) (T := TX0) (N := 12) hx hb hts hiX0 tyX0 tyX0_ok nmX0 hown hK hP hD hS 0 rfl rfl 10 (by decide +kernel) kf52 (fun _ h9 => h9) rfl (by decide +kernel) rfl rfl (Nat.le_of_ble_eq_true rfl) dX0_addPebble_64 (fun H locs hP hD hS => ?_)
    have hz9 : gPD G A [zo0 h0 tt n1 n2 n3 n4 n5 n6 n7 n8 (nI jg) (nI (pb + 1)) (nI lw), zi G n5 6 (upd fki pb (v0 / 10)), zi G n6 6 (upd fmo pb (iRem v0 10)), zi G n7 6 (upd fsz pb (v1 / 100)), zi G n8 6 (upd frd pb (iRem v1 100))] H := ⟨hP, hD⟩
    have hP := hz9.1
    have hD := hz9.2
    refine lv_iload_n hx hb dX0_addPebble_67 rfl (lv_at hl 0 rfl) ?_
    have q_5 : m_X0_addPebble_h010 pb = pb + 1 := by unfold m_X0_addPebble_h010; rw [if_pos c_1]
    have q_6 : m_X0_addPebble_n5 pb fki v0 = upd fki pb (v0 / 10) := by unfold m_X0_addPebble_n5; rw [if_pos c_1]
    have q_7 : m_X0_addPebble_n6 pb fmo v0 = upd fmo pb (iRem v0 10) := by unfold m_X0_addPebble_n6; rw [if_pos c_1]
    have q_8 : m_X0_addPebble_n7 pb fsz v1 = upd fsz pb (v1 / 100) := by unfold m_X0_addPebble_n7; rw [if_pos c_1]
    have q_9 : m_X0_addPebble_n8 pb frd v1 = upd frd pb (iRem v1 100) := by unfold m_X0_addPebble_n8; rw [if_pos c_1]
    have hz9 : gPD G A [zo0 h0 tt n1 n2 n3 n4 n5 n6 n7 n8 (nI jg) (nI (m_X0_addPebble_h010 pb)) (nI lw), zi G n5 6 (m_X0_addPebble_n5 pb fki v0), zi G n6 6 (m_X0_addPebble_n6 pb fmo v0), zi G n7 6 (m_X0_addPebble_n7 pb fsz v1), zi G n8 6 (m_X0_addPebble_n8 pb frd v1)] H := ⟨by rw [q_5, q_6, q_7, q_8, q_9]; exact hP, by rw [q_5, q_6, q_7, q_8, q_9]; exact hD⟩
    have hP9 := hz9.1
    have hD9 := hz9.2
    have hpost : (fun (r : Int32) (u : Unit) => match u with | _ => r = m_X0_addPebble pb) (nI pb) () := (show m_X0_addPebble pb = (nI pb) from by unfold m_X0_addPebble; rw [if_pos c_1]).symm
    exact W.iret (v := (nI pb)) hx hb hr (fun t ht hW => ⟨⟨(nI pb), (), rfl, hpost, by rw [ht]; exact hP9, va_K.moved hW.alike hK, hD9⟩, hS.F ht⟩) hS.2.2 dX0_addPebble_68
  · skip
    have c_1N : 6 ≤ pb := nI_lt0 (a := pb) (b := 6) (by omega) (by omega) c_1
    refine lv_bipush (v := -4) hx hb dX0_addPebble_9 (by decide +kernel) ?_
    have q_10 : m_X0_addPebble_h010 pb = pb := by unfold m_X0_addPebble_h010; rw [if_neg c_1]
    have q_11 : m_X0_addPebble_n5 pb fki v0 = fki := by unfold m_X0_addPebble_n5; rw [if_neg c_1]
    have q_12 : m_X0_addPebble_n6 pb fmo v0 = fmo := by unfold m_X0_addPebble_n6; rw [if_neg c_1]
    have q_13 : m_X0_addPebble_n7 pb fsz v1 = fsz := by unfold m_X0_addPebble_n7; rw [if_neg c_1]
    have q_14 : m_X0_addPebble_n8 pb frd v1 = frd := by unfold m_X0_addPebble_n8; rw [if_neg c_1]
    have hz9 : gPD G A [zo0 h0 tt n1 n2 n3 n4 n5 n6 n7 n8 (nI jg) (nI (m_X0_addPebble_h010 pb)) (nI lw), zi G n5 6 (m_X0_addPebble_n5 pb fki v0), zi G n6 6 (m_X0_addPebble_n6 pb fmo v0), zi G n7 6 (m_X0_addPebble_n7 pb fsz v1), zi G n8 6 (m_X0_addPebble_n8 pb frd v1)] s.heap := ⟨by rw [q_10, q_11, q_12, q_13, q_14]; exact hP, by rw [q_10, q_11, q_12, q_13, q_14]; exact hD⟩
    have hP9 := hz9.1
    have hD9 := hz9.2
    have hpost : (fun (r : Int32) (u : Unit) => match u with | _ => r = m_X0_addPebble pb) (-4) () := (show m_X0_addPebble pb = (-4) from by unfold m_X0_addPebble; rw [if_neg c_1]).symm
    exact W.iret (v := (-4)) hx hb hr (fun t ht hW => ⟨⟨(-4), (), rfl, hpost, by rw [ht]; exact hP9, va_K.moved hW.alike hK, hD9⟩, hS.F ht⟩) hS.2.2 dX0_addPebble_11
noncomputable def m_X0_says (pt : Nat) (jn : Nat) (pn : Nat) (fso : Nat → Int32) (fmi : Nat → Int32) (fmo : Nat → Int32) (fsz : Nat → Int32) (frd : Nat → Int32) (fct : Nat → Int32) (fet : Nat → Nat) : Int32 := if (nI pt) = 0 then mMax 0 (mMin 99 (mValX fct fet pt (mNm (fsz pn) (frd pn) (fso jn) (fmi jn) (fmo pn) (nI jn)))) else (if (nI pt) = 1 then mMax 0 (mMin 20 (mValX fct fet pt (mNm (fsz pn) (frd pn) (fso jn) (fmi jn) (fmo pn) (nI jn)))) else mMax 0 (mMin 9999 (mValX fct fet pt (mNm (fsz pn) (frd pn) (fso jn) (fmi jn) (fmo pn) (nI jn)))))
abbrev q_X0_says (G : gG) (h0 tt n1 n2 n3 n4 n5 n6 n7 n8 co en sk ct et : Nat) (lw : Nat) (pt : Nat) (jn : Nat) (pn : Nat) (tx : Nat) (xj : Int32) (xb : Int32) (wr : Int32) (fnm : Nat → Int32) (fso : Nat → Int32) (fmi : Nat → Int32) (fmo : Nat → Int32) (fsz : Nat → Int32) (frd : Nat → Int32) (fc : Nat → Option Nat) (fe : Nat → Option Nat) (fct : Nat → Int32) (fet : Nat → Nat) (fsk : Nat → Int32) (A : Nat → Prop) : Array Value → State → Outcome → State → Prop := va_Qi (fun (r : Int32) (u : (Nat → Int32) × (Nat → Int32)) => match u with | (yn1, ysk) => r = m_X0_says pt jn pn fso fmi fmo fsz frd fct fet) (fun (u : (Nat → Int32) × (Nat → Int32)) t => match u with | (yn1, ysk) => va_P G.1 vwCl [zo0 h0 tt n1 n2 n3 n4 n5 n6 n7 n8 xj xb (nI lw), zi G n1 6 yn1, zi G n2 4 fso, zi G n3 4 fmi, zi G n6 6 fmo, zi G n7 6 fsz, zi G n8 6 frd, zo3 tt co en sk wr (nI tx), zr G co 6 fc, zr G en 6 fe, zi G ct 160 fct, zi G et 3 (nF fet), zi G sk 32 ysk] t.heap ∧ gK G t ∧ va_D A [zo0 h0 tt n1 n2 n3 n4 n5 n6 n7 n8 xj xb (nI lw), zi G n1 6 yn1, zi G n2 4 fso, zi G n3 4 fmi, zi G n6 6 fmo, zi G n7 6 fsz, zi G n8 6 frd, zo3 tt co en sk wr (nI tx), zr G co 6 fc, zr G en 6 fe, zi G ct 160 fct, zi G et 3 (nF fet), zi G sk 32 ysk]) A
set_option maxHeartbeats 4000000 in
set_option maxRecDepth 100000 in
theorem c_X0_says (l : Launch) (G : gG) (h0 tt n1 n2 n3 n4 n5 n6 n7 n8 co en sk ct et : Nat) (lw : Nat) (pt : Nat) (jn : Nat) (pn : Nat) (tx : Nat) (xj : Int32) (xb : Int32) (wr : Int32) (fnm : Nat → Int32) (fso : Nat → Int32) (fmi : Nat → Int32) (fmo : Nat → Int32) (fsz : Nat → Int32) (frd : Nat → Int32) (fc : Nat → Option Nat) (fe : Nat → Option Nat) (fct : Nat → Int32) (fet : Nat → Nat) (fsk : Nat → Int32) (sz : Nat) (hpt : pt < 3) (hj : jn < 4) (hp : pn < 6) (htn : lw < tx ∧ tx ≤ 6) (hc : fc lw = some ct) (he : fe lw = some et) (hwx : mWx fct fet) : Met l yX0_says wsX0_says ({ frames := 2, cells := 0, slots := 0, locals := 60 }) (gPre G [.ref h0, .int (nI pt), .int (nI jn), .int (nI pn)] [zo0 h0 tt n1 n2 n3 n4 n5 n6 n7 n8 xj xb (nI lw), zi G n1 6 fnm, zi G n2 4 fso, zi G n3 4 fmi, zi G n6 6 fmo, zi G n7 6 fsz, zi G n8 6 frd, zo3 tt co en sk wr (nI tx), zr G co 6 fc, zr G en 6 fe, zi G ct 160 fct, zi G et 3 (nF fet), zi G sk 32 fsk] sz) (q_X0_says G h0 tt n1 n2 n3 n4 n5 n6 n7 n8 co en sk ct et lw pt jn pn tx xj xb wr fnm fso fmi fmo fsz frd fc fe fct fet fsk (va_A [zo0 h0 tt n1 n2 n3 n4 n5 n6 n7 n8 xj xb (nI lw), zi G n1 6 fnm, zi G n2 4 fso, zi G n3 4 fmi, zi G n6 6 fmo, zi G n7 6 fsz, zi G n8 6 frd, zo3 tt co en sk wr (nI tx), zr G co 6 fc, zr G en 6 fe, zi G ct 160 fct, zi G et 3 (nF fet), zi G sk 32 fsk] sz)) 0 0 (va_A [zo0 h0 tt n1 n2 n3 n4 n5 n6 n7 n8 xj xb (nI lw), zi G n1 6 fnm, zi G n2 4 fso, zi G n3 4 fmi, zi G n6 6 fmo, zi G n7 6 fsz, zi G n8 6 frd, zo3 tt co en sk wr (nI tx), zr G co 6 fc, zr G en 6 fe, zi G ct 160 fct, zi G et 3 (nF fet), zi G sk 32 fsk] sz) := by
  refine Met.ofW (cc := cX0_says) (maxL := 5) (ret := (some .int)) (by decide +kernel) rfl ?_
  intro p e s m args below meth c s₁ B hml hv
  obtain ⟨rfl, hsz, hP, hK, hD0⟩ := hv
  have hx := B.exec
  have hb := B.bytes
  have hr := B.returns
  have hts := atoms_spec (ws := wsX0_says) B.pre
  have hown : s.vm.findClass RX0 = some m.cls := findClass_of_methodNamed B.named
  have hlocks := B.notSynchronized
  subst hsz
  have hD := hD0.self (sz := s.heap.size)
  generalize hAe : va_A [zo0 h0 tt n1 n2 n3 n4 n5 n6 n7 n8 xj xb (nI lw), zi G n1 6 fnm, zi G n2 4 fso, zi G n3 4 fmi, zi G n6 6 fmo, zi G n7 6 fsz, zi G n8 6 frd, zo3 tt co en sk wr (nI tx), zr G co 6 fc, zr G en 6 fe, zi G ct 160 fct, zi G et 3 (nF fet), zi G sk 32 fsk] s.heap.size = A at hD ⊢
  have hA : ∀ q : Nat, s.heap.size ≤ q → A q := fun q h => by rw [← hAe]; exact Or.inr h
  have hS : va_S A s.heap s.heap [] := va_S.rf
  have hz9 : gPD G A [zo0 h0 tt n1 n2 n3 n4 n5 n6 n7 n8 xj xb (nI lw), zi G n1 6 fnm, zi G n2 4 fso, zi G n3 4 fmi, zi G n6 6 fmo, zi G n7 6 fsz, zi G n8 6 frd, zo3 tt co en sk wr (nI tx), zr G co 6 fc, zr G en 6 fe, zi G ct 160 fct, zi G et 3 (nF fet), zi G sk 32 fsk] s.heap := ⟨hP, hD⟩
  have hP := hz9.1
  have hD := hz9.2
  have hl := lv_entry ([.ref h0, .int (nI pt), .int (nI jn), .int (nI pn)]) (n := 5) (Nat.le_of_ble_eq_true rfl)
  rw [lg_entry_eq]
  generalize (lg_sl ([.ref h0, .int (nI pt), .int (nI jn), .int (nI pn)]) ++ List.replicate (5 - (lg_sl ([.ref h0, .int (nI pt), .int (nI jn), .int (nI pn)])).length) Slot.unset).toArray = ls at hl ⊢
  have hl : lv_has ls 5 [zR 0 h0, zI 1 (nI pt), zI 2 (nI jn), zI 3 (nI pn)] := hl
  have kf11 := hts (.fieldLink RX0 11 "PebbleInShoe$Court" "names" "[I") (by decide +kernel)
  have hiX0 := (by decide +kernel : ∀ w ∈ wsX00, w ∈ wsX0_says)
  have kf32 := hts (.fieldLink RX0 32 "PebbleInShoe$Court" "size" "[I") (by decide +kernel)
  have kf35 := hts (.fieldLink RX0 35 "PebbleInShoe$Court" "round" "[I") (by decide +kernel)
  have kf17 := hts (.fieldLink RX0 17 "PebbleInShoe$Court" "soles" "[I") (by decide +kernel)
  have kf20 := hts (.fieldLink RX0 20 "PebbleInShoe$Court" "miles" "[I") (by decide +kernel)
  have kf29 := hts (.fieldLink RX0 29 "PebbleInShoe$Court" "more" "[I") (by decide +kernel)
  have kf38 := hts (.fieldLink RX0 38 "PebbleInShoe$Court" "texts" "LPebbleInShoe$Texts;") (by decide +kernel)
  have kf55 := hts (.fieldLink RX0 55 "PebbleInShoe$Court" "law" "I") (by decide +kernel)
  refine g_aget (D := G.1) (ci := 0) (v := .ref n1) (C := RX0) (T := TX0) (N := 12) hx hb dX0_says_0 rfl (lv_at hl 0 rfl) hts hiX0 hown hK hP 0 rfl rfl 1 (by decide +kernel) kf11 (fun _ h9 => h9) rfl dX0_says_1 ?_
  refine lv_iconst (v := 0) hx hb dX0_says_4 (by decide +kernel) ?_
  refine g_aget (D := G.1) (ci := 0) (v := .ref n7) (C := RX0) (T := TX0) (N := 12) hx hb dX0_says_5 rfl (lv_at hl 0 rfl) hts hiX0 hown hK hP 0 rfl rfl 7 (by decide +kernel) kf32 (fun _ h9 => h9) rfl dX0_says_6 ?_
  refine lv_iload_n hx hb dX0_says_9 rfl (lv_at hl 3 rfl) ?_
  refine g_iald (D := G.1) hx hb hK hP 5 0 rfl rfl (k := pn) (y := fsz pn) (by omega) rfl rfl dX0_says_10 ?_
  refine va_iast (D := G.1) hx hb hK hP hD hS 1 0 rfl rfl (i := 0) (x := (fsz pn)) (gIn (by decide +kernel)) dX0_says_11 (fun H locs hP hD hS => ?_)
  have hz9 : gPD G A [zo0 h0 tt n1 n2 n3 n4 n5 n6 n7 n8 xj xb (nI lw), zi G n1 6 (upd fnm 0 (fsz pn)), zi G n2 4 fso, zi G n3 4 fmi, zi G n6 6 fmo, zi G n7 6 fsz, zi G n8 6 frd, zo3 tt co en sk wr (nI tx), zr G co 6 fc, zr G en 6 fe, zi G ct 160 fct, zi G et 3 (nF fet), zi G sk 32 fsk] H := ⟨hP, hD⟩
  have hP := hz9.1
  have hD := hz9.2
  refine g_aget (D := G.1) (ci := 0) (v := .ref n1) (C := RX0) (T := TX0) (N := 12) hx hb dX0_says_12 rfl (lv_at hl 0 rfl) hts hiX0 hown hK hP 0 rfl rfl 1 (by decide +kernel) kf11 (fun _ h9 => h9) rfl dX0_says_13 ?_
  refine lv_iconst (v := 1) hx hb dX0_says_16 (by decide +kernel) ?_
  refine g_aget (D := G.1) (ci := 0) (v := .ref n8) (C := RX0) (T := TX0) (N := 12) hx hb dX0_says_17 rfl (lv_at hl 0 rfl) hts hiX0 hown hK hP 0 rfl rfl 8 (by decide +kernel) kf35 (fun _ h9 => h9) rfl dX0_says_18 ?_
  refine lv_iload_n hx hb dX0_says_21 rfl (lv_at hl 3 rfl) ?_
  refine g_iald (D := G.1) hx hb hK hP 6 0 rfl rfl (k := pn) (y := frd pn) (by omega) rfl rfl dX0_says_22 ?_
  refine va_iast (D := G.1) hx hb hK hP hD hS 1 0 rfl rfl (i := 1) (x := (frd pn)) (gIn (by decide +kernel)) dX0_says_23 (fun H locs hP hD hS => ?_)
  have hz9 : gPD G A [zo0 h0 tt n1 n2 n3 n4 n5 n6 n7 n8 xj xb (nI lw), zi G n1 6 (upd (upd fnm 0 (fsz pn)) 1 (frd pn)), zi G n2 4 fso, zi G n3 4 fmi, zi G n6 6 fmo, zi G n7 6 fsz, zi G n8 6 frd, zo3 tt co en sk wr (nI tx), zr G co 6 fc, zr G en 6 fe, zi G ct 160 fct, zi G et 3 (nF fet), zi G sk 32 fsk] H := ⟨hP, hD⟩
  have hP := hz9.1
  have hD := hz9.2
  refine g_aget (D := G.1) (ci := 0) (v := .ref n1) (C := RX0) (T := TX0) (N := 12) hx hb dX0_says_24 rfl (lv_at hl 0 rfl) hts hiX0 hown hK hP 0 rfl rfl 1 (by decide +kernel) kf11 (fun _ h9 => h9) rfl dX0_says_25 ?_
  refine lv_iconst (v := 2) hx hb dX0_says_28 (by decide +kernel) ?_
  refine g_aget (D := G.1) (ci := 0) (v := .ref n2) (C := RX0) (T := TX0) (N := 12) hx hb dX0_says_29 rfl (lv_at hl 0 rfl) hts hiX0 hown hK hP 0 rfl rfl 2 (by decide +kernel) kf17 (fun _ h9 => h9) rfl dX0_says_30 ?_
  refine lv_iload_n hx hb dX0_says_33 rfl (lv_at hl 2 rfl) ?_
  refine g_iald (D := G.1) hx hb hK hP 2 0 rfl rfl (k := jn) (y := fso jn) (by omega) rfl rfl dX0_says_34 ?_
  refine va_iast (D := G.1) hx hb hK hP hD hS 1 0 rfl rfl (i := 2) (x := (fso jn)) (gIn (by decide +kernel)) dX0_says_35 (fun H locs hP hD hS => ?_)
  have hz9 : gPD G A [zo0 h0 tt n1 n2 n3 n4 n5 n6 n7 n8 xj xb (nI lw), zi G n1 6 (upd (upd (upd fnm 0 (fsz pn)) 1 (frd pn)) 2 (fso jn)), zi G n2 4 fso, zi G n3 4 fmi, zi G n6 6 fmo, zi G n7 6 fsz, zi G n8 6 frd, zo3 tt co en sk wr (nI tx), zr G co 6 fc, zr G en 6 fe, zi G ct 160 fct, zi G et 3 (nF fet), zi G sk 32 fsk] H := ⟨hP, hD⟩
  have hP := hz9.1
  have hD := hz9.2
  refine g_aget (D := G.1) (ci := 0) (v := .ref n1) (C := RX0) (T := TX0) (N := 12) hx hb dX0_says_36 rfl (lv_at hl 0 rfl) hts hiX0 hown hK hP 0 rfl rfl 1 (by decide +kernel) kf11 (fun _ h9 => h9) rfl dX0_says_37 ?_
  refine lv_iconst (v := 3) hx hb dX0_says_40 (by decide +kernel) ?_
  refine g_aget (D := G.1) (ci := 0) (v := .ref n3) (C := RX0) (T := TX0) (N := 12) hx hb dX0_says_41 rfl (lv_at hl 0 rfl) hts hiX0 hown hK hP 0 rfl rfl 3 (by decide +kernel) kf20 (fun _ h9 => h9) rfl dX0_says_42 ?_
  refine lv_iload_n hx hb dX0_says_45 rfl (lv_at hl 2 rfl) ?_
  refine g_iald (D := G.1) hx hb hK hP 3 0 rfl rfl (k := jn) (y := fmi jn) (by omega) rfl rfl dX0_says_46 ?_
  refine va_iast (D := G.1) hx hb hK hP hD hS 1 0 rfl rfl (i := 3) (x := (fmi jn)) (gIn (by decide +kernel)) dX0_says_47 (fun H locs hP hD hS => ?_)
  have hz9 : gPD G A [zo0 h0 tt n1 n2 n3 n4 n5 n6 n7 n8 xj xb (nI lw), zi G n1 6 (upd (upd (upd (upd fnm 0 (fsz pn)) 1 (frd pn)) 2 (fso jn)) 3 (fmi jn)), zi G n2 4 fso, zi G n3 4 fmi, zi G n6 6 fmo, zi G n7 6 fsz, zi G n8 6 frd, zo3 tt co en sk wr (nI tx), zr G co 6 fc, zr G en 6 fe, zi G ct 160 fct, zi G et 3 (nF fet), zi G sk 32 fsk] H := ⟨hP, hD⟩
  have hP := hz9.1
  have hD := hz9.2
  refine g_aget (D := G.1) (ci := 0) (v := .ref n1) (C := RX0) (T := TX0) (N := 12) hx hb dX0_says_48 rfl (lv_at hl 0 rfl) hts hiX0 hown hK hP 0 rfl rfl 1 (by decide +kernel) kf11 (fun _ h9 => h9) rfl dX0_says_49 ?_
  refine lv_iconst (v := 4) hx hb dX0_says_52 (by decide +kernel) ?_
  refine g_aget (D := G.1) (ci := 0) (v := .ref n6) (C := RX0) (T := TX0) (N := 12) hx hb dX0_says_53 rfl (lv_at hl 0 rfl) hts hiX0 hown hK hP 0 rfl rfl 6 (by decide +kernel) kf29 (fun _ h9 => h9) rfl dX0_says_54 ?_
  refine lv_iload_n hx hb dX0_says_57 rfl (lv_at hl 3 rfl) ?_
  refine g_iald (D := G.1) hx hb hK hP 4 0 rfl rfl (k := pn) (y := fmo pn) (by omega) rfl rfl dX0_says_58 ?_
  refine va_iast (D := G.1) hx hb hK hP hD hS 1 0 rfl rfl (i := 4) (x := (fmo pn)) (gIn (by decide +kernel)) dX0_says_59 (fun H locs hP hD hS => ?_)
  have hz9 : gPD G A [zo0 h0 tt n1 n2 n3 n4 n5 n6 n7 n8 xj xb (nI lw), zi G n1 6 (upd (upd (upd (upd (upd fnm 0 (fsz pn)) 1 (frd pn)) 2 (fso jn)) 3 (fmi jn)) 4 (fmo pn)), zi G n2 4 fso, zi G n3 4 fmi, zi G n6 6 fmo, zi G n7 6 fsz, zi G n8 6 frd, zo3 tt co en sk wr (nI tx), zr G co 6 fc, zr G en 6 fe, zi G ct 160 fct, zi G et 3 (nF fet), zi G sk 32 fsk] H := ⟨hP, hD⟩
  have hP := hz9.1
  have hD := hz9.2
  refine g_aget (D := G.1) (ci := 0) (v := .ref n1) (C := RX0) (T := TX0) (N := 12) hx hb dX0_says_60 rfl (lv_at hl 0 rfl) hts hiX0 hown hK hP 0 rfl rfl 1 (by decide +kernel) kf11 (fun _ h9 => h9) rfl dX0_says_61 ?_
  refine lv_iconst (v := 5) hx hb dX0_says_64 (by decide +kernel) ?_
  refine lv_iload_n hx hb dX0_says_65 rfl (lv_at hl 2 rfl) ?_
  refine va_iast (D := G.1) hx hb hK hP hD hS 1 0 rfl rfl (i := 5) (x := (nI jn)) (gIn (by decide +kernel)) dX0_says_66 (fun H locs hP hD hS => ?_)
  have hz9 : gPD G A [zo0 h0 tt n1 n2 n3 n4 n5 n6 n7 n8 xj xb (nI lw), zi G n1 6 (upd (upd (upd (upd (upd (upd fnm 0 (fsz pn)) 1 (frd pn)) 2 (fso jn)) 3 (fmi jn)) 4 (fmo pn)) 5 (nI jn)), zi G n2 4 fso, zi G n3 4 fmi, zi G n6 6 fmo, zi G n7 6 fsz, zi G n8 6 frd, zo3 tt co en sk wr (nI tx), zr G co 6 fc, zr G en 6 fe, zi G ct 160 fct, zi G et 3 (nF fet), zi G sk 32 fsk] H := ⟨hP, hD⟩
  have hP := hz9.1
  have hD := hz9.2
  refine lv_iload_n hx hb dX0_says_67 rfl (lv_at hl 1 rfl) ?_
  refine lv_if_ne (tgt := 76) hx hb dX0_says_68 (by decide +kernel) (fun c_6 => ?_) (fun c_6 => ?_)
  · skip
    have c_6N : ¬ pt = 0 := nI_eq0 (a := pt) (b := 0) (by omega) (by omega) c_6
    refine lv_iload_n hx hb dX0_says_76 rfl (lv_at hl 1 rfl) ?_
    refine lv_iconst (v := 1) hx hb dX0_says_77 (by decide +kernel) ?_
    refine lv_icmp_ne (tgt := 86) hx hb dX0_says_78 (by decide +kernel) (fun c_7 => ?_) (fun c_7 => ?_)
    · skip
      have c_7N : ¬ pt = 1 := nI_eq0 (a := pt) (b := 1) (by omega) (by omega) c_7
      refine lv_sipush (v := 9999) hx hb dX0_says_86 (by decide +kernel) ?_
      refine lv_istore (lv' := [zI 4 9999, zR 0 h0, zI 1 (nI pt), zI 2 (nI jn), zI 3 (nI pn)]) hx hb dX0_says_89 hl (by decide +kernel) rfl (fun ls hl => ?_)
      refine lv_iconst (v := 0) hx hb dX0_says_91 (by decide +kernel) ?_
      refine lv_iload hx hb dX0_says_92 (lv_at hl 0 rfl) ?_
      refine g_aget (D := G.1) (ci := 0) (v := .ref tt) (C := RX0) (T := TX0) (N := 12) hx hb dX0_says_94 rfl (lv_at hl 1 rfl) hts hiX0 hown hK hP 0 rfl rfl 0 (by decide +kernel) kf38 (fun _ h9 => h9) rfl dX0_says_95 ?_
      refine g_aget (D := G.1) (ci := 0) (v := .int (nI lw)) (C := RX0) (T := TX0) (N := 12) hx hb dX0_says_98 rfl (lv_at hl 1 rfl) hts hiX0 hown hK hP 0 rfl rfl 11 (by decide +kernel) kf55 (fun _ h9 => h9) rfl dX0_says_99 ?_
      refine lv_iload_n hx hb dX0_says_102 rfl (lv_at hl 2 rfl) ?_
      refine g_aget (D := G.1) (ci := 0) (v := .ref n1) (C := RX0) (T := TX0) (N := 12) hx hb dX0_says_103 rfl (lv_at hl 1 rfl) hts hiX0 hown hK hP 0 rfl rfl 1 (by decide +kernel) kf11 (fun _ h9 => h9) rfl dX0_says_104 ?_
      refine z_callp [7, 8, 9, 10, 11, 12, 1] (va_runV (As := [.int (nI lw), .int (nI pt), .ref n1]) (rest := [.int 9999, .int 0]) ⟨hx, hb, hml, hown, hts⟩ (c_X3_value l G tt co en sk ct et n1 tx lw pt wr fc fe fct fet fsk (upd (upd (upd (upd (upd (upd fnm 0 (fsz pn)) 1 (frd pn)) 2 (fso jn)) 3 (fmi jn)) 4 (fmo pn)) 5 (nI jn)) H.size (htn) (hpt) (hc) (he) (hwx)) (cwV 3 hts gX0_says_X3_value rfl rfl rfl (by decide +kernel) ⟨Nat.le_of_ble_eq_true rfl, Nat.le_of_ble_eq_true rfl⟩) ⟨gPre_blind, va_recv (q := (RX3, TX3, 5)) hK hP (ci := 3) (q0 := 7) rfl rfl, fun U hU hW => gPre_ofF [7, 8, 9, 10, 11, 12, 1] hU hW hK hP hD (by decide +kernel) rfl⟩ rfl rfl hl.1 rfl (lv_room (Nat.le_of_ble_eq_true rfl)) dX0_says_107 ⟨Nat.le_of_ble_eq_true rfl, Nat.le_of_ble_eq_true rfl⟩) hS hD hA rfl (fun r_8 u t H locs ht hvm w_9 hB hz1 hk1 hFq hAq hS => ?_)
      obtain ⟨ysk_10, rfl⟩ : ∃ z, z = u := ⟨_, rfl⟩
      obtain ⟨hP1, hK1, hD1⟩ := hB
      have w_9 : r_8 = mValX fct fet pt (upd (upd (upd (upd (upd (upd fnm 0 (fsz pn)) 1 (frd pn)) 2 (fso jn)) 3 (fmi jn)) 4 (fmo pn)) 5 (nI jn)) := w_9
      have hz9 : gPD G A [zo0 h0 tt n1 n2 n3 n4 n5 n6 n7 n8 xj xb (nI lw), zi G n1 6 (upd (upd (upd (upd (upd (upd fnm 0 (fsz pn)) 1 (frd pn)) 2 (fso jn)) 3 (fmi jn)) 4 (fmo pn)) 5 (nI jn)), zi G n2 4 fso, zi G n3 4 fmi, zi G n6 6 fmo, zi G n7 6 fsz, zi G n8 6 frd, zo3 tt co en sk wr (nI tx), zr G co 6 fc, zr G en 6 fe, zi G ct 160 fct, zi G et 3 (nF fet), zi G sk 32 ysk_10] H := zFill hP hD [7, 8, 9, 10, 11, 12, 1] [0, 7, 0, 0, 0, 0, 0, 1, 2, 3, 4, 5, 6] hAq hk1 hFq ht hP1 hD1 rfl (by decide +kernel)
      have hP := hz9.1
      have hD := hz9.2
      have w_9 : r_8 = mValX fct fet pt (mNm (fsz pn) (frd pn) (fso jn) (fmi jn) (fmo pn) (nI jn)) := w_9.trans (mValX_nm hwx hpt (fun i hi => mNm_of hi))
      subst w_9
      refine va_mmin hx hb (by rw [hml]; exact hl.1.symm) hown (hts (.methodLink RX0 71 Lib.Math.min.name) (by decide +kernel)) (hts (.static Lib.Math.min.name) (by decide +kernel)) (hts (.initialized "java/lang/Math") (by decide +kernel)) (hts (.code Lib.Math.min.name Lib.Math.min.code 2 (some .int)) (by decide +kernel)) (Nat.le_of_ble_eq_true rfl) (Nat.le_of_ble_eq_true rfl) (Nat.le_of_ble_eq_true rfl) (Nat.le_of_ble_eq_true rfl) dX0_says_110 ?_
      refine g_topi (y := mMin 9999 (mValX fct fet pt (mNm (fsz pn) (frd pn) (fso jn) (fmi jn) (fmo pn) (nI jn)))) rfl ?_
      refine va_mmax hx hb (by rw [hml]; exact hl.1.symm) hown (hts (.methodLink RX0 77 Lib.Math.max.name) (by decide +kernel)) (hts (.static Lib.Math.max.name) (by decide +kernel)) (hts (.initialized "java/lang/Math") (by decide +kernel)) (hts (.code Lib.Math.max.name Lib.Math.max.code 2 (some .int)) (by decide +kernel)) (Nat.le_of_ble_eq_true rfl) (Nat.le_of_ble_eq_true rfl) (Nat.le_of_ble_eq_true rfl) (Nat.le_of_ble_eq_true rfl) dX0_says_113 ?_
      refine g_topi (y := mMax 0 (mMin 9999 (mValX fct fet pt (mNm (fsz pn) (frd pn) (fso jn) (fmi jn) (fmo pn) (nI jn))))) rfl ?_
      have hpost : (fun (r : Int32) (u : (Nat → Int32) × (Nat → Int32)) => match u with | (yn1, ysk) => r = m_X0_says pt jn pn fso fmi fmo fsz frd fct fet) (mMax 0 (mMin 9999 (mValX fct fet pt (mNm (fsz pn) (frd pn) (fso jn) (fmi jn) (fmo pn) (nI jn))))) ((upd (upd (upd (upd (upd (upd fnm 0 (fsz pn)) 1 (frd pn)) 2 (fso jn)) 3 (fmi jn)) 4 (fmo pn)) 5 (nI jn)), ysk_10) := (show m_X0_says pt jn pn fso fmi fmo fsz frd fct fet = (mMax 0 (mMin 9999 (mValX fct fet pt (mNm (fsz pn) (frd pn) (fso jn) (fmi jn) (fmo pn) (nI jn))))) from by unfold m_X0_says; rw [if_neg c_6, if_neg c_7]).symm
      exact W.iret (v := (mMax 0 (mMin 9999 (mValX fct fet pt (mNm (fsz pn) (frd pn) (fso jn) (fmi jn) (fmo pn) (nI jn)))))) hx hb hr (fun t ht hW => ⟨⟨(mMax 0 (mMin 9999 (mValX fct fet pt (mNm (fsz pn) (frd pn) (fso jn) (fmi jn) (fmo pn) (nI jn))))), ((upd (upd (upd (upd (upd (upd fnm 0 (fsz pn)) 1 (frd pn)) 2 (fso jn)) 3 (fmi jn)) 4 (fmo pn)) 5 (nI jn)), ysk_10), rfl, hpost, by rw [ht]; exact hP, va_K.moved hW.alike hK, hD⟩, hS.F ht⟩) hS.2.2 dX0_says_116
    · skip
      have c_7N : pt = 1 := nI_eq1 (a := pt) (b := 1) (by omega) (by omega) c_7
      refine lv_bipush (v := 20) hx hb dX0_says_81 (by decide +kernel) ?_
      refine lv_goto (tgt := 89) hx hb dX0_says_83 (by decide +kernel) ?_
      refine lv_istore (lv' := [zI 4 20, zR 0 h0, zI 1 (nI pt), zI 2 (nI jn), zI 3 (nI pn)]) hx hb dX0_says_89 hl (by decide +kernel) rfl (fun ls hl => ?_)
      refine lv_iconst (v := 0) hx hb dX0_says_91 (by decide +kernel) ?_
      refine lv_iload hx hb dX0_says_92 (lv_at hl 0 rfl) ?_
      refine g_aget (D := G.1) (ci := 0) (v := .ref tt) (C := RX0) (T := TX0) (N := 12) hx hb dX0_says_94 rfl (lv_at hl 1 rfl) hts hiX0 hown hK hP 0 rfl rfl 0 (by decide +kernel) kf38 (fun _ h9 => h9) rfl dX0_says_95 ?_
      refine g_aget (D := G.1) (ci := 0) (v := .int (nI lw)) (C := RX0) (T := TX0) (N := 12) hx hb dX0_says_98 rfl (lv_at hl 1 rfl) hts hiX0 hown hK hP 0 rfl rfl 11 (by decide +kernel) kf55 (fun _ h9 => h9) rfl dX0_says_99 ?_
      refine lv_iload_n hx hb dX0_says_102 rfl (lv_at hl 2 rfl) ?_
      refine g_aget (D := G.1) (ci := 0) (v := .ref n1) (C := RX0) (T := TX0) (N := 12) hx hb dX0_says_103 rfl (lv_at hl 1 rfl) hts hiX0 hown hK hP 0 rfl rfl 1 (by decide +kernel) kf11 (fun _ h9 => h9) rfl dX0_says_104 ?_
      refine z_callp [7, 8, 9, 10, 11, 12, 1] (va_runV (As := [.int (nI lw), .int (nI pt), .ref n1]) (rest := [.int 20, .int 0]) ⟨hx, hb, hml, hown, hts⟩ (c_X3_value l G tt co en sk ct et n1 tx lw pt wr fc fe fct fet fsk (upd (upd (upd (upd (upd (upd fnm 0 (fsz pn)) 1 (frd pn)) 2 (fso jn)) 3 (fmi jn)) 4 (fmo pn)) 5 (nI jn)) H.size (htn) (hpt) (hc) (he) (hwx)) (cwV 3 hts gX0_says_X3_value rfl rfl rfl (by decide +kernel) ⟨Nat.le_of_ble_eq_true rfl, Nat.le_of_ble_eq_true rfl⟩) ⟨gPre_blind, va_recv (q := (RX3, TX3, 5)) hK hP (ci := 3) (q0 := 7) rfl rfl, fun U hU hW => gPre_ofF [7, 8, 9, 10, 11, 12, 1] hU hW hK hP hD (by decide +kernel) rfl⟩ rfl rfl hl.1 rfl (lv_room (Nat.le_of_ble_eq_true rfl)) dX0_says_107 ⟨Nat.le_of_ble_eq_true rfl, Nat.le_of_ble_eq_true rfl⟩) hS hD hA rfl (fun r_13 u t H locs ht hvm w_14 hB hz1 hk1 hFq hAq hS => ?_)
      obtain ⟨ysk_15, rfl⟩ : ∃ z, z = u := ⟨_, rfl⟩
      obtain ⟨hP1, hK1, hD1⟩ := hB
      have w_14 : r_13 = mValX fct fet pt (upd (upd (upd (upd (upd (upd fnm 0 (fsz pn)) 1 (frd pn)) 2 (fso jn)) 3 (fmi jn)) 4 (fmo pn)) 5 (nI jn)) := w_14
      have hz9 : gPD G A [zo0 h0 tt n1 n2 n3 n4 n5 n6 n7 n8 xj xb (nI lw), zi G n1 6 (upd (upd (upd (upd (upd (upd fnm 0 (fsz pn)) 1 (frd pn)) 2 (fso jn)) 3 (fmi jn)) 4 (fmo pn)) 5 (nI jn)), zi G n2 4 fso, zi G n3 4 fmi, zi G n6 6 fmo, zi G n7 6 fsz, zi G n8 6 frd, zo3 tt co en sk wr (nI tx), zr G co 6 fc, zr G en 6 fe, zi G ct 160 fct, zi G et 3 (nF fet), zi G sk 32 ysk_15] H := zFill hP hD [7, 8, 9, 10, 11, 12, 1] [0, 7, 0, 0, 0, 0, 0, 1, 2, 3, 4, 5, 6] hAq hk1 hFq ht hP1 hD1 rfl (by decide +kernel)
      have hP := hz9.1
      have hD := hz9.2
      have w_14 : r_13 = mValX fct fet pt (mNm (fsz pn) (frd pn) (fso jn) (fmi jn) (fmo pn) (nI jn)) := w_14.trans (mValX_nm hwx hpt (fun i hi => mNm_of hi))
      subst w_14
      refine va_mmin hx hb (by rw [hml]; exact hl.1.symm) hown (hts (.methodLink RX0 71 Lib.Math.min.name) (by decide +kernel)) (hts (.static Lib.Math.min.name) (by decide +kernel)) (hts (.initialized "java/lang/Math") (by decide +kernel)) (hts (.code Lib.Math.min.name Lib.Math.min.code 2 (some .int)) (by decide +kernel)) (Nat.le_of_ble_eq_true rfl) (Nat.le_of_ble_eq_true rfl) (Nat.le_of_ble_eq_true rfl) (Nat.le_of_ble_eq_true rfl) dX0_says_110 ?_
      refine g_topi (y := mMin 20 (mValX fct fet pt (mNm (fsz pn) (frd pn) (fso jn) (fmi jn) (fmo pn) (nI jn)))) rfl ?_
      refine va_mmax hx hb (by rw [hml]; exact hl.1.symm) hown (hts (.methodLink RX0 77 Lib.Math.max.name) (by decide +kernel)) (hts (.static Lib.Math.max.name) (by decide +kernel)) (hts (.initialized "java/lang/Math") (by decide +kernel)) (hts (.code Lib.Math.max.name Lib.Math.max.code 2 (some .int)) (by decide +kernel)) (Nat.le_of_ble_eq_true rfl) (Nat.le_of_ble_eq_true rfl) (Nat.le_of_ble_eq_true rfl) (Nat.le_of_ble_eq_true rfl) dX0_says_113 ?_
      refine g_topi (y := mMax 0 (mMin 20 (mValX fct fet pt (mNm (fsz pn) (frd pn) (fso jn) (fmi jn) (fmo pn) (nI jn))))) rfl ?_
      have hpost : (fun (r : Int32) (u : (Nat → Int32) × (Nat → Int32)) => match u with | (yn1, ysk) => r = m_X0_says pt jn pn fso fmi fmo fsz frd fct fet) (mMax 0 (mMin 20 (mValX fct fet pt (mNm (fsz pn) (frd pn) (fso jn) (fmi jn) (fmo pn) (nI jn))))) ((upd (upd (upd (upd (upd (upd fnm 0 (fsz pn)) 1 (frd pn)) 2 (fso jn)) 3 (fmi jn)) 4 (fmo pn)) 5 (nI jn)), ysk_15) := (show m_X0_says pt jn pn fso fmi fmo fsz frd fct fet = (mMax 0 (mMin 20 (mValX fct fet pt (mNm (fsz pn) (frd pn) (fso jn) (fmi jn) (fmo pn) (nI jn))))) from by unfold m_X0_says; rw [if_neg c_6, if_pos c_7]).symm
      exact W.iret (v := (mMax 0 (mMin 20 (mValX fct fet pt (mNm (fsz pn) (frd pn) (fso jn) (fmi jn) (fmo pn) (nI jn)))))) hx hb hr (fun t ht hW => ⟨⟨(mMax 0 (mMin 20 (mValX fct fet pt (mNm (fsz pn) (frd pn) (fso jn) (fmi jn) (fmo pn) (nI jn))))), ((upd (upd (upd (upd (upd (upd fnm 0 (fsz pn)) 1 (frd pn)) 2 (fso jn)) 3 (fmi jn)) 4 (fmo pn)) 5 (nI jn)), ysk_15), rfl, hpost, by rw [ht]; exact hP, va_K.moved hW.alike hK, hD⟩, hS.F ht⟩) hS.2.2 dX0_says_116
  · skip
    have c_6N : pt = 0 := nI_eq1 (a := pt) (b := 0) (by omega) (by omega) c_6
    refine lv_bipush (v := 99) hx hb dX0_says_71 (by decide +kernel) ?_
    refine lv_goto (tgt := 89) hx hb dX0_says_73 (by decide +kernel) ?_
    refine lv_istore (lv' := [zI 4 99, zR 0 h0, zI 1 (nI pt), zI 2 (nI jn), zI 3 (nI pn)]) hx hb dX0_says_89 hl (by decide +kernel) rfl (fun ls hl => ?_)
    refine lv_iconst (v := 0) hx hb dX0_says_91 (by decide +kernel) ?_
    refine lv_iload hx hb dX0_says_92 (lv_at hl 0 rfl) ?_
    refine g_aget (D := G.1) (ci := 0) (v := .ref tt) (C := RX0) (T := TX0) (N := 12) hx hb dX0_says_94 rfl (lv_at hl 1 rfl) hts hiX0 hown hK hP 0 rfl rfl 0 (by decide +kernel) kf38 (fun _ h9 => h9) rfl dX0_says_95 ?_
    refine g_aget (D := G.1) (ci := 0) (v := .int (nI lw)) (C := RX0) (T := TX0) (N := 12) hx hb dX0_says_98 rfl (lv_at hl 1 rfl) hts hiX0 hown hK hP 0 rfl rfl 11 (by decide +kernel) kf55 (fun _ h9 => h9) rfl dX0_says_99 ?_
    refine lv_iload_n hx hb dX0_says_102 rfl (lv_at hl 2 rfl) ?_
    refine g_aget (D := G.1) (ci := 0) (v := .ref n1) (C := RX0) (T := TX0) (N := 12) hx hb dX0_says_103 rfl (lv_at hl 1 rfl) hts hiX0 hown hK hP 0 rfl rfl 1 (by decide +kernel) kf11 (fun _ h9 => h9) rfl dX0_says_104 ?_
    refine z_callp [7, 8, 9, 10, 11, 12, 1] (va_runV (As := [.int (nI lw), .int (nI pt), .ref n1]) (rest := [.int 99, .int 0]) ⟨hx, hb, hml, hown, hts⟩ (c_X3_value l G tt co en sk ct et n1 tx lw pt wr fc fe fct fet fsk (upd (upd (upd (upd (upd (upd fnm 0 (fsz pn)) 1 (frd pn)) 2 (fso jn)) 3 (fmi jn)) 4 (fmo pn)) 5 (nI jn)) H.size (htn) (hpt) (hc) (he) (hwx)) (cwV 3 hts gX0_says_X3_value rfl rfl rfl (by decide +kernel) ⟨Nat.le_of_ble_eq_true rfl, Nat.le_of_ble_eq_true rfl⟩) ⟨gPre_blind, va_recv (q := (RX3, TX3, 5)) hK hP (ci := 3) (q0 := 7) rfl rfl, fun U hU hW => gPre_ofF [7, 8, 9, 10, 11, 12, 1] hU hW hK hP hD (by decide +kernel) rfl⟩ rfl rfl hl.1 rfl (lv_room (Nat.le_of_ble_eq_true rfl)) dX0_says_107 ⟨Nat.le_of_ble_eq_true rfl, Nat.le_of_ble_eq_true rfl⟩) hS hD hA rfl (fun r_18 u t H locs ht hvm w_19 hB hz1 hk1 hFq hAq hS => ?_)
    obtain ⟨ysk_20, rfl⟩ : ∃ z, z = u := ⟨_, rfl⟩
    obtain ⟨hP1, hK1, hD1⟩ := hB
    have w_19 : r_18 = mValX fct fet pt (upd (upd (upd (upd (upd (upd fnm 0 (fsz pn)) 1 (frd pn)) 2 (fso jn)) 3 (fmi jn)) 4 (fmo pn)) 5 (nI jn)) := w_19
    have hz9 : gPD G A [zo0 h0 tt n1 n2 n3 n4 n5 n6 n7 n8 xj xb (nI lw), zi G n1 6 (upd (upd (upd (upd (upd (upd fnm 0 (fsz pn)) 1 (frd pn)) 2 (fso jn)) 3 (fmi jn)) 4 (fmo pn)) 5 (nI jn)), zi G n2 4 fso, zi G n3 4 fmi, zi G n6 6 fmo, zi G n7 6 fsz, zi G n8 6 frd, zo3 tt co en sk wr (nI tx), zr G co 6 fc, zr G en 6 fe, zi G ct 160 fct, zi G et 3 (nF fet), zi G sk 32 ysk_20] H := zFill hP hD [7, 8, 9, 10, 11, 12, 1] [0, 7, 0, 0, 0, 0, 0, 1, 2, 3, 4, 5, 6] hAq hk1 hFq ht hP1 hD1 rfl (by decide +kernel)
    have hP := hz9.1
    have hD := hz9.2
    have w_19 : r_18 = mValX fct fet pt (mNm (fsz pn) (frd pn) (fso jn) (fmi jn) (fmo pn) (nI jn)) := w_19.trans (mValX_nm hwx hpt (fun i hi => mNm_of hi))
    subst w_19
    refine va_mmin hx hb (by rw [hml]; exact hl.1.symm) hown (hts (.methodLink RX0 71 Lib.Math.min.name) (by decide +kernel)) (hts (.static Lib.Math.min.name) (by decide +kernel)) (hts (.initialized "java/lang/Math") (by decide +kernel)) (hts (.code Lib.Math.min.name Lib.Math.min.code 2 (some .int)) (by decide +kernel)) (Nat.le_of_ble_eq_true rfl) (Nat.le_of_ble_eq_true rfl) (Nat.le_of_ble_eq_true rfl) (Nat.le_of_ble_eq_true rfl) dX0_says_110 ?_
    refine g_topi (y := mMin 99 (mValX fct fet pt (mNm (fsz pn) (frd pn) (fso jn) (fmi jn) (fmo pn) (nI jn)))) rfl ?_
    refine va_mmax hx hb (by rw [hml]; exact hl.1.symm) hown (hts (.methodLink RX0 77 Lib.Math.max.name) (by decide +kernel)) (hts (.static Lib.Math.max.name) (by decide +kernel)) (hts (.initialized "java/lang/Math") (by decide +kernel)) (hts (.code Lib.Math.max.name Lib.Math.max.code 2 (some .int)) (by decide +kernel)) (Nat.le_of_ble_eq_true rfl) (Nat.le_of_ble_eq_true rfl) (Nat.le_of_ble_eq_true rfl) (Nat.le_of_ble_eq_true rfl) dX0_says_113 ?_
    refine g_topi (y := mMax 0 (mMin 99 (mValX fct fet pt (mNm (fsz pn) (frd pn) (fso jn) (fmi jn) (fmo pn) (nI jn))))) rfl ?_
    have hpost : (fun (r : Int32) (u : (Nat → Int32) × (Nat → Int32)) => match u with | (yn1, ysk) => r = m_X0_says pt jn pn fso fmi fmo fsz frd fct fet) (mMax 0 (mMin 99 (mValX fct fet pt (mNm (fsz pn) (frd pn) (fso jn) (fmi jn) (fmo pn) (nI jn))))) ((upd (upd (upd (upd (upd (upd fnm 0 (fsz pn)) 1 (frd pn)) 2 (fso jn)) 3 (fmi jn)) 4 (fmo pn)) 5 (nI jn)), ysk_20) := (show m_X0_says pt jn pn fso fmi fmo fsz frd fct fet = (mMax 0 (mMin 99 (mValX fct fet pt (mNm (fsz pn) (frd pn) (fso jn) (fmi jn) (fmo pn) (nI jn))))) from by unfold m_X0_says; rw [if_pos c_6]).symm
    exact W.iret (v := (mMax 0 (mMin 99 (mValX fct fet pt (mNm (fsz pn) (frd pn) (fso jn) (fmi jn) (fmo pn) (nI jn)))))) hx hb hr (fun t ht hW => ⟨⟨(mMax 0 (mMin 99 (mValX fct fet pt (mNm (fsz pn) (frd pn) (fso jn) (fmi jn) (fmo pn) (nI jn))))), ((upd (upd (upd (upd (upd (upd fnm 0 (fsz pn)) 1 (frd pn)) 2 (fso jn)) 3 (fmi jn)) 4 (fmo pn)) 5 (nI jn)), ysk_20), rfl, hpost, by rw [ht]; exact hP, va_K.moved hW.alike hK, hD⟩, hS.F ht⟩) hS.2.2 dX0_says_116
noncomputable def m_X0_isSand (pn : Nat) (fki : Nat → Int32) (fmo : Nat → Int32) (fsz : Nat → Int32) : Int32 := if fki pn = 2 then (if (fmo pn) < (fsz pn) then 0 else 1) else (if fki pn = 3 then (if (fsz pn) = 0 then 1 else 0) else (if fki pn = 4 then (if (fmo pn) < (fsz pn) then 0 else 1) else (if fki pn = 5 then (if 5 ≤ (fsz pn) then 0 else 1) else (if (fsz pn) = 0 then 1 else 0))))
abbrev q_X0_isSand (G : gG) (h0 tt n1 n2 n3 n4 n5 n6 n7 n8 : Nat) (lw : Nat) (pn : Nat) (xj : Int32) (xb : Int32) (fki : Nat → Int32) (fmo : Nat → Int32) (fsz : Nat → Int32) (A : Nat → Prop) : Array Value → State → Outcome → State → Prop := va_Qi (fun (r : Int32) (u : Unit) => match u with | _ => r = m_X0_isSand pn fki fmo fsz) (fun (u : Unit) t => match u with | _ => va_P G.1 vwCl [zo0 h0 tt n1 n2 n3 n4 n5 n6 n7 n8 xj xb (nI lw), zi G n5 6 fki, zi G n6 6 fmo, zi G n7 6 fsz] t.heap ∧ gK G t ∧ va_D A [zo0 h0 tt n1 n2 n3 n4 n5 n6 n7 n8 xj xb (nI lw), zi G n5 6 fki, zi G n6 6 fmo, zi G n7 6 fsz]) A
set_option maxHeartbeats 4000000 in
set_option maxRecDepth 100000 in
theorem c_X0_isSand (l : Launch) (G : gG) (h0 tt n1 n2 n3 n4 n5 n6 n7 n8 : Nat) (lw : Nat) (pn : Nat) (xj : Int32) (xb : Int32) (fki : Nat → Int32) (fmo : Nat → Int32) (fsz : Nat → Int32) (sz : Nat) (hp : pn < 6) : Met l yX0_isSand wsX0_isSand ({ frames := 0, cells := 0, slots := 0, locals := 0 }) (gPre G [.ref h0, .int (nI pn)] [zo0 h0 tt n1 n2 n3 n4 n5 n6 n7 n8 xj xb (nI lw), zi G n5 6 fki, zi G n6 6 fmo, zi G n7 6 fsz] sz) (q_X0_isSand G h0 tt n1 n2 n3 n4 n5 n6 n7 n8 lw pn xj xb fki fmo fsz (va_A [zo0 h0 tt n1 n2 n3 n4 n5 n6 n7 n8 xj xb (nI lw), zi G n5 6 fki, zi G n6 6 fmo, zi G n7 6 fsz] sz)) 0 0 (va_A [zo0 h0 tt n1 n2 n3 n4 n5 n6 n7 n8 xj xb (nI lw), zi G n5 6 fki, zi G n6 6 fmo, zi G n7 6 fsz] sz) := by
  refine Met.ofW (cc := cX0_isSand) (maxL := 2) (ret := (some .boolean)) (by decide +kernel) rfl ?_
  intro p e s m args below meth c s₁ B hml hv
  obtain ⟨rfl, hsz, hP, hK, hD0⟩ := hv
  have hx := B.exec
  have hb := B.bytes
  have hr := B.returns
  have hts := atoms_spec (ws := wsX0_isSand) B.pre
  have hown : s.vm.findClass RX0 = some m.cls := findClass_of_methodNamed B.named
  have hlocks := B.notSynchronized
  subst hsz
  have hD := hD0.self (sz := s.heap.size)
  generalize hAe : va_A [zo0 h0 tt n1 n2 n3 n4 n5 n6 n7 n8 xj xb (nI lw), zi G n5 6 fki, zi G n6 6 fmo, zi G n7 6 fsz] s.heap.size = A at hD ⊢
  have hA : ∀ q : Nat, s.heap.size ≤ q → A q := fun q h => by rw [← hAe]; exact Or.inr h
  have hS : va_S A s.heap s.heap [] := va_S.rf
  have hz9 : gPD G A [zo0 h0 tt n1 n2 n3 n4 n5 n6 n7 n8 xj xb (nI lw), zi G n5 6 fki, zi G n6 6 fmo, zi G n7 6 fsz] s.heap := ⟨hP, hD⟩
  have hP := hz9.1
  have hD := hz9.2
  have hl := lv_entry ([.ref h0, .int (nI pn)]) (n := 2) (Nat.le_of_ble_eq_true rfl)
  rw [lg_entry_eq]
  generalize (lg_sl ([.ref h0, .int (nI pn)]) ++ List.replicate (2 - (lg_sl ([.ref h0, .int (nI pn)])).length) Slot.unset).toArray = ls at hl ⊢
  have hl : lv_has ls 2 [zR 0 h0, zI 1 (nI pn)] := hl
  have kf26 := hts (.fieldLink RX0 26 "PebbleInShoe$Court" "kind" "[I") (by decide +kernel)
  have hiX0 := (by decide +kernel : ∀ w ∈ wsX00, w ∈ wsX0_isSand)
  have kf32 := hts (.fieldLink RX0 32 "PebbleInShoe$Court" "size" "[I") (by decide +kernel)
  have kf29 := hts (.fieldLink RX0 29 "PebbleInShoe$Court" "more" "[I") (by decide +kernel)
  refine g_aget (D := G.1) (ci := 0) (v := .ref n5) (C := RX0) (T := TX0) (N := 12) hx hb dX0_isSand_0 rfl (lv_at hl 0 rfl) hts hiX0 hown hK hP 0 rfl rfl 5 (by decide +kernel) kf26 (fun _ h9 => h9) rfl dX0_isSand_1 ?_
  refine lv_iload_n hx hb dX0_isSand_4 rfl (lv_at hl 1 rfl) ?_
  refine g_iald (D := G.1) hx hb hK hP 1 0 rfl rfl (k := pn) (y := fki pn) (by omega) rfl rfl dX0_isSand_5 ?_
  by_cases s_2 : fki pn = 2
  · skip
    refine lv_tableIn (off := 30) (tgt := 36) hx hb dX0_isSand_6 (by rw [s_2]; decide) (by rw [s_2]; decide) (by rw [s_2]; decide) (by decide +kernel) ?_
    refine g_aget (D := G.1) (ci := 0) (v := .ref n7) (C := RX0) (T := TX0) (N := 12) hx hb dX0_isSand_36 rfl (lv_at hl 0 rfl) hts hiX0 hown hK hP 0 rfl rfl 7 (by decide +kernel) kf32 (fun _ h9 => h9) rfl dX0_isSand_37 ?_
    refine lv_iload_n hx hb dX0_isSand_40 rfl (lv_at hl 1 rfl) ?_
    refine g_iald (D := G.1) hx hb hK hP 3 0 rfl rfl (k := pn) (y := fsz pn) (by omega) rfl rfl dX0_isSand_41 ?_
    refine g_aget (D := G.1) (ci := 0) (v := .ref n6) (C := RX0) (T := TX0) (N := 12) hx hb dX0_isSand_42 rfl (lv_at hl 0 rfl) hts hiX0 hown hK hP 0 rfl rfl 6 (by decide +kernel) kf29 (fun _ h9 => h9) rfl dX0_isSand_43 ?_
    refine lv_iload_n hx hb dX0_isSand_46 rfl (lv_at hl 1 rfl) ?_
    refine g_iald (D := G.1) hx hb hK hP 2 0 rfl rfl (k := pn) (y := fmo pn) (by omega) rfl rfl dX0_isSand_47 ?_
    refine lv_icmp_gt (tgt := 55) hx hb dX0_isSand_48 (by decide +kernel) (fun c_5 => ?_) (fun c_5 => ?_)
    · skip
      refine lv_iconst (v := 0) hx hb dX0_isSand_55 (by decide +kernel) ?_
      have hpost : (fun (r : Int32) (u : Unit) => match u with | _ => r = m_X0_isSand pn fki fmo fsz) 0 () := (show m_X0_isSand pn fki fmo fsz = 0 from by unfold m_X0_isSand; rw [if_pos s_2, if_pos c_5]).symm
      exact W.zret (v := 0) hx hb hr (rfl) (fun t ht hW => ⟨⟨0, (), rfl, hpost, by rw [ht]; exact hP, va_K.moved hW.alike hK, hD⟩, hS.F ht⟩) hS.2.2 dX0_isSand_56
    · skip
      refine lv_iconst (v := 1) hx hb dX0_isSand_51 (by decide +kernel) ?_
      refine lv_goto (tgt := 56) hx hb dX0_isSand_52 (by decide +kernel) ?_
      have hpost : (fun (r : Int32) (u : Unit) => match u with | _ => r = m_X0_isSand pn fki fmo fsz) 1 () := (show m_X0_isSand pn fki fmo fsz = 1 from by unfold m_X0_isSand; rw [if_pos s_2, if_neg c_5]).symm
      exact W.zret (v := 1) hx hb hr (rfl) (fun t ht hW => ⟨⟨1, (), rfl, hpost, by rw [ht]; exact hP, va_K.moved hW.alike hK, hD⟩, hS.F ht⟩) hS.2.2 dX0_isSand_56
  by_cases s_6 : fki pn = 3
  · skip
    refine lv_tableIn (off := 67) (tgt := 73) hx hb dX0_isSand_6 (by rw [s_6]; decide) (by rw [s_6]; decide) (by rw [s_6]; decide) (by decide +kernel) ?_
    refine g_aget (D := G.1) (ci := 0) (v := .ref n7) (C := RX0) (T := TX0) (N := 12) hx hb dX0_isSand_73 rfl (lv_at hl 0 rfl) hts hiX0 hown hK hP 0 rfl rfl 7 (by decide +kernel) kf32 (fun _ h9 => h9) rfl dX0_isSand_74 ?_
    refine lv_iload_n hx hb dX0_isSand_77 rfl (lv_at hl 1 rfl) ?_
    refine g_iald (D := G.1) hx hb hK hP 3 0 rfl rfl (k := pn) (y := fsz pn) (by omega) rfl rfl dX0_isSand_78 ?_
    refine lv_if_ne (tgt := 86) hx hb dX0_isSand_79 (by decide +kernel) (fun c_8 => ?_) (fun c_8 => ?_)
    · skip
      refine lv_iconst (v := 0) hx hb dX0_isSand_86 (by decide +kernel) ?_
      have hpost : (fun (r : Int32) (u : Unit) => match u with | _ => r = m_X0_isSand pn fki fmo fsz) 0 () := (show m_X0_isSand pn fki fmo fsz = 0 from by unfold m_X0_isSand; rw [if_neg s_2, if_pos s_6, if_neg c_8]).symm
      exact W.zret (v := 0) hx hb hr (rfl) (fun t ht hW => ⟨⟨0, (), rfl, hpost, by rw [ht]; exact hP, va_K.moved hW.alike hK, hD⟩, hS.F ht⟩) hS.2.2 dX0_isSand_87
    · skip
      refine lv_iconst (v := 1) hx hb dX0_isSand_82 (by decide +kernel) ?_
      refine lv_goto (tgt := 87) hx hb dX0_isSand_83 (by decide +kernel) ?_
      have hpost : (fun (r : Int32) (u : Unit) => match u with | _ => r = m_X0_isSand pn fki fmo fsz) 1 () := (show m_X0_isSand pn fki fmo fsz = 1 from by unfold m_X0_isSand; rw [if_neg s_2, if_pos s_6, if_pos c_8]).symm
      exact W.zret (v := 1) hx hb hr (rfl) (fun t ht hW => ⟨⟨1, (), rfl, hpost, by rw [ht]; exact hP, va_K.moved hW.alike hK, hD⟩, hS.F ht⟩) hS.2.2 dX0_isSand_87
  by_cases s_9 : fki pn = 4
  · skip
    refine lv_tableIn (off := 30) (tgt := 36) hx hb dX0_isSand_6 (by rw [s_9]; decide) (by rw [s_9]; decide) (by rw [s_9]; decide) (by decide +kernel) ?_
    refine g_aget (D := G.1) (ci := 0) (v := .ref n7) (C := RX0) (T := TX0) (N := 12) hx hb dX0_isSand_36 rfl (lv_at hl 0 rfl) hts hiX0 hown hK hP 0 rfl rfl 7 (by decide +kernel) kf32 (fun _ h9 => h9) rfl dX0_isSand_37 ?_
    refine lv_iload_n hx hb dX0_isSand_40 rfl (lv_at hl 1 rfl) ?_
    refine g_iald (D := G.1) hx hb hK hP 3 0 rfl rfl (k := pn) (y := fsz pn) (by omega) rfl rfl dX0_isSand_41 ?_
    refine g_aget (D := G.1) (ci := 0) (v := .ref n6) (C := RX0) (T := TX0) (N := 12) hx hb dX0_isSand_42 rfl (lv_at hl 0 rfl) hts hiX0 hown hK hP 0 rfl rfl 6 (by decide +kernel) kf29 (fun _ h9 => h9) rfl dX0_isSand_43 ?_
    refine lv_iload_n hx hb dX0_isSand_46 rfl (lv_at hl 1 rfl) ?_
    refine g_iald (D := G.1) hx hb hK hP 2 0 rfl rfl (k := pn) (y := fmo pn) (by omega) rfl rfl dX0_isSand_47 ?_
    refine lv_icmp_gt (tgt := 55) hx hb dX0_isSand_48 (by decide +kernel) (fun c_12 => ?_) (fun c_12 => ?_)
    · skip
      refine lv_iconst (v := 0) hx hb dX0_isSand_55 (by decide +kernel) ?_
      have hpost : (fun (r : Int32) (u : Unit) => match u with | _ => r = m_X0_isSand pn fki fmo fsz) 0 () := (show m_X0_isSand pn fki fmo fsz = 0 from by unfold m_X0_isSand; rw [if_neg s_2, if_neg s_6, if_pos s_9, if_pos c_12]).symm
      exact W.zret (v := 0) hx hb hr (rfl) (fun t ht hW => ⟨⟨0, (), rfl, hpost, by rw [ht]; exact hP, va_K.moved hW.alike hK, hD⟩, hS.F ht⟩) hS.2.2 dX0_isSand_56
    · skip
      refine lv_iconst (v := 1) hx hb dX0_isSand_51 (by decide +kernel) ?_
      refine lv_goto (tgt := 56) hx hb dX0_isSand_52 (by decide +kernel) ?_
      have hpost : (fun (r : Int32) (u : Unit) => match u with | _ => r = m_X0_isSand pn fki fmo fsz) 1 () := (show m_X0_isSand pn fki fmo fsz = 1 from by unfold m_X0_isSand; rw [if_neg s_2, if_neg s_6, if_pos s_9, if_neg c_12]).symm
      exact W.zret (v := 1) hx hb hr (rfl) (fun t ht hW => ⟨⟨1, (), rfl, hpost, by rw [ht]; exact hP, va_K.moved hW.alike hK, hD⟩, hS.F ht⟩) hS.2.2 dX0_isSand_56
  by_cases s_13 : fki pn = 5
  · skip
    refine lv_tableIn (off := 51) (tgt := 57) hx hb dX0_isSand_6 (by rw [s_13]; decide) (by rw [s_13]; decide) (by rw [s_13]; decide) (by decide +kernel) ?_
    refine g_aget (D := G.1) (ci := 0) (v := .ref n7) (C := RX0) (T := TX0) (N := 12) hx hb dX0_isSand_57 rfl (lv_at hl 0 rfl) hts hiX0 hown hK hP 0 rfl rfl 7 (by decide +kernel) kf32 (fun _ h9 => h9) rfl dX0_isSand_58 ?_
    refine lv_iload_n hx hb dX0_isSand_61 rfl (lv_at hl 1 rfl) ?_
    refine g_iald (D := G.1) hx hb hK hP 3 0 rfl rfl (k := pn) (y := fsz pn) (by omega) rfl rfl dX0_isSand_62 ?_
    refine lv_iconst (v := 5) hx hb dX0_isSand_63 (by decide +kernel) ?_
    refine lv_icmp_ge (tgt := 71) hx hb dX0_isSand_64 (by decide +kernel) (fun c_15 => ?_) (fun c_15 => ?_)
    · skip
      refine lv_iconst (v := 0) hx hb dX0_isSand_71 (by decide +kernel) ?_
      have hpost : (fun (r : Int32) (u : Unit) => match u with | _ => r = m_X0_isSand pn fki fmo fsz) 0 () := (show m_X0_isSand pn fki fmo fsz = 0 from by unfold m_X0_isSand; rw [if_neg s_2, if_neg s_6, if_neg s_9, if_pos s_13, if_pos c_15]).symm
      exact W.zret (v := 0) hx hb hr (rfl) (fun t ht hW => ⟨⟨0, (), rfl, hpost, by rw [ht]; exact hP, va_K.moved hW.alike hK, hD⟩, hS.F ht⟩) hS.2.2 dX0_isSand_72
    · skip
      refine lv_iconst (v := 1) hx hb dX0_isSand_67 (by decide +kernel) ?_
      refine lv_goto (tgt := 72) hx hb dX0_isSand_68 (by decide +kernel) ?_
      have hpost : (fun (r : Int32) (u : Unit) => match u with | _ => r = m_X0_isSand pn fki fmo fsz) 1 () := (show m_X0_isSand pn fki fmo fsz = 1 from by unfold m_X0_isSand; rw [if_neg s_2, if_neg s_6, if_neg s_9, if_pos s_13, if_neg c_15]).symm
      exact W.zret (v := 1) hx hb hr (rfl) (fun t ht hW => ⟨⟨1, (), rfl, hpost, by rw [ht]; exact hP, va_K.moved hW.alike hK, hD⟩, hS.F ht⟩) hS.2.2 dX0_isSand_72
  have s_2T := lv_neT (a := 2) s_2 (by decide +kernel)
  have s_6T := lv_neT (a := 3) s_6 (by decide +kernel)
  have s_9T := lv_neT (a := 4) s_9 (by decide +kernel)
  have s_13T := lv_neT (a := 5) s_13 (by decide +kernel)
  refine lv_tableOut (tgt := 73) hx hb dX0_isSand_6 (by omega) (by decide +kernel) ?_
  refine g_aget (D := G.1) (ci := 0) (v := .ref n7) (C := RX0) (T := TX0) (N := 12) hx hb dX0_isSand_73 rfl (lv_at hl 0 rfl) hts hiX0 hown hK hP 0 rfl rfl 7 (by decide +kernel) kf32 (fun _ h9 => h9) rfl dX0_isSand_74 ?_
  refine lv_iload_n hx hb dX0_isSand_77 rfl (lv_at hl 1 rfl) ?_
  refine g_iald (D := G.1) hx hb hK hP 3 0 rfl rfl (k := pn) (y := fsz pn) (by omega) rfl rfl dX0_isSand_78 ?_
  refine lv_if_ne (tgt := 86) hx hb dX0_isSand_79 (by decide +kernel) (fun c_17 => ?_) (fun c_17 => ?_)
  · skip
    refine lv_iconst (v := 0) hx hb dX0_isSand_86 (by decide +kernel) ?_
    have hpost : (fun (r : Int32) (u : Unit) => match u with | _ => r = m_X0_isSand pn fki fmo fsz) 0 () := (show m_X0_isSand pn fki fmo fsz = 0 from by unfold m_X0_isSand; rw [if_neg s_2, if_neg s_6, if_neg s_9, if_neg s_13, if_neg c_17]).symm
    exact W.zret (v := 0) hx hb hr (rfl) (fun t ht hW => ⟨⟨0, (), rfl, hpost, by rw [ht]; exact hP, va_K.moved hW.alike hK, hD⟩, hS.F ht⟩) hS.2.2 dX0_isSand_87
  · skip
    refine lv_iconst (v := 1) hx hb dX0_isSand_82 (by decide +kernel) ?_
    refine lv_goto (tgt := 87) hx hb dX0_isSand_83 (by decide +kernel) ?_
    have hpost : (fun (r : Int32) (u : Unit) => match u with | _ => r = m_X0_isSand pn fki fmo fsz) 1 () := (show m_X0_isSand pn fki fmo fsz = 1 from by unfold m_X0_isSand; rw [if_neg s_2, if_neg s_6, if_neg s_9, if_neg s_13, if_pos c_17]).symm
    exact W.zret (v := 1) hx hb hr (rfl) (fun t ht hW => ⟨⟨1, (), rfl, hpost, by rw [ht]; exact hP, va_K.moved hW.alike hK, hD⟩, hS.F ht⟩) hS.2.2 dX0_isSand_87
noncomputable def m_X0_hurts (jn : Nat) (pn : Nat) (fso : Nat → Int32) (fki : Nat → Int32) (fmo : Nat → Int32) (v1 : Int32) : Int32 := if fki pn = 1 then mMax 0 ((v1 - (fso jn)) + (fmo pn)) else (if fki pn = 2 then mMax 0 (v1 - (fso jn)) else (if fki pn = 3 then (if 5 ≤ (fso jn) then mMax 0 ((v1 - (fso jn)) + (fmo pn)) else mMax 0 (2 * ((v1 - (fso jn)) + (fmo pn)))) else (if fki pn = 4 then mMax 0 ((v1 - (fso jn)) / 2) else (if fki pn = 5 then mMax 0 (v1 - (((fso jn) * (fmo pn)) / 4)) else mMax 0 (v1 - (fso jn))))))
abbrev q_X0_hurts (G : gG) (h0 tt n1 n2 n3 n4 n5 n6 n7 n8 : Nat) (lw : Nat) (jn : Nat) (pn : Nat) (xj : Int32) (xb : Int32) (fso : Nat → Int32) (fki : Nat → Int32) (fmo : Nat → Int32) (v1 : Int32) (A : Nat → Prop) : Array Value → State → Outcome → State → Prop := va_Qi (fun (r : Int32) (u : Unit) => match u with | _ => r = m_X0_hurts jn pn fso fki fmo v1) (fun (u : Unit) t => match u with | _ => va_P G.1 vwCl [zo0 h0 tt n1 n2 n3 n4 n5 n6 n7 n8 xj xb (nI lw), zi G n2 4 fso, zi G n5 6 fki, zi G n6 6 fmo] t.heap ∧ gK G t ∧ va_D A [zo0 h0 tt n1 n2 n3 n4 n5 n6 n7 n8 xj xb (nI lw), zi G n2 4 fso, zi G n5 6 fki, zi G n6 6 fmo]) A
set_option maxHeartbeats 4000000 in
set_option maxRecDepth 100000 in
theorem c_X0_hurts (l : Launch) (G : gG) (h0 tt n1 n2 n3 n4 n5 n6 n7 n8 : Nat) (lw : Nat) (jn : Nat) (pn : Nat) (xj : Int32) (xb : Int32) (fso : Nat → Int32) (fki : Nat → Int32) (fmo : Nat → Int32) (v1 : Int32) (sz : Nat) (hj : jn < 4) (hp : pn < 6) : Met l yX0_hurts wsX0_hurts ({ frames := 1, cells := 0, slots := 0, locals := 60 }) (gPre G [.ref h0, .int v1, .int (nI jn), .int (nI pn)] [zo0 h0 tt n1 n2 n3 n4 n5 n6 n7 n8 xj xb (nI lw), zi G n2 4 fso, zi G n5 6 fki, zi G n6 6 fmo] sz) (q_X0_hurts G h0 tt n1 n2 n3 n4 n5 n6 n7 n8 lw jn pn xj xb fso fki fmo v1 (va_A [zo0 h0 tt n1 n2 n3 n4 n5 n6 n7 n8 xj xb (nI lw), zi G n2 4 fso, zi G n5 6 fki, zi G n6 6 fmo] sz)) 0 0 (va_A [zo0 h0 tt n1 n2 n3 n4 n5 n6 n7 n8 xj xb (nI lw), zi G n2 4 fso, zi G n5 6 fki, zi G n6 6 fmo] sz) := by
  refine Met.ofW (cc := cX0_hurts) (maxL := 6) (ret := (some .int)) (by decide +kernel) rfl ?_
  intro p e s m args below meth c s₁ B hml hv
  obtain ⟨rfl, hsz, hP, hK, hD0⟩ := hv
  have hx := B.exec
  have hb := B.bytes
  have hr := B.returns
  have hts := atoms_spec (ws := wsX0_hurts) B.pre
  have hown : s.vm.findClass RX0 = some m.cls := findClass_of_methodNamed B.named
  have hlocks := B.notSynchronized
  subst hsz
  have hD := hD0.self (sz := s.heap.size)
  generalize hAe : va_A [zo0 h0 tt n1 n2 n3 n4 n5 n6 n7 n8 xj xb (nI lw), zi G n2 4 fso, zi G n5 6 fki, zi G n6 6 fmo] s.heap.size = A at hD ⊢
  have hA : ∀ q : Nat, s.heap.size ≤ q → A q := fun q h => by rw [← hAe]; exact Or.inr h
  have hS : va_S A s.heap s.heap [] := va_S.rf
  have hz9 : gPD G A [zo0 h0 tt n1 n2 n3 n4 n5 n6 n7 n8 xj xb (nI lw), zi G n2 4 fso, zi G n5 6 fki, zi G n6 6 fmo] s.heap := ⟨hP, hD⟩
  have hP := hz9.1
  have hD := hz9.2
  have hl := lv_entry ([.ref h0, .int v1, .int (nI jn), .int (nI pn)]) (n := 6) (Nat.le_of_ble_eq_true rfl)
  rw [lg_entry_eq]
  generalize (lg_sl ([.ref h0, .int v1, .int (nI jn), .int (nI pn)]) ++ List.replicate (6 - (lg_sl ([.ref h0, .int v1, .int (nI jn), .int (nI pn)])).length) Slot.unset).toArray = ls at hl ⊢
  have hl : lv_has ls 6 [zR 0 h0, zI 1 v1, zI 2 (nI jn), zI 3 (nI pn)] := hl
  have kf17 := hts (.fieldLink RX0 17 "PebbleInShoe$Court" "soles" "[I") (by decide +kernel)
  have hiX0 := (by decide +kernel : ∀ w ∈ wsX00, w ∈ wsX0_hurts)
  have kf29 := hts (.fieldLink RX0 29 "PebbleInShoe$Court" "more" "[I") (by decide +kernel)
  have kf26 := hts (.fieldLink RX0 26 "PebbleInShoe$Court" "kind" "[I") (by decide +kernel)
  refine lv_iload_n hx hb dX0_hurts_0 rfl (lv_at hl 1 rfl) ?_
  refine g_aget (D := G.1) (ci := 0) (v := .ref n2) (C := RX0) (T := TX0) (N := 12) hx hb dX0_hurts_1 rfl (lv_at hl 0 rfl) hts hiX0 hown hK hP 0 rfl rfl 2 (by decide +kernel) kf17 (fun _ h9 => h9) rfl dX0_hurts_2 ?_
  refine lv_iload_n hx hb dX0_hurts_5 rfl (lv_at hl 2 rfl) ?_
  refine g_iald (D := G.1) hx hb hK hP 1 0 rfl rfl (k := jn) (y := fso jn) (by omega) rfl rfl dX0_hurts_6 ?_
  refine lv_isub hx hb dX0_hurts_7 ?_
  refine lv_istore (lv' := [zI 4 (v1 - (fso jn)), zR 0 h0, zI 1 v1, zI 2 (nI jn), zI 3 (nI pn)]) hx hb dX0_hurts_8 hl (by decide +kernel) rfl (fun ls hl => ?_)
  refine lv_iload hx hb dX0_hurts_10 (lv_at hl 0 rfl) ?_
  refine g_aget (D := G.1) (ci := 0) (v := .ref n6) (C := RX0) (T := TX0) (N := 12) hx hb dX0_hurts_12 rfl (lv_at hl 1 rfl) hts hiX0 hown hK hP 0 rfl rfl 6 (by decide +kernel) kf29 (fun _ h9 => h9) rfl dX0_hurts_13 ?_
  refine lv_iload_n hx hb dX0_hurts_16 rfl (lv_at hl 4 rfl) ?_
  refine g_iald (D := G.1) hx hb hK hP 3 0 rfl rfl (k := pn) (y := fmo pn) (by omega) rfl rfl dX0_hurts_17 ?_
  refine lv_iadd hx hb dX0_hurts_18 ?_
  refine lv_istore (lv' := [zI 5 ((v1 - (fso jn)) + (fmo pn)), zI 4 (v1 - (fso jn)), zR 0 h0, zI 1 v1, zI 2 (nI jn), zI 3 (nI pn)]) hx hb dX0_hurts_19 hl (by decide +kernel) rfl (fun ls hl => ?_)
  refine g_aget (D := G.1) (ci := 0) (v := .ref n5) (C := RX0) (T := TX0) (N := 12) hx hb dX0_hurts_21 rfl (lv_at hl 2 rfl) hts hiX0 hown hK hP 0 rfl rfl 5 (by decide +kernel) kf26 (fun _ h9 => h9) rfl dX0_hurts_22 ?_
  refine lv_iload_n hx hb dX0_hurts_25 rfl (lv_at hl 5 rfl) ?_
  refine g_iald (D := G.1) hx hb hK hP 2 0 rfl rfl (k := pn) (y := fki pn) (by omega) rfl rfl dX0_hurts_26 ?_
  by_cases s_4 : fki pn = 1
  · skip
    refine lv_tableIn (off := 33) (tgt := 60) hx hb dX0_hurts_27 (by rw [s_4]; decide) (by rw [s_4]; decide) (by rw [s_4]; decide) (by decide +kernel) ?_
    refine lv_iconst (v := 0) hx hb dX0_hurts_60 (by decide +kernel) ?_
    refine lv_iload hx hb dX0_hurts_61 (lv_at hl 0 rfl) ?_
    refine va_mmax hx hb (by rw [hml]; exact hl.1.symm) hown (hts (.methodLink RX0 77 Lib.Math.max.name) (by decide +kernel)) (hts (.static Lib.Math.max.name) (by decide +kernel)) (hts (.initialized "java/lang/Math") (by decide +kernel)) (hts (.code Lib.Math.max.name Lib.Math.max.code 2 (some .int)) (by decide +kernel)) (Nat.le_of_ble_eq_true rfl) (Nat.le_of_ble_eq_true rfl) (Nat.le_of_ble_eq_true rfl) (Nat.le_of_ble_eq_true rfl) dX0_hurts_63 ?_
    refine g_topi (y := mMax 0 ((v1 - (fso jn)) + (fmo pn))) rfl ?_
    have hpost : (fun (r : Int32) (u : Unit) => match u with | _ => r = m_X0_hurts jn pn fso fki fmo v1) (mMax 0 ((v1 - (fso jn)) + (fmo pn))) () := (show m_X0_hurts jn pn fso fki fmo v1 = (mMax 0 ((v1 - (fso jn)) + (fmo pn))) from by unfold m_X0_hurts; rw [if_pos s_4]).symm
    exact W.iret (v := (mMax 0 ((v1 - (fso jn)) + (fmo pn)))) hx hb hr (fun t ht hW => ⟨⟨(mMax 0 ((v1 - (fso jn)) + (fmo pn))), (), rfl, hpost, by rw [ht]; exact hP, va_K.moved hW.alike hK, hD⟩, hS.F ht⟩) hS.2.2 dX0_hurts_66
  by_cases s_6 : fki pn = 2
  · skip
    refine lv_tableIn (off := 95) (tgt := 122) hx hb dX0_hurts_27 (by rw [s_6]; decide) (by rw [s_6]; decide) (by rw [s_6]; decide) (by decide +kernel) ?_
    refine lv_iconst (v := 0) hx hb dX0_hurts_122 (by decide +kernel) ?_
    refine lv_iload hx hb dX0_hurts_123 (lv_at hl 1 rfl) ?_
    refine va_mmax hx hb (by rw [hml]; exact hl.1.symm) hown (hts (.methodLink RX0 77 Lib.Math.max.name) (by decide +kernel)) (hts (.static Lib.Math.max.name) (by decide +kernel)) (hts (.initialized "java/lang/Math") (by decide +kernel)) (hts (.code Lib.Math.max.name Lib.Math.max.code 2 (some .int)) (by decide +kernel)) (Nat.le_of_ble_eq_true rfl) (Nat.le_of_ble_eq_true rfl) (Nat.le_of_ble_eq_true rfl) (Nat.le_of_ble_eq_true rfl) dX0_hurts_125 ?_
    refine g_topi (y := mMax 0 (v1 - (fso jn))) rfl ?_
    have hpost : (fun (r : Int32) (u : Unit) => match u with | _ => r = m_X0_hurts jn pn fso fki fmo v1) (mMax 0 (v1 - (fso jn))) () := (show m_X0_hurts jn pn fso fki fmo v1 = (mMax 0 (v1 - (fso jn))) from by unfold m_X0_hurts; rw [if_neg s_4, if_pos s_6]).symm
    exact W.iret (v := (mMax 0 (v1 - (fso jn)))) hx hb hr (fun t ht hW => ⟨⟨(mMax 0 (v1 - (fso jn))), (), rfl, hpost, by rw [ht]; exact hP, va_K.moved hW.alike hK, hD⟩, hS.F ht⟩) hS.2.2 dX0_hurts_128
  by_cases s_8 : fki pn = 3
  · skip
    refine lv_tableIn (off := 40) (tgt := 67) hx hb dX0_hurts_27 (by rw [s_8]; decide) (by rw [s_8]; decide) (by rw [s_8]; decide) (by decide +kernel) ?_
    refine lv_iconst (v := 0) hx hb dX0_hurts_67 (by decide +kernel) ?_
    refine g_aget (D := G.1) (ci := 0) (v := .ref n2) (C := RX0) (T := TX0) (N := 12) hx hb dX0_hurts_68 rfl (lv_at hl 2 rfl) hts hiX0 hown hK hP 0 rfl rfl 2 (by decide +kernel) kf17 (fun _ h9 => h9) rfl dX0_hurts_69 ?_
    refine lv_iload_n hx hb dX0_hurts_72 rfl (lv_at hl 4 rfl) ?_
    refine g_iald (D := G.1) hx hb hK hP 1 0 rfl rfl (k := jn) (y := fso jn) (by omega) rfl rfl dX0_hurts_73 ?_
    refine lv_iconst (v := 5) hx hb dX0_hurts_74 (by decide +kernel) ?_
    refine lv_icmp_ge (tgt := 85) hx hb dX0_hurts_75 (by decide +kernel) (fun c_10 => ?_) (fun c_10 => ?_)
    · skip
      refine lv_iload hx hb dX0_hurts_85 (lv_at hl 0 rfl) ?_
      refine va_mmax hx hb (by rw [hml]; exact hl.1.symm) hown (hts (.methodLink RX0 77 Lib.Math.max.name) (by decide +kernel)) (hts (.static Lib.Math.max.name) (by decide +kernel)) (hts (.initialized "java/lang/Math") (by decide +kernel)) (hts (.code Lib.Math.max.name Lib.Math.max.code 2 (some .int)) (by decide +kernel)) (Nat.le_of_ble_eq_true rfl) (Nat.le_of_ble_eq_true rfl) (Nat.le_of_ble_eq_true rfl) (Nat.le_of_ble_eq_true rfl) dX0_hurts_87 ?_
      refine g_topi (y := mMax 0 ((v1 - (fso jn)) + (fmo pn))) rfl ?_
      have hpost : (fun (r : Int32) (u : Unit) => match u with | _ => r = m_X0_hurts jn pn fso fki fmo v1) (mMax 0 ((v1 - (fso jn)) + (fmo pn))) () := (show m_X0_hurts jn pn fso fki fmo v1 = (mMax 0 ((v1 - (fso jn)) + (fmo pn))) from by unfold m_X0_hurts; rw [if_neg s_4, if_neg s_6, if_pos s_8, if_pos c_10]).symm
      exact W.iret (v := (mMax 0 ((v1 - (fso jn)) + (fmo pn)))) hx hb hr (fun t ht hW => ⟨⟨(mMax 0 ((v1 - (fso jn)) + (fmo pn))), (), rfl, hpost, by rw [ht]; exact hP, va_K.moved hW.alike hK, hD⟩, hS.F ht⟩) hS.2.2 dX0_hurts_90
    · skip
      refine lv_iconst (v := 2) hx hb dX0_hurts_78 (by decide +kernel) ?_
      refine lv_iload hx hb dX0_hurts_79 (lv_at hl 0 rfl) ?_
      refine lv_imul hx hb dX0_hurts_81 ?_
      refine lv_goto (tgt := 87) hx hb dX0_hurts_82 (by decide +kernel) ?_
      refine va_mmax hx hb (by rw [hml]; exact hl.1.symm) hown (hts (.methodLink RX0 77 Lib.Math.max.name) (by decide +kernel)) (hts (.static Lib.Math.max.name) (by decide +kernel)) (hts (.initialized "java/lang/Math") (by decide +kernel)) (hts (.code Lib.Math.max.name Lib.Math.max.code 2 (some .int)) (by decide +kernel)) (Nat.le_of_ble_eq_true rfl) (Nat.le_of_ble_eq_true rfl) (Nat.le_of_ble_eq_true rfl) (Nat.le_of_ble_eq_true rfl) dX0_hurts_87 ?_
      refine g_topi (y := mMax 0 (2 * ((v1 - (fso jn)) + (fmo pn)))) rfl ?_
      have hpost : (fun (r : Int32) (u : Unit) => match u with | _ => r = m_X0_hurts jn pn fso fki fmo v1) (mMax 0 (2 * ((v1 - (fso jn)) + (fmo pn)))) () := (show m_X0_hurts jn pn fso fki fmo v1 = (mMax 0 (2 * ((v1 - (fso jn)) + (fmo pn)))) from by unfold m_X0_hurts; rw [if_neg s_4, if_neg s_6, if_pos s_8, if_neg c_10]).symm
      exact W.iret (v := (mMax 0 (2 * ((v1 - (fso jn)) + (fmo pn))))) hx hb hr (fun t ht hW => ⟨⟨(mMax 0 (2 * ((v1 - (fso jn)) + (fmo pn)))), (), rfl, hpost, by rw [ht]; exact hP, va_K.moved hW.alike hK, hD⟩, hS.F ht⟩) hS.2.2 dX0_hurts_90
  by_cases s_13 : fki pn = 4
  · skip
    refine lv_tableIn (off := 64) (tgt := 91) hx hb dX0_hurts_27 (by rw [s_13]; decide) (by rw [s_13]; decide) (by rw [s_13]; decide) (by decide +kernel) ?_
    refine lv_iconst (v := 0) hx hb dX0_hurts_91 (by decide +kernel) ?_
    refine lv_iload hx hb dX0_hurts_92 (lv_at hl 1 rfl) ?_
    refine lv_iconst (v := 2) hx hb dX0_hurts_94 (by decide +kernel) ?_
    refine lv_idiv hx hb dX0_hurts_95 (by decide +kernel) ?_
    refine va_mmax hx hb (by rw [hml]; exact hl.1.symm) hown (hts (.methodLink RX0 77 Lib.Math.max.name) (by decide +kernel)) (hts (.static Lib.Math.max.name) (by decide +kernel)) (hts (.initialized "java/lang/Math") (by decide +kernel)) (hts (.code Lib.Math.max.name Lib.Math.max.code 2 (some .int)) (by decide +kernel)) (Nat.le_of_ble_eq_true rfl) (Nat.le_of_ble_eq_true rfl) (Nat.le_of_ble_eq_true rfl) (Nat.le_of_ble_eq_true rfl) dX0_hurts_96 ?_
    refine g_topi (y := mMax 0 ((v1 - (fso jn)) / 2)) rfl ?_
    have hpost : (fun (r : Int32) (u : Unit) => match u with | _ => r = m_X0_hurts jn pn fso fki fmo v1) (mMax 0 ((v1 - (fso jn)) / 2)) () := (show m_X0_hurts jn pn fso fki fmo v1 = (mMax 0 ((v1 - (fso jn)) / 2)) from by unfold m_X0_hurts; rw [if_neg s_4, if_neg s_6, if_neg s_8, if_pos s_13]).symm
    exact W.iret (v := (mMax 0 ((v1 - (fso jn)) / 2))) hx hb hr (fun t ht hW => ⟨⟨(mMax 0 ((v1 - (fso jn)) / 2)), (), rfl, hpost, by rw [ht]; exact hP, va_K.moved hW.alike hK, hD⟩, hS.F ht⟩) hS.2.2 dX0_hurts_99
  by_cases s_15 : fki pn = 5
  · skip
    refine lv_tableIn (off := 73) (tgt := 100) hx hb dX0_hurts_27 (by rw [s_15]; decide) (by rw [s_15]; decide) (by rw [s_15]; decide) (by decide +kernel) ?_
    refine lv_iconst (v := 0) hx hb dX0_hurts_100 (by decide +kernel) ?_
    refine lv_iload_n hx hb dX0_hurts_101 rfl (lv_at hl 3 rfl) ?_
    refine g_aget (D := G.1) (ci := 0) (v := .ref n2) (C := RX0) (T := TX0) (N := 12) hx hb dX0_hurts_102 rfl (lv_at hl 2 rfl) hts hiX0 hown hK hP 0 rfl rfl 2 (by decide +kernel) kf17 (fun _ h9 => h9) rfl dX0_hurts_103 ?_
    refine lv_iload_n hx hb dX0_hurts_106 rfl (lv_at hl 4 rfl) ?_
    refine g_iald (D := G.1) hx hb hK hP 1 0 rfl rfl (k := jn) (y := fso jn) (by omega) rfl rfl dX0_hurts_107 ?_
    refine g_aget (D := G.1) (ci := 0) (v := .ref n6) (C := RX0) (T := TX0) (N := 12) hx hb dX0_hurts_108 rfl (lv_at hl 2 rfl) hts hiX0 hown hK hP 0 rfl rfl 6 (by decide +kernel) kf29 (fun _ h9 => h9) rfl dX0_hurts_109 ?_
    refine lv_iload_n hx hb dX0_hurts_112 rfl (lv_at hl 5 rfl) ?_
    refine g_iald (D := G.1) hx hb hK hP 3 0 rfl rfl (k := pn) (y := fmo pn) (by omega) rfl rfl dX0_hurts_113 ?_
    refine lv_imul hx hb dX0_hurts_114 ?_
    refine lv_iconst (v := 4) hx hb dX0_hurts_115 (by decide +kernel) ?_
    refine lv_idiv hx hb dX0_hurts_116 (by decide +kernel) ?_
    refine lv_isub hx hb dX0_hurts_117 ?_
    refine va_mmax hx hb (by rw [hml]; exact hl.1.symm) hown (hts (.methodLink RX0 77 Lib.Math.max.name) (by decide +kernel)) (hts (.static Lib.Math.max.name) (by decide +kernel)) (hts (.initialized "java/lang/Math") (by decide +kernel)) (hts (.code Lib.Math.max.name Lib.Math.max.code 2 (some .int)) (by decide +kernel)) (Nat.le_of_ble_eq_true rfl) (Nat.le_of_ble_eq_true rfl) (Nat.le_of_ble_eq_true rfl) (Nat.le_of_ble_eq_true rfl) dX0_hurts_118 ?_
    refine g_topi (y := mMax 0 (v1 - (((fso jn) * (fmo pn)) / 4))) rfl ?_
    have hpost : (fun (r : Int32) (u : Unit) => match u with | _ => r = m_X0_hurts jn pn fso fki fmo v1) (mMax 0 (v1 - (((fso jn) * (fmo pn)) / 4))) () := (show m_X0_hurts jn pn fso fki fmo v1 = (mMax 0 (v1 - (((fso jn) * (fmo pn)) / 4))) from by unfold m_X0_hurts; rw [if_neg s_4, if_neg s_6, if_neg s_8, if_neg s_13, if_pos s_15]).symm
    exact W.iret (v := (mMax 0 (v1 - (((fso jn) * (fmo pn)) / 4)))) hx hb hr (fun t ht hW => ⟨⟨(mMax 0 (v1 - (((fso jn) * (fmo pn)) / 4))), (), rfl, hpost, by rw [ht]; exact hP, va_K.moved hW.alike hK, hD⟩, hS.F ht⟩) hS.2.2 dX0_hurts_121
  have s_4T := lv_neT (a := 1) s_4 (by decide +kernel)
  have s_6T := lv_neT (a := 2) s_6 (by decide +kernel)
  have s_8T := lv_neT (a := 3) s_8 (by decide +kernel)
  have s_13T := lv_neT (a := 4) s_13 (by decide +kernel)
  have s_15T := lv_neT (a := 5) s_15 (by decide +kernel)
  refine lv_tableOut (tgt := 122) hx hb dX0_hurts_27 (by omega) (by decide +kernel) ?_
  refine lv_iconst (v := 0) hx hb dX0_hurts_122 (by decide +kernel) ?_
  refine lv_iload hx hb dX0_hurts_123 (lv_at hl 1 rfl) ?_
  refine va_mmax hx hb (by rw [hml]; exact hl.1.symm) hown (hts (.methodLink RX0 77 Lib.Math.max.name) (by decide +kernel)) (hts (.static Lib.Math.max.name) (by decide +kernel)) (hts (.initialized "java/lang/Math") (by decide +kernel)) (hts (.code Lib.Math.max.name Lib.Math.max.code 2 (some .int)) (by decide +kernel)) (Nat.le_of_ble_eq_true rfl) (Nat.le_of_ble_eq_true rfl) (Nat.le_of_ble_eq_true rfl) (Nat.le_of_ble_eq_true rfl) dX0_hurts_125 ?_
  refine g_topi (y := mMax 0 (v1 - (fso jn))) rfl ?_
  have hpost : (fun (r : Int32) (u : Unit) => match u with | _ => r = m_X0_hurts jn pn fso fki fmo v1) (mMax 0 (v1 - (fso jn))) () := (show m_X0_hurts jn pn fso fki fmo v1 = (mMax 0 (v1 - (fso jn))) from by unfold m_X0_hurts; rw [if_neg s_4, if_neg s_6, if_neg s_8, if_neg s_13, if_neg s_15]).symm
  exact W.iret (v := (mMax 0 (v1 - (fso jn)))) hx hb hr (fun t ht hW => ⟨⟨(mMax 0 (v1 - (fso jn))), (), rfl, hpost, by rw [ht]; exact hP, va_K.moved hW.alike hK, hD⟩, hS.F ht⟩) hS.2.2 dX0_hurts_128
noncomputable def m_X0_wears (pn : Nat) (fki : Nat → Int32) (v1 : Int32) : Int32 := if fki pn = 2 then 2 * v1 else (if fki pn = 3 then v1 / 2 else (if fki pn = 4 then (if 5 < v1 then 2 * v1 else 0) else v1))
abbrev q_X0_wears (G : gG) (h0 tt n1 n2 n3 n4 n5 n6 n7 n8 : Nat) (lw : Nat) (pn : Nat) (xj : Int32) (xb : Int32) (fki : Nat → Int32) (v1 : Int32) (A : Nat → Prop) : Array Value → State → Outcome → State → Prop := va_Qi (fun (r : Int32) (u : Unit) => match u with | _ => r = m_X0_wears pn fki v1) (fun (u : Unit) t => match u with | _ => va_P G.1 vwCl [zo0 h0 tt n1 n2 n3 n4 n5 n6 n7 n8 xj xb (nI lw), zi G n5 6 fki] t.heap ∧ gK G t ∧ va_D A [zo0 h0 tt n1 n2 n3 n4 n5 n6 n7 n8 xj xb (nI lw), zi G n5 6 fki]) A
set_option maxHeartbeats 4000000 in
set_option maxRecDepth 100000 in
theorem c_X0_wears (l : Launch) (G : gG) (h0 tt n1 n2 n3 n4 n5 n6 n7 n8 : Nat) (lw : Nat) (pn : Nat) (xj : Int32) (xb : Int32) (fki : Nat → Int32) (v1 : Int32) (sz : Nat) (hp : pn < 6) : Met l yX0_wears wsX0_wears ({ frames := 0, cells := 0, slots := 0, locals := 0 }) (gPre G [.ref h0, .int v1, .int (nI pn)] [zo0 h0 tt n1 n2 n3 n4 n5 n6 n7 n8 xj xb (nI lw), zi G n5 6 fki] sz) (q_X0_wears G h0 tt n1 n2 n3 n4 n5 n6 n7 n8 lw pn xj xb fki v1 (va_A [zo0 h0 tt n1 n2 n3 n4 n5 n6 n7 n8 xj xb (nI lw), zi G n5 6 fki] sz)) 0 0 (va_A [zo0 h0 tt n1 n2 n3 n4 n5 n6 n7 n8 xj xb (nI lw), zi G n5 6 fki] sz) := by
  refine Met.ofW (cc := cX0_wears) (maxL := 3) (ret := (some .int)) (by decide +kernel) rfl ?_
  intro p e s m args below meth c s₁ B hml hv
  obtain ⟨rfl, hsz, hP, hK, hD0⟩ := hv
  have hx := B.exec
  have hb := B.bytes
  have hr := B.returns
  have hts := atoms_spec (ws := wsX0_wears) B.pre
  have hown : s.vm.findClass RX0 = some m.cls := findClass_of_methodNamed B.named
  have hlocks := B.notSynchronized
  subst hsz
  have hD := hD0.self (sz := s.heap.size)
  generalize hAe : va_A [zo0 h0 tt n1 n2 n3 n4 n5 n6 n7 n8 xj xb (nI lw), zi G n5 6 fki] s.heap.size = A at hD ⊢
  have hA : ∀ q : Nat, s.heap.size ≤ q → A q := fun q h => by rw [← hAe]; exact Or.inr h
  have hS : va_S A s.heap s.heap [] := va_S.rf
  have hz9 : gPD G A [zo0 h0 tt n1 n2 n3 n4 n5 n6 n7 n8 xj xb (nI lw), zi G n5 6 fki] s.heap := ⟨hP, hD⟩
  have hP := hz9.1
  have hD := hz9.2
  have hl := lv_entry ([.ref h0, .int v1, .int (nI pn)]) (n := 3) (Nat.le_of_ble_eq_true rfl)
  rw [lg_entry_eq]
  generalize (lg_sl ([.ref h0, .int v1, .int (nI pn)]) ++ List.replicate (3 - (lg_sl ([.ref h0, .int v1, .int (nI pn)])).length) Slot.unset).toArray = ls at hl ⊢
  have hl : lv_has ls 3 [zR 0 h0, zI 1 v1, zI 2 (nI pn)] := hl
  have kf26 := hts (.fieldLink RX0 26 "PebbleInShoe$Court" "kind" "[I") (by decide +kernel)
  have hiX0 := (by decide +kernel : ∀ w ∈ wsX00, w ∈ wsX0_wears)
  refine g_aget (D := G.1) (ci := 0) (v := .ref n5) (C := RX0) (T := TX0) (N := 12) hx hb dX0_wears_0 rfl (lv_at hl 0 rfl) hts hiX0 hown hK hP 0 rfl rfl 5 (by decide +kernel) kf26 (fun _ h9 => h9) rfl dX0_wears_1 ?_
  refine lv_iload_n hx hb dX0_wears_4 rfl (lv_at hl 2 rfl) ?_
  refine g_iald (D := G.1) hx hb hK hP 1 0 rfl rfl (k := pn) (y := fki pn) (by omega) rfl rfl dX0_wears_5 ?_
  by_cases s_2 : fki pn = 2
  · skip
    refine lv_tableIn (off := 26) (tgt := 32) hx hb dX0_wears_6 (by rw [s_2]; decide) (by rw [s_2]; decide) (by rw [s_2]; decide) (by decide +kernel) ?_
    refine lv_iconst (v := 2) hx hb dX0_wears_32 (by decide +kernel) ?_
    refine lv_iload_n hx hb dX0_wears_33 rfl (lv_at hl 1 rfl) ?_
    refine lv_imul hx hb dX0_wears_34 ?_
    have hpost : (fun (r : Int32) (u : Unit) => match u with | _ => r = m_X0_wears pn fki v1) (2 * v1) () := (show m_X0_wears pn fki v1 = (2 * v1) from by unfold m_X0_wears; rw [if_pos s_2]).symm
    exact W.iret (v := (2 * v1)) hx hb hr (fun t ht hW => ⟨⟨(2 * v1), (), rfl, hpost, by rw [ht]; exact hP, va_K.moved hW.alike hK, hD⟩, hS.F ht⟩) hS.2.2 dX0_wears_35
  by_cases s_3 : fki pn = 3
  · skip
    refine lv_tableIn (off := 30) (tgt := 36) hx hb dX0_wears_6 (by rw [s_3]; decide) (by rw [s_3]; decide) (by rw [s_3]; decide) (by decide +kernel) ?_
    refine lv_iload_n hx hb dX0_wears_36 rfl (lv_at hl 1 rfl) ?_
    refine lv_iconst (v := 2) hx hb dX0_wears_37 (by decide +kernel) ?_
    refine lv_idiv hx hb dX0_wears_38 (by decide +kernel) ?_
    have hpost : (fun (r : Int32) (u : Unit) => match u with | _ => r = m_X0_wears pn fki v1) (v1 / 2) () := (show m_X0_wears pn fki v1 = (v1 / 2) from by unfold m_X0_wears; rw [if_neg s_2, if_pos s_3]).symm
    exact W.iret (v := (v1 / 2)) hx hb hr (fun t ht hW => ⟨⟨(v1 / 2), (), rfl, hpost, by rw [ht]; exact hP, va_K.moved hW.alike hK, hD⟩, hS.F ht⟩) hS.2.2 dX0_wears_39
  by_cases s_4 : fki pn = 4
  · skip
    refine lv_tableIn (off := 34) (tgt := 40) hx hb dX0_wears_6 (by rw [s_4]; decide) (by rw [s_4]; decide) (by rw [s_4]; decide) (by decide +kernel) ?_
    refine lv_iload_n hx hb dX0_wears_40 rfl (lv_at hl 1 rfl) ?_
    refine lv_iconst (v := 5) hx hb dX0_wears_41 (by decide +kernel) ?_
    refine lv_icmp_gt (tgt := 49) hx hb dX0_wears_42 (by decide +kernel) (fun c_5 => ?_) (fun c_5 => ?_)
    · skip
      refine lv_iconst (v := 2) hx hb dX0_wears_49 (by decide +kernel) ?_
      refine lv_iload_n hx hb dX0_wears_50 rfl (lv_at hl 1 rfl) ?_
      refine lv_imul hx hb dX0_wears_51 ?_
      have hpost : (fun (r : Int32) (u : Unit) => match u with | _ => r = m_X0_wears pn fki v1) (2 * v1) () := (show m_X0_wears pn fki v1 = (2 * v1) from by unfold m_X0_wears; rw [if_neg s_2, if_neg s_3, if_pos s_4, if_pos c_5]).symm
      exact W.iret (v := (2 * v1)) hx hb hr (fun t ht hW => ⟨⟨(2 * v1), (), rfl, hpost, by rw [ht]; exact hP, va_K.moved hW.alike hK, hD⟩, hS.F ht⟩) hS.2.2 dX0_wears_52
    · skip
      refine lv_iconst (v := 0) hx hb dX0_wears_45 (by decide +kernel) ?_
      refine lv_goto (tgt := 52) hx hb dX0_wears_46 (by decide +kernel) ?_
      have hpost : (fun (r : Int32) (u : Unit) => match u with | _ => r = m_X0_wears pn fki v1) 0 () := (show m_X0_wears pn fki v1 = 0 from by unfold m_X0_wears; rw [if_neg s_2, if_neg s_3, if_pos s_4, if_neg c_5]).symm
      exact W.iret (v := 0) hx hb hr (fun t ht hW => ⟨⟨0, (), rfl, hpost, by rw [ht]; exact hP, va_K.moved hW.alike hK, hD⟩, hS.F ht⟩) hS.2.2 dX0_wears_52
  have s_2T := lv_neT (a := 2) s_2 (by decide +kernel)
  have s_3T := lv_neT (a := 3) s_3 (by decide +kernel)
  have s_4T := lv_neT (a := 4) s_4 (by decide +kernel)
  refine lv_tableOut (tgt := 53) hx hb dX0_wears_6 (by omega) (by decide +kernel) ?_
  refine lv_iload_n hx hb dX0_wears_53 rfl (lv_at hl 1 rfl) ?_
  have hpost : (fun (r : Int32) (u : Unit) => match u with | _ => r = m_X0_wears pn fki v1) v1 () := (show m_X0_wears pn fki v1 = v1 from by unfold m_X0_wears; rw [if_neg s_2, if_neg s_3, if_neg s_4]).symm
  exact W.iret (v := v1) hx hb hr (fun t ht hW => ⟨⟨v1, (), rfl, hpost, by rw [ht]; exact hP, va_K.moved hW.alike hK, hD⟩, hS.F ht⟩) hS.2.2 dX0_wears_54
noncomputable def m_X0_tread_n2 (jn : Nat) (fso : Nat → Int32) (fmi : Nat → Int32) : Nat → Int32 := if (iRem ((fmi jn) + 1) 10) = 0 then upd fso jn (mMin 20 ((fso jn) + 1)) else fso
abbrev q_X0_tread (G : gG) (h0 tt n1 n2 n3 n4 n5 n6 n7 n8 : Nat) (lw : Nat) (jn : Nat) (xj : Int32) (xb : Int32) (fso : Nat → Int32) (fmi : Nat → Int32) (A : Nat → Prop) : Array Value → State → Outcome → State → Prop := va_Qv (fun (u : Unit) => match u with | _ => True) (fun (u : Unit) t => match u with | _ => va_P G.1 vwCl [zo0 h0 tt n1 n2 n3 n4 n5 n6 n7 n8 xj xb (nI lw), zi G n2 4 (m_X0_tread_n2 jn fso fmi), zi G n3 4 (upd fmi jn ((fmi jn) + 1))] t.heap ∧ gK G t ∧ va_D A [zo0 h0 tt n1 n2 n3 n4 n5 n6 n7 n8 xj xb (nI lw), zi G n2 4 (m_X0_tread_n2 jn fso fmi), zi G n3 4 (upd fmi jn ((fmi jn) + 1))]) A
set_option maxHeartbeats 4000000 in
set_option maxRecDepth 100000 in
theorem c_X0_tread (l : Launch) (G : gG) (h0 tt n1 n2 n3 n4 n5 n6 n7 n8 : Nat) (lw : Nat) (jn : Nat) (xj : Int32) (xb : Int32) (fso : Nat → Int32) (fmi : Nat → Int32) (sz : Nat) (hj : jn < 4) : Met l yX0_tread wsX0_tread ({ frames := 1, cells := 0, slots := 0, locals := 60 }) (gPre G [.ref h0, .int (nI jn)] [zo0 h0 tt n1 n2 n3 n4 n5 n6 n7 n8 xj xb (nI lw), zi G n2 4 fso, zi G n3 4 fmi] sz) (q_X0_tread G h0 tt n1 n2 n3 n4 n5 n6 n7 n8 lw jn xj xb fso fmi (va_A [zo0 h0 tt n1 n2 n3 n4 n5 n6 n7 n8 xj xb (nI lw), zi G n2 4 fso, zi G n3 4 fmi] sz)) 0 0 (va_A [zo0 h0 tt n1 n2 n3 n4 n5 n6 n7 n8 xj xb (nI lw), zi G n2 4 fso, zi G n3 4 fmi] sz) := by
  refine Met.ofW (cc := cX0_tread) (maxL := 2) (ret := none) (by decide +kernel) rfl ?_
  intro p e s m args below meth c s₁ B hml hv
  obtain ⟨rfl, hsz, hP, hK, hD0⟩ := hv
  have hx := B.exec
  have hb := B.bytes
  have hr := B.returns
  have hts := atoms_spec (ws := wsX0_tread) B.pre
  have hown : s.vm.findClass RX0 = some m.cls := findClass_of_methodNamed B.named
  have hlocks := B.notSynchronized
  subst hsz
  have hD := hD0.self (sz := s.heap.size)
  generalize hAe : va_A [zo0 h0 tt n1 n2 n3 n4 n5 n6 n7 n8 xj xb (nI lw), zi G n2 4 fso, zi G n3 4 fmi] s.heap.size = A at hD ⊢
  have hA : ∀ q : Nat, s.heap.size ≤ q → A q := fun q h => by rw [← hAe]; exact Or.inr h
  have hS : va_S A s.heap s.heap [] := va_S.rf
  have hz9 : gPD G A [zo0 h0 tt n1 n2 n3 n4 n5 n6 n7 n8 xj xb (nI lw), zi G n2 4 fso, zi G n3 4 fmi] s.heap := ⟨hP, hD⟩
  have hP := hz9.1
  have hD := hz9.2
  have hl := lv_entry ([.ref h0, .int (nI jn)]) (n := 2) (Nat.le_of_ble_eq_true rfl)
  rw [lg_entry_eq]
  generalize (lg_sl ([.ref h0, .int (nI jn)]) ++ List.replicate (2 - (lg_sl ([.ref h0, .int (nI jn)])).length) Slot.unset).toArray = ls at hl ⊢
  have hl : lv_has ls 2 [zR 0 h0, zI 1 (nI jn)] := hl
  have kf20 := hts (.fieldLink RX0 20 "PebbleInShoe$Court" "miles" "[I") (by decide +kernel)
  have hiX0 := (by decide +kernel : ∀ w ∈ wsX00, w ∈ wsX0_tread)
  have kf17 := hts (.fieldLink RX0 17 "PebbleInShoe$Court" "soles" "[I") (by decide +kernel)
  refine g_aget (D := G.1) (ci := 0) (v := .ref n3) (C := RX0) (T := TX0) (N := 12) hx hb dX0_tread_0 rfl (lv_at hl 0 rfl) hts hiX0 hown hK hP 0 rfl rfl 3 (by decide +kernel) kf20 (fun _ h9 => h9) rfl dX0_tread_1 ?_
  refine lv_iload_n hx hb dX0_tread_4 rfl (lv_at hl 1 rfl) ?_
  refine lv_dup2_11 hx hb dX0_tread_5 rfl rfl ?_
  refine g_iald (D := G.1) hx hb hK hP 2 0 rfl rfl (k := jn) (y := fmi jn) (by omega) rfl rfl dX0_tread_6 ?_
  refine lv_iconst (v := 1) hx hb dX0_tread_7 (by decide +kernel) ?_
  refine lv_iadd hx hb dX0_tread_8 ?_
  refine g_iast (D := G.1) hx hb hK hP hD hS 2 0 rfl rfl (k := jn) (x := ((fmi jn) + 1)) (by omega) rfl dX0_tread_9 (fun H locs hP hD hS => ?_)
  have hz9 : gPD G A [zo0 h0 tt n1 n2 n3 n4 n5 n6 n7 n8 xj xb (nI lw), zi G n2 4 fso, zi G n3 4 (upd fmi jn ((fmi jn) + 1))] H := ⟨hP, hD⟩
  have hP := hz9.1
  have hD := hz9.2
  refine g_aget (D := G.1) (ci := 0) (v := .ref n3) (C := RX0) (T := TX0) (N := 12) hx hb dX0_tread_10 rfl (lv_at hl 0 rfl) hts hiX0 hown hK hP 0 rfl rfl 3 (by decide +kernel) kf20 (fun _ h9 => h9) rfl dX0_tread_11 ?_
  refine lv_iload_n hx hb dX0_tread_14 rfl (lv_at hl 1 rfl) ?_
  refine va_iald (D := G.1) hx hb hK hP 2 0 rfl rfl (i := (nI jn)) (vpn (by omega) rfl) dX0_tread_15 ?_
  refine g_topi (y := (fmi jn) + 1) (by rw [nI_clamp (by omega), upd_a9 (by omega)]) ?_
  refine lv_bipush (v := 10) hx hb dX0_tread_16 (by decide +kernel) ?_
  refine lv_irem hx hb dX0_tread_18 (by decide +kernel) ?_
  refine g_topi (y := iRem ((fmi jn) + 1) 10) (rfl) ?_
  refine lv_if_ne (tgt := 41) hx hb dX0_tread_19 (by decide +kernel) (fun c_4 => ?_) (fun c_4 => ?_)
  · skip
    have q_5 : m_X0_tread_n2 jn fso fmi = fso := by unfold m_X0_tread_n2; rw [if_neg c_4]
    have hz9 : gPD G A [zo0 h0 tt n1 n2 n3 n4 n5 n6 n7 n8 xj xb (nI lw), zi G n2 4 (m_X0_tread_n2 jn fso fmi), zi G n3 4 (upd fmi jn ((fmi jn) + 1))] H := ⟨by rw [q_5]; exact hP, by rw [q_5]; exact hD⟩
    have hP9 := hz9.1
    have hD9 := hz9.2
    have hpost : (fun (u : Unit) => match u with | _ => True) () := trivial
    exact W.vret hx hb hr (fun t ht hW => ⟨⟨(), rfl, hpost, by rw [ht]; exact hP9, va_K.moved hW.alike hK, hD9⟩, hS.F ht⟩) hS.2.2 dX0_tread_41
  · skip
    refine g_aget (D := G.1) (ci := 0) (v := .ref n2) (C := RX0) (T := TX0) (N := 12) hx hb dX0_tread_22 rfl (lv_at hl 0 rfl) hts hiX0 hown hK hP 0 rfl rfl 2 (by decide +kernel) kf17 (fun _ h9 => h9) rfl dX0_tread_23 ?_
    refine lv_iload_n hx hb dX0_tread_26 rfl (lv_at hl 1 rfl) ?_
    refine lv_bipush (v := 20) hx hb dX0_tread_27 (by decide +kernel) ?_
    refine g_aget (D := G.1) (ci := 0) (v := .ref n2) (C := RX0) (T := TX0) (N := 12) hx hb dX0_tread_29 rfl (lv_at hl 0 rfl) hts hiX0 hown hK hP 0 rfl rfl 2 (by decide +kernel) kf17 (fun _ h9 => h9) rfl dX0_tread_30 ?_
    refine lv_iload_n hx hb dX0_tread_33 rfl (lv_at hl 1 rfl) ?_
    refine g_iald (D := G.1) hx hb hK hP 1 0 rfl rfl (k := jn) (y := fso jn) (by omega) rfl rfl dX0_tread_34 ?_
    refine lv_iconst (v := 1) hx hb dX0_tread_35 (by decide +kernel) ?_
    refine lv_iadd hx hb dX0_tread_36 ?_
    refine va_mmin hx hb (by rw [hml]; exact hl.1.symm) hown (hts (.methodLink RX0 71 Lib.Math.min.name) (by decide +kernel)) (hts (.static Lib.Math.min.name) (by decide +kernel)) (hts (.initialized "java/lang/Math") (by decide +kernel)) (hts (.code Lib.Math.min.name Lib.Math.min.code 2 (some .int)) (by decide +kernel)) (Nat.le_of_ble_eq_true rfl) (Nat.le_of_ble_eq_true rfl) (Nat.le_of_ble_eq_true rfl) (Nat.le_of_ble_eq_true rfl) dX0_tread_37 ?_
    refine g_topi (y := mMin 20 ((fso jn) + 1)) rfl ?_
    refine g_iast (D := G.1) hx hb hK hP hD hS 1 0 rfl rfl (k := jn) (x := (mMin 20 ((fso jn) + 1))) (by omega) rfl dX0_tread_40 (fun H locs hP hD hS => ?_)
    have hz9 : gPD G A [zo0 h0 tt n1 n2 n3 n4 n5 n6 n7 n8 xj xb (nI lw), zi G n2 4 (upd fso jn (mMin 20 ((fso jn) + 1))), zi G n3 4 (upd fmi jn ((fmi jn) + 1))] H := ⟨hP, hD⟩
    have hP := hz9.1
    have hD := hz9.2
    have q_8 : m_X0_tread_n2 jn fso fmi = upd fso jn (mMin 20 ((fso jn) + 1)) := by unfold m_X0_tread_n2; rw [if_pos c_4]
    have hz9 : gPD G A [zo0 h0 tt n1 n2 n3 n4 n5 n6 n7 n8 xj xb (nI lw), zi G n2 4 (m_X0_tread_n2 jn fso fmi), zi G n3 4 (upd fmi jn ((fmi jn) + 1))] H := ⟨by rw [q_8]; exact hP, by rw [q_8]; exact hD⟩
    have hP9 := hz9.1
    have hD9 := hz9.2
    have hpost : (fun (u : Unit) => match u with | _ => True) () := trivial
    exact W.vret hx hb hr (fun t ht hW => ⟨⟨(), rfl, hpost, by rw [ht]; exact hP9, va_K.moved hW.alike hK, hD9⟩, hS.F ht⟩) hS.2.2 dX0_tread_41
noncomputable def m_X0_mile (jn : Nat) (pn : Nat) (fso : Nat → Int32) (fmi : Nat → Int32) (fki : Nat → Int32) (fmo : Nat → Int32) (fsz : Nat → Int32) (frd : Nat → Int32) (fct : Nat → Int32) (fet : Nat → Nat) : Int32 := if (m_X0_isSand pn fki fmo fsz) = 0 then m_X0_hurts jn pn fso fki fmo (m_X0_says 0 jn pn fso fmi fmo fsz frd fct fet) else 0
noncomputable def m_X0_mile_n2 (jn : Nat) (fso : Nat → Int32) (fmi : Nat → Int32) : Nat → Int32 := (m_X0_tread_n2 jn fso fmi)
noncomputable def m_X0_mile_n4 (jn : Nat) (pn : Nat) (fso : Nat → Int32) (fmi : Nat → Int32) (fpa : Nat → Int32) (fki : Nat → Int32) (fmo : Nat → Int32) (fsz : Nat → Int32) (frd : Nat → Int32) (fct : Nat → Int32) (fet : Nat → Nat) : Nat → Int32 := if (m_X0_isSand pn fki fmo fsz) = 0 then upd fpa jn (mMin 99999 ((fpa jn) + (m_X0_hurts jn pn fso fki fmo (m_X0_says 0 jn pn fso fmi fmo fsz frd fct fet)))) else fpa
noncomputable def m_X0_mile_n7 (jn : Nat) (pn : Nat) (fso : Nat → Int32) (fmi : Nat → Int32) (fki : Nat → Int32) (fmo : Nat → Int32) (fsz : Nat → Int32) (frd : Nat → Int32) (fct : Nat → Int32) (fet : Nat → Nat) (v3 : Int32) : Nat → Int32 := if (m_X0_isSand pn fki fmo fsz) = 0 then upd fsz pn (mMax 0 ((fsz pn) - ((m_X0_wears pn fki (m_X0_says 1 jn pn fso fmi fmo fsz frd fct fet)) + v3))) else fsz
abbrev q_X0_mile (G : gG) (h0 tt n1 n2 n3 n4 n5 n6 n7 n8 co en sk ct et : Nat) (lw : Nat) (jn : Nat) (pn : Nat) (tx : Nat) (xj : Int32) (xb : Int32) (wr : Int32) (fnm : Nat → Int32) (fso : Nat → Int32) (fmi : Nat → Int32) (fpa : Nat → Int32) (fki : Nat → Int32) (fmo : Nat → Int32) (fsz : Nat → Int32) (frd : Nat → Int32) (fc : Nat → Option Nat) (fe : Nat → Option Nat) (fct : Nat → Int32) (fet : Nat → Nat) (fsk : Nat → Int32) (v3 : Int32) (A : Nat → Prop) : Array Value → State → Outcome → State → Prop := va_Qi (fun (r : Int32) (u : (Nat → Int32) × (Nat → Int32)) => match u with | (yn1, ysk) => r = m_X0_mile jn pn fso fmi fki fmo fsz frd fct fet) (fun (u : (Nat → Int32) × (Nat → Int32)) t => match u with | (yn1, ysk) => va_P G.1 vwCl [zo0 h0 tt n1 n2 n3 n4 n5 n6 n7 n8 xj xb (nI lw), zi G n1 6 yn1, zi G n2 4 (m_X0_mile_n2 jn fso fmi), zi G n3 4 (upd fmi jn ((fmi jn) + 1)), zi G n4 4 (m_X0_mile_n4 jn pn fso fmi fpa fki fmo fsz frd fct fet), zi G n5 6 fki, zi G n6 6 fmo, zi G n7 6 (m_X0_mile_n7 jn pn fso fmi fki fmo fsz frd fct fet v3), zi G n8 6 frd, zo3 tt co en sk wr (nI tx), zr G co 6 fc, zr G en 6 fe, zi G ct 160 fct, zi G et 3 (nF fet), zi G sk 32 ysk] t.heap ∧ gK G t ∧ va_D A [zo0 h0 tt n1 n2 n3 n4 n5 n6 n7 n8 xj xb (nI lw), zi G n1 6 yn1, zi G n2 4 (m_X0_mile_n2 jn fso fmi), zi G n3 4 (upd fmi jn ((fmi jn) + 1)), zi G n4 4 (m_X0_mile_n4 jn pn fso fmi fpa fki fmo fsz frd fct fet), zi G n5 6 fki, zi G n6 6 fmo, zi G n7 6 (m_X0_mile_n7 jn pn fso fmi fki fmo fsz frd fct fet v3), zi G n8 6 frd, zo3 tt co en sk wr (nI tx), zr G co 6 fc, zr G en 6 fe, zi G ct 160 fct, zi G et 3 (nF fet), zi G sk 32 ysk]) A
set_option maxHeartbeats 4000000 in
set_option maxRecDepth 100000 in
theorem c_X0_mile (l : Launch) (G : gG) (h0 tt n1 n2 n3 n4 n5 n6 n7 n8 co en sk ct et : Nat) (lw : Nat) (jn : Nat) (pn : Nat) (tx : Nat) (xj : Int32) (xb : Int32) (wr : Int32) (fnm : Nat → Int32) (fso : Nat → Int32) (fmi : Nat → Int32) (fpa : Nat → Int32) (fki : Nat → Int32) (fmo : Nat → Int32) (fsz : Nat → Int32) (frd : Nat → Int32) (fc : Nat → Option Nat) (fe : Nat → Option Nat) (fct : Nat → Int32) (fet : Nat → Nat) (fsk : Nat → Int32) (v3 : Int32) (sz : Nat) (hj : jn < 4) (hp : pn < 6) (htn : lw < tx ∧ tx ≤ 6) (hc : fc lw = some ct) (he : fe lw = some et) (hwx : mWx fct fet) : Met l yX0_mile wsX0_mile ({ frames := 3, cells := 0, slots := 0, locals := 85 }) (gPre G [.ref h0, .int (nI jn), .int (nI pn), .int v3] [zo0 h0 tt n1 n2 n3 n4 n5 n6 n7 n8 xj xb (nI lw), zi G n1 6 fnm, zi G n2 4 fso, zi G n3 4 fmi, zi G n4 4 fpa, zi G n5 6 fki, zi G n6 6 fmo, zi G n7 6 fsz, zi G n8 6 frd, zo3 tt co en sk wr (nI tx), zr G co 6 fc, zr G en 6 fe, zi G ct 160 fct, zi G et 3 (nF fet), zi G sk 32 fsk] sz) (q_X0_mile G h0 tt n1 n2 n3 n4 n5 n6 n7 n8 co en sk ct et lw jn pn tx xj xb wr fnm fso fmi fpa fki fmo fsz frd fc fe fct fet fsk v3 (va_A [zo0 h0 tt n1 n2 n3 n4 n5 n6 n7 n8 xj xb (nI lw), zi G n1 6 fnm, zi G n2 4 fso, zi G n3 4 fmi, zi G n4 4 fpa, zi G n5 6 fki, zi G n6 6 fmo, zi G n7 6 fsz, zi G n8 6 frd, zo3 tt co en sk wr (nI tx), zr G co 6 fc, zr G en 6 fe, zi G ct 160 fct, zi G et 3 (nF fet), zi G sk 32 fsk] sz)) 0 0 (va_A [zo0 h0 tt n1 n2 n3 n4 n5 n6 n7 n8 xj xb (nI lw), zi G n1 6 fnm, zi G n2 4 fso, zi G n3 4 fmi, zi G n4 4 fpa, zi G n5 6 fki, zi G n6 6 fmo, zi G n7 6 fsz, zi G n8 6 frd, zo3 tt co en sk wr (nI tx), zr G co 6 fc, zr G en 6 fe, zi G ct 160 fct, zi G et 3 (nF fet), zi G sk 32 fsk] sz) := by
  refine Met.ofW (cc := cX0_mile) (maxL := 6) (ret := (some .int)) (by decide +kernel) rfl ?_
  intro p e s m args below meth c s₁ B hml hv
  obtain ⟨rfl, hsz, hP, hK, hD0⟩ := hv
  have hx := B.exec
  have hb := B.bytes
  have hr := B.returns
  have hts := atoms_spec (ws := wsX0_mile) B.pre
  have hown : s.vm.findClass RX0 = some m.cls := findClass_of_methodNamed B.named
  have hlocks := B.notSynchronized
  subst hsz
  have hD := hD0.self (sz := s.heap.size)
  generalize hAe : va_A [zo0 h0 tt n1 n2 n3 n4 n5 n6 n7 n8 xj xb (nI lw), zi G n1 6 fnm, zi G n2 4 fso, zi G n3 4 fmi, zi G n4 4 fpa, zi G n5 6 fki, zi G n6 6 fmo, zi G n7 6 fsz, zi G n8 6 frd, zo3 tt co en sk wr (nI tx), zr G co 6 fc, zr G en 6 fe, zi G ct 160 fct, zi G et 3 (nF fet), zi G sk 32 fsk] s.heap.size = A at hD ⊢
  have hA : ∀ q : Nat, s.heap.size ≤ q → A q := fun q h => by rw [← hAe]; exact Or.inr h
  have hS : va_S A s.heap s.heap [] := va_S.rf
  have hz9 : gPD G A [zo0 h0 tt n1 n2 n3 n4 n5 n6 n7 n8 xj xb (nI lw), zi G n1 6 fnm, zi G n2 4 fso, zi G n3 4 fmi, zi G n4 4 fpa, zi G n5 6 fki, zi G n6 6 fmo, zi G n7 6 fsz, zi G n8 6 frd, zo3 tt co en sk wr (nI tx), zr G co 6 fc, zr G en 6 fe, zi G ct 160 fct, zi G et 3 (nF fet), zi G sk 32 fsk] s.heap := ⟨hP, hD⟩
  have hP := hz9.1
  have hD := hz9.2
  have hl := lv_entry ([.ref h0, .int (nI jn), .int (nI pn), .int v3]) (n := 6) (Nat.le_of_ble_eq_true rfl)
  rw [lg_entry_eq]
  generalize (lg_sl ([.ref h0, .int (nI jn), .int (nI pn), .int v3]) ++ List.replicate (6 - (lg_sl ([.ref h0, .int (nI jn), .int (nI pn), .int v3])).length) Slot.unset).toArray = ls at hl ⊢
  have hl : lv_has ls 6 [zR 0 h0, zI 1 (nI jn), zI 2 (nI pn), zI 3 v3] := hl
  have kf23 := hts (.fieldLink RX0 23 "PebbleInShoe$Court" "pains" "[I") (by decide +kernel)
  have hiX0 := (by decide +kernel : ∀ w ∈ wsX00, w ∈ wsX0_mile)
  have kf32 := hts (.fieldLink RX0 32 "PebbleInShoe$Court" "size" "[I") (by decide +kernel)
  refine lv_iconst (v := 0) hx hb dX0_mile_0 (by decide +kernel) ?_
  refine lv_istore (lv' := [zI 4 0, zR 0 h0, zI 1 (nI jn), zI 2 (nI pn), zI 3 v3]) hx hb dX0_mile_1 hl (by decide +kernel) rfl (fun ls hl => ?_)
  refine lv_aload_n hx hb dX0_mile_3 rfl (lv_at hl 1 rfl) ?_
  refine lv_iload_n hx hb dX0_mile_4 rfl (lv_at hl 3 rfl) ?_
  refine z_calli [0, 5, 6, 7] (v := m_X0_isSand pn fki fmo fsz) (fun _ _ h => h) (va_runV (As := [.int (nI pn)]) (rest := []) ⟨hx, hb, hml, hown, hts⟩ (c_X0_isSand l G h0 tt n1 n2 n3 n4 n5 n6 n7 n8 lw pn xj xb fki fmo fsz s.heap.size (by first | exact hp | assumption | omega)) (cwV 1 hts gX0_mile_X0_isSand rfl rfl rfl (by decide +kernel) ⟨Nat.le_of_ble_eq_true rfl, Nat.le_of_ble_eq_true rfl⟩) ⟨gPre_blind, va_recv (q := (RX0, TX0, 12)) hK hP (ci := 0) (q0 := 0) rfl rfl, fun U hU hW => gPre_ofF [0, 5, 6, 7] hU hW hK hP hD (by decide +kernel) rfl⟩ rfl rfl hl.1 rfl (lv_room (Nat.le_of_ble_eq_true rfl)) dX0_mile_5 ⟨Nat.le_of_ble_eq_true rfl, Nat.le_of_ble_eq_true rfl⟩) hS hD hA rfl (fun u t H locs ht hvm hB hz1 hk1 hFq hAq hS => ?_)
  obtain ⟨hP1, hK1, hD1⟩ := hB
  have hP := zKeep hP hD [0, 5, 6, 7] hAq hk1 ht hP1 rfl
  refine lv_if_ne (tgt := 81) hx hb dX0_mile_8 (by decide +kernel) (fun c_3 => ?_) (fun c_3 => ?_)
  · skip
    refine lv_aload_n hx hb dX0_mile_81 rfl (lv_at hl 1 rfl) ?_
    refine lv_iload_n hx hb dX0_mile_82 rfl (lv_at hl 2 rfl) ?_
    refine z_callv [0, 2, 3] (va_runV (As := [.int (nI jn)]) (rest := []) ⟨hx, hb, hml, hown, hts⟩ (c_X0_tread l G h0 tt n1 n2 n3 n4 n5 n6 n7 n8 lw jn xj xb fso fmi H.size (by first | exact hj | assumption | omega)) (cwV 1 hts gX0_mile_X0_tread rfl rfl rfl (by decide +kernel) ⟨Nat.le_of_ble_eq_true rfl, Nat.le_of_ble_eq_true rfl⟩) ⟨gPre_blind, va_recv (q := (RX0, TX0, 12)) hK hP (ci := 0) (q0 := 0) rfl rfl, fun U hU hW => gPre_ofF [0, 2, 3] hU hW hK hP hD (by decide +kernel) rfl⟩ rfl rfl hl.1 rfl (lv_room (Nat.le_of_ble_eq_true rfl)) dX0_mile_83 ⟨Nat.le_of_ble_eq_true rfl, Nat.le_of_ble_eq_true rfl⟩) hS hD hA rfl (fun u t H locs ht hvm w_5 hB hz1 hk1 hFq hAq hS => ?_)
    obtain ⟨hP1, hK1, hD1⟩ := hB
    have hz9 : gPD G A [zo0 h0 tt n1 n2 n3 n4 n5 n6 n7 n8 xj xb (nI lw), zi G n1 6 fnm, zi G n2 4 (m_X0_tread_n2 jn fso fmi), zi G n3 4 (upd fmi jn ((fmi jn) + 1)), zi G n4 4 fpa, zi G n5 6 fki, zi G n6 6 fmo, zi G n7 6 fsz, zi G n8 6 frd, zo3 tt co en sk wr (nI tx), zr G co 6 fc, zr G en 6 fe, zi G ct 160 fct, zi G et 3 (nF fet), zi G sk 32 fsk] H := zFill hP hD [0, 2, 3] [1, 0, 2, 3] hAq hk1 hFq ht hP1 hD1 rfl (by decide +kernel)
    have hP := hz9.1
    have hD := hz9.2
    refine lv_iload hx hb dX0_mile_86 (lv_at hl 0 rfl) ?_
    have q_6 : m_X0_mile_n2 jn fso fmi = (m_X0_tread_n2 jn fso fmi) := rfl
    have q_7 : m_X0_mile_n4 jn pn fso fmi fpa fki fmo fsz frd fct fet = fpa := by unfold m_X0_mile_n4; rw [if_neg c_3]
    have q_8 : m_X0_mile_n7 jn pn fso fmi fki fmo fsz frd fct fet v3 = fsz := by unfold m_X0_mile_n7; rw [if_neg c_3]
    have hz9 : gPD G A [zo0 h0 tt n1 n2 n3 n4 n5 n6 n7 n8 xj xb (nI lw), zi G n1 6 fnm, zi G n2 4 (m_X0_mile_n2 jn fso fmi), zi G n3 4 (upd fmi jn ((fmi jn) + 1)), zi G n4 4 (m_X0_mile_n4 jn pn fso fmi fpa fki fmo fsz frd fct fet), zi G n5 6 fki, zi G n6 6 fmo, zi G n7 6 (m_X0_mile_n7 jn pn fso fmi fki fmo fsz frd fct fet v3), zi G n8 6 frd, zo3 tt co en sk wr (nI tx), zr G co 6 fc, zr G en 6 fe, zi G ct 160 fct, zi G et 3 (nF fet), zi G sk 32 fsk] H := ⟨by rw [q_6, q_7, q_8]; exact hP, by rw [q_6, q_7, q_8]; exact hD⟩
    have hP9 := hz9.1
    have hD9 := hz9.2
    have hpost : (fun (r : Int32) (u : (Nat → Int32) × (Nat → Int32)) => match u with | (yn1, ysk) => r = m_X0_mile jn pn fso fmi fki fmo fsz frd fct fet) 0 (fnm, fsk) := (show m_X0_mile jn pn fso fmi fki fmo fsz frd fct fet = 0 from by unfold m_X0_mile; rw [if_neg c_3]).symm
    exact W.iret (v := 0) hx hb hr (fun t ht hW => ⟨⟨0, (fnm, fsk), rfl, hpost, by rw [ht]; exact hP9, va_K.moved hW.alike hK, hD9⟩, hS.F ht⟩) hS.2.2 dX0_mile_88
  · skip
    refine lv_aload_n hx hb dX0_mile_11 rfl (lv_at hl 1 rfl) ?_
    refine lv_aload_n hx hb dX0_mile_12 rfl (lv_at hl 1 rfl) ?_
    refine lv_iconst (v := 0) hx hb dX0_mile_13 (by decide +kernel) ?_
    refine lv_iload_n hx hb dX0_mile_14 rfl (lv_at hl 2 rfl) ?_
    refine lv_iload_n hx hb dX0_mile_15 rfl (lv_at hl 3 rfl) ?_
    refine z_calli [0, 1, 2, 3, 6, 7, 8, 9, 10, 11, 12, 13, 14] (v := m_X0_says 0 jn pn fso fmi fmo fsz frd fct fet) (fun _ ⟨_, _⟩ h => h) (va_runV (As := [.int 0, .int (nI jn), .int (nI pn)]) (rest := [.ref h0]) ⟨hx, hb, hml, hown, hts⟩ (c_X0_says l G h0 tt n1 n2 n3 n4 n5 n6 n7 n8 co en sk ct et lw 0 jn pn tx xj xb wr fnm fso fmi fmo fsz frd fc fe fct fet fsk H.size (by omega) (by first | exact hj | assumption | omega) (by first | exact hp | assumption | omega) (by first | exact htn | assumption | omega) (by first | exact hc | assumption | omega) (by first | exact he | assumption | omega) (by first | exact hwx | assumption | omega)) (cwV 3 hts gX0_mile_X0_says rfl rfl rfl (by decide +kernel) ⟨Nat.le_of_ble_eq_true rfl, Nat.le_of_ble_eq_true rfl⟩) ⟨gPre_blind, va_recv (q := (RX0, TX0, 12)) hK hP (ci := 0) (q0 := 0) rfl rfl, fun U hU hW => gPre_ofF [0, 1, 2, 3, 6, 7, 8, 9, 10, 11, 12, 13, 14] hU hW hK hP hD (by decide +kernel) rfl⟩ rfl rfl hl.1 rfl (lv_room (Nat.le_of_ble_eq_true rfl)) dX0_mile_16 ⟨Nat.le_of_ble_eq_true rfl, Nat.le_of_ble_eq_true rfl⟩) hS hD hA rfl (fun u t H locs ht hvm hB hz1 hk1 hFq hAq hS => ?_)
    obtain ⟨yn1_11, ysk_12⟩ := u
    obtain ⟨hP1, hK1, hD1⟩ := hB
    have hz9 : gPD G A [zo0 h0 tt n1 n2 n3 n4 n5 n6 n7 n8 xj xb (nI lw), zi G n1 6 yn1_11, zi G n2 4 fso, zi G n3 4 fmi, zi G n4 4 fpa, zi G n5 6 fki, zi G n6 6 fmo, zi G n7 6 fsz, zi G n8 6 frd, zo3 tt co en sk wr (nI tx), zr G co 6 fc, zr G en 6 fe, zi G ct 160 fct, zi G et 3 (nF fet), zi G sk 32 ysk_12] H := zFill hP hD [0, 1, 2, 3, 6, 7, 8, 9, 10, 11, 12, 13, 14] [1, 2, 3, 4, 0, 0, 5, 6, 7, 8, 9, 10, 11, 12, 13] hAq hk1 hFq ht hP1 hD1 rfl (by decide +kernel)
    have hP := hz9.1
    have hD := hz9.2
    refine lv_iload_n hx hb dX0_mile_19 rfl (lv_at hl 2 rfl) ?_
    refine lv_iload_n hx hb dX0_mile_20 rfl (lv_at hl 3 rfl) ?_
    refine z_calli [0, 2, 5, 6] (v := m_X0_hurts jn pn fso fki fmo (m_X0_says 0 jn pn fso fmi fmo fsz frd fct fet)) (fun _ _ h => h) (va_runV (As := [.int (m_X0_says 0 jn pn fso fmi fmo fsz frd fct fet), .int (nI jn), .int (nI pn)]) (rest := []) ⟨hx, hb, hml, hown, hts⟩ (c_X0_hurts l G h0 tt n1 n2 n3 n4 n5 n6 n7 n8 lw jn pn xj xb fso fki fmo (m_X0_says 0 jn pn fso fmi fmo fsz frd fct fet) H.size (by first | exact hj | assumption | omega) (by first | exact hp | assumption | omega)) (cwV 3 hts gX0_mile_X0_hurts rfl rfl rfl (by decide +kernel) ⟨Nat.le_of_ble_eq_true rfl, Nat.le_of_ble_eq_true rfl⟩) ⟨gPre_blind, va_recv (q := (RX0, TX0, 12)) hK hP (ci := 0) (q0 := 0) rfl rfl, fun U hU hW => gPre_ofF [0, 2, 5, 6] hU hW hK hP hD (by decide +kernel) rfl⟩ rfl rfl hl.1 rfl (lv_room (Nat.le_of_ble_eq_true rfl)) dX0_mile_21 ⟨Nat.le_of_ble_eq_true rfl, Nat.le_of_ble_eq_true rfl⟩) hS hD hA rfl (fun u t H locs ht hvm hB hz1 hk1 hFq hAq hS => ?_)
    obtain ⟨hP1, hK1, hD1⟩ := hB
    have hP := zKeep hP hD [0, 2, 5, 6] hAq hk1 ht hP1 rfl
    refine lv_istore (lv' := [zI 4 (m_X0_hurts jn pn fso fki fmo (m_X0_says 0 jn pn fso fmi fmo fsz frd fct fet)), zR 0 h0, zI 1 (nI jn), zI 2 (nI pn), zI 3 v3]) hx hb dX0_mile_24 hl (by decide +kernel) rfl (fun ls hl => ?_)
    refine lv_aload_n hx hb dX0_mile_26 rfl (lv_at hl 1 rfl) ?_
    refine lv_aload_n hx hb dX0_mile_27 rfl (lv_at hl 1 rfl) ?_
    refine lv_iconst (v := 1) hx hb dX0_mile_28 (by decide +kernel) ?_
    refine lv_iload_n hx hb dX0_mile_29 rfl (lv_at hl 2 rfl) ?_
    refine lv_iload_n hx hb dX0_mile_30 rfl (lv_at hl 3 rfl) ?_
    refine z_calli [0, 1, 2, 3, 6, 7, 8, 9, 10, 11, 12, 13, 14] (v := m_X0_says 1 jn pn fso fmi fmo fsz frd fct fet) (fun _ ⟨_, _⟩ h => h) (va_runV (As := [.int 1, .int (nI jn), .int (nI pn)]) (rest := [.ref h0]) ⟨hx, hb, hml, hown, hts⟩ (c_X0_says l G h0 tt n1 n2 n3 n4 n5 n6 n7 n8 co en sk ct et lw 1 jn pn tx xj xb wr yn1_11 fso fmi fmo fsz frd fc fe fct fet ysk_12 H.size (by omega) (by first | exact hj | assumption | omega) (by first | exact hp | assumption | omega) (by first | exact htn | assumption | omega) (by first | exact hc | assumption | omega) (by first | exact he | assumption | omega) (by first | exact hwx | assumption | omega)) (cwV 3 hts gX0_mile_X0_says rfl rfl rfl (by decide +kernel) ⟨Nat.le_of_ble_eq_true rfl, Nat.le_of_ble_eq_true rfl⟩) ⟨gPre_blind, va_recv (q := (RX0, TX0, 12)) hK hP (ci := 0) (q0 := 0) rfl rfl, fun U hU hW => gPre_ofF [0, 1, 2, 3, 6, 7, 8, 9, 10, 11, 12, 13, 14] hU hW hK hP hD (by decide +kernel) rfl⟩ rfl rfl hl.1 rfl (lv_room (Nat.le_of_ble_eq_true rfl)) dX0_mile_31 ⟨Nat.le_of_ble_eq_true rfl, Nat.le_of_ble_eq_true rfl⟩) hS hD hA rfl (fun u t H locs ht hvm hB hz1 hk1 hFq hAq hS => ?_)
    obtain ⟨yn1_17, ysk_18⟩ := u
    obtain ⟨hP1, hK1, hD1⟩ := hB
    have hz9 : gPD G A [zo0 h0 tt n1 n2 n3 n4 n5 n6 n7 n8 xj xb (nI lw), zi G n1 6 yn1_17, zi G n2 4 fso, zi G n3 4 fmi, zi G n4 4 fpa, zi G n5 6 fki, zi G n6 6 fmo, zi G n7 6 fsz, zi G n8 6 frd, zo3 tt co en sk wr (nI tx), zr G co 6 fc, zr G en 6 fe, zi G ct 160 fct, zi G et 3 (nF fet), zi G sk 32 ysk_18] H := zFill hP hD [0, 1, 2, 3, 6, 7, 8, 9, 10, 11, 12, 13, 14] [1, 2, 3, 4, 0, 0, 5, 6, 7, 8, 9, 10, 11, 12, 13] hAq hk1 hFq ht hP1 hD1 rfl (by decide +kernel)
    have hP := hz9.1
    have hD := hz9.2
    refine lv_iload_n hx hb dX0_mile_34 rfl (lv_at hl 3 rfl) ?_
    refine z_calli [0, 5] (v := m_X0_wears pn fki (m_X0_says 1 jn pn fso fmi fmo fsz frd fct fet)) (fun _ _ h => h) (va_runV (As := [.int (m_X0_says 1 jn pn fso fmi fmo fsz frd fct fet), .int (nI pn)]) (rest := []) ⟨hx, hb, hml, hown, hts⟩ (c_X0_wears l G h0 tt n1 n2 n3 n4 n5 n6 n7 n8 lw pn xj xb fki (m_X0_says 1 jn pn fso fmi fmo fsz frd fct fet) H.size (by first | exact hp | assumption | omega)) (cwV 2 hts gX0_mile_X0_wears rfl rfl rfl (by decide +kernel) ⟨Nat.le_of_ble_eq_true rfl, Nat.le_of_ble_eq_true rfl⟩) ⟨gPre_blind, va_recv (q := (RX0, TX0, 12)) hK hP (ci := 0) (q0 := 0) rfl rfl, fun U hU hW => gPre_ofF [0, 5] hU hW hK hP hD (by decide +kernel) rfl⟩ rfl rfl hl.1 rfl (lv_room (Nat.le_of_ble_eq_true rfl)) dX0_mile_35 ⟨Nat.le_of_ble_eq_true rfl, Nat.le_of_ble_eq_true rfl⟩) hS hD hA rfl (fun u t H locs ht hvm hB hz1 hk1 hFq hAq hS => ?_)
    obtain ⟨hP1, hK1, hD1⟩ := hB
    have hP := zKeep hP hD [0, 5] hAq hk1 ht hP1 rfl
    refine lv_iload_n hx hb dX0_mile_38 rfl (lv_at hl 4 rfl) ?_
    refine lv_iadd hx hb dX0_mile_39 ?_
    refine lv_istore (lv' := [zI 5 ((m_X0_wears pn fki (m_X0_says 1 jn pn fso fmi fmo fsz frd fct fet)) + v3), zI 4 (m_X0_hurts jn pn fso fki fmo (m_X0_says 0 jn pn fso fmi fmo fsz frd fct fet)), zR 0 h0, zI 1 (nI jn), zI 2 (nI pn), zI 3 v3]) hx hb dX0_mile_40 hl (by decide +kernel) rfl (fun ls hl => ?_)
    refine g_aget (D := G.1) (ci := 0) (v := .ref n4) (C := RX0) (T := TX0) (N := 12) hx hb dX0_mile_42 rfl (lv_at hl 2 rfl) hts hiX0 hown hK hP 0 rfl rfl 4 (by decide +kernel) kf23 (fun _ h9 => h9) rfl dX0_mile_43 ?_
    refine lv_iload_n hx hb dX0_mile_46 rfl (lv_at hl 3 rfl) ?_
    refine lv_ldc hx hb hown (hts (.constant RX0 93 (99999)) (by decide +kernel)) dX0_mile_47 ?_
    refine g_aget (D := G.1) (ci := 0) (v := .ref n4) (C := RX0) (T := TX0) (N := 12) hx hb dX0_mile_49 rfl (lv_at hl 2 rfl) hts hiX0 hown hK hP 0 rfl rfl 4 (by decide +kernel) kf23 (fun _ h9 => h9) rfl dX0_mile_50 ?_
    refine lv_iload_n hx hb dX0_mile_53 rfl (lv_at hl 3 rfl) ?_
    refine g_iald (D := G.1) hx hb hK hP 4 0 rfl rfl (k := jn) (y := fpa jn) (by omega) rfl rfl dX0_mile_54 ?_
    refine lv_iload hx hb dX0_mile_55 (lv_at hl 1 rfl) ?_
    refine lv_iadd hx hb dX0_mile_57 ?_
    refine va_mmin hx hb (by rw [hml]; exact hl.1.symm) hown (hts (.methodLink RX0 71 Lib.Math.min.name) (by decide +kernel)) (hts (.static Lib.Math.min.name) (by decide +kernel)) (hts (.initialized "java/lang/Math") (by decide +kernel)) (hts (.code Lib.Math.min.name Lib.Math.min.code 2 (some .int)) (by decide +kernel)) (Nat.le_of_ble_eq_true rfl) (Nat.le_of_ble_eq_true rfl) (Nat.le_of_ble_eq_true rfl) (Nat.le_of_ble_eq_true rfl) dX0_mile_58 ?_
    refine g_topi (y := mMin 99999 ((fpa jn) + (m_X0_hurts jn pn fso fki fmo (m_X0_says 0 jn pn fso fmi fmo fsz frd fct fet)))) rfl ?_
    refine g_iast (D := G.1) hx hb hK hP hD hS 4 0 rfl rfl (k := jn) (x := (mMin 99999 ((fpa jn) + (m_X0_hurts jn pn fso fki fmo (m_X0_says 0 jn pn fso fmi fmo fsz frd fct fet))))) (by omega) rfl dX0_mile_61 (fun H locs hP hD hS => ?_)
    have hz9 : gPD G A [zo0 h0 tt n1 n2 n3 n4 n5 n6 n7 n8 xj xb (nI lw), zi G n1 6 yn1_17, zi G n2 4 fso, zi G n3 4 fmi, zi G n4 4 (upd fpa jn (mMin 99999 ((fpa jn) + (m_X0_hurts jn pn fso fki fmo (m_X0_says 0 jn pn fso fmi fmo fsz frd fct fet))))), zi G n5 6 fki, zi G n6 6 fmo, zi G n7 6 fsz, zi G n8 6 frd, zo3 tt co en sk wr (nI tx), zr G co 6 fc, zr G en 6 fe, zi G ct 160 fct, zi G et 3 (nF fet), zi G sk 32 ysk_18] H := ⟨hP, hD⟩
    have hP := hz9.1
    have hD := hz9.2
    refine g_aget (D := G.1) (ci := 0) (v := .ref n7) (C := RX0) (T := TX0) (N := 12) hx hb dX0_mile_62 rfl (lv_at hl 2 rfl) hts hiX0 hown hK hP 0 rfl rfl 7 (by decide +kernel) kf32 (fun _ h9 => h9) rfl dX0_mile_63 ?_
    refine lv_iload_n hx hb dX0_mile_66 rfl (lv_at hl 4 rfl) ?_
    refine lv_iconst (v := 0) hx hb dX0_mile_67 (by decide +kernel) ?_
    refine g_aget (D := G.1) (ci := 0) (v := .ref n7) (C := RX0) (T := TX0) (N := 12) hx hb dX0_mile_68 rfl (lv_at hl 2 rfl) hts hiX0 hown hK hP 0 rfl rfl 7 (by decide +kernel) kf32 (fun _ h9 => h9) rfl dX0_mile_69 ?_
    refine lv_iload_n hx hb dX0_mile_72 rfl (lv_at hl 4 rfl) ?_
    refine g_iald (D := G.1) hx hb hK hP 7 0 rfl rfl (k := pn) (y := fsz pn) (by omega) rfl rfl dX0_mile_73 ?_
    refine lv_iload hx hb dX0_mile_74 (lv_at hl 0 rfl) ?_
    refine lv_isub hx hb dX0_mile_76 ?_
    refine va_mmax hx hb (by rw [hml]; exact hl.1.symm) hown (hts (.methodLink RX0 77 Lib.Math.max.name) (by decide +kernel)) (hts (.static Lib.Math.max.name) (by decide +kernel)) (hts (.initialized "java/lang/Math") (by decide +kernel)) (hts (.code Lib.Math.max.name Lib.Math.max.code 2 (some .int)) (by decide +kernel)) (Nat.le_of_ble_eq_true rfl) (Nat.le_of_ble_eq_true rfl) (Nat.le_of_ble_eq_true rfl) (Nat.le_of_ble_eq_true rfl) dX0_mile_77 ?_
    refine g_topi (y := mMax 0 ((fsz pn) - ((m_X0_wears pn fki (m_X0_says 1 jn pn fso fmi fmo fsz frd fct fet)) + v3))) rfl ?_
    refine g_iast (D := G.1) hx hb hK hP hD hS 7 0 rfl rfl (k := pn) (x := (mMax 0 ((fsz pn) - ((m_X0_wears pn fki (m_X0_says 1 jn pn fso fmi fmo fsz frd fct fet)) + v3)))) (by omega) rfl dX0_mile_80 (fun H locs hP hD hS => ?_)
    have hz9 : gPD G A [zo0 h0 tt n1 n2 n3 n4 n5 n6 n7 n8 xj xb (nI lw), zi G n1 6 yn1_17, zi G n2 4 fso, zi G n3 4 fmi, zi G n4 4 (upd fpa jn (mMin 99999 ((fpa jn) + (m_X0_hurts jn pn fso fki fmo (m_X0_says 0 jn pn fso fmi fmo fsz frd fct fet))))), zi G n5 6 fki, zi G n6 6 fmo, zi G n7 6 (upd fsz pn (mMax 0 ((fsz pn) - ((m_X0_wears pn fki (m_X0_says 1 jn pn fso fmi fmo fsz frd fct fet)) + v3)))), zi G n8 6 frd, zo3 tt co en sk wr (nI tx), zr G co 6 fc, zr G en 6 fe, zi G ct 160 fct, zi G et 3 (nF fet), zi G sk 32 ysk_18] H := ⟨hP, hD⟩
    have hP := hz9.1
    have hD := hz9.2
    refine lv_aload_n hx hb dX0_mile_81 rfl (lv_at hl 2 rfl) ?_
    refine lv_iload_n hx hb dX0_mile_82 rfl (lv_at hl 3 rfl) ?_
    refine z_callv [0, 2, 3] (va_runV (As := [.int (nI jn)]) (rest := []) ⟨hx, hb, hml, hown, hts⟩ (c_X0_tread l G h0 tt n1 n2 n3 n4 n5 n6 n7 n8 lw jn xj xb fso fmi H.size (by first | exact hj | assumption | omega)) (cwV 1 hts gX0_mile_X0_tread rfl rfl rfl (by decide +kernel) ⟨Nat.le_of_ble_eq_true rfl, Nat.le_of_ble_eq_true rfl⟩) ⟨gPre_blind, va_recv (q := (RX0, TX0, 12)) hK hP (ci := 0) (q0 := 0) rfl rfl, fun U hU hW => gPre_ofF [0, 2, 3] hU hW hK hP hD (by decide +kernel) rfl⟩ rfl rfl hl.1 rfl (lv_room (Nat.le_of_ble_eq_true rfl)) dX0_mile_83 ⟨Nat.le_of_ble_eq_true rfl, Nat.le_of_ble_eq_true rfl⟩) hS hD hA rfl (fun u t H locs ht hvm w_26 hB hz1 hk1 hFq hAq hS => ?_)
    obtain ⟨hP1, hK1, hD1⟩ := hB
    have hz9 : gPD G A [zo0 h0 tt n1 n2 n3 n4 n5 n6 n7 n8 xj xb (nI lw), zi G n1 6 yn1_17, zi G n2 4 (m_X0_tread_n2 jn fso fmi), zi G n3 4 (upd fmi jn ((fmi jn) + 1)), zi G n4 4 (upd fpa jn (mMin 99999 ((fpa jn) + (m_X0_hurts jn pn fso fki fmo (m_X0_says 0 jn pn fso fmi fmo fsz frd fct fet))))), zi G n5 6 fki, zi G n6 6 fmo, zi G n7 6 (upd fsz pn (mMax 0 ((fsz pn) - ((m_X0_wears pn fki (m_X0_says 1 jn pn fso fmi fmo fsz frd fct fet)) + v3)))), zi G n8 6 frd, zo3 tt co en sk wr (nI tx), zr G co 6 fc, zr G en 6 fe, zi G ct 160 fct, zi G et 3 (nF fet), zi G sk 32 ysk_18] H := zFill hP hD [0, 2, 3] [1, 0, 2, 3] hAq hk1 hFq ht hP1 hD1 rfl (by decide +kernel)
    have hP := hz9.1
    have hD := hz9.2
    refine lv_iload hx hb dX0_mile_86 (lv_at hl 1 rfl) ?_
    have q_27 : m_X0_mile_n2 jn fso fmi = (m_X0_tread_n2 jn fso fmi) := rfl
    have q_28 : m_X0_mile_n4 jn pn fso fmi fpa fki fmo fsz frd fct fet = upd fpa jn (mMin 99999 ((fpa jn) + (m_X0_hurts jn pn fso fki fmo (m_X0_says 0 jn pn fso fmi fmo fsz frd fct fet)))) := by unfold m_X0_mile_n4; rw [if_pos c_3]
    have q_29 : m_X0_mile_n7 jn pn fso fmi fki fmo fsz frd fct fet v3 = upd fsz pn (mMax 0 ((fsz pn) - ((m_X0_wears pn fki (m_X0_says 1 jn pn fso fmi fmo fsz frd fct fet)) + v3))) := by unfold m_X0_mile_n7; rw [if_pos c_3]
    have hz9 : gPD G A [zo0 h0 tt n1 n2 n3 n4 n5 n6 n7 n8 xj xb (nI lw), zi G n1 6 yn1_17, zi G n2 4 (m_X0_mile_n2 jn fso fmi), zi G n3 4 (upd fmi jn ((fmi jn) + 1)), zi G n4 4 (m_X0_mile_n4 jn pn fso fmi fpa fki fmo fsz frd fct fet), zi G n5 6 fki, zi G n6 6 fmo, zi G n7 6 (m_X0_mile_n7 jn pn fso fmi fki fmo fsz frd fct fet v3), zi G n8 6 frd, zo3 tt co en sk wr (nI tx), zr G co 6 fc, zr G en 6 fe, zi G ct 160 fct, zi G et 3 (nF fet), zi G sk 32 ysk_18] H := ⟨by rw [q_27, q_28, q_29]; exact hP, by rw [q_27, q_28, q_29]; exact hD⟩
    have hP9 := hz9.1
    have hD9 := hz9.2
    have hpost : (fun (r : Int32) (u : (Nat → Int32) × (Nat → Int32)) => match u with | (yn1, ysk) => r = m_X0_mile jn pn fso fmi fki fmo fsz frd fct fet) (m_X0_hurts jn pn fso fki fmo (m_X0_says 0 jn pn fso fmi fmo fsz frd fct fet)) (yn1_17, ysk_18) := (show m_X0_mile jn pn fso fmi fki fmo fsz frd fct fet = (m_X0_hurts jn pn fso fki fmo (m_X0_says 0 jn pn fso fmi fmo fsz frd fct fet)) from by unfold m_X0_mile; rw [if_pos c_3]).symm
    exact W.iret (v := (m_X0_hurts jn pn fso fki fmo (m_X0_says 0 jn pn fso fmi fmo fsz frd fct fet))) hx hb hr (fun t ht hW => ⟨⟨(m_X0_hurts jn pn fso fki fmo (m_X0_says 0 jn pn fso fmi fmo fsz frd fct fet)), (yn1_17, ysk_18), rfl, hpost, by rw [ht]; exact hP9, va_K.moved hW.alike hK, hD9⟩, hS.F ht⟩) hS.2.2 dX0_mile_88
noncomputable def p_X0_go_6 (jn : Nat) (pn : Nat) (fki : Nat → Int32) (fmo : Nat → Int32) (frd : Nat → Int32) (fct : Nat → Int32) (fet : Nat → Nat) : Nat → Nat → Int32 → (Nat → Int32) → (Nat → Int32) → (Nat → Int32) → (Nat → Int32) → Nat × Int32 × (Nat → Int32) × (Nat → Int32) × (Nat → Int32) × (Nat → Int32)
  | 0, i6, fe6, y6n2, y6n3, y6n4, y6n7 => (i6, fe6, y6n2, y6n3, y6n4, y6n7)
  | q9 + 1, i6, fe6, y6n2, y6n3, y6n4, y6n7 => p_X0_go_6 jn pn fki fmo frd fct fet q9 (i6 + 1) (fe6 + (m_X0_mile jn pn y6n2 y6n3 fki fmo y6n7 frd fct fet)) (m_X0_mile_n2 jn y6n2 y6n3) (upd y6n3 jn ((y6n3 jn) + 1)) (m_X0_mile_n4 jn pn y6n2 y6n3 y6n4 fki fmo y6n7 frd fct fet) (m_X0_mile_n7 jn pn y6n2 y6n3 fki fmo y6n7 frd fct fet 0)
noncomputable def g_X0_go_6 (jn : Nat) (pn : Nat) (nn : Nat) (fso : Nat → Int32) (fmi : Nat → Int32) (fpa : Nat → Int32) (fki : Nat → Int32) (fmo : Nat → Int32) (fsz : Nat → Int32) (frd : Nat → Int32) (fct : Nat → Int32) (fet : Nat → Nat) : Nat × Int32 × (Nat → Int32) × (Nat → Int32) × (Nat → Int32) × (Nat → Int32) := p_X0_go_6 jn pn fki fmo frd fct fet (nn - 0) 0 0 fso fmi fpa fsz
noncomputable def m_X0_go (jn : Nat) (pn : Nat) (nn : Nat) (fso : Nat → Int32) (fmi : Nat → Int32) (fpa : Nat → Int32) (fki : Nat → Int32) (fmo : Nat → Int32) (fsz : Nat → Int32) (frd : Nat → Int32) (fct : Nat → Int32) (fet : Nat → Nat) : Int32 := ((g_X0_go_6 jn pn nn fso fmi fpa fki fmo fsz frd fct fet).2.1)
noncomputable def m_X0_go_n2 (jn : Nat) (pn : Nat) (nn : Nat) (fso : Nat → Int32) (fmi : Nat → Int32) (fpa : Nat → Int32) (fki : Nat → Int32) (fmo : Nat → Int32) (fsz : Nat → Int32) (frd : Nat → Int32) (fct : Nat → Int32) (fet : Nat → Nat) : Nat → Int32 := ((g_X0_go_6 jn pn nn fso fmi fpa fki fmo fsz frd fct fet).2.2.1)
noncomputable def m_X0_go_n3 (jn : Nat) (pn : Nat) (nn : Nat) (fso : Nat → Int32) (fmi : Nat → Int32) (fpa : Nat → Int32) (fki : Nat → Int32) (fmo : Nat → Int32) (fsz : Nat → Int32) (frd : Nat → Int32) (fct : Nat → Int32) (fet : Nat → Nat) : Nat → Int32 := ((g_X0_go_6 jn pn nn fso fmi fpa fki fmo fsz frd fct fet).2.2.2.1)
noncomputable def m_X0_go_n4 (jn : Nat) (pn : Nat) (nn : Nat) (fso : Nat → Int32) (fmi : Nat → Int32) (fpa : Nat → Int32) (fki : Nat → Int32) (fmo : Nat → Int32) (fsz : Nat → Int32) (frd : Nat → Int32) (fct : Nat → Int32) (fet : Nat → Nat) : Nat → Int32 := ((g_X0_go_6 jn pn nn fso fmi fpa fki fmo fsz frd fct fet).2.2.2.2.1)
noncomputable def m_X0_go_n7 (jn : Nat) (pn : Nat) (nn : Nat) (fso : Nat → Int32) (fmi : Nat → Int32) (fpa : Nat → Int32) (fki : Nat → Int32) (fmo : Nat → Int32) (fsz : Nat → Int32) (frd : Nat → Int32) (fct : Nat → Int32) (fet : Nat → Nat) : Nat → Int32 := ((g_X0_go_6 jn pn nn fso fmi fpa fki fmo fsz frd fct fet).2.2.2.2.2)
abbrev q_X0_go (G : gG) (h0 tt n1 n2 n3 n4 n5 n6 n7 n8 co en sk ct et : Nat) (lw : Nat) (jn : Nat) (pn : Nat) (nn : Nat) (tx : Nat) (xj : Int32) (xb : Int32) (wr : Int32) (fnm : Nat → Int32) (fso : Nat → Int32) (fmi : Nat → Int32) (fpa : Nat → Int32) (fki : Nat → Int32) (fmo : Nat → Int32) (fsz : Nat → Int32) (frd : Nat → Int32) (fc : Nat → Option Nat) (fe : Nat → Option Nat) (fct : Nat → Int32) (fet : Nat → Nat) (fsk : Nat → Int32) (A : Nat → Prop) : Array Value → State → Outcome → State → Prop := va_Qi (fun (r : Int32) (u : (Nat → Int32) × (Nat → Int32)) => match u with | (yn1, ysk) => r = m_X0_go jn pn nn fso fmi fpa fki fmo fsz frd fct fet) (fun (u : (Nat → Int32) × (Nat → Int32)) t => match u with | (yn1, ysk) => va_P G.1 vwCl [zo0 h0 tt n1 n2 n3 n4 n5 n6 n7 n8 xj xb (nI lw), zi G n1 6 yn1, zi G n2 4 (m_X0_go_n2 jn pn nn fso fmi fpa fki fmo fsz frd fct fet), zi G n3 4 (m_X0_go_n3 jn pn nn fso fmi fpa fki fmo fsz frd fct fet), zi G n4 4 (m_X0_go_n4 jn pn nn fso fmi fpa fki fmo fsz frd fct fet), zi G n5 6 fki, zi G n6 6 fmo, zi G n7 6 (m_X0_go_n7 jn pn nn fso fmi fpa fki fmo fsz frd fct fet), zi G n8 6 frd, zo3 tt co en sk wr (nI tx), zr G co 6 fc, zr G en 6 fe, zi G ct 160 fct, zi G et 3 (nF fet), zi G sk 32 ysk] t.heap ∧ gK G t ∧ va_D A [zo0 h0 tt n1 n2 n3 n4 n5 n6 n7 n8 xj xb (nI lw), zi G n1 6 yn1, zi G n2 4 (m_X0_go_n2 jn pn nn fso fmi fpa fki fmo fsz frd fct fet), zi G n3 4 (m_X0_go_n3 jn pn nn fso fmi fpa fki fmo fsz frd fct fet), zi G n4 4 (m_X0_go_n4 jn pn nn fso fmi fpa fki fmo fsz frd fct fet), zi G n5 6 fki, zi G n6 6 fmo, zi G n7 6 (m_X0_go_n7 jn pn nn fso fmi fpa fki fmo fsz frd fct fet), zi G n8 6 frd, zo3 tt co en sk wr (nI tx), zr G co 6 fc, zr G en 6 fe, zi G ct 160 fct, zi G et 3 (nF fet), zi G sk 32 ysk]) A
set_option maxHeartbeats 4000000 in
set_option maxRecDepth 100000 in
theorem c_X0_go (l : Launch) (G : gG) (h0 tt n1 n2 n3 n4 n5 n6 n7 n8 co en sk ct et : Nat) (lw : Nat) (jn : Nat) (pn : Nat) (nn : Nat) (tx : Nat) (xj : Int32) (xb : Int32) (wr : Int32) (fnm : Nat → Int32) (fso : Nat → Int32) (fmi : Nat → Int32) (fpa : Nat → Int32) (fki : Nat → Int32) (fmo : Nat → Int32) (fsz : Nat → Int32) (frd : Nat → Int32) (fc : Nat → Option Nat) (fe : Nat → Option Nat) (fct : Nat → Int32) (fet : Nat → Nat) (fsk : Nat → Int32) (sz : Nat) (hj : jn < 4) (hp : pn < 6) (hnn : nn ≤ 60) (htn : lw < tx ∧ tx ≤ 6) (hc : fc lw = some ct) (he : fe lw = some et) (hwx : mWx fct fet) : Met l yX0_go wsX0_go ({ frames := 4, cells := 0, slots := 0, locals := 110 }) (gPre G [.ref h0, .int (nI jn), .int (nI pn), .int (nI nn)] [zo0 h0 tt n1 n2 n3 n4 n5 n6 n7 n8 xj xb (nI lw), zi G n1 6 fnm, zi G n2 4 fso, zi G n3 4 fmi, zi G n4 4 fpa, zi G n5 6 fki, zi G n6 6 fmo, zi G n7 6 fsz, zi G n8 6 frd, zo3 tt co en sk wr (nI tx), zr G co 6 fc, zr G en 6 fe, zi G ct 160 fct, zi G et 3 (nF fet), zi G sk 32 fsk] sz) (q_X0_go G h0 tt n1 n2 n3 n4 n5 n6 n7 n8 co en sk ct et lw jn pn nn tx xj xb wr fnm fso fmi fpa fki fmo fsz frd fc fe fct fet fsk (va_A [zo0 h0 tt n1 n2 n3 n4 n5 n6 n7 n8 xj xb (nI lw), zi G n1 6 fnm, zi G n2 4 fso, zi G n3 4 fmi, zi G n4 4 fpa, zi G n5 6 fki, zi G n6 6 fmo, zi G n7 6 fsz, zi G n8 6 frd, zo3 tt co en sk wr (nI tx), zr G co 6 fc, zr G en 6 fe, zi G ct 160 fct, zi G et 3 (nF fet), zi G sk 32 fsk] sz)) 0 0 (va_A [zo0 h0 tt n1 n2 n3 n4 n5 n6 n7 n8 xj xb (nI lw), zi G n1 6 fnm, zi G n2 4 fso, zi G n3 4 fmi, zi G n4 4 fpa, zi G n5 6 fki, zi G n6 6 fmo, zi G n7 6 fsz, zi G n8 6 frd, zo3 tt co en sk wr (nI tx), zr G co 6 fc, zr G en 6 fe, zi G ct 160 fct, zi G et 3 (nF fet), zi G sk 32 fsk] sz) := by
  refine Met.ofW (cc := cX0_go) (maxL := 6) (ret := (some .int)) (by decide +kernel) rfl ?_
  intro p e s m args below meth c s₁ B hml hv
  obtain ⟨rfl, hsz, hP, hK, hD0⟩ := hv
  have hx := B.exec
  have hb := B.bytes
  have hr := B.returns
  have hts := atoms_spec (ws := wsX0_go) B.pre
  have hown : s.vm.findClass RX0 = some m.cls := findClass_of_methodNamed B.named
  have hlocks := B.notSynchronized
  subst hsz
  have hD := hD0.self (sz := s.heap.size)
  generalize hAe : va_A [zo0 h0 tt n1 n2 n3 n4 n5 n6 n7 n8 xj xb (nI lw), zi G n1 6 fnm, zi G n2 4 fso, zi G n3 4 fmi, zi G n4 4 fpa, zi G n5 6 fki, zi G n6 6 fmo, zi G n7 6 fsz, zi G n8 6 frd, zo3 tt co en sk wr (nI tx), zr G co 6 fc, zr G en 6 fe, zi G ct 160 fct, zi G et 3 (nF fet), zi G sk 32 fsk] s.heap.size = A at hD ⊢
  have hA : ∀ q : Nat, s.heap.size ≤ q → A q := fun q h => by rw [← hAe]; exact Or.inr h
  have hS : va_S A s.heap s.heap [] := va_S.rf
  have hz9 : gPD G A [zo0 h0 tt n1 n2 n3 n4 n5 n6 n7 n8 xj xb (nI lw), zi G n1 6 fnm, zi G n2 4 fso, zi G n3 4 fmi, zi G n4 4 fpa, zi G n5 6 fki, zi G n6 6 fmo, zi G n7 6 fsz, zi G n8 6 frd, zo3 tt co en sk wr (nI tx), zr G co 6 fc, zr G en 6 fe, zi G ct 160 fct, zi G et 3 (nF fet), zi G sk 32 fsk] s.heap := ⟨hP, hD⟩
  have hP := hz9.1
  have hD := hz9.2
  have hl := lv_entry ([.ref h0, .int (nI jn), .int (nI pn), .int (nI nn)]) (n := 6) (Nat.le_of_ble_eq_true rfl)
  rw [lg_entry_eq]
  generalize (lg_sl ([.ref h0, .int (nI jn), .int (nI pn), .int (nI nn)]) ++ List.replicate (6 - (lg_sl ([.ref h0, .int (nI jn), .int (nI pn), .int (nI nn)])).length) Slot.unset).toArray = ls at hl ⊢
  have hl : lv_has ls 6 [zR 0 h0, zI 1 (nI jn), zI 2 (nI pn), zI 3 (nI nn)] := hl
  refine lv_iconst (v := 0) hx hb dX0_go_0 (by decide +kernel) ?_
  refine lv_istore (lv' := [zI 4 0, zR 0 h0, zI 1 (nI jn), zI 2 (nI pn), zI 3 (nI nn)]) hx hb dX0_go_1 hl (by decide +kernel) rfl (fun ls hl => ?_)
  refine lv_iconst (v := 0) hx hb dX0_go_3 (by decide +kernel) ?_
  refine lv_istore (lv' := [zI 5 0, zI 4 0, zR 0 h0, zI 1 (nI jn), zI 2 (nI pn), zI 3 (nI nn)]) hx hb dX0_go_4 hl (by decide +kernel) rfl (fun ls hl => ?_)
  have loop_6 : ∀ (n9 : Nat) (i6 : Nat) (fe6 : Int32) (y6n2 : Nat → Int32) (y6n3 : Nat → Int32) (y6n4 : Nat → Int32) (y6n7 : Nat → Int32) (x6n1 : Nat → Int32) (x6sk : Nat → Int32), (i6 ≤ nn) → (p_X0_go_6 jn pn fki fmo frd fct fet (nn - i6) i6 fe6 y6n2 y6n3 y6n4 y6n7 = (g_X0_go_6 jn pn nn fso fmi fpa fki fmo fsz frd fct fet)) → (nn - i6) < n9 → ∀ (H : Heap) (locs : List Loc), va_P G.1 vwCl [zo0 h0 tt n1 n2 n3 n4 n5 n6 n7 n8 xj xb (nI lw), zi G n1 6 x6n1, zi G n2 4 y6n2, zi G n3 4 y6n3, zi G n4 4 y6n4, zi G n5 6 fki, zi G n6 6 fmo, zi G n7 6 y6n7, zi G n8 6 frd, zo3 tt co en sk wr (nI tx), zr G co 6 fc, zr G en 6 fe, zi G ct 160 fct, zi G et 3 (nF fet), zi G sk 32 x6sk] H → va_D A [zo0 h0 tt n1 n2 n3 n4 n5 n6 n7 n8 xj xb (nI lw), zi G n1 6 x6n1, zi G n2 4 y6n2, zi G n3 4 y6n3, zi G n4 4 y6n4, zi G n5 6 fki, zi G n6 6 fmo, zi G n7 6 y6n7, zi G n8 6 frd, zo3 tt co en sk wr (nI tx), zr G co 6 fc, zr G en 6 fe, zi G ct 160 fct, zi G et 3 (nF fet), zi G sk 32 x6sk] → va_S A s.heap H locs → ∀ ls : Array Slot, lv_has ls 6 [zI 5 (nI i6), zI 4 fe6, zR 0 h0, zI 1 (nI jn), zI 2 (nI pn), zI 3 (nI nn)] → W p l e (headSpec wsX0_go ({ frames := 4, cells := 0, slots := 0, locals := 110 })).room s m ([.ref h0, .int (nI jn), .int (nI pn), .int (nI nn)] : List Value).toArray below meth c H locs 0 0 (MQ below (q_X0_go G h0 tt n1 n2 n3 n4 n5 n6 n7 n8 co en sk ct et lw jn pn nn tx xj xb wr fnm fso fmi fpa fki fmo fsz frd fc fe fct fet fsk A) ([.ref h0, .int (nI jn), .int (nI pn), .int (nI nn)] : List Value).toArray s 0 0 A) (F0 m 6 ls []) := by
    intro n9
    induction n9 with
    | zero => intro i6 fe6 y6n2 y6n3 y6n4 y6n7 x6n1 x6sk hi6 R6 hm9_6; exact absurd hm9_6 (Nat.not_lt_zero _)
    | succ n9 ih9_6 =>
      intro i6 fe6 y6n2 y6n3 y6n4 y6n7 x6n1 x6sk hi6 R6 hm9_6 H locs hP hD hS ls hl
      refine lv_iload hx hb dX0_go_6 (lv_at hl 0 rfl) ?_
      refine lv_iload_n hx hb dX0_go_8 rfl (lv_at hl 5 rfl) ?_
      refine lv_icmp_ge (tgt := 30) hx hb dX0_go_9 (by decide +kernel) (fun c_1 => ?_) (fun c_1 => ?_)
      · skip
        have c_1N : nn ≤ i6 := nI_le1 (a := nn) (b := i6) (by omega) (by omega) c_1
        have hF6 : (g_X0_go_6 jn pn nn fso fmi fpa fki fmo fsz frd fct fet) = (i6, fe6, y6n2, y6n3, y6n4, y6n7) := by rw [← R6, show nn - i6 = 0 by omega]; rfl
        have hE6_0 : i6 = ((g_X0_go_6 jn pn nn fso fmi fpa fki fmo fsz frd fct fet).1) := by rw [hF6]
        have hE6_1 : fe6 = ((g_X0_go_6 jn pn nn fso fmi fpa fki fmo fsz frd fct fet).2.1) := by rw [hF6]
        have hE6_2 : y6n2 = ((g_X0_go_6 jn pn nn fso fmi fpa fki fmo fsz frd fct fet).2.2.1) := by rw [hF6]
        have hE6_3 : y6n3 = ((g_X0_go_6 jn pn nn fso fmi fpa fki fmo fsz frd fct fet).2.2.2.1) := by rw [hF6]
        have hE6_4 : y6n4 = ((g_X0_go_6 jn pn nn fso fmi fpa fki fmo fsz frd fct fet).2.2.2.2.1) := by rw [hF6]
        have hE6_5 : y6n7 = ((g_X0_go_6 jn pn nn fso fmi fpa fki fmo fsz frd fct fet).2.2.2.2.2) := by rw [hF6]
        clear hF6 R6
        subst hE6_0
        subst hE6_1
        subst hE6_2
        subst hE6_3
        subst hE6_4
        subst hE6_5
        refine lv_iload hx hb dX0_go_30 (lv_at hl 1 rfl) ?_
        have q_2 : m_X0_go_n2 jn pn nn fso fmi fpa fki fmo fsz frd fct fet = ((g_X0_go_6 jn pn nn fso fmi fpa fki fmo fsz frd fct fet).2.2.1) := rfl
        have q_3 : m_X0_go_n3 jn pn nn fso fmi fpa fki fmo fsz frd fct fet = ((g_X0_go_6 jn pn nn fso fmi fpa fki fmo fsz frd fct fet).2.2.2.1) := rfl
        have q_4 : m_X0_go_n4 jn pn nn fso fmi fpa fki fmo fsz frd fct fet = ((g_X0_go_6 jn pn nn fso fmi fpa fki fmo fsz frd fct fet).2.2.2.2.1) := rfl
        have q_5 : m_X0_go_n7 jn pn nn fso fmi fpa fki fmo fsz frd fct fet = ((g_X0_go_6 jn pn nn fso fmi fpa fki fmo fsz frd fct fet).2.2.2.2.2) := rfl
        have hz9 : gPD G A [zo0 h0 tt n1 n2 n3 n4 n5 n6 n7 n8 xj xb (nI lw), zi G n1 6 x6n1, zi G n2 4 (m_X0_go_n2 jn pn nn fso fmi fpa fki fmo fsz frd fct fet), zi G n3 4 (m_X0_go_n3 jn pn nn fso fmi fpa fki fmo fsz frd fct fet), zi G n4 4 (m_X0_go_n4 jn pn nn fso fmi fpa fki fmo fsz frd fct fet), zi G n5 6 fki, zi G n6 6 fmo, zi G n7 6 (m_X0_go_n7 jn pn nn fso fmi fpa fki fmo fsz frd fct fet), zi G n8 6 frd, zo3 tt co en sk wr (nI tx), zr G co 6 fc, zr G en 6 fe, zi G ct 160 fct, zi G et 3 (nF fet), zi G sk 32 x6sk] H := ⟨by rw [q_2, q_3, q_4, q_5]; exact hP, by rw [q_2, q_3, q_4, q_5]; exact hD⟩
        have hP9 := hz9.1
        have hD9 := hz9.2
        have hpost : (fun (r : Int32) (u : (Nat → Int32) × (Nat → Int32)) => match u with | (yn1, ysk) => r = m_X0_go jn pn nn fso fmi fpa fki fmo fsz frd fct fet) ((g_X0_go_6 jn pn nn fso fmi fpa fki fmo fsz frd fct fet).2.1) (x6n1, x6sk) := (show m_X0_go jn pn nn fso fmi fpa fki fmo fsz frd fct fet = ((g_X0_go_6 jn pn nn fso fmi fpa fki fmo fsz frd fct fet).2.1) from rfl).symm
        exact W.iret (v := ((g_X0_go_6 jn pn nn fso fmi fpa fki fmo fsz frd fct fet).2.1)) hx hb hr (fun t ht hW => ⟨⟨((g_X0_go_6 jn pn nn fso fmi fpa fki fmo fsz frd fct fet).2.1), (x6n1, x6sk), rfl, hpost, by rw [ht]; exact hP9, va_K.moved hW.alike hK, hD9⟩, hS.F ht⟩) hS.2.2 dX0_go_32
      · skip
        have c_1N : i6 < nn := nI_le0 (a := nn) (b := i6) (by omega) (by omega) c_1
        refine lv_iload hx hb dX0_go_12 (lv_at hl 1 rfl) ?_
        refine lv_aload_n hx hb dX0_go_14 rfl (lv_at hl 2 rfl) ?_
        refine lv_iload_n hx hb dX0_go_15 rfl (lv_at hl 3 rfl) ?_
        refine lv_iload_n hx hb dX0_go_16 rfl (lv_at hl 4 rfl) ?_
        refine lv_iconst (v := 0) hx hb dX0_go_17 (by decide +kernel) ?_
        refine z_calli [0, 1, 2, 3, 4, 5, 6, 7, 8, 9, 10, 11, 12, 13, 14] (v := m_X0_mile jn pn y6n2 y6n3 fki fmo y6n7 frd fct fet) (fun _ ⟨_, _⟩ h => h) (va_runV (As := [.int (nI jn), .int (nI pn), .int 0]) (rest := [.int fe6]) ⟨hx, hb, hml, hown, hts⟩ (c_X0_mile l G h0 tt n1 n2 n3 n4 n5 n6 n7 n8 co en sk ct et lw jn pn tx xj xb wr x6n1 y6n2 y6n3 y6n4 fki fmo y6n7 frd fc fe fct fet x6sk 0 H.size (by first | exact hj | assumption | omega) (by first | exact hp | assumption | omega) (by first | exact htn | assumption | omega) (by first | exact hc | assumption | omega) (by first | exact he | assumption | omega) (by first | exact hwx | assumption | omega)) (cwV 3 hts gX0_go_X0_mile rfl rfl rfl (by decide +kernel) ⟨Nat.le_of_ble_eq_true rfl, Nat.le_of_ble_eq_true rfl⟩) ⟨gPre_blind, va_recv (q := (RX0, TX0, 12)) hK hP (ci := 0) (q0 := 0) rfl rfl, fun U hU hW => gPre_of hU hW hK hP hD⟩ rfl rfl hl.1 rfl (lv_room (Nat.le_of_ble_eq_true rfl)) dX0_go_18 ⟨Nat.le_of_ble_eq_true rfl, Nat.le_of_ble_eq_true rfl⟩) hS hD hA rfl (fun u t H locs ht hvm hB hz1 hk1 hFq hAq hS => ?_)
        obtain ⟨yn1_8, ysk_9⟩ := u
        obtain ⟨hP1, hK1, hD1⟩ := hB
        have hz9 : gPD G A [zo0 h0 tt n1 n2 n3 n4 n5 n6 n7 n8 xj xb (nI lw), zi G n1 6 yn1_8, zi G n2 4 (m_X0_mile_n2 jn y6n2 y6n3), zi G n3 4 (upd y6n3 jn ((y6n3 jn) + 1)), zi G n4 4 (m_X0_mile_n4 jn pn y6n2 y6n3 y6n4 fki fmo y6n7 frd fct fet), zi G n5 6 fki, zi G n6 6 fmo, zi G n7 6 (m_X0_mile_n7 jn pn y6n2 y6n3 fki fmo y6n7 frd fct fet 0), zi G n8 6 frd, zo3 tt co en sk wr (nI tx), zr G co 6 fc, zr G en 6 fe, zi G ct 160 fct, zi G et 3 (nF fet), zi G sk 32 ysk_9] H := zFill hP hD [0, 1, 2, 3, 4, 5, 6, 7, 8, 9, 10, 11, 12, 13, 14] [1, 2, 3, 4, 5, 6, 7, 8, 9, 10, 11, 12, 13, 14, 15] hAq hk1 hFq ht hP1 hD1 rfl (by decide +kernel)
        have hP := hz9.1
        have hD := hz9.2
        refine lv_iadd hx hb dX0_go_21 ?_
        refine lv_istore (lv' := [zI 4 (fe6 + (m_X0_mile jn pn y6n2 y6n3 fki fmo y6n7 frd fct fet)), zI 5 (nI i6), zR 0 h0, zI 1 (nI jn), zI 2 (nI pn), zI 3 (nI nn)]) hx hb dX0_go_22 hl (by decide +kernel) rfl (fun ls hl => ?_)
        refine lv_iinc (v := nI (i6 + 1)) (lv' := [zI 5 (nI (i6 + 1)), zI 4 (fe6 + (m_X0_mile jn pn y6n2 y6n3 fki fmo y6n7 frd fct fet)), zR 0 h0, zI 1 (nI jn), zI 2 (nI pn), zI 3 (nI nn)]) hx hb dX0_go_24 hl (k := 1) rfl (nI_add i6 1) (by decide +kernel) rfl (fun ls hl => ?_)
        refine lv_goto (tgt := 6) hx hb dX0_go_27 (by decide +kernel) ?_
        exact ih9_6 (i6 + 1) (fe6 + (m_X0_mile jn pn y6n2 y6n3 fki fmo y6n7 frd fct fet)) (m_X0_mile_n2 jn y6n2 y6n3) (upd y6n3 jn ((y6n3 jn) + 1)) (m_X0_mile_n4 jn pn y6n2 y6n3 y6n4 fki fmo y6n7 frd fct fet) (m_X0_mile_n7 jn pn y6n2 y6n3 fki fmo y6n7 frd fct fet 0) yn1_8 ysk_9 (by omega) (Eq.trans (Eq.symm ((congrArg (fun z9 => p_X0_go_6 jn pn fki fmo frd fct fet (z9) i6 fe6 y6n2 y6n3 y6n4 y6n7) (show nn - i6 = nn - (i6 + 1) + 1 by omega)).trans (by show p_X0_go_6 jn pn fki fmo frd fct fet (nn - (i6 + 1) + 1) i6 fe6 y6n2 y6n3 y6n4 y6n7 = _; rw [p_X0_go_6]))) R6) (by omega) _ _ hP hD hS ls hl
  exact loop_6 (nn - 0 + 1) 0 0 fso fmi fpa fsz fnm fsk (by omega) (rfl) (by omega) _ _ hP hD hS ls hl
noncomputable def p_X0_goByLots_21 (jn : Nat) (pn : Nat) (mm : Nat) (fki : Nat → Int32) (fmo : Nat → Int32) (frd : Nat → Int32) (fct : Nat → Int32) (fet : Nat → Nat) : Nat → Nat → Int64 → Int32 → (Nat → Int32) → (Nat → Int32) → (Nat → Int32) → (Nat → Int32) → Nat × Int64 × Int32 × (Nat → Int32) × (Nat → Int32) × (Nat → Int32) × (Nat → Int32)
  | 0, i21, lo, fe6, y21n2, y21n3, y21n4, y21n7 => (i21, lo, fe6, y21n2, y21n3, y21n4, y21n7)
  | q9 + 1, i21, lo, fe6, y21n2, y21n3, y21n4, y21n7 => p_X0_goByLots_21 jn pn mm fki fmo frd fct fet q9 (i21 + 1) (lRem (lo * 48271) 2147483647) (fe6 + (m_X0_mile jn pn y21n2 y21n3 fki fmo y21n7 frd fct fet)) (m_X0_mile_n2 jn y21n2 y21n3) (upd y21n3 jn ((y21n3 jn) + 1)) (m_X0_mile_n4 jn pn y21n2 y21n3 y21n4 fki fmo y21n7 frd fct fet) (m_X0_mile_n7 jn pn y21n2 y21n3 fki fmo y21n7 frd fct fet ((lRem (lRem (lo * 48271) 2147483647) (lN ((mm / 100) + 1))).toInt32))
noncomputable def g_X0_goByLots_21 (jn : Nat) (pn : Nat) (mm : Nat) (fso : Nat → Int32) (fmi : Nat → Int32) (fpa : Nat → Int32) (fki : Nat → Int32) (fmo : Nat → Int32) (fsz : Nat → Int32) (frd : Nat → Int32) (fct : Nat → Int32) (fet : Nat → Nat) (v1 : Int32) : Nat × Int64 × Int32 × (Nat → Int32) × (Nat → Int32) × (Nat → Int32) × (Nat → Int32) := p_X0_goByLots_21 jn pn mm fki fmo frd fct fet ((mm % 100) - 0) 0 (v1.toInt64 + 1) 0 fso fmi fpa fsz
noncomputable def m_X0_goByLots (jn : Nat) (pn : Nat) (mm : Nat) (fso : Nat → Int32) (fmi : Nat → Int32) (fpa : Nat → Int32) (fki : Nat → Int32) (fmo : Nat → Int32) (fsz : Nat → Int32) (frd : Nat → Int32) (fct : Nat → Int32) (fet : Nat → Nat) (v1 : Int32) : Int32 := ((g_X0_goByLots_21 jn pn mm fso fmi fpa fki fmo fsz frd fct fet v1).2.2.1)
noncomputable def m_X0_goByLots_n2 (jn : Nat) (pn : Nat) (mm : Nat) (fso : Nat → Int32) (fmi : Nat → Int32) (fpa : Nat → Int32) (fki : Nat → Int32) (fmo : Nat → Int32) (fsz : Nat → Int32) (frd : Nat → Int32) (fct : Nat → Int32) (fet : Nat → Nat) (v1 : Int32) : Nat → Int32 := ((g_X0_goByLots_21 jn pn mm fso fmi fpa fki fmo fsz frd fct fet v1).2.2.2.1)
noncomputable def m_X0_goByLots_n3 (jn : Nat) (pn : Nat) (mm : Nat) (fso : Nat → Int32) (fmi : Nat → Int32) (fpa : Nat → Int32) (fki : Nat → Int32) (fmo : Nat → Int32) (fsz : Nat → Int32) (frd : Nat → Int32) (fct : Nat → Int32) (fet : Nat → Nat) (v1 : Int32) : Nat → Int32 := ((g_X0_goByLots_21 jn pn mm fso fmi fpa fki fmo fsz frd fct fet v1).2.2.2.2.1)
noncomputable def m_X0_goByLots_n4 (jn : Nat) (pn : Nat) (mm : Nat) (fso : Nat → Int32) (fmi : Nat → Int32) (fpa : Nat → Int32) (fki : Nat → Int32) (fmo : Nat → Int32) (fsz : Nat → Int32) (frd : Nat → Int32) (fct : Nat → Int32) (fet : Nat → Nat) (v1 : Int32) : Nat → Int32 := ((g_X0_goByLots_21 jn pn mm fso fmi fpa fki fmo fsz frd fct fet v1).2.2.2.2.2.1)
noncomputable def m_X0_goByLots_n7 (jn : Nat) (pn : Nat) (mm : Nat) (fso : Nat → Int32) (fmi : Nat → Int32) (fpa : Nat → Int32) (fki : Nat → Int32) (fmo : Nat → Int32) (fsz : Nat → Int32) (frd : Nat → Int32) (fct : Nat → Int32) (fet : Nat → Nat) (v1 : Int32) : Nat → Int32 := ((g_X0_goByLots_21 jn pn mm fso fmi fpa fki fmo fsz frd fct fet v1).2.2.2.2.2.2)
abbrev q_X0_goByLots (G : gG) (h0 tt n1 n2 n3 n4 n5 n6 n7 n8 co en sk ct et : Nat) (lw : Nat) (jn : Nat) (pn : Nat) (mm : Nat) (tx : Nat) (xj : Int32) (xb : Int32) (wr : Int32) (fnm : Nat → Int32) (fso : Nat → Int32) (fmi : Nat → Int32) (fpa : Nat → Int32) (fki : Nat → Int32) (fmo : Nat → Int32) (fsz : Nat → Int32) (frd : Nat → Int32) (fc : Nat → Option Nat) (fe : Nat → Option Nat) (fct : Nat → Int32) (fet : Nat → Nat) (fsk : Nat → Int32) (v1 : Int32) (A : Nat → Prop) : Array Value → State → Outcome → State → Prop := va_Qi (fun (r : Int32) (u : (Nat → Int32) × (Nat → Int32)) => match u with | (yn1, ysk) => r = m_X0_goByLots jn pn mm fso fmi fpa fki fmo fsz frd fct fet v1) (fun (u : (Nat → Int32) × (Nat → Int32)) t => match u with | (yn1, ysk) => va_P G.1 vwCl [zo0 h0 tt n1 n2 n3 n4 n5 n6 n7 n8 xj xb (nI lw), zi G n1 6 yn1, zi G n2 4 (m_X0_goByLots_n2 jn pn mm fso fmi fpa fki fmo fsz frd fct fet v1), zi G n3 4 (m_X0_goByLots_n3 jn pn mm fso fmi fpa fki fmo fsz frd fct fet v1), zi G n4 4 (m_X0_goByLots_n4 jn pn mm fso fmi fpa fki fmo fsz frd fct fet v1), zi G n5 6 fki, zi G n6 6 fmo, zi G n7 6 (m_X0_goByLots_n7 jn pn mm fso fmi fpa fki fmo fsz frd fct fet v1), zi G n8 6 frd, zo3 tt co en sk wr (nI tx), zr G co 6 fc, zr G en 6 fe, zi G ct 160 fct, zi G et 3 (nF fet), zi G sk 32 ysk] t.heap ∧ gK G t ∧ va_D A [zo0 h0 tt n1 n2 n3 n4 n5 n6 n7 n8 xj xb (nI lw), zi G n1 6 yn1, zi G n2 4 (m_X0_goByLots_n2 jn pn mm fso fmi fpa fki fmo fsz frd fct fet v1), zi G n3 4 (m_X0_goByLots_n3 jn pn mm fso fmi fpa fki fmo fsz frd fct fet v1), zi G n4 4 (m_X0_goByLots_n4 jn pn mm fso fmi fpa fki fmo fsz frd fct fet v1), zi G n5 6 fki, zi G n6 6 fmo, zi G n7 6 (m_X0_goByLots_n7 jn pn mm fso fmi fpa fki fmo fsz frd fct fet v1), zi G n8 6 frd, zo3 tt co en sk wr (nI tx), zr G co 6 fc, zr G en 6 fe, zi G ct 160 fct, zi G et 3 (nF fet), zi G sk 32 ysk]) A
set_option maxHeartbeats 4000000 in
set_option maxRecDepth 100000 in
theorem c_X0_goByLots (l : Launch) (G : gG) (h0 tt n1 n2 n3 n4 n5 n6 n7 n8 co en sk ct et : Nat) (lw : Nat) (jn : Nat) (pn : Nat) (mm : Nat) (tx : Nat) (xj : Int32) (xb : Int32) (wr : Int32) (fnm : Nat → Int32) (fso : Nat → Int32) (fmi : Nat → Int32) (fpa : Nat → Int32) (fki : Nat → Int32) (fmo : Nat → Int32) (fsz : Nat → Int32) (frd : Nat → Int32) (fc : Nat → Option Nat) (fe : Nat → Option Nat) (fct : Nat → Int32) (fet : Nat → Nat) (fsk : Nat → Int32) (v1 : Int32) (sz : Nat) (hj : jn < 4) (hp : pn < 6) (hmm : mm ≤ 960) (hm6 : mm % 100 ≤ 60) (htn : lw < tx ∧ tx ≤ 6) (hc : fc lw = some ct) (he : fe lw = some et) (hwx : mWx fct fet) : Met l yX0_goByLots wsX0_goByLots ({ frames := 4, cells := 0, slots := 0, locals := 110 }) (gPre G [.ref h0, .int v1, .int (nI jn), .int (nI pn), .int (nI mm)] [zo0 h0 tt n1 n2 n3 n4 n5 n6 n7 n8 xj xb (nI lw), zi G n1 6 fnm, zi G n2 4 fso, zi G n3 4 fmi, zi G n4 4 fpa, zi G n5 6 fki, zi G n6 6 fmo, zi G n7 6 fsz, zi G n8 6 frd, zo3 tt co en sk wr (nI tx), zr G co 6 fc, zr G en 6 fe, zi G ct 160 fct, zi G et 3 (nF fet), zi G sk 32 fsk] sz) (q_X0_goByLots G h0 tt n1 n2 n3 n4 n5 n6 n7 n8 co en sk ct et lw jn pn mm tx xj xb wr fnm fso fmi fpa fki fmo fsz frd fc fe fct fet fsk v1 (va_A [zo0 h0 tt n1 n2 n3 n4 n5 n6 n7 n8 xj xb (nI lw), zi G n1 6 fnm, zi G n2 4 fso, zi G n3 4 fmi, zi G n4 4 fpa, zi G n5 6 fki, zi G n6 6 fmo, zi G n7 6 fsz, zi G n8 6 frd, zo3 tt co en sk wr (nI tx), zr G co 6 fc, zr G en 6 fe, zi G ct 160 fct, zi G et 3 (nF fet), zi G sk 32 fsk] sz)) 0 0 (va_A [zo0 h0 tt n1 n2 n3 n4 n5 n6 n7 n8 xj xb (nI lw), zi G n1 6 fnm, zi G n2 4 fso, zi G n3 4 fmi, zi G n4 4 fpa, zi G n5 6 fki, zi G n6 6 fmo, zi G n7 6 fsz, zi G n8 6 frd, zo3 tt co en sk wr (nI tx), zr G co 6 fc, zr G en 6 fe, zi G ct 160 fct, zi G et 3 (nF fet), zi G sk 32 fsk] sz) := by
  refine Met.ofW (cc := cX0_goByLots) (maxL := 10) (ret := (some .int)) (by decide +kernel) rfl ?_
  intro p e s m args below meth c s₁ B hml hv
  obtain ⟨rfl, hsz, hP, hK, hD0⟩ := hv
  have hx := B.exec
  have hb := B.bytes
  have hr := B.returns
  have hts := atoms_spec (ws := wsX0_goByLots) B.pre
  have hown : s.vm.findClass RX0 = some m.cls := findClass_of_methodNamed B.named
  have hlocks := B.notSynchronized
  subst hsz
  have hD := hD0.self (sz := s.heap.size)
  generalize hAe : va_A [zo0 h0 tt n1 n2 n3 n4 n5 n6 n7 n8 xj xb (nI lw), zi G n1 6 fnm, zi G n2 4 fso, zi G n3 4 fmi, zi G n4 4 fpa, zi G n5 6 fki, zi G n6 6 fmo, zi G n7 6 fsz, zi G n8 6 frd, zo3 tt co en sk wr (nI tx), zr G co 6 fc, zr G en 6 fe, zi G ct 160 fct, zi G et 3 (nF fet), zi G sk 32 fsk] s.heap.size = A at hD ⊢
  have hA : ∀ q : Nat, s.heap.size ≤ q → A q := fun q h => by rw [← hAe]; exact Or.inr h
  have hS : va_S A s.heap s.heap [] := va_S.rf
  have hz9 : gPD G A [zo0 h0 tt n1 n2 n3 n4 n5 n6 n7 n8 xj xb (nI lw), zi G n1 6 fnm, zi G n2 4 fso, zi G n3 4 fmi, zi G n4 4 fpa, zi G n5 6 fki, zi G n6 6 fmo, zi G n7 6 fsz, zi G n8 6 frd, zo3 tt co en sk wr (nI tx), zr G co 6 fc, zr G en 6 fe, zi G ct 160 fct, zi G et 3 (nF fet), zi G sk 32 fsk] s.heap := ⟨hP, hD⟩
  have hP := hz9.1
  have hD := hz9.2
  have hl := lv_entry ([.ref h0, .int v1, .int (nI jn), .int (nI pn), .int (nI mm)]) (n := 10) (Nat.le_of_ble_eq_true rfl)
  rw [lg_entry_eq]
  generalize (lg_sl ([.ref h0, .int v1, .int (nI jn), .int (nI pn), .int (nI mm)]) ++ List.replicate (10 - (lg_sl ([.ref h0, .int v1, .int (nI jn), .int (nI pn), .int (nI mm)])).length) Slot.unset).toArray = ls at hl ⊢
  have hl : lv_has ls 10 [zR 0 h0, zI 1 v1, zI 2 (nI jn), zI 3 (nI pn), zI 4 (nI mm)] := hl
  refine lv_iload hx hb dX0_goByLots_0 (lv_at hl 4 rfl) ?_
  refine lv_bipush (v := 100) hx hb dX0_goByLots_2 (by decide +kernel) ?_
  refine lv_idiv hx hb dX0_goByLots_4 (by decide +kernel) ?_
  refine g_topi (y := nI (mm / 100)) (pk_div (a := mm) (d := 100) (by omega) (by omega) (by omega)) ?_
  refine lv_iconst (v := 1) hx hb dX0_goByLots_5 (by decide +kernel) ?_
  refine lv_iadd hx hb dX0_goByLots_6 ?_
  refine g_topi (y := nI ((mm / 100) + 1)) (nI_add (mm / 100) 1) ?_
  refine lv_istore (lv' := [zI 5 (nI ((mm / 100) + 1)), zR 0 h0, zI 1 v1, zI 2 (nI jn), zI 3 (nI pn), zI 4 (nI mm)]) hx hb dX0_goByLots_7 hl (by decide +kernel) rfl (fun ls hl => ?_)
  refine lv_iconst (v := 0) hx hb dX0_goByLots_9 (by decide +kernel) ?_
  refine lv_istore (lv' := [zI 6 0, zI 5 (nI ((mm / 100) + 1)), zR 0 h0, zI 1 v1, zI 2 (nI jn), zI 3 (nI pn), zI 4 (nI mm)]) hx hb dX0_goByLots_10 hl (by decide +kernel) rfl (fun ls hl => ?_)
  refine lv_iload_n hx hb dX0_goByLots_12 rfl (lv_at hl 3 rfl) ?_
  refine lv_i2l (v := v1.toInt64) hx hb dX0_goByLots_13 rfl ?_
  refine lv_lconst (v := 1) hx hb dX0_goByLots_14 (by decide +kernel) ?_
  refine lv_ladd hx hb dX0_goByLots_15 ?_
  refine lv_lstore (lv' := [zL 7 (v1.toInt64 + 1), zI 6 0, zI 5 (nI ((mm / 100) + 1)), zR 0 h0, zI 1 v1, zI 2 (nI jn), zI 3 (nI pn), zI 4 (nI mm)]) hx hb dX0_goByLots_16 hl (by decide +kernel) rfl (fun ls hl => ?_)
  refine lv_iconst (v := 0) hx hb dX0_goByLots_18 (by decide +kernel) ?_
  refine lv_istore (lv' := [zI 9 0, zL 7 (v1.toInt64 + 1), zI 6 0, zI 5 (nI ((mm / 100) + 1)), zR 0 h0, zI 1 v1, zI 2 (nI jn), zI 3 (nI pn), zI 4 (nI mm)]) hx hb dX0_goByLots_19 hl (by decide +kernel) rfl (fun ls hl => ?_)
  have loop_21 : ∀ (n9 : Nat) (i21 : Nat) (lo : Int64) (fe6 : Int32) (y21n2 : Nat → Int32) (y21n3 : Nat → Int32) (y21n4 : Nat → Int32) (y21n7 : Nat → Int32) (x21n1 : Nat → Int32) (x21sk : Nat → Int32), (i21 ≤ (mm % 100)) → (p_X0_goByLots_21 jn pn mm fki fmo frd fct fet ((mm % 100) - i21) i21 lo fe6 y21n2 y21n3 y21n4 y21n7 = (g_X0_goByLots_21 jn pn mm fso fmi fpa fki fmo fsz frd fct fet v1)) → ((mm % 100) - i21) < n9 → ∀ (H : Heap) (locs : List Loc), va_P G.1 vwCl [zo0 h0 tt n1 n2 n3 n4 n5 n6 n7 n8 xj xb (nI lw), zi G n1 6 x21n1, zi G n2 4 y21n2, zi G n3 4 y21n3, zi G n4 4 y21n4, zi G n5 6 fki, zi G n6 6 fmo, zi G n7 6 y21n7, zi G n8 6 frd, zo3 tt co en sk wr (nI tx), zr G co 6 fc, zr G en 6 fe, zi G ct 160 fct, zi G et 3 (nF fet), zi G sk 32 x21sk] H → va_D A [zo0 h0 tt n1 n2 n3 n4 n5 n6 n7 n8 xj xb (nI lw), zi G n1 6 x21n1, zi G n2 4 y21n2, zi G n3 4 y21n3, zi G n4 4 y21n4, zi G n5 6 fki, zi G n6 6 fmo, zi G n7 6 y21n7, zi G n8 6 frd, zo3 tt co en sk wr (nI tx), zr G co 6 fc, zr G en 6 fe, zi G ct 160 fct, zi G et 3 (nF fet), zi G sk 32 x21sk] → va_S A s.heap H locs → ∀ ls : Array Slot, lv_has ls 10 [zI 9 (nI i21), zL 7 lo, zI 6 fe6, zI 5 (nI ((mm / 100) + 1)), zR 0 h0, zI 1 v1, zI 2 (nI jn), zI 3 (nI pn), zI 4 (nI mm)] → W p l e (headSpec wsX0_goByLots ({ frames := 4, cells := 0, slots := 0, locals := 110 })).room s m ([.ref h0, .int v1, .int (nI jn), .int (nI pn), .int (nI mm)] : List Value).toArray below meth c H locs 0 0 (MQ below (q_X0_goByLots G h0 tt n1 n2 n3 n4 n5 n6 n7 n8 co en sk ct et lw jn pn mm tx xj xb wr fnm fso fmi fpa fki fmo fsz frd fc fe fct fet fsk v1 A) ([.ref h0, .int v1, .int (nI jn), .int (nI pn), .int (nI mm)] : List Value).toArray s 0 0 A) (F0 m 21 ls []) := by
    intro n9
    induction n9 with
    | zero => intro i21 lo fe6 y21n2 y21n3 y21n4 y21n7 x21n1 x21sk hi21 R21 hm9_21; exact absurd hm9_21 (Nat.not_lt_zero _)
    | succ n9 ih9_21 =>
      intro i21 lo fe6 y21n2 y21n3 y21n4 y21n7 x21n1 x21sk hi21 R21 hm9_21 H locs hP hD hS ls hl
      refine lv_iload hx hb dX0_goByLots_21 (lv_at hl 0 rfl) ?_
      refine lv_iload hx hb dX0_goByLots_23 (lv_at hl 8 rfl) ?_
      refine lv_bipush (v := 100) hx hb dX0_goByLots_25 (by decide +kernel) ?_
      refine lv_irem hx hb dX0_goByLots_27 (by decide +kernel) ?_
      refine g_topi (y := nI (mm % 100)) (nI_rem (a := mm) (d := 100) (by omega) (by omega) (by omega)) ?_
      refine lv_icmp_ge (tgt := 67) hx hb dX0_goByLots_28 (by decide +kernel) (fun c_4 => ?_) (fun c_4 => ?_)
      · skip
        have c_4N : (mm % 100) ≤ i21 := nI_le1 (a := (mm % 100)) (b := i21) (by omega) (by omega) c_4
        have hF21 : (g_X0_goByLots_21 jn pn mm fso fmi fpa fki fmo fsz frd fct fet v1) = (i21, lo, fe6, y21n2, y21n3, y21n4, y21n7) := by rw [← R21, show (mm % 100) - i21 = 0 by omega]; rfl
        have hE21_0 : i21 = ((g_X0_goByLots_21 jn pn mm fso fmi fpa fki fmo fsz frd fct fet v1).1) := by rw [hF21]
        have hE21_1 : lo = ((g_X0_goByLots_21 jn pn mm fso fmi fpa fki fmo fsz frd fct fet v1).2.1) := by rw [hF21]
        have hE21_2 : fe6 = ((g_X0_goByLots_21 jn pn mm fso fmi fpa fki fmo fsz frd fct fet v1).2.2.1) := by rw [hF21]
        have hE21_3 : y21n2 = ((g_X0_goByLots_21 jn pn mm fso fmi fpa fki fmo fsz frd fct fet v1).2.2.2.1) := by rw [hF21]
        have hE21_4 : y21n3 = ((g_X0_goByLots_21 jn pn mm fso fmi fpa fki fmo fsz frd fct fet v1).2.2.2.2.1) := by rw [hF21]
        have hE21_5 : y21n4 = ((g_X0_goByLots_21 jn pn mm fso fmi fpa fki fmo fsz frd fct fet v1).2.2.2.2.2.1) := by rw [hF21]
        have hE21_6 : y21n7 = ((g_X0_goByLots_21 jn pn mm fso fmi fpa fki fmo fsz frd fct fet v1).2.2.2.2.2.2) := by rw [hF21]
        clear hF21 R21
        subst hE21_0
        subst hE21_1
        subst hE21_2
        subst hE21_3
        subst hE21_4
        subst hE21_5
        subst hE21_6
        refine lv_iload hx hb dX0_goByLots_67 (lv_at hl 2 rfl) ?_
        have q_5 : m_X0_goByLots_n2 jn pn mm fso fmi fpa fki fmo fsz frd fct fet v1 = ((g_X0_goByLots_21 jn pn mm fso fmi fpa fki fmo fsz frd fct fet v1).2.2.2.1) := rfl
        have q_6 : m_X0_goByLots_n3 jn pn mm fso fmi fpa fki fmo fsz frd fct fet v1 = ((g_X0_goByLots_21 jn pn mm fso fmi fpa fki fmo fsz frd fct fet v1).2.2.2.2.1) := rfl
        have q_7 : m_X0_goByLots_n4 jn pn mm fso fmi fpa fki fmo fsz frd fct fet v1 = ((g_X0_goByLots_21 jn pn mm fso fmi fpa fki fmo fsz frd fct fet v1).2.2.2.2.2.1) := rfl
        have q_8 : m_X0_goByLots_n7 jn pn mm fso fmi fpa fki fmo fsz frd fct fet v1 = ((g_X0_goByLots_21 jn pn mm fso fmi fpa fki fmo fsz frd fct fet v1).2.2.2.2.2.2) := rfl
        have hz9 : gPD G A [zo0 h0 tt n1 n2 n3 n4 n5 n6 n7 n8 xj xb (nI lw), zi G n1 6 x21n1, zi G n2 4 (m_X0_goByLots_n2 jn pn mm fso fmi fpa fki fmo fsz frd fct fet v1), zi G n3 4 (m_X0_goByLots_n3 jn pn mm fso fmi fpa fki fmo fsz frd fct fet v1), zi G n4 4 (m_X0_goByLots_n4 jn pn mm fso fmi fpa fki fmo fsz frd fct fet v1), zi G n5 6 fki, zi G n6 6 fmo, zi G n7 6 (m_X0_goByLots_n7 jn pn mm fso fmi fpa fki fmo fsz frd fct fet v1), zi G n8 6 frd, zo3 tt co en sk wr (nI tx), zr G co 6 fc, zr G en 6 fe, zi G ct 160 fct, zi G et 3 (nF fet), zi G sk 32 x21sk] H := ⟨by rw [q_5, q_6, q_7, q_8]; exact hP, by rw [q_5, q_6, q_7, q_8]; exact hD⟩
        have hP9 := hz9.1
        have hD9 := hz9.2
        have hpost : (fun (r : Int32) (u : (Nat → Int32) × (Nat → Int32)) => match u with | (yn1, ysk) => r = m_X0_goByLots jn pn mm fso fmi fpa fki fmo fsz frd fct fet v1) ((g_X0_goByLots_21 jn pn mm fso fmi fpa fki fmo fsz frd fct fet v1).2.2.1) (x21n1, x21sk) := (show m_X0_goByLots jn pn mm fso fmi fpa fki fmo fsz frd fct fet v1 = ((g_X0_goByLots_21 jn pn mm fso fmi fpa fki fmo fsz frd fct fet v1).2.2.1) from rfl).symm
        exact W.iret (v := ((g_X0_goByLots_21 jn pn mm fso fmi fpa fki fmo fsz frd fct fet v1).2.2.1)) hx hb hr (fun t ht hW => ⟨⟨((g_X0_goByLots_21 jn pn mm fso fmi fpa fki fmo fsz frd fct fet v1).2.2.1), (x21n1, x21sk), rfl, hpost, by rw [ht]; exact hP9, va_K.moved hW.alike hK, hD9⟩, hS.F ht⟩) hS.2.2 dX0_goByLots_69
      · skip
        have c_4N : i21 < (mm % 100) := nI_le0 (a := (mm % 100)) (b := i21) (by omega) (by omega) c_4
        refine lv_lload hx hb dX0_goByLots_31 (lv_at hl 1 rfl) ?_
        refine lv_ldc2 hx hb hown (hts (.constantLong RX0 101 (48271)) (by decide +kernel)) dX0_goByLots_33 ?_
        refine lv_lmul hx hb dX0_goByLots_36 ?_
        refine lv_ldc2 hx hb hown (hts (.constantLong RX0 103 (2147483647)) (by decide +kernel)) dX0_goByLots_37 ?_
        refine lv_lrem hx hb dX0_goByLots_40 (by decide +kernel) ?_
        refine lv_lstore (lv' := [zL 7 (lRem (lo * 48271) 2147483647), zI 9 (nI i21), zI 6 fe6, zI 5 (nI ((mm / 100) + 1)), zR 0 h0, zI 1 v1, zI 2 (nI jn), zI 3 (nI pn), zI 4 (nI mm)]) hx hb dX0_goByLots_41 hl (by decide +kernel) rfl (fun ls hl => ?_)
        refine lv_iload hx hb dX0_goByLots_43 (lv_at hl 2 rfl) ?_
        refine lv_aload_n hx hb dX0_goByLots_45 rfl (lv_at hl 4 rfl) ?_
        refine lv_iload_n hx hb dX0_goByLots_46 rfl (lv_at hl 6 rfl) ?_
        refine lv_iload_n hx hb dX0_goByLots_47 rfl (lv_at hl 7 rfl) ?_
        refine lv_lload hx hb dX0_goByLots_48 (lv_at hl 0 rfl) ?_
        refine lv_iload hx hb dX0_goByLots_50 (lv_at hl 3 rfl) ?_
        refine lv_i2l (v := lN ((mm / 100) + 1)) hx hb dX0_goByLots_52 (nI_l (by omega)) ?_
        refine lv_lrem hx hb dX0_goByLots_53 (lN_ne0 (by omega) (by omega)) ?_
        refine lv_l2i (v := (lRem (lRem (lo * 48271) 2147483647) (lN ((mm / 100) + 1))).toInt32) hx hb dX0_goByLots_54 rfl ?_
        refine z_calli [0, 1, 2, 3, 4, 5, 6, 7, 8, 9, 10, 11, 12, 13, 14] (v := m_X0_mile jn pn y21n2 y21n3 fki fmo y21n7 frd fct fet) (fun _ ⟨_, _⟩ h => h) (va_runV (As := [.int (nI jn), .int (nI pn), .int ((lRem (lRem (lo * 48271) 2147483647) (lN ((mm / 100) + 1))).toInt32)]) (rest := [.int fe6]) ⟨hx, hb, hml, hown, hts⟩ (c_X0_mile l G h0 tt n1 n2 n3 n4 n5 n6 n7 n8 co en sk ct et lw jn pn tx xj xb wr x21n1 y21n2 y21n3 y21n4 fki fmo y21n7 frd fc fe fct fet x21sk ((lRem (lRem (lo * 48271) 2147483647) (lN ((mm / 100) + 1))).toInt32) H.size (by first | exact hj | assumption | omega) (by first | exact hp | assumption | omega) (by first | exact htn | assumption | omega) (by first | exact hc | assumption | omega) (by first | exact he | assumption | omega) (by first | exact hwx | assumption | omega)) (cwV 3 hts gX0_goByLots_X0_mile rfl rfl rfl (by decide +kernel) ⟨Nat.le_of_ble_eq_true rfl, Nat.le_of_ble_eq_true rfl⟩) ⟨gPre_blind, va_recv (q := (RX0, TX0, 12)) hK hP (ci := 0) (q0 := 0) rfl rfl, fun U hU hW => gPre_of hU hW hK hP hD⟩ rfl rfl hl.1 rfl (lv_room (Nat.le_of_ble_eq_true rfl)) dX0_goByLots_55 ⟨Nat.le_of_ble_eq_true rfl, Nat.le_of_ble_eq_true rfl⟩) hS hD hA rfl (fun u t H locs ht hvm hB hz1 hk1 hFq hAq hS => ?_)
        obtain ⟨yn1_11, ysk_12⟩ := u
        obtain ⟨hP1, hK1, hD1⟩ := hB
        have hz9 : gPD G A [zo0 h0 tt n1 n2 n3 n4 n5 n6 n7 n8 xj xb (nI lw), zi G n1 6 yn1_11, zi G n2 4 (m_X0_mile_n2 jn y21n2 y21n3), zi G n3 4 (upd y21n3 jn ((y21n3 jn) + 1)), zi G n4 4 (m_X0_mile_n4 jn pn y21n2 y21n3 y21n4 fki fmo y21n7 frd fct fet), zi G n5 6 fki, zi G n6 6 fmo, zi G n7 6 (m_X0_mile_n7 jn pn y21n2 y21n3 fki fmo y21n7 frd fct fet ((lRem (lRem (lo * 48271) 2147483647) (lN ((mm / 100) + 1))).toInt32)), zi G n8 6 frd, zo3 tt co en sk wr (nI tx), zr G co 6 fc, zr G en 6 fe, zi G ct 160 fct, zi G et 3 (nF fet), zi G sk 32 ysk_12] H := zFill hP hD [0, 1, 2, 3, 4, 5, 6, 7, 8, 9, 10, 11, 12, 13, 14] [1, 2, 3, 4, 5, 6, 7, 8, 9, 10, 11, 12, 13, 14, 15] hAq hk1 hFq ht hP1 hD1 rfl (by decide +kernel)
        have hP := hz9.1
        have hD := hz9.2
        refine lv_iadd hx hb dX0_goByLots_58 ?_
        refine lv_istore (lv' := [zI 6 (fe6 + (m_X0_mile jn pn y21n2 y21n3 fki fmo y21n7 frd fct fet)), zL 7 (lRem (lo * 48271) 2147483647), zI 9 (nI i21), zI 5 (nI ((mm / 100) + 1)), zR 0 h0, zI 1 v1, zI 2 (nI jn), zI 3 (nI pn), zI 4 (nI mm)]) hx hb dX0_goByLots_59 hl (by decide +kernel) rfl (fun ls hl => ?_)
        refine lv_iinc (v := nI (i21 + 1)) (lv' := [zI 9 (nI (i21 + 1)), zI 6 (fe6 + (m_X0_mile jn pn y21n2 y21n3 fki fmo y21n7 frd fct fet)), zL 7 (lRem (lo * 48271) 2147483647), zI 5 (nI ((mm / 100) + 1)), zR 0 h0, zI 1 v1, zI 2 (nI jn), zI 3 (nI pn), zI 4 (nI mm)]) hx hb dX0_goByLots_61 hl (k := 2) rfl (nI_add i21 1) (by decide +kernel) rfl (fun ls hl => ?_)
        refine lv_goto (tgt := 21) hx hb dX0_goByLots_64 (by decide +kernel) ?_
        exact ih9_21 (i21 + 1) (lRem (lo * 48271) 2147483647) (fe6 + (m_X0_mile jn pn y21n2 y21n3 fki fmo y21n7 frd fct fet)) (m_X0_mile_n2 jn y21n2 y21n3) (upd y21n3 jn ((y21n3 jn) + 1)) (m_X0_mile_n4 jn pn y21n2 y21n3 y21n4 fki fmo y21n7 frd fct fet) (m_X0_mile_n7 jn pn y21n2 y21n3 fki fmo y21n7 frd fct fet ((lRem (lRem (lo * 48271) 2147483647) (lN ((mm / 100) + 1))).toInt32)) yn1_11 ysk_12 (by omega) (Eq.trans (Eq.symm ((congrArg (fun z9 => p_X0_goByLots_21 jn pn mm fki fmo frd fct fet (z9) i21 lo fe6 y21n2 y21n3 y21n4 y21n7) (show (mm % 100) - i21 = (mm % 100) - (i21 + 1) + 1 by omega)).trans (by show p_X0_goByLots_21 jn pn mm fki fmo frd fct fet ((mm % 100) - (i21 + 1) + 1) i21 lo fe6 y21n2 y21n3 y21n4 y21n7 = _; rw [p_X0_goByLots_21]))) R21) (by omega) _ _ hP hD hS ls (lv_sub hl [0, 2, 1, 3, 4, 5, 6, 7, 8] rfl)
  exact loop_21 ((mm % 100) - 0 + 1) 0 (v1.toInt64 + 1) 0 fso fmi fpa fsz fnm fsk (by omega) (rfl) (by omega) _ _ hP hD hS ls hl
noncomputable def m_X0_verdict (jn : Nat) (pn : Nat) (fso : Nat → Int32) (fmi : Nat → Int32) (fmo : Nat → Int32) (fsz : Nat → Int32) (frd : Nat → Int32) (fct : Nat → Int32) (fet : Nat → Nat) (v3 : Int32) : Int32 := if v3 < (m_X0_says 2 jn pn fso fmi fmo fsz frd fct fet) then 0 else 1
abbrev q_X0_verdict (G : gG) (h0 tt n1 n2 n3 n4 n5 n6 n7 n8 co en sk ct et : Nat) (lw : Nat) (jn : Nat) (pn : Nat) (tx : Nat) (xj : Int32) (xb : Int32) (wr : Int32) (fnm : Nat → Int32) (fso : Nat → Int32) (fmi : Nat → Int32) (fmo : Nat → Int32) (fsz : Nat → Int32) (frd : Nat → Int32) (fc : Nat → Option Nat) (fe : Nat → Option Nat) (fct : Nat → Int32) (fet : Nat → Nat) (fsk : Nat → Int32) (v3 : Int32) (A : Nat → Prop) : Array Value → State → Outcome → State → Prop := va_Qi (fun (r : Int32) (u : (Nat → Int32) × (Nat → Int32)) => match u with | (yn1, ysk) => r = m_X0_verdict jn pn fso fmi fmo fsz frd fct fet v3) (fun (u : (Nat → Int32) × (Nat → Int32)) t => match u with | (yn1, ysk) => va_P G.1 vwCl [zo0 h0 tt n1 n2 n3 n4 n5 n6 n7 n8 xj xb (nI lw), zi G n1 6 yn1, zi G n2 4 fso, zi G n3 4 fmi, zi G n6 6 fmo, zi G n7 6 fsz, zi G n8 6 frd, zo3 tt co en sk wr (nI tx), zr G co 6 fc, zr G en 6 fe, zi G ct 160 fct, zi G et 3 (nF fet), zi G sk 32 ysk] t.heap ∧ gK G t ∧ va_D A [zo0 h0 tt n1 n2 n3 n4 n5 n6 n7 n8 xj xb (nI lw), zi G n1 6 yn1, zi G n2 4 fso, zi G n3 4 fmi, zi G n6 6 fmo, zi G n7 6 fsz, zi G n8 6 frd, zo3 tt co en sk wr (nI tx), zr G co 6 fc, zr G en 6 fe, zi G ct 160 fct, zi G et 3 (nF fet), zi G sk 32 ysk]) A
set_option maxHeartbeats 4000000 in
set_option maxRecDepth 100000 in
theorem c_X0_verdict (l : Launch) (G : gG) (h0 tt n1 n2 n3 n4 n5 n6 n7 n8 co en sk ct et : Nat) (lw : Nat) (jn : Nat) (pn : Nat) (tx : Nat) (xj : Int32) (xb : Int32) (wr : Int32) (fnm : Nat → Int32) (fso : Nat → Int32) (fmi : Nat → Int32) (fmo : Nat → Int32) (fsz : Nat → Int32) (frd : Nat → Int32) (fc : Nat → Option Nat) (fe : Nat → Option Nat) (fct : Nat → Int32) (fet : Nat → Nat) (fsk : Nat → Int32) (v3 : Int32) (sz : Nat) (hj : jn < 4) (hp : pn < 6) (htn : lw < tx ∧ tx ≤ 6) (hc : fc lw = some ct) (he : fe lw = some et) (hwx : mWx fct fet) : Met l yX0_verdict wsX0_verdict ({ frames := 3, cells := 0, slots := 0, locals := 84 }) (gPre G [.ref h0, .int (nI jn), .int (nI pn), .int v3] [zo0 h0 tt n1 n2 n3 n4 n5 n6 n7 n8 xj xb (nI lw), zi G n1 6 fnm, zi G n2 4 fso, zi G n3 4 fmi, zi G n6 6 fmo, zi G n7 6 fsz, zi G n8 6 frd, zo3 tt co en sk wr (nI tx), zr G co 6 fc, zr G en 6 fe, zi G ct 160 fct, zi G et 3 (nF fet), zi G sk 32 fsk] sz) (q_X0_verdict G h0 tt n1 n2 n3 n4 n5 n6 n7 n8 co en sk ct et lw jn pn tx xj xb wr fnm fso fmi fmo fsz frd fc fe fct fet fsk v3 (va_A [zo0 h0 tt n1 n2 n3 n4 n5 n6 n7 n8 xj xb (nI lw), zi G n1 6 fnm, zi G n2 4 fso, zi G n3 4 fmi, zi G n6 6 fmo, zi G n7 6 fsz, zi G n8 6 frd, zo3 tt co en sk wr (nI tx), zr G co 6 fc, zr G en 6 fe, zi G ct 160 fct, zi G et 3 (nF fet), zi G sk 32 fsk] sz)) 0 0 (va_A [zo0 h0 tt n1 n2 n3 n4 n5 n6 n7 n8 xj xb (nI lw), zi G n1 6 fnm, zi G n2 4 fso, zi G n3 4 fmi, zi G n6 6 fmo, zi G n7 6 fsz, zi G n8 6 frd, zo3 tt co en sk wr (nI tx), zr G co 6 fc, zr G en 6 fe, zi G ct 160 fct, zi G et 3 (nF fet), zi G sk 32 fsk] sz) := by
  refine Met.ofW (cc := cX0_verdict) (maxL := 4) (ret := (some .int)) (by decide +kernel) rfl ?_
  intro p e s m args below meth c s₁ B hml hv
  obtain ⟨rfl, hsz, hP, hK, hD0⟩ := hv
  have hx := B.exec
  have hb := B.bytes
  have hr := B.returns
  have hts := atoms_spec (ws := wsX0_verdict) B.pre
  have hown : s.vm.findClass RX0 = some m.cls := findClass_of_methodNamed B.named
  have hlocks := B.notSynchronized
  subst hsz
  have hD := hD0.self (sz := s.heap.size)
  generalize hAe : va_A [zo0 h0 tt n1 n2 n3 n4 n5 n6 n7 n8 xj xb (nI lw), zi G n1 6 fnm, zi G n2 4 fso, zi G n3 4 fmi, zi G n6 6 fmo, zi G n7 6 fsz, zi G n8 6 frd, zo3 tt co en sk wr (nI tx), zr G co 6 fc, zr G en 6 fe, zi G ct 160 fct, zi G et 3 (nF fet), zi G sk 32 fsk] s.heap.size = A at hD ⊢
  have hA : ∀ q : Nat, s.heap.size ≤ q → A q := fun q h => by rw [← hAe]; exact Or.inr h
  have hS : va_S A s.heap s.heap [] := va_S.rf
  have hz9 : gPD G A [zo0 h0 tt n1 n2 n3 n4 n5 n6 n7 n8 xj xb (nI lw), zi G n1 6 fnm, zi G n2 4 fso, zi G n3 4 fmi, zi G n6 6 fmo, zi G n7 6 fsz, zi G n8 6 frd, zo3 tt co en sk wr (nI tx), zr G co 6 fc, zr G en 6 fe, zi G ct 160 fct, zi G et 3 (nF fet), zi G sk 32 fsk] s.heap := ⟨hP, hD⟩
  have hP := hz9.1
  have hD := hz9.2
  have hl := lv_entry ([.ref h0, .int (nI jn), .int (nI pn), .int v3]) (n := 4) (Nat.le_of_ble_eq_true rfl)
  rw [lg_entry_eq]
  generalize (lg_sl ([.ref h0, .int (nI jn), .int (nI pn), .int v3]) ++ List.replicate (4 - (lg_sl ([.ref h0, .int (nI jn), .int (nI pn), .int v3])).length) Slot.unset).toArray = ls at hl ⊢
  have hl : lv_has ls 4 [zR 0 h0, zI 1 (nI jn), zI 2 (nI pn), zI 3 v3] := hl
  refine lv_iload_n hx hb dX0_verdict_0 rfl (lv_at hl 3 rfl) ?_
  refine lv_aload_n hx hb dX0_verdict_1 rfl (lv_at hl 0 rfl) ?_
  refine lv_iconst (v := 2) hx hb dX0_verdict_2 (by decide +kernel) ?_
  refine lv_iload_n hx hb dX0_verdict_3 rfl (lv_at hl 1 rfl) ?_
  refine lv_iload_n hx hb dX0_verdict_4 rfl (lv_at hl 2 rfl) ?_
  refine z_calli [0, 1, 2, 3, 4, 5, 6, 7, 8, 9, 10, 11, 12] (v := m_X0_says 2 jn pn fso fmi fmo fsz frd fct fet) (fun _ ⟨_, _⟩ h => h) (va_runV (As := [.int 2, .int (nI jn), .int (nI pn)]) (rest := [.int v3]) ⟨hx, hb, hml, hown, hts⟩ (c_X0_says l G h0 tt n1 n2 n3 n4 n5 n6 n7 n8 co en sk ct et lw 2 jn pn tx xj xb wr fnm fso fmi fmo fsz frd fc fe fct fet fsk s.heap.size (by omega) (by first | exact hj | assumption | omega) (by first | exact hp | assumption | omega) (by first | exact htn | assumption | omega) (by first | exact hc | assumption | omega) (by first | exact he | assumption | omega) (by first | exact hwx | assumption | omega)) (cwV 3 hts gX0_verdict_X0_says rfl rfl rfl (by decide +kernel) ⟨Nat.le_of_ble_eq_true rfl, Nat.le_of_ble_eq_true rfl⟩) ⟨gPre_blind, va_recv (q := (RX0, TX0, 12)) hK hP (ci := 0) (q0 := 0) rfl rfl, fun U hU hW => gPre_of hU hW hK hP hD⟩ rfl rfl hl.1 rfl (lv_room (Nat.le_of_ble_eq_true rfl)) dX0_verdict_5 ⟨Nat.le_of_ble_eq_true rfl, Nat.le_of_ble_eq_true rfl⟩) hS hD hA rfl (fun u t H locs ht hvm hB hz1 hk1 hFq hAq hS => ?_)
  obtain ⟨yn1_3, ysk_4⟩ := u
  obtain ⟨hP1, hK1, hD1⟩ := hB
  have hz9 : gPD G A [zo0 h0 tt n1 n2 n3 n4 n5 n6 n7 n8 xj xb (nI lw), zi G n1 6 yn1_3, zi G n2 4 fso, zi G n3 4 fmi, zi G n6 6 fmo, zi G n7 6 fsz, zi G n8 6 frd, zo3 tt co en sk wr (nI tx), zr G co 6 fc, zr G en 6 fe, zi G ct 160 fct, zi G et 3 (nF fet), zi G sk 32 ysk_4] H := zFill hP hD [0, 1, 2, 3, 4, 5, 6, 7, 8, 9, 10, 11, 12] [1, 2, 3, 4, 5, 6, 7, 8, 9, 10, 11, 12, 13] hAq hk1 hFq ht hP1 hD1 rfl (by decide +kernel)
  have hP := hz9.1
  have hD := hz9.2
  refine lv_icmp_lt (tgt := 15) hx hb dX0_verdict_8 (by decide +kernel) (fun c_5 => ?_) (fun c_5 => ?_)
  · skip
    refine lv_iconst (v := 0) hx hb dX0_verdict_15 (by decide +kernel) ?_
    have hpost : (fun (r : Int32) (u : (Nat → Int32) × (Nat → Int32)) => match u with | (yn1, ysk) => r = m_X0_verdict jn pn fso fmi fmo fsz frd fct fet v3) 0 (yn1_3, ysk_4) := (show m_X0_verdict jn pn fso fmi fmo fsz frd fct fet v3 = 0 from by unfold m_X0_verdict; rw [if_pos c_5]).symm
    exact W.iret (v := 0) hx hb hr (fun t ht hW => ⟨⟨0, (yn1_3, ysk_4), rfl, hpost, by rw [ht]; exact hP, va_K.moved hW.alike hK, hD⟩, hS.F ht⟩) hS.2.2 dX0_verdict_16
  · skip
    refine lv_iconst (v := 1) hx hb dX0_verdict_11 (by decide +kernel) ?_
    refine lv_goto (tgt := 16) hx hb dX0_verdict_12 (by decide +kernel) ?_
    have hpost : (fun (r : Int32) (u : (Nat → Int32) × (Nat → Int32)) => match u with | (yn1, ysk) => r = m_X0_verdict jn pn fso fmi fmo fsz frd fct fet v3) 1 (yn1_3, ysk_4) := (show m_X0_verdict jn pn fso fmi fmo fsz frd fct fet v3 = 1 from by unfold m_X0_verdict; rw [if_neg c_5]).symm
    exact W.iret (v := 1) hx hb hr (fun t ht hW => ⟨⟨1, (yn1_3, ysk_4), rfl, hpost, by rw [ht]; exact hP, va_K.moved hW.alike hK, hD⟩, hS.F ht⟩) hS.2.2 dX0_verdict_16
abbrev q_X0_become (G : gG) (h0 tt kp n1 n2 n3 n4 n5 n6 n7 n8 k1 k2 k3 k4 k5 k6 k7 k8 : Nat) (kj : Nat) (kb : Nat) (kl : Nat) (tj : Int32) (tb : Int32) (tl : Int32) (fso : Nat → Int32) (fmi : Nat → Int32) (fpa : Nat → Int32) (fki : Nat → Int32) (fmo : Nat → Int32) (fsz : Nat → Int32) (frd : Nat → Int32) (gso : Nat → Int32) (gmi : Nat → Int32) (gpa : Nat → Int32) (gki : Nat → Int32) (gmo : Nat → Int32) (gsz : Nat → Int32) (grd : Nat → Int32) (A : Nat → Prop) : Array Value → State → Outcome → State → Prop := va_Qv (fun (u : Unit) => match u with | _ => True) (fun (u : Unit) t => match u with | _ => va_P G.1 vwCl [zo0 h0 tt n1 n2 n3 n4 n5 n6 n7 n8 (nI kj) (nI kb) (nI kl), zo0 kp tt k1 k2 k3 k4 k5 k6 k7 k8 (nI kj) (nI kb) (nI kl), zi G n2 4 gso, zi G n3 4 gmi, zi G n4 4 gpa, zi G n5 6 gki, zi G n6 6 gmo, zi G n7 6 gsz, zi G n8 6 grd, zi G k2 4 gso, zi G k3 4 gmi, zi G k4 4 gpa, zi G k5 6 gki, zi G k6 6 gmo, zi G k7 6 gsz, zi G k8 6 grd] t.heap ∧ gK G t ∧ va_D A [zo0 h0 tt n1 n2 n3 n4 n5 n6 n7 n8 (nI kj) (nI kb) (nI kl), zo0 kp tt k1 k2 k3 k4 k5 k6 k7 k8 (nI kj) (nI kb) (nI kl), zi G n2 4 gso, zi G n3 4 gmi, zi G n4 4 gpa, zi G n5 6 gki, zi G n6 6 gmo, zi G n7 6 gsz, zi G n8 6 grd, zi G k2 4 gso, zi G k3 4 gmi, zi G k4 4 gpa, zi G k5 6 gki, zi G k6 6 gmo, zi G k7 6 gsz, zi G k8 6 grd]) A
set_option maxHeartbeats 4000000 in
set_option maxRecDepth 100000 in
theorem c_X0_become (l : Launch) (G : gG) (h0 tt kp n1 n2 n3 n4 n5 n6 n7 n8 k1 k2 k3 k4 k5 k6 k7 k8 : Nat) (kj : Nat) (kb : Nat) (kl : Nat) (tj : Int32) (tb : Int32) (tl : Int32) (fso : Nat → Int32) (fmi : Nat → Int32) (fpa : Nat → Int32) (fki : Nat → Int32) (fmo : Nat → Int32) (fsz : Nat → Int32) (frd : Nat → Int32) (gso : Nat → Int32) (gmi : Nat → Int32) (gpa : Nat → Int32) (gki : Nat → Int32) (gmo : Nat → Int32) (gsz : Nat → Int32) (grd : Nat → Int32) (sz : Nat) : Met l yX0_become wsX0_become ({ frames := 1, cells := 0, slots := 0, locals := 400 }) (gPre G [.ref h0, .ref kp] [zo0 h0 tt n1 n2 n3 n4 n5 n6 n7 n8 tj tb tl, zo0 kp tt k1 k2 k3 k4 k5 k6 k7 k8 (nI kj) (nI kb) (nI kl), zi G n2 4 fso, zi G n3 4 fmi, zi G n4 4 fpa, zi G n5 6 fki, zi G n6 6 fmo, zi G n7 6 fsz, zi G n8 6 frd, zi G k2 4 gso, zi G k3 4 gmi, zi G k4 4 gpa, zi G k5 6 gki, zi G k6 6 gmo, zi G k7 6 gsz, zi G k8 6 grd] sz) (q_X0_become G h0 tt kp n1 n2 n3 n4 n5 n6 n7 n8 k1 k2 k3 k4 k5 k6 k7 k8 kj kb kl tj tb tl fso fmi fpa fki fmo fsz frd gso gmi gpa gki gmo gsz grd (va_A [zo0 h0 tt n1 n2 n3 n4 n5 n6 n7 n8 tj tb tl, zo0 kp tt k1 k2 k3 k4 k5 k6 k7 k8 (nI kj) (nI kb) (nI kl), zi G n2 4 fso, zi G n3 4 fmi, zi G n4 4 fpa, zi G n5 6 fki, zi G n6 6 fmo, zi G n7 6 fsz, zi G n8 6 frd, zi G k2 4 gso, zi G k3 4 gmi, zi G k4 4 gpa, zi G k5 6 gki, zi G k6 6 gmo, zi G k7 6 gsz, zi G k8 6 grd] sz)) 0 0 (va_A [zo0 h0 tt n1 n2 n3 n4 n5 n6 n7 n8 tj tb tl, zo0 kp tt k1 k2 k3 k4 k5 k6 k7 k8 (nI kj) (nI kb) (nI kl), zi G n2 4 fso, zi G n3 4 fmi, zi G n4 4 fpa, zi G n5 6 fki, zi G n6 6 fmo, zi G n7 6 fsz, zi G n8 6 frd, zi G k2 4 gso, zi G k3 4 gmi, zi G k4 4 gpa, zi G k5 6 gki, zi G k6 6 gmo, zi G k7 6 gsz, zi G k8 6 grd] sz) := by
  refine Met.ofW (cc := cX0_become) (maxL := 2) (ret := none) (by decide +kernel) rfl ?_
  intro p e s m args below meth c s₁ B hml hv
  obtain ⟨rfl, hsz, hP, hK, hD0⟩ := hv
  have hx := B.exec
  have hb := B.bytes
  have hr := B.returns
  have hts := atoms_spec (ws := wsX0_become) B.pre
  have hown : s.vm.findClass RX0 = some m.cls := findClass_of_methodNamed B.named
  have hlocks := B.notSynchronized
  subst hsz
  have hD := hD0.self (sz := s.heap.size)
  generalize hAe : va_A [zo0 h0 tt n1 n2 n3 n4 n5 n6 n7 n8 tj tb tl, zo0 kp tt k1 k2 k3 k4 k5 k6 k7 k8 (nI kj) (nI kb) (nI kl), zi G n2 4 fso, zi G n3 4 fmi, zi G n4 4 fpa, zi G n5 6 fki, zi G n6 6 fmo, zi G n7 6 fsz, zi G n8 6 frd, zi G k2 4 gso, zi G k3 4 gmi, zi G k4 4 gpa, zi G k5 6 gki, zi G k6 6 gmo, zi G k7 6 gsz, zi G k8 6 grd] s.heap.size = A at hD ⊢
  have hA : ∀ q : Nat, s.heap.size ≤ q → A q := fun q h => by rw [← hAe]; exact Or.inr h
  have hS : va_S A s.heap s.heap [] := va_S.rf
  have hz9 : gPD G A [zo0 h0 tt n1 n2 n3 n4 n5 n6 n7 n8 tj tb tl, zo0 kp tt k1 k2 k3 k4 k5 k6 k7 k8 (nI kj) (nI kb) (nI kl), zi G n2 4 fso, zi G n3 4 fmi, zi G n4 4 fpa, zi G n5 6 fki, zi G n6 6 fmo, zi G n7 6 fsz, zi G n8 6 frd, zi G k2 4 gso, zi G k3 4 gmi, zi G k4 4 gpa, zi G k5 6 gki, zi G k6 6 gmo, zi G k7 6 gsz, zi G k8 6 grd] s.heap := ⟨hP, hD⟩
  have hP := hz9.1
  have hD := hz9.2
  have hl := lv_entry ([.ref h0, .ref kp]) (n := 2) (Nat.le_of_ble_eq_true rfl)
  rw [lg_entry_eq]
  generalize (lg_sl ([.ref h0, .ref kp]) ++ List.replicate (2 - (lg_sl ([.ref h0, .ref kp])).length) Slot.unset).toArray = ls at hl ⊢
  have hl : lv_has ls 2 [zR 0 h0, zR 1 kp] := hl
  have kf17 := hts (.fieldLink RX0 17 "PebbleInShoe$Court" "soles" "[I") (by decide +kernel)
  have hiX0 := (by decide +kernel : ∀ w ∈ wsX00, w ∈ wsX0_become)
  have kf20 := hts (.fieldLink RX0 20 "PebbleInShoe$Court" "miles" "[I") (by decide +kernel)
  have kf23 := hts (.fieldLink RX0 23 "PebbleInShoe$Court" "pains" "[I") (by decide +kernel)
  have kf26 := hts (.fieldLink RX0 26 "PebbleInShoe$Court" "kind" "[I") (by decide +kernel)
  have kf29 := hts (.fieldLink RX0 29 "PebbleInShoe$Court" "more" "[I") (by decide +kernel)
  have kf32 := hts (.fieldLink RX0 32 "PebbleInShoe$Court" "size" "[I") (by decide +kernel)
  have kf35 := hts (.fieldLink RX0 35 "PebbleInShoe$Court" "round" "[I") (by decide +kernel)
  have kf48 := hts (.fieldLink RX0 48 "PebbleInShoe$Court" "judges" "I") (by decide +kernel)
  have kf52 := hts (.fieldLink RX0 52 "PebbleInShoe$Court" "pebbles" "I") (by decide +kernel)
  have kf55 := hts (.fieldLink RX0 55 "PebbleInShoe$Court" "law" "I") (by decide +kernel)
  refine g_aget (D := G.1) (ci := 0) (v := .ref k2) (C := RX0) (T := TX0) (N := 12) hx hb dX0_become_0 rfl (lv_at hl 1 rfl) hts hiX0 hown hK hP 1 rfl rfl 2 (by decide +kernel) kf17 (fun _ h9 => h9) rfl dX0_become_1 ?_
  refine lv_iconst (v := 0) hx hb dX0_become_4 (by decide +kernel) ?_
  refine g_aget (D := G.1) (ci := 0) (v := .ref n2) (C := RX0) (T := TX0) (N := 12) hx hb dX0_become_5 rfl (lv_at hl 0 rfl) hts hiX0 hown hK hP 0 rfl rfl 2 (by decide +kernel) kf17 (fun _ h9 => h9) rfl dX0_become_6 ?_
  refine lv_iconst (v := 0) hx hb dX0_become_9 (by decide +kernel) ?_
  refine lv_iconst (v := 4) hx hb dX0_become_10 (by decide +kernel) ?_
  refine va_copyi (D := G.1) (ty := .int) hx hb (by rw [hml]; exact hl.1.symm) hown (hts (.methodLink RX0 42 arraycopyName) (by decide +kernel)) (hts (.native arraycopyName) (by decide +kernel)) (hts (.static arraycopyName) (by decide +kernel)) (hts (.initialized "java/lang/System") (by decide +kernel)) hK hP hD hS 9 2 0 0 rfl rfl rfl rfl rfl (by decide +kernel) (by decide +kernel) (by decide +kernel) (by decide +kernel) (by decide +kernel) (fun _ _ => rfl) (Nat.le_of_ble_eq_true rfl) (Nat.le_of_ble_eq_true rfl) dX0_become_11 (fun H locs hP hD hS => ?_)
  have hz9 : gPD G A [zo0 h0 tt n1 n2 n3 n4 n5 n6 n7 n8 tj tb tl, zo0 kp tt k1 k2 k3 k4 k5 k6 k7 k8 (nI kj) (nI kb) (nI kl), zi G n2 4 (va_cpy gso fso 0 0 4), zi G n3 4 fmi, zi G n4 4 fpa, zi G n5 6 fki, zi G n6 6 fmo, zi G n7 6 fsz, zi G n8 6 frd, zi G k2 4 gso, zi G k3 4 gmi, zi G k4 4 gpa, zi G k5 6 gki, zi G k6 6 gmo, zi G k7 6 gsz, zi G k8 6 grd] H := ⟨hP, hD⟩
  have hP := hz9.1
  have hD := hz9.2
  have hz9 : gPD G A [zo0 h0 tt n1 n2 n3 n4 n5 n6 n7 n8 tj tb tl, zo0 kp tt k1 k2 k3 k4 k5 k6 k7 k8 (nI kj) (nI kb) (nI kl), zi G n2 4 gso, zi G n3 4 fmi, zi G n4 4 fpa, zi G n5 6 fki, zi G n6 6 fmo, zi G n7 6 fsz, zi G n8 6 frd, zi G k2 4 gso, zi G k3 4 gmi, zi G k4 4 gpa, zi G k5 6 gki, zi G k6 6 gmo, zi G k7 6 gsz, zi G k8 6 grd] H := ⟨g_ext hP 2 rfl (fun i h9 => sb_cpy0 h9), g_extD hD 2 rfl⟩
  have hP := hz9.1
  have hD := hz9.2
  refine g_aget (D := G.1) (ci := 0) (v := .ref k3) (C := RX0) (T := TX0) (N := 12) hx hb dX0_become_14 rfl (lv_at hl 1 rfl) hts hiX0 hown hK hP 1 rfl rfl 3 (by decide +kernel) kf20 (fun _ h9 => h9) rfl dX0_become_15 ?_
  refine lv_iconst (v := 0) hx hb dX0_become_18 (by decide +kernel) ?_
  refine g_aget (D := G.1) (ci := 0) (v := .ref n3) (C := RX0) (T := TX0) (N := 12) hx hb dX0_become_19 rfl (lv_at hl 0 rfl) hts hiX0 hown hK hP 0 rfl rfl 3 (by decide +kernel) kf20 (fun _ h9 => h9) rfl dX0_become_20 ?_
  refine lv_iconst (v := 0) hx hb dX0_become_23 (by decide +kernel) ?_
  refine lv_iconst (v := 4) hx hb dX0_become_24 (by decide +kernel) ?_
  refine va_copyi (D := G.1) (ty := .int) hx hb (by rw [hml]; exact hl.1.symm) hown (hts (.methodLink RX0 42 arraycopyName) (by decide +kernel)) (hts (.native arraycopyName) (by decide +kernel)) (hts (.static arraycopyName) (by decide +kernel)) (hts (.initialized "java/lang/System") (by decide +kernel)) hK hP hD hS 10 3 0 0 rfl rfl rfl rfl rfl (by decide +kernel) (by decide +kernel) (by decide +kernel) (by decide +kernel) (by decide +kernel) (fun _ _ => rfl) (Nat.le_of_ble_eq_true rfl) (Nat.le_of_ble_eq_true rfl) dX0_become_25 (fun H locs hP hD hS => ?_)
  have hz9 : gPD G A [zo0 h0 tt n1 n2 n3 n4 n5 n6 n7 n8 tj tb tl, zo0 kp tt k1 k2 k3 k4 k5 k6 k7 k8 (nI kj) (nI kb) (nI kl), zi G n2 4 gso, zi G n3 4 (va_cpy gmi fmi 0 0 4), zi G n4 4 fpa, zi G n5 6 fki, zi G n6 6 fmo, zi G n7 6 fsz, zi G n8 6 frd, zi G k2 4 gso, zi G k3 4 gmi, zi G k4 4 gpa, zi G k5 6 gki, zi G k6 6 gmo, zi G k7 6 gsz, zi G k8 6 grd] H := ⟨hP, hD⟩
  have hP := hz9.1
  have hD := hz9.2
  have hz9 : gPD G A [zo0 h0 tt n1 n2 n3 n4 n5 n6 n7 n8 tj tb tl, zo0 kp tt k1 k2 k3 k4 k5 k6 k7 k8 (nI kj) (nI kb) (nI kl), zi G n2 4 gso, zi G n3 4 gmi, zi G n4 4 fpa, zi G n5 6 fki, zi G n6 6 fmo, zi G n7 6 fsz, zi G n8 6 frd, zi G k2 4 gso, zi G k3 4 gmi, zi G k4 4 gpa, zi G k5 6 gki, zi G k6 6 gmo, zi G k7 6 gsz, zi G k8 6 grd] H := ⟨g_ext hP 3 rfl (fun i h9 => sb_cpy0 h9), g_extD hD 3 rfl⟩
  have hP := hz9.1
  have hD := hz9.2
  refine g_aget (D := G.1) (ci := 0) (v := .ref k4) (C := RX0) (T := TX0) (N := 12) hx hb dX0_become_28 rfl (lv_at hl 1 rfl) hts hiX0 hown hK hP 1 rfl rfl 4 (by decide +kernel) kf23 (fun _ h9 => h9) rfl dX0_become_29 ?_
  refine lv_iconst (v := 0) hx hb dX0_become_32 (by decide +kernel) ?_
  refine g_aget (D := G.1) (ci := 0) (v := .ref n4) (C := RX0) (T := TX0) (N := 12) hx hb dX0_become_33 rfl (lv_at hl 0 rfl) hts hiX0 hown hK hP 0 rfl rfl 4 (by decide +kernel) kf23 (fun _ h9 => h9) rfl dX0_become_34 ?_
  refine lv_iconst (v := 0) hx hb dX0_become_37 (by decide +kernel) ?_
  refine lv_iconst (v := 4) hx hb dX0_become_38 (by decide +kernel) ?_
  refine va_copyi (D := G.1) (ty := .int) hx hb (by rw [hml]; exact hl.1.symm) hown (hts (.methodLink RX0 42 arraycopyName) (by decide +kernel)) (hts (.native arraycopyName) (by decide +kernel)) (hts (.static arraycopyName) (by decide +kernel)) (hts (.initialized "java/lang/System") (by decide +kernel)) hK hP hD hS 11 4 0 0 rfl rfl rfl rfl rfl (by decide +kernel) (by decide +kernel) (by decide +kernel) (by decide +kernel) (by decide +kernel) (fun _ _ => rfl) (Nat.le_of_ble_eq_true rfl) (Nat.le_of_ble_eq_true rfl) dX0_become_39 (fun H locs hP hD hS => ?_)
  have hz9 : gPD G A [zo0 h0 tt n1 n2 n3 n4 n5 n6 n7 n8 tj tb tl, zo0 kp tt k1 k2 k3 k4 k5 k6 k7 k8 (nI kj) (nI kb) (nI kl), zi G n2 4 gso, zi G n3 4 gmi, zi G n4 4 (va_cpy gpa fpa 0 0 4), zi G n5 6 fki, zi G n6 6 fmo, zi G n7 6 fsz, zi G n8 6 frd, zi G k2 4 gso, zi G k3 4 gmi, zi G k4 4 gpa, zi G k5 6 gki, zi G k6 6 gmo, zi G k7 6 gsz, zi G k8 6 grd] H := ⟨hP, hD⟩
  have hP := hz9.1
  have hD := hz9.2
  have hz9 : gPD G A [zo0 h0 tt n1 n2 n3 n4 n5 n6 n7 n8 tj tb tl, zo0 kp tt k1 k2 k3 k4 k5 k6 k7 k8 (nI kj) (nI kb) (nI kl), zi G n2 4 gso, zi G n3 4 gmi, zi G n4 4 gpa, zi G n5 6 fki, zi G n6 6 fmo, zi G n7 6 fsz, zi G n8 6 frd, zi G k2 4 gso, zi G k3 4 gmi, zi G k4 4 gpa, zi G k5 6 gki, zi G k6 6 gmo, zi G k7 6 gsz, zi G k8 6 grd] H := ⟨g_ext hP 4 rfl (fun i h9 => sb_cpy0 h9), g_extD hD 4 rfl⟩
  have hP := hz9.1
  have hD := hz9.2
  refine g_aget (D := G.1) (ci := 0) (v := .ref k5) (C := RX0) (T := TX0) (N := 12) hx hb dX0_become_42 rfl (lv_at hl 1 rfl) hts hiX0 hown hK hP 1 rfl rfl 5 (by decide +kernel) kf26 (fun _ h9 => h9) rfl dX0_become_43 ?_
  refine lv_iconst (v := 0) hx hb dX0_become_46 (by decide +kernel) ?_
  refine g_aget (D := G.1) (ci := 0) (v := .ref n5) (C := RX0) (T := TX0) (N := 12) hx hb dX0_become_47 rfl (lv_at hl 0 rfl) hts hiX0 hown hK hP 0 rfl rfl 5 (by decide +kernel) kf26 (fun _ h9 => h9) rfl dX0_become_48 ?_
  refine lv_iconst (v := 0) hx hb dX0_become_51 (by decide +kernel) ?_
  refine lv_bipush (v := 6) hx hb dX0_become_52 (by decide +kernel) ?_
  refine va_copyi (D := G.1) (ty := .int) hx hb (by rw [hml]; exact hl.1.symm) hown (hts (.methodLink RX0 42 arraycopyName) (by decide +kernel)) (hts (.native arraycopyName) (by decide +kernel)) (hts (.static arraycopyName) (by decide +kernel)) (hts (.initialized "java/lang/System") (by decide +kernel)) hK hP hD hS 12 5 0 0 rfl rfl rfl rfl rfl (by decide +kernel) (by decide +kernel) (by decide +kernel) (by decide +kernel) (by decide +kernel) (fun _ _ => rfl) (Nat.le_of_ble_eq_true rfl) (Nat.le_of_ble_eq_true rfl) dX0_become_54 (fun H locs hP hD hS => ?_)
  have hz9 : gPD G A [zo0 h0 tt n1 n2 n3 n4 n5 n6 n7 n8 tj tb tl, zo0 kp tt k1 k2 k3 k4 k5 k6 k7 k8 (nI kj) (nI kb) (nI kl), zi G n2 4 gso, zi G n3 4 gmi, zi G n4 4 gpa, zi G n5 6 (va_cpy gki fki 0 0 6), zi G n6 6 fmo, zi G n7 6 fsz, zi G n8 6 frd, zi G k2 4 gso, zi G k3 4 gmi, zi G k4 4 gpa, zi G k5 6 gki, zi G k6 6 gmo, zi G k7 6 gsz, zi G k8 6 grd] H := ⟨hP, hD⟩
  have hP := hz9.1
  have hD := hz9.2
  have hz9 : gPD G A [zo0 h0 tt n1 n2 n3 n4 n5 n6 n7 n8 tj tb tl, zo0 kp tt k1 k2 k3 k4 k5 k6 k7 k8 (nI kj) (nI kb) (nI kl), zi G n2 4 gso, zi G n3 4 gmi, zi G n4 4 gpa, zi G n5 6 gki, zi G n6 6 fmo, zi G n7 6 fsz, zi G n8 6 frd, zi G k2 4 gso, zi G k3 4 gmi, zi G k4 4 gpa, zi G k5 6 gki, zi G k6 6 gmo, zi G k7 6 gsz, zi G k8 6 grd] H := ⟨g_ext hP 5 rfl (fun i h9 => sb_cpy0 h9), g_extD hD 5 rfl⟩
  have hP := hz9.1
  have hD := hz9.2
  refine g_aget (D := G.1) (ci := 0) (v := .ref k6) (C := RX0) (T := TX0) (N := 12) hx hb dX0_become_57 rfl (lv_at hl 1 rfl) hts hiX0 hown hK hP 1 rfl rfl 6 (by decide +kernel) kf29 (fun _ h9 => h9) rfl dX0_become_58 ?_
  refine lv_iconst (v := 0) hx hb dX0_become_61 (by decide +kernel) ?_
  refine g_aget (D := G.1) (ci := 0) (v := .ref n6) (C := RX0) (T := TX0) (N := 12) hx hb dX0_become_62 rfl (lv_at hl 0 rfl) hts hiX0 hown hK hP 0 rfl rfl 6 (by decide +kernel) kf29 (fun _ h9 => h9) rfl dX0_become_63 ?_
  refine lv_iconst (v := 0) hx hb dX0_become_66 (by decide +kernel) ?_
  refine lv_bipush (v := 6) hx hb dX0_become_67 (by decide +kernel) ?_
  refine va_copyi (D := G.1) (ty := .int) hx hb (by rw [hml]; exact hl.1.symm) hown (hts (.methodLink RX0 42 arraycopyName) (by decide +kernel)) (hts (.native arraycopyName) (by decide +kernel)) (hts (.static arraycopyName) (by decide +kernel)) (hts (.initialized "java/lang/System") (by decide +kernel)) hK hP hD hS 13 6 0 0 rfl rfl rfl rfl rfl (by decide +kernel) (by decide +kernel) (by decide +kernel) (by decide +kernel) (by decide +kernel) (fun _ _ => rfl) (Nat.le_of_ble_eq_true rfl) (Nat.le_of_ble_eq_true rfl) dX0_become_69 (fun H locs hP hD hS => ?_)
  have hz9 : gPD G A [zo0 h0 tt n1 n2 n3 n4 n5 n6 n7 n8 tj tb tl, zo0 kp tt k1 k2 k3 k4 k5 k6 k7 k8 (nI kj) (nI kb) (nI kl), zi G n2 4 gso, zi G n3 4 gmi, zi G n4 4 gpa, zi G n5 6 gki, zi G n6 6 (va_cpy gmo fmo 0 0 6), zi G n7 6 fsz, zi G n8 6 frd, zi G k2 4 gso, zi G k3 4 gmi, zi G k4 4 gpa, zi G k5 6 gki, zi G k6 6 gmo, zi G k7 6 gsz, zi G k8 6 grd] H := ⟨hP, hD⟩
  have hP := hz9.1
  have hD := hz9.2
  have hz9 : gPD G A [zo0 h0 tt n1 n2 n3 n4 n5 n6 n7 n8 tj tb tl, zo0 kp tt k1 k2 k3 k4 k5 k6 k7 k8 (nI kj) (nI kb) (nI kl), zi G n2 4 gso, zi G n3 4 gmi, zi G n4 4 gpa, zi G n5 6 gki, zi G n6 6 gmo, zi G n7 6 fsz, zi G n8 6 frd, zi G k2 4 gso, zi G k3 4 gmi, zi G k4 4 gpa, zi G k5 6 gki, zi G k6 6 gmo, zi G k7 6 gsz, zi G k8 6 grd] H := ⟨g_ext hP 6 rfl (fun i h9 => sb_cpy0 h9), g_extD hD 6 rfl⟩
  have hP := hz9.1
  have hD := hz9.2
  refine g_aget (D := G.1) (ci := 0) (v := .ref k7) (C := RX0) (T := TX0) (N := 12) hx hb dX0_become_72 rfl (lv_at hl 1 rfl) hts hiX0 hown hK hP 1 rfl rfl 7 (by decide +kernel) kf32 (fun _ h9 => h9) rfl dX0_become_73 ?_
  refine lv_iconst (v := 0) hx hb dX0_become_76 (by decide +kernel) ?_
  refine g_aget (D := G.1) (ci := 0) (v := .ref n7) (C := RX0) (T := TX0) (N := 12) hx hb dX0_become_77 rfl (lv_at hl 0 rfl) hts hiX0 hown hK hP 0 rfl rfl 7 (by decide +kernel) kf32 (fun _ h9 => h9) rfl dX0_become_78 ?_
  refine lv_iconst (v := 0) hx hb dX0_become_81 (by decide +kernel) ?_
  refine lv_bipush (v := 6) hx hb dX0_become_82 (by decide +kernel) ?_
  refine va_copyi (D := G.1) (ty := .int) hx hb (by rw [hml]; exact hl.1.symm) hown (hts (.methodLink RX0 42 arraycopyName) (by decide +kernel)) (hts (.native arraycopyName) (by decide +kernel)) (hts (.static arraycopyName) (by decide +kernel)) (hts (.initialized "java/lang/System") (by decide +kernel)) hK hP hD hS 14 7 0 0 rfl rfl rfl rfl rfl (by decide +kernel) (by decide +kernel) (by decide +kernel) (by decide +kernel) (by decide +kernel) (fun _ _ => rfl) (Nat.le_of_ble_eq_true rfl) (Nat.le_of_ble_eq_true rfl) dX0_become_84 (fun H locs hP hD hS => ?_)
  have hz9 : gPD G A [zo0 h0 tt n1 n2 n3 n4 n5 n6 n7 n8 tj tb tl, zo0 kp tt k1 k2 k3 k4 k5 k6 k7 k8 (nI kj) (nI kb) (nI kl), zi G n2 4 gso, zi G n3 4 gmi, zi G n4 4 gpa, zi G n5 6 gki, zi G n6 6 gmo, zi G n7 6 (va_cpy gsz fsz 0 0 6), zi G n8 6 frd, zi G k2 4 gso, zi G k3 4 gmi, zi G k4 4 gpa, zi G k5 6 gki, zi G k6 6 gmo, zi G k7 6 gsz, zi G k8 6 grd] H := ⟨hP, hD⟩
  have hP := hz9.1
  have hD := hz9.2
  have hz9 : gPD G A [zo0 h0 tt n1 n2 n3 n4 n5 n6 n7 n8 tj tb tl, zo0 kp tt k1 k2 k3 k4 k5 k6 k7 k8 (nI kj) (nI kb) (nI kl), zi G n2 4 gso, zi G n3 4 gmi, zi G n4 4 gpa, zi G n5 6 gki, zi G n6 6 gmo, zi G n7 6 gsz, zi G n8 6 frd, zi G k2 4 gso, zi G k3 4 gmi, zi G k4 4 gpa, zi G k5 6 gki, zi G k6 6 gmo, zi G k7 6 gsz, zi G k8 6 grd] H := ⟨g_ext hP 7 rfl (fun i h9 => sb_cpy0 h9), g_extD hD 7 rfl⟩
  have hP := hz9.1
  have hD := hz9.2
  refine g_aget (D := G.1) (ci := 0) (v := .ref k8) (C := RX0) (T := TX0) (N := 12) hx hb dX0_become_87 rfl (lv_at hl 1 rfl) hts hiX0 hown hK hP 1 rfl rfl 8 (by decide +kernel) kf35 (fun _ h9 => h9) rfl dX0_become_88 ?_
  refine lv_iconst (v := 0) hx hb dX0_become_91 (by decide +kernel) ?_
  refine g_aget (D := G.1) (ci := 0) (v := .ref n8) (C := RX0) (T := TX0) (N := 12) hx hb dX0_become_92 rfl (lv_at hl 0 rfl) hts hiX0 hown hK hP 0 rfl rfl 8 (by decide +kernel) kf35 (fun _ h9 => h9) rfl dX0_become_93 ?_
  refine lv_iconst (v := 0) hx hb dX0_become_96 (by decide +kernel) ?_
  refine lv_bipush (v := 6) hx hb dX0_become_97 (by decide +kernel) ?_
  refine va_copyi (D := G.1) (ty := .int) hx hb (by rw [hml]; exact hl.1.symm) hown (hts (.methodLink RX0 42 arraycopyName) (by decide +kernel)) (hts (.native arraycopyName) (by decide +kernel)) (hts (.static arraycopyName) (by decide +kernel)) (hts (.initialized "java/lang/System") (by decide +kernel)) hK hP hD hS 15 8 0 0 rfl rfl rfl rfl rfl (by decide +kernel) (by decide +kernel) (by decide +kernel) (by decide +kernel) (by decide +kernel) (fun _ _ => rfl) (Nat.le_of_ble_eq_true rfl) (Nat.le_of_ble_eq_true rfl) dX0_become_99 (fun H locs hP hD hS => ?_)
  have hz9 : gPD G A [zo0 h0 tt n1 n2 n3 n4 n5 n6 n7 n8 tj tb tl, zo0 kp tt k1 k2 k3 k4 k5 k6 k7 k8 (nI kj) (nI kb) (nI kl), zi G n2 4 gso, zi G n3 4 gmi, zi G n4 4 gpa, zi G n5 6 gki, zi G n6 6 gmo, zi G n7 6 gsz, zi G n8 6 (va_cpy grd frd 0 0 6), zi G k2 4 gso, zi G k3 4 gmi, zi G k4 4 gpa, zi G k5 6 gki, zi G k6 6 gmo, zi G k7 6 gsz, zi G k8 6 grd] H := ⟨hP, hD⟩
  have hP := hz9.1
  have hD := hz9.2
  have hz9 : gPD G A [zo0 h0 tt n1 n2 n3 n4 n5 n6 n7 n8 tj tb tl, zo0 kp tt k1 k2 k3 k4 k5 k6 k7 k8 (nI kj) (nI kb) (nI kl), zi G n2 4 gso, zi G n3 4 gmi, zi G n4 4 gpa, zi G n5 6 gki, zi G n6 6 gmo, zi G n7 6 gsz, zi G n8 6 grd, zi G k2 4 gso, zi G k3 4 gmi, zi G k4 4 gpa, zi G k5 6 gki, zi G k6 6 gmo, zi G k7 6 gsz, zi G k8 6 grd] H := ⟨g_ext hP 8 rfl (fun i h9 => sb_cpy0 h9), g_extD hD 8 rfl⟩
  have hP := hz9.1
  have hD := hz9.2
  refine lv_aload_n hx hb dX0_become_102 rfl (lv_at hl 0 rfl) ?_
  refine g_aget (D := G.1) (ci := 0) (v := .int (nI kj)) (C := RX0) (T := TX0) (N := 12) hx hb dX0_become_103 rfl (lv_at hl 1 rfl) hts hiX0 hown hK hP 1 rfl rfl 9 (by decide +kernel) kf48 (fun _ h9 => h9) rfl dX0_become_104 ?_
  refine va_put (D := G.1) (ci := 0) (v := .int (nI kj)) (ty := .int) (C := RX0) (T := TX0) (N := 12) hx hb hts hiX0 tyX0 tyX0_ok nmX0 hown hK hP hD hS 0 rfl rfl 9 (by decide +kernel) kf48 (fun _ h9 => h9) rfl (by decide +kernel) rfl rfl (Nat.le_of_ble_eq_true rfl) dX0_become_107 (fun H locs hP hD hS => ?_)
  have hz9 : gPD G A [zo0 h0 tt n1 n2 n3 n4 n5 n6 n7 n8 (nI kj) tb tl, zo0 kp tt k1 k2 k3 k4 k5 k6 k7 k8 (nI kj) (nI kb) (nI kl), zi G n2 4 gso, zi G n3 4 gmi, zi G n4 4 gpa, zi G n5 6 gki, zi G n6 6 gmo, zi G n7 6 gsz, zi G n8 6 grd, zi G k2 4 gso, zi G k3 4 gmi, zi G k4 4 gpa, zi G k5 6 gki, zi G k6 6 gmo, zi G k7 6 gsz, zi G k8 6 grd] H := ⟨hP, hD⟩
  have hP := hz9.1
  have hD := hz9.2
  refine lv_aload_n hx hb dX0_become_110 rfl (lv_at hl 0 rfl) ?_
  refine g_aget (D := G.1) (ci := 0) (v := .int (nI kb)) (C := RX0) (T := TX0) (N := 12) hx hb dX0_become_111 rfl (lv_at hl 1 rfl) hts hiX0 hown hK hP 1 rfl rfl 10 (by decide +kernel) kf52 (fun _ h9 => h9) rfl dX0_become_112 ?_
  refine va_put (D := G.1) (ci := 0) (v := .int (nI kb)) (ty := .int) (C := RX0) (T := TX0) (N := 12) hx hb hts hiX0 tyX0 tyX0_ok nmX0 hown hK hP hD hS 0 rfl rfl 10 (by decide +kernel) kf52 (fun _ h9 => h9) rfl (by decide +kernel) rfl rfl (Nat.le_of_ble_eq_true rfl) dX0_become_115 (fun H locs hP hD hS => ?_)
  have hz9 : gPD G A [zo0 h0 tt n1 n2 n3 n4 n5 n6 n7 n8 (nI kj) (nI kb) tl, zo0 kp tt k1 k2 k3 k4 k5 k6 k7 k8 (nI kj) (nI kb) (nI kl), zi G n2 4 gso, zi G n3 4 gmi, zi G n4 4 gpa, zi G n5 6 gki, zi G n6 6 gmo, zi G n7 6 gsz, zi G n8 6 grd, zi G k2 4 gso, zi G k3 4 gmi, zi G k4 4 gpa, zi G k5 6 gki, zi G k6 6 gmo, zi G k7 6 gsz, zi G k8 6 grd] H := ⟨hP, hD⟩
  have hP := hz9.1
  have hD := hz9.2
  refine lv_aload_n hx hb dX0_become_118 rfl (lv_at hl 0 rfl) ?_
  refine g_aget (D := G.1) (ci := 0) (v := .int (nI kl)) (C := RX0) (T := TX0) (N := 12) hx hb dX0_become_119 rfl (lv_at hl 1 rfl) hts hiX0 hown hK hP 1 rfl rfl 11 (by decide +kernel) kf55 (fun _ h9 => h9) rfl dX0_become_120 ?_
  refine va_put (D := G.1) (ci := 0) (v := .int (nI kl)) (ty := .int) (C := RX0) (T := TX0) (N := 12) hx hb hts hiX0 tyX0 tyX0_ok nmX0 hown hK hP hD hS 0 rfl rfl 11 (by decide +kernel) kf55 (fun _ h9 => h9) rfl (by decide +kernel) rfl rfl (Nat.le_of_ble_eq_true rfl) dX0_become_123 (fun H locs hP hD hS => ?_)
  have hz9 : gPD G A [zo0 h0 tt n1 n2 n3 n4 n5 n6 n7 n8 (nI kj) (nI kb) (nI kl), zo0 kp tt k1 k2 k3 k4 k5 k6 k7 k8 (nI kj) (nI kb) (nI kl), zi G n2 4 gso, zi G n3 4 gmi, zi G n4 4 gpa, zi G n5 6 gki, zi G n6 6 gmo, zi G n7 6 gsz, zi G n8 6 grd, zi G k2 4 gso, zi G k3 4 gmi, zi G k4 4 gpa, zi G k5 6 gki, zi G k6 6 gmo, zi G k7 6 gsz, zi G k8 6 grd] H := ⟨hP, hD⟩
  have hP := hz9.1
  have hD := hz9.2
  have hpost : (fun (u : Unit) => match u with | _ => True) () := trivial
  exact W.vret hx hb hr (fun t ht hW => ⟨⟨(), rfl, hpost, by rw [ht]; exact hP, va_K.moved hW.alike hK, hD⟩, hS.F ht⟩) hS.2.2 dX0_become_126
