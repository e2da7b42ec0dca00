abbrev q_X3_begin (G : gG) (t0 co en sk : Nat) (x3 : Int32) (x4 : Int32) (A : Nat → Prop) : Array Value → State → Outcome → State → Prop := va_Qv (fun (u : Unit) => match u with | _ => True) (fun (u : Unit) t => match u with | _ => va_P G.1 vwCl [(t0, .inr (3, [.ref co, .ref en, .ref sk, .int 0, .int x4]))] t.heap ∧ gK G t ∧ va_D A [(t0, .inr (3, [.ref co, .ref en, .ref sk, .int 0, .int x4]))]) A
set_option maxHeartbeats 4000000 in
set_option maxRecDepth 100000 in
theorem c_X3_begin (l : Launch) (G : gG) (t0 co en sk : Nat) (x3 : Int32) (x4 : Int32) (sz : Nat) : Met l yX3_begin wsX3_begin ({ frames := 0, cells := 0, slots := 0, locals := 0 }) (gPre G [.ref t0] [(t0, .inr (3, [.ref co, .ref en, .ref sk, .int x3, .int x4]))] sz) (q_X3_begin G t0 co en sk x3 x4 (va_A [(t0, .inr (3, [.ref co, .ref en, .ref sk, .int x3, .int x4]))] sz)) 0 0 (va_A [(t0, .inr (3, [.ref co, .ref en, .ref sk, .int x3, .int x4]))] sz) := by
  refine Met.ofW (cc := cX3_begin) (maxL := 1) (ret := none) (by decide) rfl ?_
  intro p e s m args below meth c s₁ B hml hv
  obtain ⟨rfl, hsz, hP, hK, hD0⟩ := hv
  have hx := B.exec
  have hb := B.bytes
  have hr := B.returns
  have hts := atoms_spec (ws := wsX3_begin) B.pre
  have hown : s.vm.findClass RX3 = some m.cls := findClass_of_methodNamed B.named
  have hlocks := B.notSynchronized
  subst hsz
  have hD := hD0.self (sz := s.heap.size)
  generalize hAe : va_A [(t0, .inr (3, [.ref co, .ref en, .ref sk, .int x3, .int x4]))] s.heap.size = A at hD ⊢
  have hA : ∀ q : Nat, s.heap.size ≤ q → A q := fun q h => by rw [← hAe]; exact Or.inr h
  have hS : va_S A s.heap s.heap [] := va_S.rf
  have hP : va_P G.1 vwCl [(t0, .inr (3, [.ref co, .ref en, .ref sk, .int x3, .int x4]))] s.heap := hP
  have hD : va_D A [(t0, .inr (3, [.ref co, .ref en, .ref sk, .int x3, .int x4]))] := hD
  have hl := lv_entry ([.ref t0]) (n := 1) (Nat.le_of_ble_eq_true rfl)
  rw [lg_entry_eq]
  generalize (lg_sl ([.ref t0]) ++ List.replicate (1 - (lg_sl ([.ref t0])).length) Slot.unset).toArray = ls at hl ⊢
  have hl : lv_has ls 1 [(0, .ref t0)] := hl
  have kf23 := hts (.fieldLink RX3 23 "PebbleInShoe$Texts" "written" "I") (by decide +kernel)
  have hiX3 := (by decide +kernel : ∀ w ∈ wsX30, w ∈ wsX3_begin)
  refine lv_aload_n hx hb dX3_begin_0 rfl (lv_at hl 0 rfl) ?_
  refine lv_iconst (v := 0) hx hb dX3_begin_1 (by decide) ?_
  refine va_put (D := G.1) (ci := 3) (v := .int 0) (ty := .int) (C := RX3) (T := TX3) (N := 5) hx hb hts hiX3 tyX3 tyX3_ok nmX3 hown hK hP hD hS 0 rfl rfl 3 (by decide) kf23 (fun _ h9 => h9) rfl (by decide +kernel) rfl rfl (Nat.le_of_ble_eq_true rfl) dX3_begin_2 (fun H locs hP hD hS => ?_)
  have hP : va_P G.1 vwCl [(t0, .inr (3, [.ref co, .ref en, .ref sk, .int 0, .int x4]))] H := hP
  have hD : va_D A [(t0, .inr (3, [.ref co, .ref en, .ref sk, .int 0, .int x4]))] := hD
  have hP9 := hP.sub (ws' := [(t0, .inr (3, [.ref co, .ref en, .ref sk, .int 0, .int x4]))]) [0] rfl
  have hD9 := hD.sub (ws' := [(t0, .inr (3, [.ref co, .ref en, .ref sk, .int 0, .int x4]))]) [0] (by decide) rfl
  have hpost : (fun (u : Unit) => match u with | _ => True) () := by first | trivial | rfl | decide | simp
  exact W.vret hx hb hr (fun t ht hW => ⟨⟨(), rfl, hpost, by rw [ht]; exact hP9, va_K.moved hW.alike hK, hD9⟩, hS.F ht⟩) hS.2.2 dX3_begin_5
abbrev q_X3_keep (G : gG) (t0 co en sk : Nat) (x3 : Int32) (nb : Nat) (A : Nat → Prop) : Array Value → State → Outcome → State → Prop := va_Qi (fun (r : Int32) (u : Unit) => match u with | _ => r = nI nb) (fun (u : Unit) t => match u with | _ => va_P G.1 vwCl [(t0, .inr (3, [.ref co, .ref en, .ref sk, .int x3, .int (nI (nb + 1))]))] t.heap ∧ gK G t ∧ va_D A [(t0, .inr (3, [.ref co, .ref en, .ref sk, .int x3, .int (nI (nb + 1))]))]) A
set_option maxHeartbeats 4000000 in
set_option maxRecDepth 100000 in
theorem c_X3_keep (l : Launch) (G : gG) (t0 co en sk : Nat) (x3 : Int32) (nb : Nat) (sz : Nat) (hnb : nb < 6) : Met l yX3_keep wsX3_keep ({ frames := 0, cells := 0, slots := 0, locals := 0 }) (gPre G [.ref t0] [(t0, .inr (3, [.ref co, .ref en, .ref sk, .int x3, .int (nI nb)]))] sz) (q_X3_keep G t0 co en sk x3 nb (va_A [(t0, .inr (3, [.ref co, .ref en, .ref sk, .int x3, .int (nI nb)]))] sz)) 0 0 (va_A [(t0, .inr (3, [.ref co, .ref en, .ref sk, .int x3, .int (nI nb)]))] sz) := by
  refine Met.ofW (cc := cX3_keep) (maxL := 2) (ret := (some .int)) (by decide) rfl ?_
  intro p e s m args below meth c s₁ B hml hv
  obtain ⟨rfl, hsz, hP, hK, hD0⟩ := hv
  have hx := B.exec
  have hb := B.bytes
  have hr := B.returns
  have hts := atoms_spec (ws := wsX3_keep) B.pre
  have hown : s.vm.findClass RX3 = some m.cls := findClass_of_methodNamed B.named
  have hlocks := B.notSynchronized
  subst hsz
  have hD := hD0.self (sz := s.heap.size)
  generalize hAe : va_A [(t0, .inr (3, [.ref co, .ref en, .ref sk, .int x3, .int (nI nb)]))] s.heap.size = A at hD ⊢
  have hA : ∀ q : Nat, s.heap.size ≤ q → A q := fun q h => by rw [← hAe]; exact Or.inr h
  have hS : va_S A s.heap s.heap [] := va_S.rf
  have hP : va_P G.1 vwCl [(t0, .inr (3, [.ref co, .ref en, .ref sk, .int x3, .int (nI nb)]))] s.heap := hP
  have hD : va_D A [(t0, .inr (3, [.ref co, .ref en, .ref sk, .int x3, .int (nI nb)]))] := hD
  have hl := lv_entry ([.ref t0]) (n := 2) (Nat.le_of_ble_eq_true rfl)
  rw [lg_entry_eq]
  generalize (lg_sl ([.ref t0]) ++ List.replicate (2 - (lg_sl ([.ref t0])).length) Slot.unset).toArray = ls at hl ⊢
  have hl : lv_has ls 2 [(0, .ref t0)] := hl
  have kf27 := hts (.fieldLink RX3 27 "PebbleInShoe$Texts" "number" "I") (by decide +kernel)
  have hiX3 := (by decide +kernel : ∀ w ∈ wsX30, w ∈ wsX3_keep)
  refine lv_aload_n hx hb dX3_keep_0 rfl (lv_at hl 0 rfl) ?_
  refine va_get (D := G.1) (ci := 3) (v := .int (nI nb)) (C := RX3) (T := TX3) (N := 5) hx hb hts hiX3 hown hK hP 0 rfl rfl 4 (by decide) kf27 (fun _ h9 => h9) rfl dX3_keep_1 ?_
  refine lv_istore_n (lv' := [(1, .int (nI nb)), (0, .ref t0)]) hx hb dX3_keep_4 rfl hl (by decide) rfl (fun ls hl => ?_)
  refine lv_aload_n hx hb dX3_keep_5 rfl (lv_at hl 1 rfl) ?_
  refine va_get (D := G.1) (ci := 3) (v := .int (nI nb)) (C := RX3) (T := TX3) (N := 5) hx hb hts hiX3 hown hK hP 0 rfl rfl 4 (by decide) kf27 (fun _ h9 => h9) rfl dX3_keep_6 ?_
  refine lv_bipush (v := 6) hx hb dX3_keep_9 (by decide) ?_
  refine lv_icmp_ge (tgt := 24) hx hb dX3_keep_11 (by decide) (fun c_1 => ?_) (fun c_1 => ?_)
  · exact absurd c_1 (nI_ge (b := 6) hnb (by decide))
  refine lv_aload_n hx hb dX3_keep_14 rfl (lv_at hl 1 rfl) ?_
  refine lv_dup hx hb dX3_keep_15 rfl ?_
  refine va_get (D := G.1) (ci := 3) (v := .int (nI nb)) (C := RX3) (T := TX3) (N := 5) hx hb hts hiX3 hown hK hP 0 rfl rfl 4 (by decide) kf27 (fun _ h9 => h9) rfl dX3_keep_16 ?_
  refine lv_iconst (v := 1) hx hb dX3_keep_19 (by decide) ?_
  refine lv_iadd hx hb dX3_keep_20 ?_
  refine lv_topi (fun v_2 ev_2 => ?_)
  have ev_2 : v_2 = nI (nb + 1) := ev_2.trans (nI_1 nb)
  subst ev_2
  refine va_put (D := G.1) (ci := 3) (v := .int (nI (nb + 1))) (ty := .int) (C := RX3) (T := TX3) (N := 5) hx hb hts hiX3 tyX3 tyX3_ok nmX3 hown hK hP hD hS 0 rfl rfl 4 (by decide) kf27 (fun _ h9 => h9) rfl (by decide +kernel) rfl rfl (Nat.le_of_ble_eq_true rfl) dX3_keep_21 (fun H locs hP hD hS => ?_)
  have hP : va_P G.1 vwCl [(t0, .inr (3, [.ref co, .ref en, .ref sk, .int x3, .int (nI (nb + 1))]))] H := hP
  have hD : va_D A [(t0, .inr (3, [.ref co, .ref en, .ref sk, .int x3, .int (nI (nb + 1))]))] := hD
  refine lv_iload_n hx hb dX3_keep_24 rfl (lv_at hl 0 rfl) ?_
  have hP9 := hP.sub (ws' := [(t0, .inr (3, [.ref co, .ref en, .ref sk, .int x3, .int (nI (nb + 1))]))]) [0] rfl
  have hD9 := hD.sub (ws' := [(t0, .inr (3, [.ref co, .ref en, .ref sk, .int x3, .int (nI (nb + 1))]))]) [0] (by decide) rfl
  have hpost : (fun (r : Int32) (u : Unit) => match u with | _ => r = nI nb) (nI nb) () := by first | trivial | rfl | decide | simp
  exact W.iret (v := (nI nb)) hx hb hr (fun t ht hW => ⟨⟨(nI nb), (), rfl, hpost, by rw [ht]; exact hP9, va_K.moved hW.alike hK, hD9⟩, hS.F ht⟩) hS.2.2 dX3_keep_25
abbrev q_X3_write (G : gG) (t0 co en sk ck : Nat) (fO : Nat → Option Nat) (cd : Nat → Int32) (w0 : Nat) (nb : Nat) (v : Int32) (A : Nat → Prop) : Array Value → State → Outcome → State → Prop := va_Qv (fun (u : Unit) => match u with | _ => True) (fun (u : Unit) t => match u with | _ => va_P G.1 vwCl [(t0, .inr (3, [.ref co, .ref en, .ref sk, .int (nI (w0 + 1)), .int (nI nb)])), (co, .inl (G.2.2.2, 6, .inr (.inr (.inr (.inr fO))))), (ck, .inl (G.2.1, 160, .inl (upd cd w0 v)))] t.heap ∧ gK G t ∧ va_D A [(t0, .inr (3, [.ref co, .ref en, .ref sk, .int (nI (w0 + 1)), .int (nI nb)])), (co, .inl (G.2.2.2, 6, .inr (.inr (.inr (.inr fO))))), (ck, .inl (G.2.1, 160, .inl (upd cd w0 v)))]) A
set_option maxHeartbeats 4000000 in
set_option maxRecDepth 100000 in
theorem c_X3_write (l : Launch) (G : gG) (t0 co en sk ck : Nat) (fO : Nat → Option Nat) (cd : Nat → Int32) (w0 : Nat) (nb : Nat) (v : Int32) (sz : Nat) (hO : fO nb = some ck) (hnb : nb < 6) (hw : w0 < 160) : Met l yX3_write wsX3_write ({ frames := 0, cells := 0, slots := 0, locals := 0 }) (gPre G [.ref t0, .int v] [(t0, .inr (3, [.ref co, .ref en, .ref sk, .int (nI w0), .int (nI nb)])), (co, .inl (G.2.2.2, 6, .inr (.inr (.inr (.inr fO))))), (ck, .inl (G.2.1, 160, .inl cd))] sz) (q_X3_write G t0 co en sk ck fO cd w0 nb v (va_A [(t0, .inr (3, [.ref co, .ref en, .ref sk, .int (nI w0), .int (nI nb)])), (co, .inl (G.2.2.2, 6, .inr (.inr (.inr (.inr fO))))), (ck, .inl (G.2.1, 160, .inl cd))] sz)) 0 0 (va_A [(t0, .inr (3, [.ref co, .ref en, .ref sk, .int (nI w0), .int (nI nb)])), (co, .inl (G.2.2.2, 6, .inr (.inr (.inr (.inr fO))))), (ck, .inl (G.2.1, 160, .inl cd))] sz) := by
  refine Met.ofW (cc := cX3_write) (maxL := 2) (ret := none) (by decide) rfl ?_
  intro p e s m args below meth c s₁ B hml hv
  obtain ⟨rfl, hsz, hP, hK, hD0⟩ := hv
  have hx := B.exec
  have hb := B.bytes
  have hr := B.returns
  have hts := atoms_spec (ws := wsX3_write) B.pre
  have hown : s.vm.findClass RX3 = some m.cls := findClass_of_methodNamed B.named
  have hlocks := B.notSynchronized
  subst hsz
  have hD := hD0.self (sz := s.heap.size)
  generalize hAe : va_A [(t0, .inr (3, [.ref co, .ref en, .ref sk, .int (nI w0), .int (nI nb)])), (co, .inl (G.2.2.2, 6, .inr (.inr (.inr (.inr fO))))), (ck, .inl (G.2.1, 160, .inl cd))] s.heap.size = A at hD ⊢
  have hA : ∀ q : Nat, s.heap.size ≤ q → A q := fun q h => by rw [← hAe]; exact Or.inr h
  have hS : va_S A s.heap s.heap [] := va_S.rf
  have hP : va_P G.1 vwCl [(t0, .inr (3, [.ref co, .ref en, .ref sk, .int (nI w0), .int (nI nb)])), (co, .inl (G.2.2.2, 6, .inr (.inr (.inr (.inr fO))))), (ck, .inl (G.2.1, 160, .inl cd))] s.heap := hP
  have hD : va_D A [(t0, .inr (3, [.ref co, .ref en, .ref sk, .int (nI w0), .int (nI nb)])), (co, .inl (G.2.2.2, 6, .inr (.inr (.inr (.inr fO))))), (ck, .inl (G.2.1, 160, .inl cd))] := hD
  have hl := lv_entry ([.ref t0, .int v]) (n := 2) (Nat.le_of_ble_eq_true rfl)
  rw [lg_entry_eq]
  generalize (lg_sl ([.ref t0, .int v]) ++ List.replicate (2 - (lg_sl ([.ref t0, .int v])).length) Slot.unset).toArray = ls at hl ⊢
  have hl : lv_has ls 2 [(0, .ref t0), (1, .int v)] := hl
  have kf27 := hts (.fieldLink RX3 27 "PebbleInShoe$Texts" "number" "I") (by decide +kernel)
  have hiX3 := (by decide +kernel : ∀ w ∈ wsX30, w ∈ wsX3_write)
  have kf23 := hts (.fieldLink RX3 23 "PebbleInShoe$Texts" "written" "I") (by decide +kernel)
  have kf11 := hts (.fieldLink RX3 11 "PebbleInShoe$Texts" "codes" "[[I") (by decide +kernel)
  refine lv_aload_n hx hb dX3_write_0 rfl (lv_at hl 0 rfl) ?_
  refine va_get (D := G.1) (ci := 3) (v := .int (nI nb)) (C := RX3) (T := TX3) (N := 5) hx hb hts hiX3 hown hK hP 0 rfl rfl 4 (by decide) kf27 (fun _ h9 => h9) rfl dX3_write_1 ?_
  refine lv_bipush (v := 6) hx hb dX3_write_4 (by decide) ?_
  refine lv_icmp_ge (tgt := 44) hx hb dX3_write_6 (by decide) (fun c_1 => ?_) (fun c_1 => ?_)
  · exact absurd c_1 (nI_ge (b := 6) hnb (by decide))
  refine lv_aload_n hx hb dX3_write_9 rfl (lv_at hl 0 rfl) ?_
  refine va_get (D := G.1) (ci := 3) (v := .int (nI w0)) (C := RX3) (T := TX3) (N := 5) hx hb hts hiX3 hown hK hP 0 rfl rfl 3 (by decide) kf23 (fun _ h9 => h9) rfl dX3_write_10 ?_
  refine lv_sipush (v := 160) hx hb dX3_write_13 (by decide) ?_
  refine lv_icmp_ge (tgt := 44) hx hb dX3_write_16 (by decide) (fun c_2 => ?_) (fun c_2 => ?_)
  · exact absurd c_2 (nI_ge (b := 160) hw (by decide))
  refine lv_aload_n hx hb dX3_write_19 rfl (lv_at hl 0 rfl) ?_
  refine va_get (D := G.1) (ci := 3) (v := .ref co) (C := RX3) (T := TX3) (N := 5) hx hb hts hiX3 hown hK hP 0 rfl rfl 0 (by decide) kf11 (fun _ h9 => h9) rfl dX3_write_20 ?_
  refine lv_aload_n hx hb dX3_write_23 rfl (lv_at hl 0 rfl) ?_
  refine va_get (D := G.1) (ci := 3) (v := .int (nI nb)) (C := RX3) (T := TX3) (N := 5) hx hb hts hiX3 hown hK hP 0 rfl rfl 4 (by decide) kf27 (fun _ h9 => h9) rfl dX3_write_24 ?_
  refine g_aald (x := ck) hx hb hK hP 1 2 rfl rfl (i := (nI nb)) (vp_in_nI (by omega) (by omega)) (by rw [nI_clamp (by omega)]; exact hO) dX3_write_27 ?_
  refine lv_aload_n hx hb dX3_write_28 rfl (lv_at hl 0 rfl) ?_
  refine va_get (D := G.1) (ci := 3) (v := .int (nI w0)) (C := RX3) (T := TX3) (N := 5) hx hb hts hiX3 hown hK hP 0 rfl rfl 3 (by decide) kf23 (fun _ h9 => h9) rfl dX3_write_29 ?_
  refine lv_iload_n hx hb dX3_write_32 rfl (lv_at hl 1 rfl) ?_
  refine va_iast (D := G.1) hx hb hK hP hD hS 2 0 rfl rfl (i := (nI w0)) (x := v) (vp_in_nI (by omega) (by omega)) dX3_write_33 (fun H locs hP hD hS => ?_)
  have hP : va_P G.1 vwCl [(t0, .inr (3, [.ref co, .ref en, .ref sk, .int (nI w0), .int (nI nb)])), (co, .inl (G.2.2.2, 6, .inr (.inr (.inr (.inr fO))))), (ck, .inl (G.2.1, 160, .inl (upd cd w0 v)))] H := by rw [nI_clamp (by omega)] at hP; exact hP
  have hD : va_D A [(t0, .inr (3, [.ref co, .ref en, .ref sk, .int (nI w0), .int (nI nb)])), (co, .inl (G.2.2.2, 6, .inr (.inr (.inr (.inr fO))))), (ck, .inl (G.2.1, 160, .inl (upd cd w0 v)))] := by rw [nI_clamp (by omega)] at hD; exact hD
  refine lv_aload_n hx hb dX3_write_34 rfl (lv_at hl 0 rfl) ?_
  refine lv_dup hx hb dX3_write_35 rfl ?_
  refine va_get (D := G.1) (ci := 3) (v := .int (nI w0)) (C := RX3) (T := TX3) (N := 5) hx hb hts hiX3 hown hK hP 0 rfl rfl 3 (by decide) kf23 (fun _ h9 => h9) rfl dX3_write_36 ?_
  refine lv_iconst (v := 1) hx hb dX3_write_39 (by decide) ?_
  refine lv_iadd hx hb dX3_write_40 ?_
  refine lv_topi (fun v_3 ev_3 => ?_)
  have ev_3 : v_3 = nI (w0 + 1) := ev_3.trans (nI_1 w0)
  subst ev_3
  refine va_put (D := G.1) (ci := 3) (v := .int (nI (w0 + 1))) (ty := .int) (C := RX3) (T := TX3) (N := 5) hx hb hts hiX3 tyX3 tyX3_ok nmX3 hown hK hP hD hS 0 rfl rfl 3 (by decide) kf23 (fun _ h9 => h9) rfl (by decide +kernel) rfl rfl (Nat.le_of_ble_eq_true rfl) dX3_write_41 (fun H locs hP hD hS => ?_)
  have hP : va_P G.1 vwCl [(t0, .inr (3, [.ref co, .ref en, .ref sk, .int (nI (w0 + 1)), .int (nI nb)])), (co, .inl (G.2.2.2, 6, .inr (.inr (.inr (.inr fO))))), (ck, .inl (G.2.1, 160, .inl (upd cd w0 v)))] H := hP
  have hD : va_D A [(t0, .inr (3, [.ref co, .ref en, .ref sk, .int (nI (w0 + 1)), .int (nI nb)])), (co, .inl (G.2.2.2, 6, .inr (.inr (.inr (.inr fO))))), (ck, .inl (G.2.1, 160, .inl (upd cd w0 v)))] := hD
  have hP9 := hP.sub (ws' := [(t0, .inr (3, [.ref co, .ref en, .ref sk, .int (nI (w0 + 1)), .int (nI nb)])), (co, .inl (G.2.2.2, 6, .inr (.inr (.inr (.inr fO))))), (ck, .inl (G.2.1, 160, .inl (upd cd w0 v)))]) [0, 1, 2] rfl
  have hD9 := hD.sub (ws' := [(t0, .inr (3, [.ref co, .ref en, .ref sk, .int (nI (w0 + 1)), .int (nI nb)])), (co, .inl (G.2.2.2, 6, .inr (.inr (.inr (.inr fO))))), (ck, .inl (G.2.1, 160, .inl (upd cd w0 v)))]) [0, 1, 2] (by decide) rfl
  have hpost : (fun (u : Unit) => match u with | _ => True) () := by first | trivial | rfl | decide | simp
  exact W.vret hx hb hr (fun t ht hW => ⟨⟨(), rfl, hpost, by rw [ht]; exact hP9, va_K.moved hW.alike hK, hD9⟩, hS.F ht⟩) hS.2.2 dX3_write_44
abbrev q_X3_endPart (G : gG) (t0 co en sk ek : Nat) (fN : Nat → Option Nat) (ed : Nat → Int32) (w0 : Nat) (nb : Nat) (pt : Nat) (A : Nat → Prop) : Array Value → State → Outcome → State → Prop := va_Qv (fun (u : Unit) => match u with | _ => True) (fun (u : Unit) t => match u with | _ => va_P G.1 vwCl [(t0, .inr (3, [.ref co, .ref en, .ref sk, .int (nI w0), .int (nI nb)])), (en, .inl (G.2.2.2, 6, .inr (.inr (.inr (.inr fN))))), (ek, .inl (G.2.1, 3, .inl (upd ed pt (nI w0))))] t.heap ∧ gK G t ∧ va_D A [(t0, .inr (3, [.ref co, .ref en, .ref sk, .int (nI w0), .int (nI nb)])), (en, .inl (G.2.2.2, 6, .inr (.inr (.inr (.inr fN))))), (ek, .inl (G.2.1, 3, .inl (upd ed pt (nI w0))))]) A
set_option maxHeartbeats 4000000 in
set_option maxRecDepth 100000 in
theorem c_X3_endPart (l : Launch) (G : gG) (t0 co en sk ek : Nat) (fN : Nat → Option Nat) (ed : Nat → Int32) (w0 : Nat) (nb : Nat) (pt : Nat) (sz : Nat) (hN : fN nb = some ek) (hnb : nb < 6) (hpt : pt < 3) : Met l yX3_endPart wsX3_endPart ({ frames := 0, cells := 0, slots := 0, locals := 0 }) (gPre G [.ref t0, .int (nI pt)] [(t0, .inr (3, [.ref co, .ref en, .ref sk, .int (nI w0), .int (nI nb)])), (en, .inl (G.2.2.2, 6, .inr (.inr (.inr (.inr fN))))), (ek, .inl (G.2.1, 3, .inl ed))] sz) (q_X3_endPart G t0 co en sk ek fN ed w0 nb pt (va_A [(t0, .inr (3, [.ref co, .ref en, .ref sk, .int (nI w0), .int (nI nb)])), (en, .inl (G.2.2.2, 6, .inr (.inr (.inr (.inr fN))))), (ek, .inl (G.2.1, 3, .inl ed))] sz)) 0 0 (va_A [(t0, .inr (3, [.ref co, .ref en, .ref sk, .int (nI w0), .int (nI nb)])), (en, .inl (G.2.2.2, 6, .inr (.inr (.inr (.inr fN))))), (ek, .inl (G.2.1, 3, .inl ed))] sz) := by
  refine Met.ofW (cc := cX3_endPart) (maxL := 2) (ret := none) (by decide) rfl ?_
  intro p e s m args below meth c s₁ B hml hv
  obtain ⟨rfl, hsz, hP, hK, hD0⟩ := hv
  have hx := B.exec
  have hb := B.bytes
  have hr := B.returns
  have hts := atoms_spec (ws := wsX3_endPart) B.pre
  have hown : s.vm.findClass RX3 = some m.cls := findClass_of_methodNamed B.named
  have hlocks := B.notSynchronized
  subst hsz
  have hD := hD0.self (sz := s.heap.size)
  generalize hAe : va_A [(t0, .inr (3, [.ref co, .ref en, .ref sk, .int (nI w0), .int (nI nb)])), (en, .inl (G.2.2.2, 6, .inr (.inr (.inr (.inr fN))))), (ek, .inl (G.2.1, 3, .inl ed))] s.heap.size = A at hD ⊢
  have hA : ∀ q : Nat, s.heap.size ≤ q → A q := fun q h => by rw [← hAe]; exact Or.inr h
  have hS : va_S A s.heap s.heap [] := va_S.rf
  have hP : va_P G.1 vwCl [(t0, .inr (3, [.ref co, .ref en, .ref sk, .int (nI w0), .int (nI nb)])), (en, .inl (G.2.2.2, 6, .inr (.inr (.inr (.inr fN))))), (ek, .inl (G.2.1, 3, .inl ed))] s.heap := hP
  have hD : va_D A [(t0, .inr (3, [.ref co, .ref en, .ref sk, .int (nI w0), .int (nI nb)])), (en, .inl (G.2.2.2, 6, .inr (.inr (.inr (.inr fN))))), (ek, .inl (G.2.1, 3, .inl ed))] := hD
  have hl := lv_entry ([.ref t0, .int (nI pt)]) (n := 2) (Nat.le_of_ble_eq_true rfl)
  rw [lg_entry_eq]
  generalize (lg_sl ([.ref t0, .int (nI pt)]) ++ List.replicate (2 - (lg_sl ([.ref t0, .int (nI pt)])).length) Slot.unset).toArray = ls at hl ⊢
  have hl : lv_has ls 2 [(0, .ref t0), (1, .int (nI pt))] := hl
  have kf27 := hts (.fieldLink RX3 27 "PebbleInShoe$Texts" "number" "I") (by decide +kernel)
  have hiX3 := (by decide +kernel : ∀ w ∈ wsX30, w ∈ wsX3_endPart)
  have kf16 := hts (.fieldLink RX3 16 "PebbleInShoe$Texts" "ends" "[[I") (by decide +kernel)
  have kf23 := hts (.fieldLink RX3 23 "PebbleInShoe$Texts" "written" "I") (by decide +kernel)
  refine lv_aload_n hx hb dX3_endPart_0 rfl (lv_at hl 0 rfl) ?_
  refine va_get (D := G.1) (ci := 3) (v := .int (nI nb)) (C := RX3) (T := TX3) (N := 5) hx hb hts hiX3 hown hK hP 0 rfl rfl 4 (by decide) kf27 (fun _ h9 => h9) rfl dX3_endPart_1 ?_
  refine lv_bipush (v := 6) hx hb dX3_endPart_4 (by decide) ?_
  refine lv_icmp_ge (tgt := 24) hx hb dX3_endPart_6 (by decide) (fun c_1 => ?_) (fun c_1 => ?_)
  · exact absurd c_1 (nI_ge (b := 6) hnb (by decide))
  refine lv_aload_n hx hb dX3_endPart_9 rfl (lv_at hl 0 rfl) ?_
  refine va_get (D := G.1) (ci := 3) (v := .ref en) (C := RX3) (T := TX3) (N := 5) hx hb hts hiX3 hown hK hP 0 rfl rfl 1 (by decide) kf16 (fun _ h9 => h9) rfl dX3_endPart_10 ?_
  refine lv_aload_n hx hb dX3_endPart_13 rfl (lv_at hl 0 rfl) ?_
  refine va_get (D := G.1) (ci := 3) (v := .int (nI nb)) (C := RX3) (T := TX3) (N := 5) hx hb hts hiX3 hown hK hP 0 rfl rfl 4 (by decide) kf27 (fun _ h9 => h9) rfl dX3_endPart_14 ?_
  refine g_aald (x := ek) hx hb hK hP 1 2 rfl rfl (i := (nI nb)) (vp_in_nI (by omega) (by omega)) (by rw [nI_clamp (by omega)]; exact hN) dX3_endPart_17 ?_
  refine lv_iload_n hx hb dX3_endPart_18 rfl (lv_at hl 1 rfl) ?_
  refine lv_aload_n hx hb dX3_endPart_19 rfl (lv_at hl 0 rfl) ?_
  refine va_get (D := G.1) (ci := 3) (v := .int (nI w0)) (C := RX3) (T := TX3) (N := 5) hx hb hts hiX3 hown hK hP 0 rfl rfl 3 (by decide) kf23 (fun _ h9 => h9) rfl dX3_endPart_20 ?_
  refine va_iast (D := G.1) hx hb hK hP hD hS 2 0 rfl rfl (i := (nI pt)) (x := (nI w0)) (vp_in_nI (by omega) (by omega)) dX3_endPart_23 (fun H locs hP hD hS => ?_)
  have hP : va_P G.1 vwCl [(t0, .inr (3, [.ref co, .ref en, .ref sk, .int (nI w0), .int (nI nb)])), (en, .inl (G.2.2.2, 6, .inr (.inr (.inr (.inr fN))))), (ek, .inl (G.2.1, 3, .inl (upd ed pt (nI w0))))] H := by rw [nI_clamp (by omega)] at hP; exact hP
  have hD : va_D A [(t0, .inr (3, [.ref co, .ref en, .ref sk, .int (nI w0), .int (nI nb)])), (en, .inl (G.2.2.2, 6, .inr (.inr (.inr (.inr fN))))), (ek, .inl (G.2.1, 3, .inl (upd ed pt (nI w0))))] := by rw [nI_clamp (by omega)] at hD; exact hD
  have hP9 := hP.sub (ws' := [(t0, .inr (3, [.ref co, .ref en, .ref sk, .int (nI w0), .int (nI nb)])), (en, .inl (G.2.2.2, 6, .inr (.inr (.inr (.inr fN))))), (ek, .inl (G.2.1, 3, .inl (upd ed pt (nI w0))))]) [0, 1, 2] rfl
  have hD9 := hD.sub (ws' := [(t0, .inr (3, [.ref co, .ref en, .ref sk, .int (nI w0), .int (nI nb)])), (en, .inl (G.2.2.2, 6, .inr (.inr (.inr (.inr fN))))), (ek, .inl (G.2.1, 3, .inl (upd ed pt (nI w0))))]) [0, 1, 2] (by decide) rfl
  have hpost : (fun (u : Unit) => match u with | _ => True) () := by first | trivial | rfl | decide | simp
  exact W.vret hx hb hr (fun t ht hW => ⟨⟨(), rfl, hpost, by rw [ht]; exact hP9, va_K.moved hW.alike hK, hD9⟩, hS.F ht⟩) hS.2.2 dX3_endPart_24
abbrev q_X1_add (G : gG) (h0 t0 b0 : Nat) (f : Nat → Int32) (x2 : Int32) (x3 : Int32) (x4 : Int32) (x5 : Int32) (n : Nat) (v : Int32) (A : Nat → Prop) : Array Value → State → Outcome → State → Prop := va_Qv (fun (u : Unit) => match u with | _ => True) (fun (u : Unit) t => match u with | _ => va_P G.1 vwCl [(h0, .inr (1, [.ref t0, .ref b0, .int x2, .int x3, .int x4, .int x5, .int (nI (n + 1))])), (b0, .inl (G.2.1, 160, .inl (upd f n v)))] t.heap ∧ gK G t ∧ va_D A [(h0, .inr (1, [.ref t0, .ref b0, .int x2, .int x3, .int x4, .int x5, .int (nI (n + 1))])), (b0, .inl (G.2.1, 160, .inl (upd f n v)))]) A
set_option maxHeartbeats 4000000 in
set_option maxRecDepth 100000 in
theorem c_X1_add (l : Launch) (G : gG) (h0 t0 b0 : Nat) (f : Nat → Int32) (x2 : Int32) (x3 : Int32) (x4 : Int32) (x5 : Int32) (n : Nat) (v : Int32) (sz : Nat) (hn : n < 160) : Met l yX1_add wsX1_add ({ frames := 0, cells := 0, slots := 0, locals := 0 }) (gPre G [.ref h0, .int v] [(h0, .inr (1, [.ref t0, .ref b0, .int x2, .int x3, .int x4, .int x5, .int (nI n)])), (b0, .inl (G.2.1, 160, .inl f))] sz) (q_X1_add G h0 t0 b0 f x2 x3 x4 x5 n v (va_A [(h0, .inr (1, [.ref t0, .ref b0, .int x2, .int x3, .int x4, .int x5, .int (nI n)])), (b0, .inl (G.2.1, 160, .inl f))] sz)) 0 0 (va_A [(h0, .inr (1, [.ref t0, .ref b0, .int x2, .int x3, .int x4, .int x5, .int (nI n)])), (b0, .inl (G.2.1, 160, .inl f))] sz) := by
  refine Met.ofW (cc := cX1_add) (maxL := 2) (ret := none) (by decide) rfl ?_
  intro p e s m args below meth c s₁ B hml hv
  obtain ⟨rfl, hsz, hP, hK, hD0⟩ := hv
  have hx := B.exec
  have hb := B.bytes
  have hr := B.returns
  have hts := atoms_spec (ws := wsX1_add) B.pre
  have hown : s.vm.findClass RX1 = some m.cls := findClass_of_methodNamed B.named
  have hlocks := B.notSynchronized
  subst hsz
  have hD := hD0.self (sz := s.heap.size)
  generalize hAe : va_A [(h0, .inr (1, [.ref t0, .ref b0, .int x2, .int x3, .int x4, .int x5, .int (nI n)])), (b0, .inl (G.2.1, 160, .inl f))] s.heap.size = A at hD ⊢
  have hA : ∀ q : Nat, s.heap.size ≤ q → A q := fun q h => by rw [← hAe]; exact Or.inr h
  have hS : va_S A s.heap s.heap [] := va_S.rf
  have hP : va_P G.1 vwCl [(h0, .inr (1, [.ref t0, .ref b0, .int x2, .int x3, .int x4, .int x5, .int (nI n)])), (b0, .inl (G.2.1, 160, .inl f))] s.heap := hP
  have hD : va_D A [(h0, .inr (1, [.ref t0, .ref b0, .int x2, .int x3, .int x4, .int x5, .int (nI n)])), (b0, .inl (G.2.1, 160, .inl f))] := hD
  have hl := lv_entry ([.ref h0, .int v]) (n := 2) (Nat.le_of_ble_eq_true rfl)
  rw [lg_entry_eq]
  generalize (lg_sl ([.ref h0, .int v]) ++ List.replicate (2 - (lg_sl ([.ref h0, .int v])).length) Slot.unset).toArray = ls at hl ⊢
  have hl : lv_has ls 2 [(0, .ref h0), (1, .int v)] := hl
  have kf19 := hts (.fieldLink RX1 19 "PebbleInShoe$Reader" "length" "I") (by decide +kernel)
  have hiX1 := (by decide +kernel : ∀ w ∈ wsX10, w ∈ wsX1_add)
  have kf9 := hts (.fieldLink RX1 9 "PebbleInShoe$Reader" "bytes" "[I") (by decide +kernel)
  refine lv_aload_n hx hb dX1_add_0 rfl (lv_at hl 0 rfl) ?_
  refine va_get (D := G.1) (ci := 1) (v := .int (nI n)) (C := RX1) (T := TX1) (N := 7) hx hb hts hiX1 hown hK hP 0 rfl rfl 6 (by decide) kf19 (fun _ h9 => h9) rfl dX1_add_1 ?_
  refine lv_sipush (v := 160) hx hb dX1_add_4 (by decide) ?_
  refine lv_icmp_ge (tgt := 30) hx hb dX1_add_7 (by decide) (fun c_1 => ?_) (fun c_1 => ?_)
  · exact absurd c_1 (nI_ge (b := 160) hn (by decide))
  refine lv_aload_n hx hb dX1_add_10 rfl (lv_at hl 0 rfl) ?_
  refine va_get (D := G.1) (ci := 1) (v := .ref b0) (C := RX1) (T := TX1) (N := 7) hx hb hts hiX1 hown hK hP 0 rfl rfl 1 (by decide) kf9 (fun _ h9 => h9) rfl dX1_add_11 ?_
  refine lv_aload_n hx hb dX1_add_14 rfl (lv_at hl 0 rfl) ?_
  refine va_get (D := G.1) (ci := 1) (v := .int (nI n)) (C := RX1) (T := TX1) (N := 7) hx hb hts hiX1 hown hK hP 0 rfl rfl 6 (by decide) kf19 (fun _ h9 => h9) rfl dX1_add_15 ?_
  refine lv_iload_n hx hb dX1_add_18 rfl (lv_at hl 1 rfl) ?_
  refine va_iast (D := G.1) hx hb hK hP hD hS 1 0 rfl rfl (i := (nI n)) (x := v) (vp_in_nI (by omega) (by omega)) dX1_add_19 (fun H locs hP hD hS => ?_)
  have hP : va_P G.1 vwCl [(h0, .inr (1, [.ref t0, .ref b0, .int x2, .int x3, .int x4, .int x5, .int (nI n)])), (b0, .inl (G.2.1, 160, .inl (upd f n v)))] H := by rw [nI_clamp (by omega)] at hP; exact hP
  have hD : va_D A [(h0, .inr (1, [.ref t0, .ref b0, .int x2, .int x3, .int x4, .int x5, .int (nI n)])), (b0, .inl (G.2.1, 160, .inl (upd f n v)))] := by rw [nI_clamp (by omega)] at hD; exact hD
  refine lv_aload_n hx hb dX1_add_20 rfl (lv_at hl 0 rfl) ?_
  refine lv_dup hx hb dX1_add_21 rfl ?_
  refine va_get (D := G.1) (ci := 1) (v := .int (nI n)) (C := RX1) (T := TX1) (N := 7) hx hb hts hiX1 hown hK hP 0 rfl rfl 6 (by decide) kf19 (fun _ h9 => h9) rfl dX1_add_22 ?_
  refine lv_iconst (v := 1) hx hb dX1_add_25 (by decide) ?_
  refine lv_iadd hx hb dX1_add_26 ?_
  refine lv_topi (fun v_2 ev_2 => ?_)
  have ev_2 : v_2 = nI (n + 1) := ev_2.trans (nI_1 n)
  subst ev_2
  refine va_put (D := G.1) (ci := 1) (v := .int (nI (n + 1))) (ty := .int) (C := RX1) (T := TX1) (N := 7) hx hb hts hiX1 tyX1 tyX1_ok nmX1 hown hK hP hD hS 0 rfl rfl 6 (by decide) kf19 (fun _ h9 => h9) rfl (by decide +kernel) rfl rfl (Nat.le_of_ble_eq_true rfl) dX1_add_27 (fun H locs hP hD hS => ?_)
  have hP : va_P G.1 vwCl [(h0, .inr (1, [.ref t0, .ref b0, .int x2, .int x3, .int x4, .int x5, .int (nI (n + 1))])), (b0, .inl (G.2.1, 160, .inl (upd f n v)))] H := hP
  have hD : va_D A [(h0, .inr (1, [.ref t0, .ref b0, .int x2, .int x3, .int x4, .int x5, .int (nI (n + 1))])), (b0, .inl (G.2.1, 160, .inl (upd f n v)))] := hD
  have hP9 := hP.sub (ws' := [(h0, .inr (1, [.ref t0, .ref b0, .int x2, .int x3, .int x4, .int x5, .int (nI (n + 1))])), (b0, .inl (G.2.1, 160, .inl (upd f n v)))]) [0, 1] rfl
  have hD9 := hD.sub (ws' := [(h0, .inr (1, [.ref t0, .ref b0, .int x2, .int x3, .int x4, .int x5, .int (nI (n + 1))])), (b0, .inl (G.2.1, 160, .inl (upd f n v)))]) [0, 1] (by decide) rfl
  have hpost : (fun (u : Unit) => match u with | _ => True) () := by first | trivial | rfl | decide | simp
  exact W.vret hx hb hr (fun t ht hW => ⟨⟨(), rfl, hpost, by rw [ht]; exact hP9, va_K.moved hW.alike hK, hD9⟩, hS.F ht⟩) hS.2.2 dX1_add_30
abbrev q_X1_readOne_a10 (G : gG) (E : gS) (h0 t0 b0 co en sk ck : Nat) (fO : Nat → Option Nat) (A : Nat → Prop) : Array Value → State → Outcome → State → Prop := va_Qi (fun (r : Int32) (u : Unit) => match u with | _ => r = 1) (fun (u : Unit) t => match u with | _ => va_P G.1 vwCl [(h0, .inr (1, [.ref t0, .ref b0, .int 12, .int 45, .int 11, .int 0, .int 40])), (b0, .inl (G.2.1, 160, .inl (gPf tB 40))), (t0, .inr (3, [.ref co, .ref en, .ref sk, .int 1, .int 0])), (co, .inl (G.2.2.2, 6, .inr (.inr (.inr (.inr fO))))), (ck, .inl (G.2.1, 160, .inl (gPf tC 1)))] t.heap ∧ gK G t ∧ va_D A [(h0, .inr (1, [.ref t0, .ref b0, .int 12, .int 45, .int 11, .int 0, .int 40])), (b0, .inl (G.2.1, 160, .inl (gPf tB 40))), (t0, .inr (3, [.ref co, .ref en, .ref sk, .int 1, .int 0])), (co, .inl (G.2.2.2, 6, .inr (.inr (.inr (.inr fO))))), (ck, .inl (G.2.1, 160, .inl (gPf tC 1)))]) A
set_option maxHeartbeats 4000000 in
set_option maxRecDepth 100000 in
theorem c_X1_readOne_a10 (l : Launch) (G : gG) (E : gS) (h0 t0 b0 co en sk ck : Nat) (fO : Nat → Option Nat) (sz : Nat) (hO : fO 0 = some ck) : Met l yX1_readOne wsX1_readOne ({ frames := 7, cells := 0, slots := 0, locals := 148 }) (gPreE G E [.ref h0, .int 0] [(h0, .inr (1, [.ref t0, .ref b0, .int 10, .int 3, .int 6, .int 0, .int 40])), (b0, .inl (G.2.1, 160, .inl (gPf tB 40))), (t0, .inr (3, [.ref co, .ref en, .ref sk, .int 0, .int 0])), (co, .inl (G.2.2.2, 6, .inr (.inr (.inr (.inr fO))))), (ck, .inl (G.2.1, 160, .inl (gPf tC 0)))] sz) (q_X1_readOne_a10 G E h0 t0 b0 co en sk ck fO (va_A [(h0, .inr (1, [.ref t0, .ref b0, .int 10, .int 3, .int 6, .int 0, .int 40])), (b0, .inl (G.2.1, 160, .inl (gPf tB 40))), (t0, .inr (3, [.ref co, .ref en, .ref sk, .int 0, .int 0])), (co, .inl (G.2.2.2, 6, .inr (.inr (.inr (.inr fO))))), (ck, .inl (G.2.1, 160, .inl (gPf tC 0)))] sz)) 0 0 (va_A [(h0, .inr (1, [.ref t0, .ref b0, .int 10, .int 3, .int 6, .int 0, .int 40])), (b0, .inl (G.2.1, 160, .inl (gPf tB 40))), (t0, .inr (3, [.ref co, .ref en, .ref sk, .int 0, .int 0])), (co, .inl (G.2.2.2, 6, .inr (.inr (.inr (.inr fO))))), (ck, .inl (G.2.1, 160, .inl (gPf tC 0)))] sz) := by
  refine Met.ofW (cc := cX1_readOne) (maxL := 2) (ret := (some .boolean)) (by decide) rfl ?_
  intro p e s m args below meth c s₁ B hml hv
  obtain ⟨rfl, hsz, hP, hK, hD0, hE⟩ := hv
  have hx := B.exec
  have hb := B.bytes
  have hr := B.returns
  have hts := atoms_spec (ws := wsX1_readOne) B.pre
  have hown : s.vm.findClass RX1 = some m.cls := findClass_of_methodNamed B.named
  have hlocks := B.notSynchronized
  subst hsz
  have hD := hD0.self (sz := s.heap.size)
  generalize hAe : va_A [(h0, .inr (1, [.ref t0, .ref b0, .int 10, .int 3, .int 6, .int 0, .int 40])), (b0, .inl (G.2.1, 160, .inl (gPf tB 40))), (t0, .inr (3, [.ref co, .ref en, .ref sk, .int 0, .int 0])), (co, .inl (G.2.2.2, 6, .inr (.inr (.inr (.inr fO))))), (ck, .inl (G.2.1, 160, .inl (gPf tC 0)))] s.heap.size = A at hD hE ⊢
  have hA : ∀ q : Nat, s.heap.size ≤ q → A q := fun q h => by rw [← hAe]; exact Or.inr h
  have hS : va_S A s.heap s.heap [] := va_S.rf
  have hP : va_P G.1 vwCl [(h0, .inr (1, [.ref t0, .ref b0, .int 10, .int 3, .int 6, .int 0, .int 40])), (b0, .inl (G.2.1, 160, .inl (gPf tB 40))), (t0, .inr (3, [.ref co, .ref en, .ref sk, .int 0, .int 0])), (co, .inl (G.2.2.2, 6, .inr (.inr (.inr (.inr fO))))), (ck, .inl (G.2.1, 160, .inl (gPf tC 0)))] s.heap := hP
  have hD : va_D A [(h0, .inr (1, [.ref t0, .ref b0, .int 10, .int 3, .int 6, .int 0, .int 40])), (b0, .inl (G.2.1, 160, .inl (gPf tB 40))), (t0, .inr (3, [.ref co, .ref en, .ref sk, .int 0, .int 0])), (co, .inl (G.2.2.2, 6, .inr (.inr (.inr (.inr fO))))), (ck, .inl (G.2.1, 160, .inl (gPf tC 0)))] := hD
  have hl := lv_entry ([.ref h0, .int 0]) (n := 2) (Nat.le_of_ble_eq_true rfl)
  rw [lg_entry_eq]
  generalize (lg_sl ([.ref h0, .int 0]) ++ List.replicate (2 - (lg_sl ([.ref h0, .int 0])).length) Slot.unset).toArray = ls at hl ⊢
  have hl : lv_has ls 2 [(0, .ref h0), (1, .int 0)] := hl
  have kf45 := hts (.fieldLink RX1 45 "PebbleInShoe$Reader" "token" "I") (by decide +kernel)
  have hiX1 := (by decide +kernel : ∀ w ∈ wsX10, w ∈ wsX1_readOne)
  have kf15 := hts (.fieldLink RX1 15 "PebbleInShoe$Reader" "texts" "LPebbleInShoe$Texts;") (by decide +kernel)
  have kf74 := hts (.fieldLink RX1 74 "PebbleInShoe$Reader" "meaning" "I") (by decide +kernel)
  refine lv_aload_n hx hb dX1_readOne_0 rfl (lv_at hl 0 rfl) ?_
  refine va_get (D := G.1) (ci := 1) (v := .int 3) (C := RX1) (T := TX1) (N := 7) hx hb hts hiX1 hown hK hP 0 rfl rfl 3 (by decide) kf45 (fun _ h9 => h9) rfl dX1_readOne_1 ?_
  refine lv_iconst (v := 2) hx hb dX1_readOne_4 (by decide) ?_
  refine lv_icmp_eq (tgt := 16) hx hb dX1_readOne_5 (by decide) (fun c_1 => ?_) (fun c_1 => ?_)
  · exact absurd c_1 (by decide)
  refine lv_aload_n hx hb dX1_readOne_8 rfl (lv_at hl 0 rfl) ?_
  refine va_get (D := G.1) (ci := 1) (v := .int 3) (C := RX1) (T := TX1) (N := 7) hx hb hts hiX1 hown hK hP 0 rfl rfl 3 (by decide) kf45 (fun _ h9 => h9) rfl dX1_readOne_9 ?_
  refine lv_iconst (v := 3) hx hb dX1_readOne_12 (by decide) ?_
  refine lv_icmp_ne (tgt := 52) hx hb dX1_readOne_13 (by decide) (fun c_2 => ?_) (fun c_2 => ?_)
  · exact absurd (by decide) c_2
  refine lv_aload_n hx hb dX1_readOne_16 rfl (lv_at hl 0 rfl) ?_
  refine va_get (D := G.1) (ci := 1) (v := .ref t0) (C := RX1) (T := TX1) (N := 7) hx hb hts hiX1 hown hK hP 0 rfl rfl 0 (by decide) kf15 (fun _ h9 => h9) rfl dX1_readOne_17 ?_
  refine lv_aload_n hx hb dX1_readOne_20 rfl (lv_at hl 0 rfl) ?_
  refine va_get (D := G.1) (ci := 1) (v := .int 3) (C := RX1) (T := TX1) (N := 7) hx hb hts hiX1 hown hK hP 0 rfl rfl 3 (by decide) kf45 (fun _ h9 => h9) rfl dX1_readOne_21 ?_
  refine lv_iconst (v := 2) hx hb dX1_readOne_24 (by decide) ?_
  refine lv_icmp_ne (tgt := 35) hx hb dX1_readOne_25 (by decide) (fun c_3 => ?_) (fun c_3 => ?_)
  rotate_left
  · exact absurd c_3 (by decide)
  refine lv_sipush (v := 10000) hx hb dX1_readOne_35 (by decide) ?_
  refine lv_aload_n hx hb dX1_readOne_38 rfl (lv_at hl 0 rfl) ?_
  refine va_get (D := G.1) (ci := 1) (v := .int 0) (C := RX1) (T := TX1) (N := 7) hx hb hts hiX1 hown hK hP 0 rfl rfl 5 (by decide) kf74 (fun _ h9 => h9) rfl dX1_readOne_39 ?_
  refine lv_iadd hx hb dX1_readOne_42 ?_
  refine lv_topi (fun v_4 ev_4 => ?_)
  have ev_4 : v_4 = 10000 := ev_4.trans (by decide)
  subst ev_4
  have hPc : va_P G.1 vwCl [(t0, .inr (3, [.ref co, .ref en, .ref sk, .int (nI 0), .int (nI 0)])), (co, .inl (G.2.2.2, 6, .inr (.inr (.inr (.inr fO))))), (ck, .inl (G.2.1, 160, .inl (gPf tC 0)))] s.heap := hP.sub [2, 3, 4] rfl
  have hDc : va_D A [(t0, .inr (3, [.ref co, .ref en, .ref sk, .int (nI 0), .int (nI 0)])), (co, .inl (G.2.2.2, 6, .inr (.inr (.inr (.inr fO))))), (ck, .inl (G.2.1, 160, .inl (gPf tC 0)))] := hD.sub [2, 3, 4] (by decide) rfl
  have hFc := va_free (wc := [(t0, .inr (3, [.ref co, .ref en, .ref sk, .int (nI 0), .int (nI 0)])), (co, .inl (G.2.2.2, 6, .inr (.inr (.inr (.inr fO))))), (ck, .inl (G.2.1, 160, .inl (gPf tC 0)))]) hD hS hA [2, 3, 4] rfl
  refine va_callv (va_runV (As := [.int 10000]) (rest := []) ⟨hx, hb, hml, hown, hts⟩ (c_X3_write l G t0 co en sk ck fO (gPf tC 0) 0 0 10000 s.heap.size (hO) (by decide) (by decide)) (cwV 1 hts gX1_readOne_X3_write rfl rfl rfl (by decide +kernel) ⟨Nat.le_of_ble_eq_true rfl, Nat.le_of_ble_eq_true rfl⟩) ⟨gPre_blind, va_recv hK hPc (ci := 3) (q0 := 0) rfl rfl, fun U hU hW => gPre_of hU hW hK hPc hDc⟩ rfl rfl hl.1 rfl (lv_room (Nat.le_of_ble_eq_true rfl)) dX1_readOne_43 ⟨Nat.le_of_ble_eq_true rfl, Nat.le_of_ble_eq_true rfl⟩) hS (fun q _ h => hFc q h) hFc (fun u t H locs ht hvm w_6 hB hz1 hk1 hS => ?_)
  obtain ⟨hP1, hK1, hD1⟩ := hB
  rw [ht] at hP1
  have hP1 : va_P G.1 vwCl [(t0, .inr (3, [.ref co, .ref en, .ref sk, .int 1, .int 0])), (co, .inl (G.2.2.2, 6, .inr (.inr (.inr (.inr fO))))), (ck, .inl (G.2.1, 160, .inl (upd (gPf tC 0) 0 10000)))] H := hP1
  have hD1 : va_D (va_A [(t0, .inr (3, [.ref co, .ref en, .ref sk, .int (nI 0), .int (nI 0)])), (co, .inl (G.2.2.2, 6, .inr (.inr (.inr (.inr fO))))), (ck, .inl (G.2.1, 160, .inl (gPf tC 0)))] s.heap.size) [(t0, .inr (3, [.ref co, .ref en, .ref sk, .int 1, .int 0])), (co, .inl (G.2.2.2, 6, .inr (.inr (.inr (.inr fO))))), (ck, .inl (G.2.1, 160, .inl (upd (gPf tC 0) 0 10000)))] := hD1
  obtain ⟨hP, hD⟩ := va_join (wr := [(h0, .inr (1, [.ref t0, .ref b0, .int 10, .int 3, .int 6, .int 0, .int 40])), (b0, .inl (G.2.1, 160, .inl (gPf tB 40)))]) (w1 := [(t0, .inr (3, [.ref co, .ref en, .ref sk, .int 1, .int 0])), (co, .inl (G.2.2.2, 6, .inr (.inr (.inr (.inr fO))))), (ck, .inl (G.2.1, 160, .inl (upd (gPf tC 0) 0 10000)))]) hP hD [2, 3, 4] [0, 1] rfl rfl (by decide) (by decide) hk1 hFc hP1 hD1
  have hP : va_P G.1 vwCl [(h0, .inr (1, [.ref t0, .ref b0, .int 10, .int 3, .int 6, .int 0, .int 40])), (b0, .inl (G.2.1, 160, .inl (gPf tB 40))), (t0, .inr (3, [.ref co, .ref en, .ref sk, .int 1, .int 0])), (co, .inl (G.2.2.2, 6, .inr (.inr (.inr (.inr fO))))), (ck, .inl (G.2.1, 160, .inl (upd (gPf tC 0) 0 10000)))] H := hP
  have hD : va_D A [(h0, .inr (1, [.ref t0, .ref b0, .int 10, .int 3, .int 6, .int 0, .int 40])), (b0, .inl (G.2.1, 160, .inl (gPf tB 40))), (t0, .inr (3, [.ref co, .ref en, .ref sk, .int 1, .int 0])), (co, .inl (G.2.2.2, 6, .inr (.inr (.inr (.inr fO))))), (ck, .inl (G.2.1, 160, .inl (upd (gPf tC 0) 0 10000)))] := hD
  have hP : va_P G.1 vwCl [(h0, .inr (1, [.ref t0, .ref b0, .int 10, .int 3, .int 6, .int 0, .int 40])), (b0, .inl (G.2.1, 160, .inl (gPf tB 40))), (t0, .inr (3, [.ref co, .ref en, .ref sk, .int 1, .int 0])), (co, .inl (G.2.2.2, 6, .inr (.inr (.inr (.inr fO))))), (ck, .inl (G.2.1, 160, .inl (gPf tC 1)))] H := by rw [gPf_step (t := tC) (k := 0) (x := 10000) (by decide)] at hP; exact hP
  have hD : va_D A [(h0, .inr (1, [.ref t0, .ref b0, .int 10, .int 3, .int 6, .int 0, .int 40])), (b0, .inl (G.2.1, 160, .inl (gPf tB 40))), (t0, .inr (3, [.ref co, .ref en, .ref sk, .int 1, .int 0])), (co, .inl (G.2.2.2, 6, .inr (.inr (.inr (.inr fO))))), (ck, .inl (G.2.1, 160, .inl (gPf tC 1)))] := by rw [gPf_step (t := tC) (k := 0) (x := 10000) (by decide)] at hD; exact hD
  refine lv_aload_n hx hb dX1_readOne_46 rfl (lv_at hl 0 rfl) ?_
  have hPc : va_P G.1 vwCl [(h0, .inr (1, [.ref t0, .ref b0, .int (nI 10), .int 3, .int 6, .int 0, .int (nI 40)])), (b0, .inl (G.2.1, 160, .inl (gPf tB 40)))] H := hP.sub [0, 1] rfl
  have hDc : va_D A [(h0, .inr (1, [.ref t0, .ref b0, .int (nI 10), .int 3, .int 6, .int 0, .int (nI 40)])), (b0, .inl (G.2.1, 160, .inl (gPf tB 40)))] := hD.sub [0, 1] (by decide) rfl
  have hFc := va_free (wc := [(h0, .inr (1, [.ref t0, .ref b0, .int (nI 10), .int 3, .int 6, .int 0, .int (nI 40)])), (b0, .inl (G.2.1, 160, .inl (gPf tB 40)))]) hD hS hA [0, 1] rfl
  refine va_callv (va_runV (As := []) (rest := []) ⟨hx, hb, hml, hown, hts⟩ (c_X1_next l G E h0 t0 b0 (gPf tB 40) 3 6 0 40 10 H.size (by decide) (by decide)) (cwV 0 hts gX1_readOne_X1_next rfl rfl rfl (by decide +kernel) ⟨Nat.le_of_ble_eq_true rfl, Nat.le_of_ble_eq_true rfl⟩) ⟨gPreE_blind, va_recv hK hPc (ci := 1) (q0 := 0) rfl rfl, fun U hU hW => gPreE_of hU hW hK hPc hDc hE hS hFc⟩ rfl rfl hl.1 rfl (lv_room (Nat.le_of_ble_eq_true rfl)) dX1_readOne_47 ⟨Nat.le_of_ble_eq_true rfl, Nat.le_of_ble_eq_true rfl⟩) hS (fun q _ h => hFc q h) hFc (fun u t H locs ht hvm w_8 hB hz1 hk1 hS => ?_)
  obtain ⟨zb_9, zt_10, zp_11, zm_12⟩ := u
  obtain ⟨hP1, hK1, hD1⟩ := hB
  rw [ht] at hP1
  have hP1 : va_P G.1 vwCl [(h0, .inr (1, [.ref t0, .ref b0, .int (nI zb_9), .int zt_10, .int (nI zp_11), .int zm_12, .int 40])), (b0, .inl (G.2.1, 160, .inl (gPf tB 40)))] H := hP1
  have hD1 : va_D (va_A [(h0, .inr (1, [.ref t0, .ref b0, .int (nI 10), .int 3, .int 6, .int 0, .int (nI 40)])), (b0, .inl (G.2.1, 160, .inl (gPf tB 40)))] _) [(h0, .inr (1, [.ref t0, .ref b0, .int (nI zb_9), .int zt_10, .int (nI zp_11), .int zm_12, .int 40])), (b0, .inl (G.2.1, 160, .inl (gPf tB 40)))] := hD1
  have w_8 : (zb_9, zt_10, zp_11, zm_12) = mNext (gPf tB 40) 40 10 0 := w_8
  obtain ⟨hP, hD⟩ := va_join (wr := [(t0, .inr (3, [.ref co, .ref en, .ref sk, .int 1, .int 0])), (co, .inl (G.2.2.2, 6, .inr (.inr (.inr (.inr fO))))), (ck, .inl (G.2.1, 160, .inl (gPf tC 1)))]) (w1 := [(h0, .inr (1, [.ref t0, .ref b0, .int (nI zb_9), .int zt_10, .int (nI zp_11), .int zm_12, .int 40])), (b0, .inl (G.2.1, 160, .inl (gPf tB 40)))]) hP hD [0, 1] [2, 3, 4] rfl rfl (by decide) (by decide) hk1 hFc hP1 hD1
  have hP : va_P G.1 vwCl [(t0, .inr (3, [.ref co, .ref en, .ref sk, .int 1, .int 0])), (co, .inl (G.2.2.2, 6, .inr (.inr (.inr (.inr fO))))), (ck, .inl (G.2.1, 160, .inl (gPf tC 1))), (h0, .inr (1, [.ref t0, .ref b0, .int (nI zb_9), .int zt_10, .int (nI zp_11), .int zm_12, .int 40])), (b0, .inl (G.2.1, 160, .inl (gPf tB 40)))] H := hP
  have hD : va_D A [(t0, .inr (3, [.ref co, .ref en, .ref sk, .int 1, .int 0])), (co, .inl (G.2.2.2, 6, .inr (.inr (.inr (.inr fO))))), (ck, .inl (G.2.1, 160, .inl (gPf tC 1))), (h0, .inr (1, [.ref t0, .ref b0, .int (nI zb_9), .int zt_10, .int (nI zp_11), .int zm_12, .int 40])), (b0, .inl (G.2.1, 160, .inl (gPf tB 40)))] := hD
  rw [show mNext (gPf tB 40) 40 10 0 = (12, 45, 11, 0) by decide +kernel] at w_8
  simp only [Prod.mk.injEq] at w_8
  obtain ⟨g_13, g_14, g_15, g_16⟩ := w_8
  have g_13 := g_13.symm
  subst g_13
  have g_14 := g_14.symm
  subst g_14
  have g_15 := g_15.symm
  subst g_15
  have g_16 := g_16.symm
  subst g_16
  have hP : va_P G.1 vwCl [(t0, .inr (3, [.ref co, .ref en, .ref sk, .int 1, .int 0])), (co, .inl (G.2.2.2, 6, .inr (.inr (.inr (.inr fO))))), (ck, .inl (G.2.1, 160, .inl (gPf tC 1))), (h0, .inr (1, [.ref t0, .ref b0, .int 12, .int 45, .int 11, .int 0, .int 40])), (b0, .inl (G.2.1, 160, .inl (gPf tB 40)))] H := hP
  have hD : va_D A [(t0, .inr (3, [.ref co, .ref en, .ref sk, .int 1, .int 0])), (co, .inl (G.2.2.2, 6, .inr (.inr (.inr (.inr fO))))), (ck, .inl (G.2.1, 160, .inl (gPf tC 1))), (h0, .inr (1, [.ref t0, .ref b0, .int 12, .int 45, .int 11, .int 0, .int 40])), (b0, .inl (G.2.1, 160, .inl (gPf tB 40)))] := hD
  refine lv_iconst (v := 1) hx hb dX1_readOne_50 (by decide) ?_
  have hP9 := hP.sub (ws' := [(h0, .inr (1, [.ref t0, .ref b0, .int 12, .int 45, .int 11, .int 0, .int 40])), (b0, .inl (G.2.1, 160, .inl (gPf tB 40))), (t0, .inr (3, [.ref co, .ref en, .ref sk, .int 1, .int 0])), (co, .inl (G.2.2.2, 6, .inr (.inr (.inr (.inr fO))))), (ck, .inl (G.2.1, 160, .inl (gPf tC 1)))]) [3, 4, 0, 1, 2] rfl
  have hD9 := hD.sub (ws' := [(h0, .inr (1, [.ref t0, .ref b0, .int 12, .int 45, .int 11, .int 0, .int 40])), (b0, .inl (G.2.1, 160, .inl (gPf tB 40))), (t0, .inr (3, [.ref co, .ref en, .ref sk, .int 1, .int 0])), (co, .inl (G.2.2.2, 6, .inr (.inr (.inr (.inr fO))))), (ck, .inl (G.2.1, 160, .inl (gPf tC 1)))]) [3, 4, 0, 1, 2] (by decide) rfl
  have hpost : (fun (r : Int32) (u : Unit) => match u with | _ => r = 1) 1 () := by first | trivial | rfl | decide | simp
  exact W.zret (v := 1) hx hb hr (rfl) (fun t ht hW => ⟨⟨1, (), rfl, hpost, by rw [ht]; exact hP9, va_K.moved hW.alike hK, hD9⟩, hS.F ht⟩) hS.2.2 dX1_readOne_51
abbrev q_X1_readTerm_a10 (G : gG) (E : gS) (h0 t0 b0 co en sk ck : Nat) (fO : Nat → Option Nat) (A : Nat → Prop) : Array Value → State → Outcome → State → Prop := va_Qi (fun (r : Int32) (u : Unit) => match u with | _ => r = 1) (fun (u : Unit) t => match u with | _ => va_P G.1 vwCl [(h0, .inr (1, [.ref t0, .ref b0, .int 12, .int 45, .int 11, .int 0, .int 40])), (b0, .inl (G.2.1, 160, .inl (gPf tB 40))), (t0, .inr (3, [.ref co, .ref en, .ref sk, .int 1, .int 0])), (co, .inl (G.2.2.2, 6, .inr (.inr (.inr (.inr fO))))), (ck, .inl (G.2.1, 160, .inl (gPf tC 1)))] t.heap ∧ gK G t ∧ va_D A [(h0, .inr (1, [.ref t0, .ref b0, .int 12, .int 45, .int 11, .int 0, .int 40])), (b0, .inl (G.2.1, 160, .inl (gPf tB 40))), (t0, .inr (3, [.ref co, .ref en, .ref sk, .int 1, .int 0])), (co, .inl (G.2.2.2, 6, .inr (.inr (.inr (.inr fO))))), (ck, .inl (G.2.1, 160, .inl (gPf tC 1)))]) A
set_option maxHeartbeats 4000000 in
set_option maxRecDepth 100000 in
theorem c_X1_readTerm_a10 (l : Launch) (G : gG) (E : gS) (h0 t0 b0 co en sk ck : Nat) (fO : Nat → Option Nat) (sz : Nat) (hO : fO 0 = some ck) : Met l yX1_readTerm wsX1_readTerm ({ frames := 8, cells := 0, slots := 0, locals := 169 }) (gPreE G E [.ref h0, .int 0] [(h0, .inr (1, [.ref t0, .ref b0, .int 10, .int 3, .int 6, .int 0, .int 40])), (b0, .inl (G.2.1, 160, .inl (gPf tB 40))), (t0, .inr (3, [.ref co, .ref en, .ref sk, .int 0, .int 0])), (co, .inl (G.2.2.2, 6, .inr (.inr (.inr (.inr fO))))), (ck, .inl (G.2.1, 160, .inl (gPf tC 0)))] sz) (q_X1_readTerm_a10 G E h0 t0 b0 co en sk ck fO (va_A [(h0, .inr (1, [.ref t0, .ref b0, .int 10, .int 3, .int 6, .int 0, .int 40])), (b0, .inl (G.2.1, 160, .inl (gPf tB 40))), (t0, .inr (3, [.ref co, .ref en, .ref sk, .int 0, .int 0])), (co, .inl (G.2.2.2, 6, .inr (.inr (.inr (.inr fO))))), (ck, .inl (G.2.1, 160, .inl (gPf tC 0)))] sz)) 0 0 (va_A [(h0, .inr (1, [.ref t0, .ref b0, .int 10, .int 3, .int 6, .int 0, .int 40])), (b0, .inl (G.2.1, 160, .inl (gPf tB 40))), (t0, .inr (3, [.ref co, .ref en, .ref sk, .int 0, .int 0])), (co, .inl (G.2.2.2, 6, .inr (.inr (.inr (.inr fO))))), (ck, .inl (G.2.1, 160, .inl (gPf tC 0)))] sz) := by
  refine Met.ofW (cc := cX1_readTerm) (maxL := 3) (ret := (some .boolean)) (by decide) rfl ?_
  intro p e s m args below meth c s₁ B hml hv
  obtain ⟨rfl, hsz, hP, hK, hD0, hE⟩ := hv
  have hx := B.exec
  have hb := B.bytes
  have hr := B.returns
  have hts := atoms_spec (ws := wsX1_readTerm) B.pre
  have hown : s.vm.findClass RX1 = some m.cls := findClass_of_methodNamed B.named
  have hlocks := B.notSynchronized
  subst hsz
  have hD := hD0.self (sz := s.heap.size)
  generalize hAe : va_A [(h0, .inr (1, [.ref t0, .ref b0, .int 10, .int 3, .int 6, .int 0, .int 40])), (b0, .inl (G.2.1, 160, .inl (gPf tB 40))), (t0, .inr (3, [.ref co, .ref en, .ref sk, .int 0, .int 0])), (co, .inl (G.2.2.2, 6, .inr (.inr (.inr (.inr fO))))), (ck, .inl (G.2.1, 160, .inl (gPf tC 0)))] s.heap.size = A at hD hE ⊢
  have hA : ∀ q : Nat, s.heap.size ≤ q → A q := fun q h => by rw [← hAe]; exact Or.inr h
  have hS : va_S A s.heap s.heap [] := va_S.rf
  have hP : va_P G.1 vwCl [(h0, .inr (1, [.ref t0, .ref b0, .int 10, .int 3, .int 6, .int 0, .int 40])), (b0, .inl (G.2.1, 160, .inl (gPf tB 40))), (t0, .inr (3, [.ref co, .ref en, .ref sk, .int 0, .int 0])), (co, .inl (G.2.2.2, 6, .inr (.inr (.inr (.inr fO))))), (ck, .inl (G.2.1, 160, .inl (gPf tC 0)))] s.heap := hP
  have hD : va_D A [(h0, .inr (1, [.ref t0, .ref b0, .int 10, .int 3, .int 6, .int 0, .int 40])), (b0, .inl (G.2.1, 160, .inl (gPf tB 40))), (t0, .inr (3, [.ref co, .ref en, .ref sk, .int 0, .int 0])), (co, .inl (G.2.2.2, 6, .inr (.inr (.inr (.inr fO))))), (ck, .inl (G.2.1, 160, .inl (gPf tC 0)))] := hD
  have hl := lv_entry ([.ref h0, .int 0]) (n := 3) (Nat.le_of_ble_eq_true rfl)
  rw [lg_entry_eq]
  generalize (lg_sl ([.ref h0, .int 0]) ++ List.replicate (3 - (lg_sl ([.ref h0, .int 0])).length) Slot.unset).toArray = ls at hl ⊢
  have hl : lv_has ls 3 [(0, .ref h0), (1, .int 0)] := hl
  have kf45 := hts (.fieldLink RX1 45 "PebbleInShoe$Reader" "token" "I") (by decide +kernel)
  have hiX1 := (by decide +kernel : ∀ w ∈ wsX10, w ∈ wsX1_readTerm)
  refine lv_aload_n hx hb dX1_readTerm_0 rfl (lv_at hl 0 rfl) ?_
  refine lv_iload_n hx hb dX1_readTerm_1 rfl (lv_at hl 1 rfl) ?_
  have hPc : va_P G.1 vwCl [(h0, .inr (1, [.ref t0, .ref b0, .int 10, .int 3, .int 6, .int 0, .int 40])), (b0, .inl (G.2.1, 160, .inl (gPf tB 40))), (t0, .inr (3, [.ref co, .ref en, .ref sk, .int 0, .int 0])), (co, .inl (G.2.2.2, 6, .inr (.inr (.inr (.inr fO))))), (ck, .inl (G.2.1, 160, .inl (gPf tC 0)))] s.heap := hP.sub [0, 1, 2, 3, 4] rfl
  have hDc : va_D A [(h0, .inr (1, [.ref t0, .ref b0, .int 10, .int 3, .int 6, .int 0, .int 40])), (b0, .inl (G.2.1, 160, .inl (gPf tB 40))), (t0, .inr (3, [.ref co, .ref en, .ref sk, .int 0, .int 0])), (co, .inl (G.2.2.2, 6, .inr (.inr (.inr (.inr fO))))), (ck, .inl (G.2.1, 160, .inl (gPf tC 0)))] := hD.sub [0, 1, 2, 3, 4] (by decide) rfl
  have hFc := va_free (wc := [(h0, .inr (1, [.ref t0, .ref b0, .int 10, .int 3, .int 6, .int 0, .int 40])), (b0, .inl (G.2.1, 160, .inl (gPf tB 40))), (t0, .inr (3, [.ref co, .ref en, .ref sk, .int 0, .int 0])), (co, .inl (G.2.2.2, 6, .inr (.inr (.inr (.inr fO))))), (ck, .inl (G.2.1, 160, .inl (gPf tC 0)))]) hD hS hA [0, 1, 2, 3, 4] rfl
  refine va_calli (va_runV (As := [.int 0]) (rest := []) ⟨hx, hb, hml, hown, hts⟩ (c_X1_readOne_a10 l G E h0 t0 b0 co en sk ck fO s.heap.size (hO)) (cwV 1 hts gX1_readTerm_X1_readOne rfl rfl rfl (by decide +kernel) ⟨Nat.le_of_ble_eq_true rfl, Nat.le_of_ble_eq_true rfl⟩) ⟨gPreE_blind, va_recv hK hPc (ci := 1) (q0 := 0) rfl rfl, fun U hU hW => gPreE_of hU hW hK hPc hDc hE hS hFc⟩ rfl rfl hl.1 rfl (lv_room (Nat.le_of_ble_eq_true rfl)) dX1_readTerm_2 ⟨Nat.le_of_ble_eq_true rfl, Nat.le_of_ble_eq_true rfl⟩) hS (fun q _ h => hFc q h) hFc (fun r_1 u t H locs ht hvm w_2 hB hz1 hk1 hS => ?_)
  obtain ⟨hP1, hK1, hD1⟩ := hB
  rw [ht] at hP1
  have hP1 : va_P G.1 vwCl [(h0, .inr (1, [.ref t0, .ref b0, .int 12, .int 45, .int 11, .int 0, .int 40])), (b0, .inl (G.2.1, 160, .inl (gPf tB 40))), (t0, .inr (3, [.ref co, .ref en, .ref sk, .int 1, .int 0])), (co, .inl (G.2.2.2, 6, .inr (.inr (.inr (.inr fO))))), (ck, .inl (G.2.1, 160, .inl (gPf tC 1)))] H := hP1
  have hD1 : va_D (va_A [(h0, .inr (1, [.ref t0, .ref b0, .int 10, .int 3, .int 6, .int 0, .int 40])), (b0, .inl (G.2.1, 160, .inl (gPf tB 40))), (t0, .inr (3, [.ref co, .ref en, .ref sk, .int 0, .int 0])), (co, .inl (G.2.2.2, 6, .inr (.inr (.inr (.inr fO))))), (ck, .inl (G.2.1, 160, .inl (gPf tC 0)))] s.heap.size) [(h0, .inr (1, [.ref t0, .ref b0, .int 12, .int 45, .int 11, .int 0, .int 40])), (b0, .inl (G.2.1, 160, .inl (gPf tB 40))), (t0, .inr (3, [.ref co, .ref en, .ref sk, .int 1, .int 0])), (co, .inl (G.2.2.2, 6, .inr (.inr (.inr (.inr fO))))), (ck, .inl (G.2.1, 160, .inl (gPf tC 1)))] := hD1
  have w_2 : r_1 = 1 := w_2
  obtain ⟨hP, hD⟩ := va_join (wr := []) (w1 := [(h0, .inr (1, [.ref t0, .ref b0, .int 12, .int 45, .int 11, .int 0, .int 40])), (b0, .inl (G.2.1, 160, .inl (gPf tB 40))), (t0, .inr (3, [.ref co, .ref en, .ref sk, .int 1, .int 0])), (co, .inl (G.2.2.2, 6, .inr (.inr (.inr (.inr fO))))), (ck, .inl (G.2.1, 160, .inl (gPf tC 1)))]) hP hD [0, 1, 2, 3, 4] [] rfl rfl (by decide) (by decide) hk1 hFc hP1 hD1
  have hP : va_P G.1 vwCl [(h0, .inr (1, [.ref t0, .ref b0, .int 12, .int 45, .int 11, .int 0, .int 40])), (b0, .inl (G.2.1, 160, .inl (gPf tB 40))), (t0, .inr (3, [.ref co, .ref en, .ref sk, .int 1, .int 0])), (co, .inl (G.2.2.2, 6, .inr (.inr (.inr (.inr fO))))), (ck, .inl (G.2.1, 160, .inl (gPf tC 1)))] H := hP
  have hD : va_D A [(h0, .inr (1, [.ref t0, .ref b0, .int 12, .int 45, .int 11, .int 0, .int 40])), (b0, .inl (G.2.1, 160, .inl (gPf tB 40))), (t0, .inr (3, [.ref co, .ref en, .ref sk, .int 1, .int 0])), (co, .inl (G.2.2.2, 6, .inr (.inr (.inr (.inr fO))))), (ck, .inl (G.2.1, 160, .inl (gPf tC 1)))] := hD
  have w_2 : r_1 = 1 := w_2
  subst w_2
  refine lv_if_ne (tgt := 10) hx hb dX1_readTerm_5 (by decide) (fun c_3 => ?_) (fun c_3 => ?_)
  rotate_left
  · exact absurd c_3 (by decide)
  refine lv_iconst (v := 0) hx hb dX1_readTerm_10 (by decide) ?_
  refine lv_istore_n (lv' := [(2, .int 0), (0, .ref h0), (1, .int 0)]) hx hb dX1_readTerm_11 rfl hl (by decide) rfl (fun ls hl => ?_)
  refine lv_iload_n hx hb dX1_readTerm_12 rfl (lv_at hl 0 rfl) ?_
  refine lv_sipush (v := 160) hx hb dX1_readTerm_13 (by decide) ?_
  refine lv_icmp_ge (tgt := 58) hx hb dX1_readTerm_16 (by decide) (fun c_4 => ?_) (fun c_4 => ?_)
  · exact absurd c_4 (by decide)
  refine lv_aload_n hx hb dX1_readTerm_19 rfl (lv_at hl 1 rfl) ?_
  refine va_get (D := G.1) (ci := 1) (v := .int 45) (C := RX1) (T := TX1) (N := 7) hx hb hts hiX1 hown hK hP 0 rfl rfl 3 (by decide) kf45 (fun _ h9 => h9) rfl dX1_readTerm_20 ?_
  refine lv_bipush (v := 42) hx hb dX1_readTerm_23 (by decide) ?_
  refine lv_icmp_ne (tgt := 58) hx hb dX1_readTerm_25 (by decide) (fun c_5 => ?_) (fun c_5 => ?_)
  rotate_left
  · exact absurd c_5 (by decide)
  refine lv_iconst (v := 1) hx hb dX1_readTerm_58 (by decide) ?_
  have hP9 := hP.sub (ws' := [(h0, .inr (1, [.ref t0, .ref b0, .int 12, .int 45, .int 11, .int 0, .int 40])), (b0, .inl (G.2.1, 160, .inl (gPf tB 40))), (t0, .inr (3, [.ref co, .ref en, .ref sk, .int 1, .int 0])), (co, .inl (G.2.2.2, 6, .inr (.inr (.inr (.inr fO))))), (ck, .inl (G.2.1, 160, .inl (gPf tC 1)))]) [0, 1, 2, 3, 4] rfl
  have hD9 := hD.sub (ws' := [(h0, .inr (1, [.ref t0, .ref b0, .int 12, .int 45, .int 11, .int 0, .int 40])), (b0, .inl (G.2.1, 160, .inl (gPf tB 40))), (t0, .inr (3, [.ref co, .ref en, .ref sk, .int 1, .int 0])), (co, .inl (G.2.2.2, 6, .inr (.inr (.inr (.inr fO))))), (ck, .inl (G.2.1, 160, .inl (gPf tC 1)))]) [0, 1, 2, 3, 4] (by decide) rfl
  have hpost : (fun (r : Int32) (u : Unit) => match u with | _ => r = 1) 1 () := by first | trivial | rfl | decide | simp
  exact W.zret (v := 1) hx hb hr (rfl) (fun t ht hW => ⟨⟨1, (), rfl, hpost, by rw [ht]; exact hP9, va_K.moved hW.alike hK, hD9⟩, hS.F ht⟩) hS.2.2 dX1_readTerm_59
abbrev q_X1_readOne_a18 (G : gG) (E : gS) (h0 t0 b0 co en sk ck : Nat) (fO : Nat → Option Nat) (A : Nat → Prop) : Array Value → State → Outcome → State → Prop := va_Qi (fun (r : Int32) (u : Unit) => match u with | _ => r = 1) (fun (u : Unit) t => match u with | _ => va_P G.1 vwCl [(h0, .inr (1, [.ref t0, .ref b0, .int 20, .int 59, .int 19, .int 1, .int 40])), (b0, .inl (G.2.1, 160, .inl (gPf tB 40))), (t0, .inr (3, [.ref co, .ref en, .ref sk, .int 2, .int 0])), (co, .inl (G.2.2.2, 6, .inr (.inr (.inr (.inr fO))))), (ck, .inl (G.2.1, 160, .inl (gPf tC 2)))] t.heap ∧ gK G t ∧ va_D A [(h0, .inr (1, [.ref t0, .ref b0, .int 20, .int 59, .int 19, .int 1, .int 40])), (b0, .inl (G.2.1, 160, .inl (gPf tB 40))), (t0, .inr (3, [.ref co, .ref en, .ref sk, .int 2, .int 0])), (co, .inl (G.2.2.2, 6, .inr (.inr (.inr (.inr fO))))), (ck, .inl (G.2.1, 160, .inl (gPf tC 2)))]) A
set_option maxHeartbeats 4000000 in
set_option maxRecDepth 100000 in
theorem c_X1_readOne_a18 (l : Launch) (G : gG) (E : gS) (h0 t0 b0 co en sk ck : Nat) (fO : Nat → Option Nat) (sz : Nat) (hO : fO 0 = some ck) : Met l yX1_readOne wsX1_readOne ({ frames := 7, cells := 0, slots := 0, locals := 148 }) (gPreE G E [.ref h0, .int 0] [(h0, .inr (1, [.ref t0, .ref b0, .int 18, .int 3, .int 13, .int 1, .int 40])), (b0, .inl (G.2.1, 160, .inl (gPf tB 40))), (t0, .inr (3, [.ref co, .ref en, .ref sk, .int 1, .int 0])), (co, .inl (G.2.2.2, 6, .inr (.inr (.inr (.inr fO))))), (ck, .inl (G.2.1, 160, .inl (gPf tC 1)))] sz) (q_X1_readOne_a18 G E h0 t0 b0 co en sk ck fO (va_A [(h0, .inr (1, [.ref t0, .ref b0, .int 18, .int 3, .int 13, .int 1, .int 40])), (b0, .inl (G.2.1, 160, .inl (gPf tB 40))), (t0, .inr (3, [.ref co, .ref en, .ref sk, .int 1, .int 0])), (co, .inl (G.2.2.2, 6, .inr (.inr (.inr (.inr fO))))), (ck, .inl (G.2.1, 160, .inl (gPf tC 1)))] sz)) 0 0 (va_A [(h0, .inr (1, [.ref t0, .ref b0, .int 18, .int 3, .int 13, .int 1, .int 40])), (b0, .inl (G.2.1, 160, .inl (gPf tB 40))), (t0, .inr (3, [.ref co, .ref en, .ref sk, .int 1, .int 0])), (co, .inl (G.2.2.2, 6, .inr (.inr (.inr (.inr fO))))), (ck, .inl (G.2.1, 160, .inl (gPf tC 1)))] sz) := by
  refine Met.ofW (cc := cX1_readOne) (maxL := 2) (ret := (some .boolean)) (by decide) rfl ?_
  intro p e s m args below meth c s₁ B hml hv
  obtain ⟨rfl, hsz, hP, hK, hD0, hE⟩ := hv
  have hx := B.exec
  have hb := B.bytes
  have hr := B.returns
  have hts := atoms_spec (ws := wsX1_readOne) B.pre
  have hown : s.vm.findClass RX1 = some m.cls := findClass_of_methodNamed B.named
  have hlocks := B.notSynchronized
  subst hsz
  have hD := hD0.self (sz := s.heap.size)
  generalize hAe : va_A [(h0, .inr (1, [.ref t0, .ref b0, .int 18, .int 3, .int 13, .int 1, .int 40])), (b0, .inl (G.2.1, 160, .inl (gPf tB 40))), (t0, .inr (3, [.ref co, .ref en, .ref sk, .int 1, .int 0])), (co, .inl (G.2.2.2, 6, .inr (.inr (.inr (.inr fO))))), (ck, .inl (G.2.1, 160, .inl (gPf tC 1)))] s.heap.size = A at hD hE ⊢
  have hA : ∀ q : Nat, s.heap.size ≤ q → A q := fun q h => by rw [← hAe]; exact Or.inr h
  have hS : va_S A s.heap s.heap [] := va_S.rf
  have hP : va_P G.1 vwCl [(h0, .inr (1, [.ref t0, .ref b0, .int 18, .int 3, .int 13, .int 1, .int 40])), (b0, .inl (G.2.1, 160, .inl (gPf tB 40))), (t0, .inr (3, [.ref co, .ref en, .ref sk, .int 1, .int 0])), (co, .inl (G.2.2.2, 6, .inr (.inr (.inr (.inr fO))))), (ck, .inl (G.2.1, 160, .inl (gPf tC 1)))] s.heap := hP
  have hD : va_D A [(h0, .inr (1, [.ref t0, .ref b0, .int 18, .int 3, .int 13, .int 1, .int 40])), (b0, .inl (G.2.1, 160, .inl (gPf tB 40))), (t0, .inr (3, [.ref co, .ref en, .ref sk, .int 1, .int 0])), (co, .inl (G.2.2.2, 6, .inr (.inr (.inr (.inr fO))))), (ck, .inl (G.2.1, 160, .inl (gPf tC 1)))] := hD
  have hl := lv_entry ([.ref h0, .int 0]) (n := 2) (Nat.le_of_ble_eq_true rfl)
  rw [lg_entry_eq]
  generalize (lg_sl ([.ref h0, .int 0]) ++ List.replicate (2 - (lg_sl ([.ref h0, .int 0])).length) Slot.unset).toArray = ls at hl ⊢
  have hl : lv_has ls 2 [(0, .ref h0), (1, .int 0)] := hl
  have kf45 := hts (.fieldLink RX1 45 "PebbleInShoe$Reader" "token" "I") (by decide +kernel)
  have hiX1 := (by decide +kernel : ∀ w ∈ wsX10, w ∈ wsX1_readOne)
  have kf15 := hts (.fieldLink RX1 15 "PebbleInShoe$Reader" "texts" "LPebbleInShoe$Texts;") (by decide +kernel)
  have kf74 := hts (.fieldLink RX1 74 "PebbleInShoe$Reader" "meaning" "I") (by decide +kernel)
  refine lv_aload_n hx hb dX1_readOne_0 rfl (lv_at hl 0 rfl) ?_
  refine va_get (D := G.1) (ci := 1) (v := .int 3) (C := RX1) (T := TX1) (N := 7) hx hb hts hiX1 hown hK hP 0 rfl rfl 3 (by decide) kf45 (fun _ h9 => h9) rfl dX1_readOne_1 ?_
  refine lv_iconst (v := 2) hx hb dX1_readOne_4 (by decide) ?_
  refine lv_icmp_eq (tgt := 16) hx hb dX1_readOne_5 (by decide) (fun c_1 => ?_) (fun c_1 => ?_)
  · exact absurd c_1 (by decide)
  refine lv_aload_n hx hb dX1_readOne_8 rfl (lv_at hl 0 rfl) ?_
  refine va_get (D := G.1) (ci := 1) (v := .int 3) (C := RX1) (T := TX1) (N := 7) hx hb hts hiX1 hown hK hP 0 rfl rfl 3 (by decide) kf45 (fun _ h9 => h9) rfl dX1_readOne_9 ?_
  refine lv_iconst (v := 3) hx hb dX1_readOne_12 (by decide) ?_
  refine lv_icmp_ne (tgt := 52) hx hb dX1_readOne_13 (by decide) (fun c_2 => ?_) (fun c_2 => ?_)
  · exact absurd (by decide) c_2
  refine lv_aload_n hx hb dX1_readOne_16 rfl (lv_at hl 0 rfl) ?_
  refine va_get (D := G.1) (ci := 1) (v := .ref t0) (C := RX1) (T := TX1) (N := 7) hx hb hts hiX1 hown hK hP 0 rfl rfl 0 (by decide) kf15 (fun _ h9 => h9) rfl dX1_readOne_17 ?_
  refine lv_aload_n hx hb dX1_readOne_20 rfl (lv_at hl 0 rfl) ?_
  refine va_get (D := G.1) (ci := 1) (v := .int 3) (C := RX1) (T := TX1) (N := 7) hx hb hts hiX1 hown hK hP 0 rfl rfl 3 (by decide) kf45 (fun _ h9 => h9) rfl dX1_readOne_21 ?_
  refine lv_iconst (v := 2) hx hb dX1_readOne_24 (by decide) ?_
  refine lv_icmp_ne (tgt := 35) hx hb dX1_readOne_25 (by decide) (fun c_3 => ?_) (fun c_3 => ?_)
  rotate_left
  · exact absurd c_3 (by decide)
  refine lv_sipush (v := 10000) hx hb dX1_readOne_35 (by decide) ?_
  refine lv_aload_n hx hb dX1_readOne_38 rfl (lv_at hl 0 rfl) ?_
  refine va_get (D := G.1) (ci := 1) (v := .int 1) (C := RX1) (T := TX1) (N := 7) hx hb hts hiX1 hown hK hP 0 rfl rfl 5 (by decide) kf74 (fun _ h9 => h9) rfl dX1_readOne_39 ?_
  refine lv_iadd hx hb dX1_readOne_42 ?_
  refine lv_topi (fun v_4 ev_4 => ?_)
  have ev_4 : v_4 = 10001 := ev_4.trans (by decide)
  subst ev_4
  have hPc : va_P G.1 vwCl [(t0, .inr (3, [.ref co, .ref en, .ref sk, .int (nI 1), .int (nI 0)])), (co, .inl (G.2.2.2, 6, .inr (.inr (.inr (.inr fO))))), (ck, .inl (G.2.1, 160, .inl (gPf tC 1)))] s.heap := hP.sub [2, 3, 4] rfl
  have hDc : va_D A [(t0, .inr (3, [.ref co, .ref en, .ref sk, .int (nI 1), .int (nI 0)])), (co, .inl (G.2.2.2, 6, .inr (.inr (.inr (.inr fO))))), (ck, .inl (G.2.1, 160, .inl (gPf tC 1)))] := hD.sub [2, 3, 4] (by decide) rfl
  have hFc := va_free (wc := [(t0, .inr (3, [.ref co, .ref en, .ref sk, .int (nI 1), .int (nI 0)])), (co, .inl (G.2.2.2, 6, .inr (.inr (.inr (.inr fO))))), (ck, .inl (G.2.1, 160, .inl (gPf tC 1)))]) hD hS hA [2, 3, 4] rfl
  refine va_callv (va_runV (As := [.int 10001]) (rest := []) ⟨hx, hb, hml, hown, hts⟩ (c_X3_write l G t0 co en sk ck fO (gPf tC 1) 1 0 10001 s.heap.size (hO) (by decide) (by decide)) (cwV 1 hts gX1_readOne_X3_write rfl rfl rfl (by decide +kernel) ⟨Nat.le_of_ble_eq_true rfl, Nat.le_of_ble_eq_true rfl⟩) ⟨gPre_blind, va_recv hK hPc (ci := 3) (q0 := 0) rfl rfl, fun U hU hW => gPre_of hU hW hK hPc hDc⟩ rfl rfl hl.1 rfl (lv_room (Nat.le_of_ble_eq_true rfl)) dX1_readOne_43 ⟨Nat.le_of_ble_eq_true rfl, Nat.le_of_ble_eq_true rfl⟩) hS (fun q _ h => hFc q h) hFc (fun u t H locs ht hvm w_6 hB hz1 hk1 hS => ?_)
  obtain ⟨hP1, hK1, hD1⟩ := hB
  rw [ht] at hP1
  have hP1 : va_P G.1 vwCl [(t0, .inr (3, [.ref co, .ref en, .ref sk, .int 2, .int 0])), (co, .inl (G.2.2.2, 6, .inr (.inr (.inr (.inr fO))))), (ck, .inl (G.2.1, 160, .inl (upd (gPf tC 1) 1 10001)))] H := hP1
  have hD1 : va_D (va_A [(t0, .inr (3, [.ref co, .ref en, .ref sk, .int (nI 1), .int (nI 0)])), (co, .inl (G.2.2.2, 6, .inr (.inr (.inr (.inr fO))))), (ck, .inl (G.2.1, 160, .inl (gPf tC 1)))] s.heap.size) [(t0, .inr (3, [.ref co, .ref en, .ref sk, .int 2, .int 0])), (co, .inl (G.2.2.2, 6, .inr (.inr (.inr (.inr fO))))), (ck, .inl (G.2.1, 160, .inl (upd (gPf tC 1) 1 10001)))] := hD1
  obtain ⟨hP, hD⟩ := va_join (wr := [(h0, .inr (1, [.ref t0, .ref b0, .int 18, .int 3, .int 13, .int 1, .int 40])), (b0, .inl (G.2.1, 160, .inl (gPf tB 40)))]) (w1 := [(t0, .inr (3, [.ref co, .ref en, .ref sk, .int 2, .int 0])), (co, .inl (G.2.2.2, 6, .inr (.inr (.inr (.inr fO))))), (ck, .inl (G.2.1, 160, .inl (upd (gPf tC 1) 1 10001)))]) hP hD [2, 3, 4] [0, 1] rfl rfl (by decide) (by decide) hk1 hFc hP1 hD1
  have hP : va_P G.1 vwCl [(h0, .inr (1, [.ref t0, .ref b0, .int 18, .int 3, .int 13, .int 1, .int 40])), (b0, .inl (G.2.1, 160, .inl (gPf tB 40))), (t0, .inr (3, [.ref co, .ref en, .ref sk, .int 2, .int 0])), (co, .inl (G.2.2.2, 6, .inr (.inr (.inr (.inr fO))))), (ck, .inl (G.2.1, 160, .inl (upd (gPf tC 1) 1 10001)))] H := hP
  have hD : va_D A [(h0, .inr (1, [.ref t0, .ref b0, .int 18, .int 3, .int 13, .int 1, .int 40])), (b0, .inl (G.2.1, 160, .inl (gPf tB 40))), (t0, .inr (3, [.ref co, .ref en, .ref sk, .int 2, .int 0])), (co, .inl (G.2.2.2, 6, .inr (.inr (.inr (.inr fO))))), (ck, .inl (G.2.1, 160, .inl (upd (gPf tC 1) 1 10001)))] := hD
  have hP : va_P G.1 vwCl [(h0, .inr (1, [.ref t0, .ref b0, .int 18, .int 3, .int 13, .int 1, .int 40])), (b0, .inl (G.2.1, 160, .inl (gPf tB 40))), (t0, .inr (3, [.ref co, .ref en, .ref sk, .int 2, .int 0])), (co, .inl (G.2.2.2, 6, .inr (.inr (.inr (.inr fO))))), (ck, .inl (G.2.1, 160, .inl (gPf tC 2)))] H := by rw [gPf_step (t := tC) (k := 1) (x := 10001) (by decide)] at hP; exact hP
  have hD : va_D A [(h0, .inr (1, [.ref t0, .ref b0, .int 18, .int 3, .int 13, .int 1, .int 40])), (b0, .inl (G.2.1, 160, .inl (gPf tB 40))), (t0, .inr (3, [.ref co, .ref en, .ref sk, .int 2, .int 0])), (co, .inl (G.2.2.2, 6, .inr (.inr (.inr (.inr fO))))), (ck, .inl (G.2.1, 160, .inl (gPf tC 2)))] := by rw [gPf_step (t := tC) (k := 1) (x := 10001) (by decide)] at hD; exact hD
  refine lv_aload_n hx hb dX1_readOne_46 rfl (lv_at hl 0 rfl) ?_
  have hPc : va_P G.1 vwCl [(h0, .inr (1, [.ref t0, .ref b0, .int (nI 18), .int 3, .int 13, .int 1, .int (nI 40)])), (b0, .inl (G.2.1, 160, .inl (gPf tB 40)))] H := hP.sub [0, 1] rfl
  have hDc : va_D A [(h0, .inr (1, [.ref t0, .ref b0, .int (nI 18), .int 3, .int 13, .int 1, .int (nI 40)])), (b0, .inl (G.2.1, 160, .inl (gPf tB 40)))] := hD.sub [0, 1] (by decide) rfl
  have hFc := va_free (wc := [(h0, .inr (1, [.ref t0, .ref b0, .int (nI 18), .int 3, .int 13, .int 1, .int (nI 40)])), (b0, .inl (G.2.1, 160, .inl (gPf tB 40)))]) hD hS hA [0, 1] rfl
  refine va_callv (va_runV (As := []) (rest := []) ⟨hx, hb, hml, hown, hts⟩ (c_X1_next l G E h0 t0 b0 (gPf tB 40) 3 13 1 40 18 H.size (by decide) (by decide)) (cwV 0 hts gX1_readOne_X1_next rfl rfl rfl (by decide +kernel) ⟨Nat.le_of_ble_eq_true rfl, Nat.le_of_ble_eq_true rfl⟩) ⟨gPreE_blind, va_recv hK hPc (ci := 1) (q0 := 0) rfl rfl, fun U hU hW => gPreE_of hU hW hK hPc hDc hE hS hFc⟩ rfl rfl hl.1 rfl (lv_room (Nat.le_of_ble_eq_true rfl)) dX1_readOne_47 ⟨Nat.le_of_ble_eq_true rfl, Nat.le_of_ble_eq_true rfl⟩) hS (fun q _ h => hFc q h) hFc (fun u t H locs ht hvm w_8 hB hz1 hk1 hS => ?_)
  obtain ⟨zb_9, zt_10, zp_11, zm_12⟩ := u
  obtain ⟨hP1, hK1, hD1⟩ := hB
  rw [ht] at hP1
  have hP1 : va_P G.1 vwCl [(h0, .inr (1, [.ref t0, .ref b0, .int (nI zb_9), .int zt_10, .int (nI zp_11), .int zm_12, .int 40])), (b0, .inl (G.2.1, 160, .inl (gPf tB 40)))] H := hP1
  have hD1 : va_D (va_A [(h0, .inr (1, [.ref t0, .ref b0, .int (nI 18), .int 3, .int 13, .int 1, .int (nI 40)])), (b0, .inl (G.2.1, 160, .inl (gPf tB 40)))] _) [(h0, .inr (1, [.ref t0, .ref b0, .int (nI zb_9), .int zt_10, .int (nI zp_11), .int zm_12, .int 40])), (b0, .inl (G.2.1, 160, .inl (gPf tB 40)))] := hD1
  have w_8 : (zb_9, zt_10, zp_11, zm_12) = mNext (gPf tB 40) 40 18 1 := w_8
  obtain ⟨hP, hD⟩ := va_join (wr := [(t0, .inr (3, [.ref co, .ref en, .ref sk, .int 2, .int 0])), (co, .inl (G.2.2.2, 6, .inr (.inr (.inr (.inr fO))))), (ck, .inl (G.2.1, 160, .inl (gPf tC 2)))]) (w1 := [(h0, .inr (1, [.ref t0, .ref b0, .int (nI zb_9), .int zt_10, .int (nI zp_11), .int zm_12, .int 40])), (b0, .inl (G.2.1, 160, .inl (gPf tB 40)))]) hP hD [0, 1] [2, 3, 4] rfl rfl (by decide) (by decide) hk1 hFc hP1 hD1
  have hP : va_P G.1 vwCl [(t0, .inr (3, [.ref co, .ref en, .ref sk, .int 2, .int 0])), (co, .inl (G.2.2.2, 6, .inr (.inr (.inr (.inr fO))))), (ck, .inl (G.2.1, 160, .inl (gPf tC 2))), (h0, .inr (1, [.ref t0, .ref b0, .int (nI zb_9), .int zt_10, .int (nI zp_11), .int zm_12, .int 40])), (b0, .inl (G.2.1, 160, .inl (gPf tB 40)))] H := hP
  have hD : va_D A [(t0, .inr (3, [.ref co, .ref en, .ref sk, .int 2, .int 0])), (co, .inl (G.2.2.2, 6, .inr (.inr (.inr (.inr fO))))), (ck, .inl (G.2.1, 160, .inl (gPf tC 2))), (h0, .inr (1, [.ref t0, .ref b0, .int (nI zb_9), .int zt_10, .int (nI zp_11), .int zm_12, .int 40])), (b0, .inl (G.2.1, 160, .inl (gPf tB 40)))] := hD
  rw [show mNext (gPf tB 40) 40 18 1 = (20, 59, 19, 1) by decide +kernel] at w_8
  simp only [Prod.mk.injEq] at w_8
  obtain ⟨g_13, g_14, g_15, g_16⟩ := w_8
  have g_13 := g_13.symm
  subst g_13
  have g_14 := g_14.symm
  subst g_14
  have g_15 := g_15.symm
  subst g_15
  have g_16 := g_16.symm
  subst g_16
  have hP : va_P G.1 vwCl [(t0, .inr (3, [.ref co, .ref en, .ref sk, .int 2, .int 0])), (co, .inl (G.2.2.2, 6, .inr (.inr (.inr (.inr fO))))), (ck, .inl (G.2.1, 160, .inl (gPf tC 2))), (h0, .inr (1, [.ref t0, .ref b0, .int 20, .int 59, .int 19, .int 1, .int 40])), (b0, .inl (G.2.1, 160, .inl (gPf tB 40)))] H := hP
  have hD : va_D A [(t0, .inr (3, [.ref co, .ref en, .ref sk, .int 2, .int 0])), (co, .inl (G.2.2.2, 6, .inr (.inr (.inr (.inr fO))))), (ck, .inl (G.2.1, 160, .inl (gPf tC 2))), (h0, .inr (1, [.ref t0, .ref b0, .int 20, .int 59, .int 19, .int 1, .int 40])), (b0, .inl (G.2.1, 160, .inl (gPf tB 40)))] := hD
  refine lv_iconst (v := 1) hx hb dX1_readOne_50 (by decide) ?_
  have hP9 := hP.sub (ws' := [(h0, .inr (1, [.ref t0, .ref b0, .int 20, .int 59, .int 19, .int 1, .int 40])), (b0, .inl (G.2.1, 160, .inl (gPf tB 40))), (t0, .inr (3, [.ref co, .ref en, .ref sk, .int 2, .int 0])), (co, .inl (G.2.2.2, 6, .inr (.inr (.inr (.inr fO))))), (ck, .inl (G.2.1, 160, .inl (gPf tC 2)))]) [3, 4, 0, 1, 2] rfl
  have hD9 := hD.sub (ws' := [(h0, .inr (1, [.ref t0, .ref b0, .int 20, .int 59, .int 19, .int 1, .int 40])), (b0, .inl (G.2.1, 160, .inl (gPf tB 40))), (t0, .inr (3, [.ref co, .ref en, .ref sk, .int 2, .int 0])), (co, .inl (G.2.2.2, 6, .inr (.inr (.inr (.inr fO))))), (ck, .inl (G.2.1, 160, .inl (gPf tC 2)))]) [3, 4, 0, 1, 2] (by decide) rfl
  have hpost : (fun (r : Int32) (u : Unit) => match u with | _ => r = 1) 1 () := by first | trivial | rfl | decide | simp
  exact W.zret (v := 1) hx hb hr (rfl) (fun t ht hW => ⟨⟨1, (), rfl, hpost, by rw [ht]; exact hP9, va_K.moved hW.alike hK, hD9⟩, hS.F ht⟩) hS.2.2 dX1_readOne_51
abbrev q_X1_readTerm_a18 (G : gG) (E : gS) (h0 t0 b0 co en sk ck : Nat) (fO : Nat → Option Nat) (A : Nat → Prop) : Array Value → State → Outcome → State → Prop := va_Qi (fun (r : Int32) (u : Unit) => match u with | _ => r = 1) (fun (u : Unit) t => match u with | _ => va_P G.1 vwCl [(h0, .inr (1, [.ref t0, .ref b0, .int 20, .int 59, .int 19, .int 1, .int 40])), (b0, .inl (G.2.1, 160, .inl (gPf tB 40))), (t0, .inr (3, [.ref co, .ref en, .ref sk, .int 2, .int 0])), (co, .inl (G.2.2.2, 6, .inr (.inr (.inr (.inr fO))))), (ck, .inl (G.2.1, 160, .inl (gPf tC 2)))] t.heap ∧ gK G t ∧ va_D A [(h0, .inr (1, [.ref t0, .ref b0, .int 20, .int 59, .int 19, .int 1, .int 40])), (b0, .inl (G.2.1, 160, .inl (gPf tB 40))), (t0, .inr (3, [.ref co, .ref en, .ref sk, .int 2, .int 0])), (co, .inl (G.2.2.2, 6, .inr (.inr (.inr (.inr fO))))), (ck, .inl (G.2.1, 160, .inl (gPf tC 2)))]) A
set_option maxHeartbeats 4000000 in
set_option maxRecDepth 100000 in
theorem c_X1_readTerm_a18 (l : Launch) (G : gG) (E : gS) (h0 t0 b0 co en sk ck : Nat) (fO : Nat → Option Nat) (sz : Nat) (hO : fO 0 = some ck) : Met l yX1_readTerm wsX1_readTerm ({ frames := 8, cells := 0, slots := 0, locals := 169 }) (gPreE G E [.ref h0, .int 0] [(h0, .inr (1, [.ref t0, .ref b0, .int 18, .int 3, .int 13, .int 1, .int 40])), (b0, .inl (G.2.1, 160, .inl (gPf tB 40))), (t0, .inr (3, [.ref co, .ref en, .ref sk, .int 1, .int 0])), (co, .inl (G.2.2.2, 6, .inr (.inr (.inr (.inr fO))))), (ck, .inl (G.2.1, 160, .inl (gPf tC 1)))] sz) (q_X1_readTerm_a18 G E h0 t0 b0 co en sk ck fO (va_A [(h0, .inr (1, [.ref t0, .ref b0, .int 18, .int 3, .int 13, .int 1, .int 40])), (b0, .inl (G.2.1, 160, .inl (gPf tB 40))), (t0, .inr (3, [.ref co, .ref en, .ref sk, .int 1, .int 0])), (co, .inl (G.2.2.2, 6, .inr (.inr (.inr (.inr fO))))), (ck, .inl (G.2.1, 160, .inl (gPf tC 1)))] sz)) 0 0 (va_A [(h0, .inr (1, [.ref t0, .ref b0, .int 18, .int 3, .int 13, .int 1, .int 40])), (b0, .inl (G.2.1, 160, .inl (gPf tB 40))), (t0, .inr (3, [.ref co, .ref en, .ref sk, .int 1, .int 0])), (co, .inl (G.2.2.2, 6, .inr (.inr (.inr (.inr fO))))), (ck, .inl (G.2.1, 160, .inl (gPf tC 1)))] sz) := by
  refine Met.ofW (cc := cX1_readTerm) (maxL := 3) (ret := (some .boolean)) (by decide) rfl ?_
  intro p e s m args below meth c s₁ B hml hv
  obtain ⟨rfl, hsz, hP, hK, hD0, hE⟩ := hv
  have hx := B.exec
  have hb := B.bytes
  have hr := B.returns
  have hts := atoms_spec (ws := wsX1_readTerm) B.pre
  have hown : s.vm.findClass RX1 = some m.cls := findClass_of_methodNamed B.named
  have hlocks := B.notSynchronized
  subst hsz
  have hD := hD0.self (sz := s.heap.size)
  generalize hAe : va_A [(h0, .inr (1, [.ref t0, .ref b0, .int 18, .int 3, .int 13, .int 1, .int 40])), (b0, .inl (G.2.1, 160, .inl (gPf tB 40))), (t0, .inr (3, [.ref co, .ref en, .ref sk, .int 1, .int 0])), (co, .inl (G.2.2.2, 6, .inr (.inr (.inr (.inr fO))))), (ck, .inl (G.2.1, 160, .inl (gPf tC 1)))] s.heap.size = A at hD hE ⊢
  have hA : ∀ q : Nat, s.heap.size ≤ q → A q := fun q h => by rw [← hAe]; exact Or.inr h
  have hS : va_S A s.heap s.heap [] := va_S.rf
  have hP : va_P G.1 vwCl [(h0, .inr (1, [.ref t0, .ref b0, .int 18, .int 3, .int 13, .int 1, .int 40])), (b0, .inl (G.2.1, 160, .inl (gPf tB 40))), (t0, .inr (3, [.ref co, .ref en, .ref sk, .int 1, .int 0])), (co, .inl (G.2.2.2, 6, .inr (.inr (.inr (.inr fO))))), (ck, .inl (G.2.1, 160, .inl (gPf tC 1)))] s.heap := hP
  have hD : va_D A [(h0, .inr (1, [.ref t0, .ref b0, .int 18, .int 3, .int 13, .int 1, .int 40])), (b0, .inl (G.2.1, 160, .inl (gPf tB 40))), (t0, .inr (3, [.ref co, .ref en, .ref sk, .int 1, .int 0])), (co, .inl (G.2.2.2, 6, .inr (.inr (.inr (.inr fO))))), (ck, .inl (G.2.1, 160, .inl (gPf tC 1)))] := hD
  have hl := lv_entry ([.ref h0, .int 0]) (n := 3) (Nat.le_of_ble_eq_true rfl)
  rw [lg_entry_eq]
  generalize (lg_sl ([.ref h0, .int 0]) ++ List.replicate (3 - (lg_sl ([.ref h0, .int 0])).length) Slot.unset).toArray = ls at hl ⊢
  have hl : lv_has ls 3 [(0, .ref h0), (1, .int 0)] := hl
  have kf45 := hts (.fieldLink RX1 45 "PebbleInShoe$Reader" "token" "I") (by decide +kernel)
  have hiX1 := (by decide +kernel : ∀ w ∈ wsX10, w ∈ wsX1_readTerm)
  refine lv_aload_n hx hb dX1_readTerm_0 rfl (lv_at hl 0 rfl) ?_
  refine lv_iload_n hx hb dX1_readTerm_1 rfl (lv_at hl 1 rfl) ?_
  have hPc : va_P G.1 vwCl [(h0, .inr (1, [.ref t0, .ref b0, .int 18, .int 3, .int 13, .int 1, .int 40])), (b0, .inl (G.2.1, 160, .inl (gPf tB 40))), (t0, .inr (3, [.ref co, .ref en, .ref sk, .int 1, .int 0])), (co, .inl (G.2.2.2, 6, .inr (.inr (.inr (.inr fO))))), (ck, .inl (G.2.1, 160, .inl (gPf tC 1)))] s.heap := hP.sub [0, 1, 2, 3, 4] rfl
  have hDc : va_D A [(h0, .inr (1, [.ref t0, .ref b0, .int 18, .int 3, .int 13, .int 1, .int 40])), (b0, .inl (G.2.1, 160, .inl (gPf tB 40))), (t0, .inr (3, [.ref co, .ref en, .ref sk, .int 1, .int 0])), (co, .inl (G.2.2.2, 6, .inr (.inr (.inr (.inr fO))))), (ck, .inl (G.2.1, 160, .inl (gPf tC 1)))] := hD.sub [0, 1, 2, 3, 4] (by decide) rfl
  have hFc := va_free (wc := [(h0, .inr (1, [.ref t0, .ref b0, .int 18, .int 3, .int 13, .int 1, .int 40])), (b0, .inl (G.2.1, 160, .inl (gPf tB 40))), (t0, .inr (3, [.ref co, .ref en, .ref sk, .int 1, .int 0])), (co, .inl (G.2.2.2, 6, .inr (.inr (.inr (.inr fO))))), (ck, .inl (G.2.1, 160, .inl (gPf tC 1)))]) hD hS hA [0, 1, 2, 3, 4] rfl
  refine va_calli (va_runV (As := [.int 0]) (rest := []) ⟨hx, hb, hml, hown, hts⟩ (c_X1_readOne_a18 l G E h0 t0 b0 co en sk ck fO s.heap.size (hO)) (cwV 1 hts gX1_readTerm_X1_readOne rfl rfl rfl (by decide +kernel) ⟨Nat.le_of_ble_eq_true rfl, Nat.le_of_ble_eq_true rfl⟩) ⟨gPreE_blind, va_recv hK hPc (ci := 1) (q0 := 0) rfl rfl, fun U hU hW => gPreE_of hU hW hK hPc hDc hE hS hFc⟩ rfl rfl hl.1 rfl (lv_room (Nat.le_of_ble_eq_true rfl)) dX1_readTerm_2 ⟨Nat.le_of_ble_eq_true rfl, Nat.le_of_ble_eq_true rfl⟩) hS (fun q _ h => hFc q h) hFc (fun r_1 u t H locs ht hvm w_2 hB hz1 hk1 hS => ?_)
  obtain ⟨hP1, hK1, hD1⟩ := hB
  rw [ht] at hP1
  have hP1 : va_P G.1 vwCl [(h0, .inr (1, [.ref t0, .ref b0, .int 20, .int 59, .int 19, .int 1, .int 40])), (b0, .inl (G.2.1, 160, .inl (gPf tB 40))), (t0, .inr (3, [.ref co, .ref en, .ref sk, .int 2, .int 0])), (co, .inl (G.2.2.2, 6, .inr (.inr (.inr (.inr fO))))), (ck, .inl (G.2.1, 160, .inl (gPf tC 2)))] H := hP1
  have hD1 : va_D (va_A [(h0, .inr (1, [.ref t0, .ref b0, .int 18, .int 3, .int 13, .int 1, .int 40])), (b0, .inl (G.2.1, 160, .inl (gPf tB 40))), (t0, .inr (3, [.ref co, .ref en, .ref sk, .int 1, .int 0])), (co, .inl (G.2.2.2, 6, .inr (.inr (.inr (.inr fO))))), (ck, .inl (G.2.1, 160, .inl (gPf tC 1)))] s.heap.size) [(h0, .inr (1, [.ref t0, .ref b0, .int 20, .int 59, .int 19, .int 1, .int 40])), (b0, .inl (G.2.1, 160, .inl (gPf tB 40))), (t0, .inr (3, [.ref co, .ref en, .ref sk, .int 2, .int 0])), (co, .inl (G.2.2.2, 6, .inr (.inr (.inr (.inr fO))))), (ck, .inl (G.2.1, 160, .inl (gPf tC 2)))] := hD1
  have w_2 : r_1 = 1 := w_2
  obtain ⟨hP, hD⟩ := va_join (wr := []) (w1 := [(h0, .inr (1, [.ref t0, .ref b0, .int 20, .int 59, .int 19, .int 1, .int 40])), (b0, .inl (G.2.1, 160, .inl (gPf tB 40))), (t0, .inr (3, [.ref co, .ref en, .ref sk, .int 2, .int 0])), (co, .inl (G.2.2.2, 6, .inr (.inr (.inr (.inr fO))))), (ck, .inl (G.2.1, 160, .inl (gPf tC 2)))]) hP hD [0, 1, 2, 3, 4] [] rfl rfl (by decide) (by decide) hk1 hFc hP1 hD1
  have hP : va_P G.1 vwCl [(h0, .inr (1, [.ref t0, .ref b0, .int 20, .int 59, .int 19, .int 1, .int 40])), (b0, .inl (G.2.1, 160, .inl (gPf tB 40))), (t0, .inr (3, [.ref co, .ref en, .ref sk, .int 2, .int 0])), (co, .inl (G.2.2.2, 6, .inr (.inr (.inr (.inr fO))))), (ck, .inl (G.2.1, 160, .inl (gPf tC 2)))] H := hP
  have hD : va_D A [(h0, .inr (1, [.ref t0, .ref b0, .int 20, .int 59, .int 19, .int 1, .int 40])), (b0, .inl (G.2.1, 160, .inl (gPf tB 40))), (t0, .inr (3, [.ref co, .ref en, .ref sk, .int 2, .int 0])), (co, .inl (G.2.2.2, 6, .inr (.inr (.inr (.inr fO))))), (ck, .inl (G.2.1, 160, .inl (gPf tC 2)))] := hD
  have w_2 : r_1 = 1 := w_2
  subst w_2
  refine lv_if_ne (tgt := 10) hx hb dX1_readTerm_5 (by decide) (fun c_3 => ?_) (fun c_3 => ?_)
  rotate_left
  · exact absurd c_3 (by decide)
  refine lv_iconst (v := 0) hx hb dX1_readTerm_10 (by decide) ?_
  refine lv_istore_n (lv' := [(2, .int 0), (0, .ref h0), (1, .int 0)]) hx hb dX1_readTerm_11 rfl hl (by decide) rfl (fun ls hl => ?_)
  refine lv_iload_n hx hb dX1_readTerm_12 rfl (lv_at hl 0 rfl) ?_
  refine lv_sipush (v := 160) hx hb dX1_readTerm_13 (by decide) ?_
  refine lv_icmp_ge (tgt := 58) hx hb dX1_readTerm_16 (by decide) (fun c_4 => ?_) (fun c_4 => ?_)
  · exact absurd c_4 (by decide)
  refine lv_aload_n hx hb dX1_readTerm_19 rfl (lv_at hl 1 rfl) ?_
  refine va_get (D := G.1) (ci := 1) (v := .int 59) (C := RX1) (T := TX1) (N := 7) hx hb hts hiX1 hown hK hP 0 rfl rfl 3 (by decide) kf45 (fun _ h9 => h9) rfl dX1_readTerm_20 ?_
  refine lv_bipush (v := 42) hx hb dX1_readTerm_23 (by decide) ?_
  refine lv_icmp_ne (tgt := 58) hx hb dX1_readTerm_25 (by decide) (fun c_5 => ?_) (fun c_5 => ?_)
  rotate_left
  · exact absurd c_5 (by decide)
  refine lv_iconst (v := 1) hx hb dX1_readTerm_58 (by decide) ?_
  have hP9 := hP.sub (ws' := [(h0, .inr (1, [.ref t0, .ref b0, .int 20, .int 59, .int 19, .int 1, .int 40])), (b0, .inl (G.2.1, 160, .inl (gPf tB 40))), (t0, .inr (3, [.ref co, .ref en, .ref sk, .int 2, .int 0])), (co, .inl (G.2.2.2, 6, .inr (.inr (.inr (.inr fO))))), (ck, .inl (G.2.1, 160, .inl (gPf tC 2)))]) [0, 1, 2, 3, 4] rfl
  have hD9 := hD.sub (ws' := [(h0, .inr (1, [.ref t0, .ref b0, .int 20, .int 59, .int 19, .int 1, .int 40])), (b0, .inl (G.2.1, 160, .inl (gPf tB 40))), (t0, .inr (3, [.ref co, .ref en, .ref sk, .int 2, .int 0])), (co, .inl (G.2.2.2, 6, .inr (.inr (.inr (.inr fO))))), (ck, .inl (G.2.1, 160, .inl (gPf tC 2)))]) [0, 1, 2, 3, 4] (by decide) rfl
  have hpost : (fun (r : Int32) (u : Unit) => match u with | _ => r = 1) 1 () := by first | trivial | rfl | decide | simp
  exact W.zret (v := 1) hx hb hr (rfl) (fun t ht hW => ⟨⟨1, (), rfl, hpost, by rw [ht]; exact hP9, va_K.moved hW.alike hK, hD9⟩, hS.F ht⟩) hS.2.2 dX1_readTerm_59
abbrev q_X1_readSum_a10 (G : gG) (E : gS) (h0 t0 b0 co en sk ck : Nat) (fO : Nat → Option Nat) (A : Nat → Prop) : Array Value → State → Outcome → State → Prop := va_Qi (fun (r : Int32) (u : Unit) => match u with | _ => r = 1) (fun (u : Unit) t => match u with | _ => va_P G.1 vwCl [(h0, .inr (1, [.ref t0, .ref b0, .int 20, .int 59, .int 19, .int 1, .int 40])), (b0, .inl (G.2.1, 160, .inl (gPf tB 40))), (t0, .inr (3, [.ref co, .ref en, .ref sk, .int 3, .int 0])), (co, .inl (G.2.2.2, 6, .inr (.inr (.inr (.inr fO))))), (ck, .inl (G.2.1, 160, .inl (gPf tC 3)))] t.heap ∧ gK G t ∧ va_D A [(h0, .inr (1, [.ref t0, .ref b0, .int 20, .int 59, .int 19, .int 1, .int 40])), (b0, .inl (G.2.1, 160, .inl (gPf tB 40))), (t0, .inr (3, [.ref co, .ref en, .ref sk, .int 3, .int 0])), (co, .inl (G.2.2.2, 6, .inr (.inr (.inr (.inr fO))))), (ck, .inl (G.2.1, 160, .inl (gPf tC 3)))]) A
set_option maxHeartbeats 4000000 in
set_option maxRecDepth 100000 in
theorem c_X1_readSum_a10 (l : Launch) (G : gG) (E : gS) (h0 t0 b0 co en sk ck : Nat) (fO : Nat → Option Nat) (sz : Nat) (hO : fO 0 = some ck) : Met l yX1_readSum wsX1_readSum ({ frames := 9, cells := 0, slots := 0, locals := 191 }) (gPreE G E [.ref h0, .int 0] [(h0, .inr (1, [.ref t0, .ref b0, .int 10, .int 3, .int 6, .int 0, .int 40])), (b0, .inl (G.2.1, 160, .inl (gPf tB 40))), (t0, .inr (3, [.ref co, .ref en, .ref sk, .int 0, .int 0])), (co, .inl (G.2.2.2, 6, .inr (.inr (.inr (.inr fO))))), (ck, .inl (G.2.1, 160, .inl (gPf tC 0)))] sz) (q_X1_readSum_a10 G E h0 t0 b0 co en sk ck fO (va_A [(h0, .inr (1, [.ref t0, .ref b0, .int 10, .int 3, .int 6, .int 0, .int 40])), (b0, .inl (G.2.1, 160, .inl (gPf tB 40))), (t0, .inr (3, [.ref co, .ref en, .ref sk, .int 0, .int 0])), (co, .inl (G.2.2.2, 6, .inr (.inr (.inr (.inr fO))))), (ck, .inl (G.2.1, 160, .inl (gPf tC 0)))] sz)) 0 0 (va_A [(h0, .inr (1, [.ref t0, .ref b0, .int 10, .int 3, .int 6, .int 0, .int 40])), (b0, .inl (G.2.1, 160, .inl (gPf tB 40))), (t0, .inr (3, [.ref co, .ref en, .ref sk, .int 0, .int 0])), (co, .inl (G.2.2.2, 6, .inr (.inr (.inr (.inr fO))))), (ck, .inl (G.2.1, 160, .inl (gPf tC 0)))] sz) := by
  refine Met.ofW (cc := cX1_readSum) (maxL := 4) (ret := (some .boolean)) (by decide) rfl ?_
  intro p e s m args below meth c s₁ B hml hv
  obtain ⟨rfl, hsz, hP, hK, hD0, hE⟩ := hv
  have hx := B.exec
  have hb := B.bytes
  have hr := B.returns
  have hts := atoms_spec (ws := wsX1_readSum) B.pre
  have hown : s.vm.findClass RX1 = some m.cls := findClass_of_methodNamed B.named
  have hlocks := B.notSynchronized
  subst hsz
  have hD := hD0.self (sz := s.heap.size)
  generalize hAe : va_A [(h0, .inr (1, [.ref t0, .ref b0, .int 10, .int 3, .int 6, .int 0, .int 40])), (b0, .inl (G.2.1, 160, .inl (gPf tB 40))), (t0, .inr (3, [.ref co, .ref en, .ref sk, .int 0, .int 0])), (co, .inl (G.2.2.2, 6, .inr (.inr (.inr (.inr fO))))), (ck, .inl (G.2.1, 160, .inl (gPf tC 0)))] s.heap.size = A at hD hE ⊢
  have hA : ∀ q : Nat, s.heap.size ≤ q → A q := fun q h => by rw [← hAe]; exact Or.inr h
  have hS : va_S A s.heap s.heap [] := va_S.rf
  have hP : va_P G.1 vwCl [(h0, .inr (1, [.ref t0, .ref b0, .int 10, .int 3, .int 6, .int 0, .int 40])), (b0, .inl (G.2.1, 160, .inl (gPf tB 40))), (t0, .inr (3, [.ref co, .ref en, .ref sk, .int 0, .int 0])), (co, .inl (G.2.2.2, 6, .inr (.inr (.inr (.inr fO))))), (ck, .inl (G.2.1, 160, .inl (gPf tC 0)))] s.heap := hP
  have hD : va_D A [(h0, .inr (1, [.ref t0, .ref b0, .int 10, .int 3, .int 6, .int 0, .int 40])), (b0, .inl (G.2.1, 160, .inl (gPf tB 40))), (t0, .inr (3, [.ref co, .ref en, .ref sk, .int 0, .int 0])), (co, .inl (G.2.2.2, 6, .inr (.inr (.inr (.inr fO))))), (ck, .inl (G.2.1, 160, .inl (gPf tC 0)))] := hD
  have hl := lv_entry ([.ref h0, .int 0]) (n := 4) (Nat.le_of_ble_eq_true rfl)
  rw [lg_entry_eq]
  generalize (lg_sl ([.ref h0, .int 0]) ++ List.replicate (4 - (lg_sl ([.ref h0, .int 0])).length) Slot.unset).toArray = ls at hl ⊢
  have hl : lv_has ls 4 [(0, .ref h0), (1, .int 0)] := hl
  have kf45 := hts (.fieldLink RX1 45 "PebbleInShoe$Reader" "token" "I") (by decide +kernel)
  have hiX1 := (by decide +kernel : ∀ w ∈ wsX10, w ∈ wsX1_readSum)
  have kf15 := hts (.fieldLink RX1 15 "PebbleInShoe$Reader" "texts" "LPebbleInShoe$Texts;") (by decide +kernel)
  refine lv_aload_n hx hb dX1_readSum_0 rfl (lv_at hl 0 rfl) ?_
  refine lv_iload_n hx hb dX1_readSum_1 rfl (lv_at hl 1 rfl) ?_
  have hPc : va_P G.1 vwCl [(h0, .inr (1, [.ref t0, .ref b0, .int 10, .int 3, .int 6, .int 0, .int 40])), (b0, .inl (G.2.1, 160, .inl (gPf tB 40))), (t0, .inr (3, [.ref co, .ref en, .ref sk, .int 0, .int 0])), (co, .inl (G.2.2.2, 6, .inr (.inr (.inr (.inr fO))))), (ck, .inl (G.2.1, 160, .inl (gPf tC 0)))] s.heap := hP.sub [0, 1, 2, 3, 4] rfl
  have hDc : va_D A [(h0, .inr (1, [.ref t0, .ref b0, .int 10, .int 3, .int 6, .int 0, .int 40])), (b0, .inl (G.2.1, 160, .inl (gPf tB 40))), (t0, .inr (3, [.ref co, .ref en, .ref sk, .int 0, .int 0])), (co, .inl (G.2.2.2, 6, .inr (.inr (.inr (.inr fO))))), (ck, .inl (G.2.1, 160, .inl (gPf tC 0)))] := hD.sub [0, 1, 2, 3, 4] (by decide) rfl
  have hFc := va_free (wc := [(h0, .inr (1, [.ref t0, .ref b0, .int 10, .int 3, .int 6, .int 0, .int 40])), (b0, .inl (G.2.1, 160, .inl (gPf tB 40))), (t0, .inr (3, [.ref co, .ref en, .ref sk, .int 0, .int 0])), (co, .inl (G.2.2.2, 6, .inr (.inr (.inr (.inr fO))))), (ck, .inl (G.2.1, 160, .inl (gPf tC 0)))]) hD hS hA [0, 1, 2, 3, 4] rfl
  refine va_calli (va_runV (As := [.int 0]) (rest := []) ⟨hx, hb, hml, hown, hts⟩ (c_X1_readTerm_a10 l G E h0 t0 b0 co en sk ck fO s.heap.size (hO)) (cwV 1 hts gX1_readSum_X1_readTerm rfl rfl rfl (by decide +kernel) ⟨Nat.le_of_ble_eq_true rfl, Nat.le_of_ble_eq_true rfl⟩) ⟨gPreE_blind, va_recv hK hPc (ci := 1) (q0 := 0) rfl rfl, fun U hU hW => gPreE_of hU hW hK hPc hDc hE hS hFc⟩ rfl rfl hl.1 rfl (lv_room (Nat.le_of_ble_eq_true rfl)) dX1_readSum_2 ⟨Nat.le_of_ble_eq_true rfl, Nat.le_of_ble_eq_true rfl⟩) hS (fun q _ h => hFc q h) hFc (fun r_1 u t H locs ht hvm w_2 hB hz1 hk1 hS => ?_)
  obtain ⟨hP1, hK1, hD1⟩ := hB
  rw [ht] at hP1
  have hP1 : va_P G.1 vwCl [(h0, .inr (1, [.ref t0, .ref b0, .int 12, .int 45, .int 11, .int 0, .int 40])), (b0, .inl (G.2.1, 160, .inl (gPf tB 40))), (t0, .inr (3, [.ref co, .ref en, .ref sk, .int 1, .int 0])), (co, .inl (G.2.2.2, 6, .inr (.inr (.inr (.inr fO))))), (ck, .inl (G.2.1, 160, .inl (gPf tC 1)))] H := hP1
  have hD1 : va_D (va_A [(h0, .inr (1, [.ref t0, .ref b0, .int 10, .int 3, .int 6, .int 0, .int 40])), (b0, .inl (G.2.1, 160, .inl (gPf tB 40))), (t0, .inr (3, [.ref co, .ref en, .ref sk, .int 0, .int 0])), (co, .inl (G.2.2.2, 6, .inr (.inr (.inr (.inr fO))))), (ck, .inl (G.2.1, 160, .inl (gPf tC 0)))] s.heap.size) [(h0, .inr (1, [.ref t0, .ref b0, .int 12, .int 45, .int 11, .int 0, .int 40])), (b0, .inl (G.2.1, 160, .inl (gPf tB 40))), (t0, .inr (3, [.ref co, .ref en, .ref sk, .int 1, .int 0])), (co, .inl (G.2.2.2, 6, .inr (.inr (.inr (.inr fO))))), (ck, .inl (G.2.1, 160, .inl (gPf tC 1)))] := hD1
  have w_2 : r_1 = 1 := w_2
  obtain ⟨hP, hD⟩ := va_join (wr := []) (w1 := [(h0, .inr (1, [.ref t0, .ref b0, .int 12, .int 45, .int 11, .int 0, .int 40])), (b0, .inl (G.2.1, 160, .inl (gPf tB 40))), (t0, .inr (3, [.ref co, .ref en, .ref sk, .int 1, .int 0])), (co, .inl (G.2.2.2, 6, .inr (.inr (.inr (.inr fO))))), (ck, .inl (G.2.1, 160, .inl (gPf tC 1)))]) hP hD [0, 1, 2, 3, 4] [] rfl rfl (by decide) (by decide) hk1 hFc hP1 hD1
  have hP : va_P G.1 vwCl [(h0, .inr (1, [.ref t0, .ref b0, .int 12, .int 45, .int 11, .int 0, .int 40])), (b0, .inl (G.2.1, 160, .inl (gPf tB 40))), (t0, .inr (3, [.ref co, .ref en, .ref sk, .int 1, .int 0])), (co, .inl (G.2.2.2, 6, .inr (.inr (.inr (.inr fO))))), (ck, .inl (G.2.1, 160, .inl (gPf tC 1)))] H := hP
  have hD : va_D A [(h0, .inr (1, [.ref t0, .ref b0, .int 12, .int 45, .int 11, .int 0, .int 40])), (b0, .inl (G.2.1, 160, .inl (gPf tB 40))), (t0, .inr (3, [.ref co, .ref en, .ref sk, .int 1, .int 0])), (co, .inl (G.2.2.2, 6, .inr (.inr (.inr (.inr fO))))), (ck, .inl (G.2.1, 160, .inl (gPf tC 1)))] := hD
  have w_2 : r_1 = 1 := w_2
  subst w_2
  refine lv_if_ne (tgt := 10) hx hb dX1_readSum_5 (by decide) (fun c_3 => ?_) (fun c_3 => ?_)
  rotate_left
  · exact absurd c_3 (by decide)
  refine lv_iconst (v := 0) hx hb dX1_readSum_10 (by decide) ?_
  refine lv_istore_n (lv' := [(2, .int 0), (0, .ref h0), (1, .int 0)]) hx hb dX1_readSum_11 rfl hl (by decide) rfl (fun ls hl => ?_)
  refine lv_iload_n hx hb dX1_readSum_12 rfl (lv_at hl 0 rfl) ?_
  refine lv_sipush (v := 160) hx hb dX1_readSum_13 (by decide) ?_
  refine lv_icmp_ge (tgt := 74) hx hb dX1_readSum_16 (by decide) (fun c_4 => ?_) (fun c_4 => ?_)
  · exact absurd c_4 (by decide)
  refine lv_aload_n hx hb dX1_readSum_19 rfl (lv_at hl 1 rfl) ?_
  refine va_get (D := G.1) (ci := 1) (v := .int 45) (C := RX1) (T := TX1) (N := 7) hx hb hts hiX1 hown hK hP 0 rfl rfl 3 (by decide) kf45 (fun _ h9 => h9) rfl dX1_readSum_20 ?_
  refine lv_bipush (v := 43) hx hb dX1_readSum_23 (by decide) ?_
  refine lv_icmp_eq (tgt := 37) hx hb dX1_readSum_25 (by decide) (fun c_5 => ?_) (fun c_5 => ?_)
  · exact absurd c_5 (by decide)
  refine lv_aload_n hx hb dX1_readSum_28 rfl (lv_at hl 1 rfl) ?_
  refine va_get (D := G.1) (ci := 1) (v := .int 45) (C := RX1) (T := TX1) (N := 7) hx hb hts hiX1 hown hK hP 0 rfl rfl 3 (by decide) kf45 (fun _ h9 => h9) rfl dX1_readSum_29 ?_
  refine lv_bipush (v := 45) hx hb dX1_readSum_32 (by decide) ?_
  refine lv_icmp_ne (tgt := 74) hx hb dX1_readSum_34 (by decide) (fun c_6 => ?_) (fun c_6 => ?_)
  · exact absurd (by decide) c_6
  refine lv_aload_n hx hb dX1_readSum_37 rfl (lv_at hl 1 rfl) ?_
  refine va_get (D := G.1) (ci := 1) (v := .int 45) (C := RX1) (T := TX1) (N := 7) hx hb hts hiX1 hown hK hP 0 rfl rfl 3 (by decide) kf45 (fun _ h9 => h9) rfl dX1_readSum_38 ?_
  refine lv_istore_n (lv' := [(3, .int 45), (2, .int 0), (0, .ref h0), (1, .int 0)]) hx hb dX1_readSum_41 rfl hl (by decide) rfl (fun ls hl => ?_)
  refine lv_aload_n hx hb dX1_readSum_42 rfl (lv_at hl 2 rfl) ?_
  have hPc : va_P G.1 vwCl [(h0, .inr (1, [.ref t0, .ref b0, .int (nI 12), .int 45, .int 11, .int 0, .int (nI 40)])), (b0, .inl (G.2.1, 160, .inl (gPf tB 40)))] H := hP.sub [0, 1] rfl
  have hDc : va_D A [(h0, .inr (1, [.ref t0, .ref b0, .int (nI 12), .int 45, .int 11, .int 0, .int (nI 40)])), (b0, .inl (G.2.1, 160, .inl (gPf tB 40)))] := hD.sub [0, 1] (by decide) rfl
  have hFc := va_free (wc := [(h0, .inr (1, [.ref t0, .ref b0, .int (nI 12), .int 45, .int 11, .int 0, .int (nI 40)])), (b0, .inl (G.2.1, 160, .inl (gPf tB 40)))]) hD hS hA [0, 1] rfl
  refine va_callv (va_runV (As := []) (rest := []) ⟨hx, hb, hml, hown, hts⟩ (c_X1_next l G E h0 t0 b0 (gPf tB 40) 45 11 0 40 12 H.size (by decide) (by decide)) (cwV 0 hts gX1_readSum_X1_next rfl rfl rfl (by decide +kernel) ⟨Nat.le_of_ble_eq_true rfl, Nat.le_of_ble_eq_true rfl⟩) ⟨gPreE_blind, va_recv hK hPc (ci := 1) (q0 := 0) rfl rfl, fun U hU hW => gPreE_of hU hW hK hPc hDc hE hS hFc⟩ rfl rfl hl.1 rfl (lv_room (Nat.le_of_ble_eq_true rfl)) dX1_readSum_43 ⟨Nat.le_of_ble_eq_true rfl, Nat.le_of_ble_eq_true rfl⟩) hS (fun q _ h => hFc q h) hFc (fun u t H locs ht hvm w_8 hB hz1 hk1 hS => ?_)
  obtain ⟨zb_9, zt_10, zp_11, zm_12⟩ := u
  obtain ⟨hP1, hK1, hD1⟩ := hB
  rw [ht] at hP1
  have hP1 : va_P G.1 vwCl [(h0, .inr (1, [.ref t0, .ref b0, .int (nI zb_9), .int zt_10, .int (nI zp_11), .int zm_12, .int 40])), (b0, .inl (G.2.1, 160, .inl (gPf tB 40)))] H := hP1
  have hD1 : va_D (va_A [(h0, .inr (1, [.ref t0, .ref b0, .int (nI 12), .int 45, .int 11, .int 0, .int (nI 40)])), (b0, .inl (G.2.1, 160, .inl (gPf tB 40)))] _) [(h0, .inr (1, [.ref t0, .ref b0, .int (nI zb_9), .int zt_10, .int (nI zp_11), .int zm_12, .int 40])), (b0, .inl (G.2.1, 160, .inl (gPf tB 40)))] := hD1
  have w_8 : (zb_9, zt_10, zp_11, zm_12) = mNext (gPf tB 40) 40 12 0 := w_8
  obtain ⟨hP, hD⟩ := va_join (wr := [(t0, .inr (3, [.ref co, .ref en, .ref sk, .int 1, .int 0])), (co, .inl (G.2.2.2, 6, .inr (.inr (.inr (.inr fO))))), (ck, .inl (G.2.1, 160, .inl (gPf tC 1)))]) (w1 := [(h0, .inr (1, [.ref t0, .ref b0, .int (nI zb_9), .int zt_10, .int (nI zp_11), .int zm_12, .int 40])), (b0, .inl (G.2.1, 160, .inl (gPf tB 40)))]) hP hD [0, 1] [2, 3, 4] rfl rfl (by decide) (by decide) hk1 hFc hP1 hD1
  have hP : va_P G.1 vwCl [(t0, .inr (3, [.ref co, .ref en, .ref sk, .int 1, .int 0])), (co, .inl (G.2.2.2, 6, .inr (.inr (.inr (.inr fO))))), (ck, .inl (G.2.1, 160, .inl (gPf tC 1))), (h0, .inr (1, [.ref t0, .ref b0, .int (nI zb_9), .int zt_10, .int (nI zp_11), .int zm_12, .int 40])), (b0, .inl (G.2.1, 160, .inl (gPf tB 40)))] H := hP
  have hD : va_D A [(t0, .inr (3, [.ref co, .ref en, .ref sk, .int 1, .int 0])), (co, .inl (G.2.2.2, 6, .inr (.inr (.inr (.inr fO))))), (ck, .inl (G.2.1, 160, .inl (gPf tC 1))), (h0, .inr (1, [.ref t0, .ref b0, .int (nI zb_9), .int zt_10, .int (nI zp_11), .int zm_12, .int 40])), (b0, .inl (G.2.1, 160, .inl (gPf tB 40)))] := hD
  rw [show mNext (gPf tB 40) 40 12 0 = (18, 3, 13, 1) by decide +kernel] at w_8
  simp only [Prod.mk.injEq] at w_8
  obtain ⟨g_13, g_14, g_15, g_16⟩ := w_8
  have g_13 := g_13.symm
  subst g_13
  have g_14 := g_14.symm
  subst g_14
  have g_15 := g_15.symm
  subst g_15
  have g_16 := g_16.symm
  subst g_16
  have hP : va_P G.1 vwCl [(t0, .inr (3, [.ref co, .ref en, .ref sk, .int 1, .int 0])), (co, .inl (G.2.2.2, 6, .inr (.inr (.inr (.inr fO))))), (ck, .inl (G.2.1, 160, .inl (gPf tC 1))), (h0, .inr (1, [.ref t0, .ref b0, .int 18, .int 3, .int 13, .int 1, .int 40])), (b0, .inl (G.2.1, 160, .inl (gPf tB 40)))] H := hP
  have hD : va_D A [(t0, .inr (3, [.ref co, .ref en, .ref sk, .int 1, .int 0])), (co, .inl (G.2.2.2, 6, .inr (.inr (.inr (.inr fO))))), (ck, .inl (G.2.1, 160, .inl (gPf tC 1))), (h0, .inr (1, [.ref t0, .ref b0, .int 18, .int 3, .int 13, .int 1, .int 40])), (b0, .inl (G.2.1, 160, .inl (gPf tB 40)))] := hD
  refine lv_aload_n hx hb dX1_readSum_46 rfl (lv_at hl 2 rfl) ?_
  refine lv_iload_n hx hb dX1_readSum_47 rfl (lv_at hl 3 rfl) ?_
  have hPc : va_P G.1 vwCl [(h0, .inr (1, [.ref t0, .ref b0, .int 18, .int 3, .int 13, .int 1, .int 40])), (b0, .inl (G.2.1, 160, .inl (gPf tB 40))), (t0, .inr (3, [.ref co, .ref en, .ref sk, .int 1, .int 0])), (co, .inl (G.2.2.2, 6, .inr (.inr (.inr (.inr fO))))), (ck, .inl (G.2.1, 160, .inl (gPf tC 1)))] H := hP.sub [3, 4, 0, 1, 2] rfl
  have hDc : va_D A [(h0, .inr (1, [.ref t0, .ref b0, .int 18, .int 3, .int 13, .int 1, .int 40])), (b0, .inl (G.2.1, 160, .inl (gPf tB 40))), (t0, .inr (3, [.ref co, .ref en, .ref sk, .int 1, .int 0])), (co, .inl (G.2.2.2, 6, .inr (.inr (.inr (.inr fO))))), (ck, .inl (G.2.1, 160, .inl (gPf tC 1)))] := hD.sub [3, 4, 0, 1, 2] (by decide) rfl
  have hFc := va_free (wc := [(h0, .inr (1, [.ref t0, .ref b0, .int 18, .int 3, .int 13, .int 1, .int 40])), (b0, .inl (G.2.1, 160, .inl (gPf tB 40))), (t0, .inr (3, [.ref co, .ref en, .ref sk, .int 1, .int 0])), (co, .inl (G.2.2.2, 6, .inr (.inr (.inr (.inr fO))))), (ck, .inl (G.2.1, 160, .inl (gPf tC 1)))]) hD hS hA [3, 4, 0, 1, 2] rfl
  refine va_calli (va_runV (As := [.int 0]) (rest := []) ⟨hx, hb, hml, hown, hts⟩ (c_X1_readTerm_a18 l G E h0 t0 b0 co en sk ck fO H.size (hO)) (cwV 1 hts gX1_readSum_X1_readTerm rfl rfl rfl (by decide +kernel) ⟨Nat.le_of_ble_eq_true rfl, Nat.le_of_ble_eq_true rfl⟩) ⟨gPreE_blind, va_recv hK hPc (ci := 1) (q0 := 0) rfl rfl, fun U hU hW => gPreE_of hU hW hK hPc hDc hE hS hFc⟩ rfl rfl hl.1 rfl (lv_room (Nat.le_of_ble_eq_true rfl)) dX1_readSum_48 ⟨Nat.le_of_ble_eq_true rfl, Nat.le_of_ble_eq_true rfl⟩) hS (fun q _ h => hFc q h) hFc (fun r_17 u t H locs ht hvm w_18 hB hz1 hk1 hS => ?_)
  obtain ⟨hP1, hK1, hD1⟩ := hB
  rw [ht] at hP1
  have hP1 : va_P G.1 vwCl [(h0, .inr (1, [.ref t0, .ref b0, .int 20, .int 59, .int 19, .int 1, .int 40])), (b0, .inl (G.2.1, 160, .inl (gPf tB 40))), (t0, .inr (3, [.ref co, .ref en, .ref sk, .int 2, .int 0])), (co, .inl (G.2.2.2, 6, .inr (.inr (.inr (.inr fO))))), (ck, .inl (G.2.1, 160, .inl (gPf tC 2)))] H := hP1
  have hD1 : va_D (va_A [(h0, .inr (1, [.ref t0, .ref b0, .int 18, .int 3, .int 13, .int 1, .int 40])), (b0, .inl (G.2.1, 160, .inl (gPf tB 40))), (t0, .inr (3, [.ref co, .ref en, .ref sk, .int 1, .int 0])), (co, .inl (G.2.2.2, 6, .inr (.inr (.inr (.inr fO))))), (ck, .inl (G.2.1, 160, .inl (gPf tC 1)))] _) [(h0, .inr (1, [.ref t0, .ref b0, .int 20, .int 59, .int 19, .int 1, .int 40])), (b0, .inl (G.2.1, 160, .inl (gPf tB 40))), (t0, .inr (3, [.ref co, .ref en, .ref sk, .int 2, .int 0])), (co, .inl (G.2.2.2, 6, .inr (.inr (.inr (.inr fO))))), (ck, .inl (G.2.1, 160, .inl (gPf tC 2)))] := hD1
  have w_18 : r_17 = 1 := w_18
  obtain ⟨hP, hD⟩ := va_join (wr := []) (w1 := [(h0, .inr (1, [.ref t0, .ref b0, .int 20, .int 59, .int 19, .int 1, .int 40])), (b0, .inl (G.2.1, 160, .inl (gPf tB 40))), (t0, .inr (3, [.ref co, .ref en, .ref sk, .int 2, .int 0])), (co, .inl (G.2.2.2, 6, .inr (.inr (.inr (.inr fO))))), (ck, .inl (G.2.1, 160, .inl (gPf tC 2)))]) hP hD [3, 4, 0, 1, 2] [] rfl rfl (by decide) (by decide) hk1 hFc hP1 hD1
  have hP : va_P G.1 vwCl [(h0, .inr (1, [.ref t0, .ref b0, .int 20, .int 59, .int 19, .int 1, .int 40])), (b0, .inl (G.2.1, 160, .inl (gPf tB 40))), (t0, .inr (3, [.ref co, .ref en, .ref sk, .int 2, .int 0])), (co, .inl (G.2.2.2, 6, .inr (.inr (.inr (.inr fO))))), (ck, .inl (G.2.1, 160, .inl (gPf tC 2)))] H := hP
  have hD : va_D A [(h0, .inr (1, [.ref t0, .ref b0, .int 20, .int 59, .int 19, .int 1, .int 40])), (b0, .inl (G.2.1, 160, .inl (gPf tB 40))), (t0, .inr (3, [.ref co, .ref en, .ref sk, .int 2, .int 0])), (co, .inl (G.2.2.2, 6, .inr (.inr (.inr (.inr fO))))), (ck, .inl (G.2.1, 160, .inl (gPf tC 2)))] := hD
  have w_18 : r_17 = 1 := w_18
  subst w_18
  refine lv_if_ne (tgt := 56) hx hb dX1_readSum_51 (by decide) (fun c_19 => ?_) (fun c_19 => ?_)
  rotate_left
  · exact absurd c_19 (by decide)
  refine lv_aload_n hx hb dX1_readSum_56 rfl (lv_at hl 2 rfl) ?_
  refine va_get (D := G.1) (ci := 1) (v := .ref t0) (C := RX1) (T := TX1) (N := 7) hx hb hts hiX1 hown hK hP 0 rfl rfl 0 (by decide) kf15 (fun _ h9 => h9) rfl dX1_readSum_57 ?_
  refine lv_sipush (v := 20000) hx hb dX1_readSum_60 (by decide) ?_
  refine lv_iload_n hx hb dX1_readSum_63 rfl (lv_at hl 0 rfl) ?_
  refine lv_iadd hx hb dX1_readSum_64 ?_
  refine lv_topi (fun v_20 ev_20 => ?_)
  have ev_20 : v_20 = 20045 := ev_20.trans (by decide)
  subst ev_20
  have hPc : va_P G.1 vwCl [(t0, .inr (3, [.ref co, .ref en, .ref sk, .int (nI 2), .int (nI 0)])), (co, .inl (G.2.2.2, 6, .inr (.inr (.inr (.inr fO))))), (ck, .inl (G.2.1, 160, .inl (gPf tC 2)))] H := hP.sub [2, 3, 4] rfl
  have hDc : va_D A [(t0, .inr (3, [.ref co, .ref en, .ref sk, .int (nI 2), .int (nI 0)])), (co, .inl (G.2.2.2, 6, .inr (.inr (.inr (.inr fO))))), (ck, .inl (G.2.1, 160, .inl (gPf tC 2)))] := hD.sub [2, 3, 4] (by decide) rfl
  have hFc := va_free (wc := [(t0, .inr (3, [.ref co, .ref en, .ref sk, .int (nI 2), .int (nI 0)])), (co, .inl (G.2.2.2, 6, .inr (.inr (.inr (.inr fO))))), (ck, .inl (G.2.1, 160, .inl (gPf tC 2)))]) hD hS hA [2, 3, 4] rfl
  refine va_callv (va_runV (As := [.int 20045]) (rest := []) ⟨hx, hb, hml, hown, hts⟩ (c_X3_write l G t0 co en sk ck fO (gPf tC 2) 2 0 20045 H.size (hO) (by decide) (by decide)) (cwV 1 hts gX1_readSum_X3_write rfl rfl rfl (by decide +kernel) ⟨Nat.le_of_ble_eq_true rfl, Nat.le_of_ble_eq_true rfl⟩) ⟨gPre_blind, va_recv hK hPc (ci := 3) (q0 := 0) rfl rfl, fun U hU hW => gPre_of hU hW hK hPc hDc⟩ rfl rfl hl.1 rfl (lv_room (Nat.le_of_ble_eq_true rfl)) dX1_readSum_65 ⟨Nat.le_of_ble_eq_true rfl, Nat.le_of_ble_eq_true rfl⟩) hS (fun q _ h => hFc q h) hFc (fun u t H locs ht hvm w_22 hB hz1 hk1 hS => ?_)
  obtain ⟨hP1, hK1, hD1⟩ := hB
  rw [ht] at hP1
  have hP1 : va_P G.1 vwCl [(t0, .inr (3, [.ref co, .ref en, .ref sk, .int 3, .int 0])), (co, .inl (G.2.2.2, 6, .inr (.inr (.inr (.inr fO))))), (ck, .inl (G.2.1, 160, .inl (upd (gPf tC 2) 2 20045)))] H := hP1
  have hD1 : va_D (va_A [(t0, .inr (3, [.ref co, .ref en, .ref sk, .int (nI 2), .int (nI 0)])), (co, .inl (G.2.2.2, 6, .inr (.inr (.inr (.inr fO))))), (ck, .inl (G.2.1, 160, .inl (gPf tC 2)))] _) [(t0, .inr (3, [.ref co, .ref en, .ref sk, .int 3, .int 0])), (co, .inl (G.2.2.2, 6, .inr (.inr (.inr (.inr fO))))), (ck, .inl (G.2.1, 160, .inl (upd (gPf tC 2) 2 20045)))] := hD1
  obtain ⟨hP, hD⟩ := va_join (wr := [(h0, .inr (1, [.ref t0, .ref b0, .int 20, .int 59, .int 19, .int 1, .int 40])), (b0, .inl (G.2.1, 160, .inl (gPf tB 40)))]) (w1 := [(t0, .inr (3, [.ref co, .ref en, .ref sk, .int 3, .int 0])), (co, .inl (G.2.2.2, 6, .inr (.inr (.inr (.inr fO))))), (ck, .inl (G.2.1, 160, .inl (upd (gPf tC 2) 2 20045)))]) hP hD [2, 3, 4] [0, 1] rfl rfl (by decide) (by decide) hk1 hFc hP1 hD1
  have hP : va_P G.1 vwCl [(h0, .inr (1, [.ref t0, .ref b0, .int 20, .int 59, .int 19, .int 1, .int 40])), (b0, .inl (G.2.1, 160, .inl (gPf tB 40))), (t0, .inr (3, [.ref co, .ref en, .ref sk, .int 3, .int 0])), (co, .inl (G.2.2.2, 6, .inr (.inr (.inr (.inr fO))))), (ck, .inl (G.2.1, 160, .inl (upd (gPf tC 2) 2 20045)))] H := hP
  have hD : va_D A [(h0, .inr (1, [.ref t0, .ref b0, .int 20, .int 59, .int 19, .int 1, .int 40])), (b0, .inl (G.2.1, 160, .inl (gPf tB 40))), (t0, .inr (3, [.ref co, .ref en, .ref sk, .int 3, .int 0])), (co, .inl (G.2.2.2, 6, .inr (.inr (.inr (.inr fO))))), (ck, .inl (G.2.1, 160, .inl (upd (gPf tC 2) 2 20045)))] := hD
  have hP : va_P G.1 vwCl [(h0, .inr (1, [.ref t0, .ref b0, .int 20, .int 59, .int 19, .int 1, .int 40])), (b0, .inl (G.2.1, 160, .inl (gPf tB 40))), (t0, .inr (3, [.ref co, .ref en, .ref sk, .int 3, .int 0])), (co, .inl (G.2.2.2, 6, .inr (.inr (.inr (.inr fO))))), (ck, .inl (G.2.1, 160, .inl (gPf tC 3)))] H := by rw [gPf_step (t := tC) (k := 2) (x := 20045) (by decide)] at hP; exact hP
  have hD : va_D A [(h0, .inr (1, [.ref t0, .ref b0, .int 20, .int 59, .int 19, .int 1, .int 40])), (b0, .inl (G.2.1, 160, .inl (gPf tB 40))), (t0, .inr (3, [.ref co, .ref en, .ref sk, .int 3, .int 0])), (co, .inl (G.2.2.2, 6, .inr (.inr (.inr (.inr fO))))), (ck, .inl (G.2.1, 160, .inl (gPf tC 3)))] := by rw [gPf_step (t := tC) (k := 2) (x := 20045) (by decide)] at hD; exact hD
  refine lv_iinc (v := 1) (lv' := [(2, .int 1), (3, .int 45), (0, .ref h0), (1, .int 0)]) hx hb dX1_readSum_68 hl (k := 1) rfl (by decide) (by decide) rfl (fun ls hl => ?_)
  refine lv_goto (tgt := 12) hx hb dX1_readSum_71 (by decide) ?_
  refine lv_iload_n hx hb dX1_readSum_12 rfl (lv_at hl 0 rfl) ?_
  refine lv_sipush (v := 160) hx hb dX1_readSum_13 (by decide) ?_
  refine lv_icmp_ge (tgt := 74) hx hb dX1_readSum_16 (by decide) (fun c_23 => ?_) (fun c_23 => ?_)
  · exact absurd c_23 (by decide)
  refine lv_aload_n hx hb dX1_readSum_19 rfl (lv_at hl 2 rfl) ?_
  refine va_get (D := G.1) (ci := 1) (v := .int 59) (C := RX1) (T := TX1) (N := 7) hx hb hts hiX1 hown hK hP 0 rfl rfl 3 (by decide) kf45 (fun _ h9 => h9) rfl dX1_readSum_20 ?_
  refine lv_bipush (v := 43) hx hb dX1_readSum_23 (by decide) ?_
  refine lv_icmp_eq (tgt := 37) hx hb dX1_readSum_25 (by decide) (fun c_24 => ?_) (fun c_24 => ?_)
  · exact absurd c_24 (by decide)
  refine lv_aload_n hx hb dX1_readSum_28 rfl (lv_at hl 2 rfl) ?_
  refine va_get (D := G.1) (ci := 1) (v := .int 59) (C := RX1) (T := TX1) (N := 7) hx hb hts hiX1 hown hK hP 0 rfl rfl 3 (by decide) kf45 (fun _ h9 => h9) rfl dX1_readSum_29 ?_
  refine lv_bipush (v := 45) hx hb dX1_readSum_32 (by decide) ?_
  refine lv_icmp_ne (tgt := 74) hx hb dX1_readSum_34 (by decide) (fun c_25 => ?_) (fun c_25 => ?_)
  rotate_left
  · exact absurd c_25 (by decide)
  refine lv_iconst (v := 1) hx hb dX1_readSum_74 (by decide) ?_
  have hP9 := hP.sub (ws' := [(h0, .inr (1, [.ref t0, .ref b0, .int 20, .int 59, .int 19, .int 1, .int 40])), (b0, .inl (G.2.1, 160, .inl (gPf tB 40))), (t0, .inr (3, [.ref co, .ref en, .ref sk, .int 3, .int 0])), (co, .inl (G.2.2.2, 6, .inr (.inr (.inr (.inr fO))))), (ck, .inl (G.2.1, 160, .inl (gPf tC 3)))]) [0, 1, 2, 3, 4] rfl
  have hD9 := hD.sub (ws' := [(h0, .inr (1, [.ref t0, .ref b0, .int 20, .int 59, .int 19, .int 1, .int 40])), (b0, .inl (G.2.1, 160, .inl (gPf tB 40))), (t0, .inr (3, [.ref co, .ref en, .ref sk, .int 3, .int 0])), (co, .inl (G.2.2.2, 6, .inr (.inr (.inr (.inr fO))))), (ck, .inl (G.2.1, 160, .inl (gPf tC 3)))]) [0, 1, 2, 3, 4] (by decide) rfl
  have hpost : (fun (r : Int32) (u : Unit) => match u with | _ => r = 1) 1 () := by first | trivial | rfl | decide | simp
  exact W.zret (v := 1) hx hb hr (rfl) (fun t ht hW => ⟨⟨1, (), rfl, hpost, by rw [ht]; exact hP9, va_K.moved hW.alike hK, hD9⟩, hS.F ht⟩) hS.2.2 dX1_readSum_75
abbrev q_X1_readNot_a10 (G : gG) (E : gS) (h0 t0 b0 co en sk ck : Nat) (fO : Nat → Option Nat) (A : Nat → Prop) : Array Value → State → Outcome → State → Prop := va_Qi (fun (r : Int32) (u : Unit) => match u with | _ => r = 1) (fun (u : Unit) t => match u with | _ => va_P G.1 vwCl [(h0, .inr (1, [.ref t0, .ref b0, .int 20, .int 59, .int 19, .int 1, .int 40])), (b0, .inl (G.2.1, 160, .inl (gPf tB 40))), (t0, .inr (3, [.ref co, .ref en, .ref sk, .int 3, .int 0])), (co, .inl (G.2.2.2, 6, .inr (.inr (.inr (.inr fO))))), (ck, .inl (G.2.1, 160, .inl (gPf tC 3)))] t.heap ∧ gK G t ∧ va_D A [(h0, .inr (1, [.ref t0, .ref b0, .int 20, .int 59, .int 19, .int 1, .int 40])), (b0, .inl (G.2.1, 160, .inl (gPf tB 40))), (t0, .inr (3, [.ref co, .ref en, .ref sk, .int 3, .int 0])), (co, .inl (G.2.2.2, 6, .inr (.inr (.inr (.inr fO))))), (ck, .inl (G.2.1, 160, .inl (gPf tC 3)))]) A
set_option maxHeartbeats 4000000 in
set_option maxRecDepth 100000 in
theorem c_X1_readNot_a10 (l : Launch) (G : gG) (E : gS) (h0 t0 b0 co en sk ck : Nat) (fO : Nat → Option Nat) (sz : Nat) (hO : fO 0 = some ck) : Met l yX1_readNot wsX1_readNot ({ frames := 10, cells := 0, slots := 0, locals := 214 }) (gPreE G E [.ref h0, .int 0] [(h0, .inr (1, [.ref t0, .ref b0, .int 10, .int 3, .int 6, .int 0, .int 40])), (b0, .inl (G.2.1, 160, .inl (gPf tB 40))), (t0, .inr (3, [.ref co, .ref en, .ref sk, .int 0, .int 0])), (co, .inl (G.2.2.2, 6, .inr (.inr (.inr (.inr fO))))), (ck, .inl (G.2.1, 160, .inl (gPf tC 0)))] sz) (q_X1_readNot_a10 G E h0 t0 b0 co en sk ck fO (va_A [(h0, .inr (1, [.ref t0, .ref b0, .int 10, .int 3, .int 6, .int 0, .int 40])), (b0, .inl (G.2.1, 160, .inl (gPf tB 40))), (t0, .inr (3, [.ref co, .ref en, .ref sk, .int 0, .int 0])), (co, .inl (G.2.2.2, 6, .inr (.inr (.inr (.inr fO))))), (ck, .inl (G.2.1, 160, .inl (gPf tC 0)))] sz)) 0 0 (va_A [(h0, .inr (1, [.ref t0, .ref b0, .int 10, .int 3, .int 6, .int 0, .int 40])), (b0, .inl (G.2.1, 160, .inl (gPf tB 40))), (t0, .inr (3, [.ref co, .ref en, .ref sk, .int 0, .int 0])), (co, .inl (G.2.2.2, 6, .inr (.inr (.inr (.inr fO))))), (ck, .inl (G.2.1, 160, .inl (gPf tC 0)))] sz) := by
  refine Met.ofW (cc := cX1_readNot) (maxL := 3) (ret := (some .boolean)) (by decide) rfl ?_
  intro p e s m args below meth c s₁ B hml hv
  obtain ⟨rfl, hsz, hP, hK, hD0, hE⟩ := hv
  have hx := B.exec
  have hb := B.bytes
  have hr := B.returns
  have hts := atoms_spec (ws := wsX1_readNot) B.pre
  have hown : s.vm.findClass RX1 = some m.cls := findClass_of_methodNamed B.named
  have hlocks := B.notSynchronized
  subst hsz
  have hD := hD0.self (sz := s.heap.size)
  generalize hAe : va_A [(h0, .inr (1, [.ref t0, .ref b0, .int 10, .int 3, .int 6, .int 0, .int 40])), (b0, .inl (G.2.1, 160, .inl (gPf tB 40))), (t0, .inr (3, [.ref co, .ref en, .ref sk, .int 0, .int 0])), (co, .inl (G.2.2.2, 6, .inr (.inr (.inr (.inr fO))))), (ck, .inl (G.2.1, 160, .inl (gPf tC 0)))] s.heap.size = A at hD hE ⊢
  have hA : ∀ q : Nat, s.heap.size ≤ q → A q := fun q h => by rw [← hAe]; exact Or.inr h
  have hS : va_S A s.heap s.heap [] := va_S.rf
  have hP : va_P G.1 vwCl [(h0, .inr (1, [.ref t0, .ref b0, .int 10, .int 3, .int 6, .int 0, .int 40])), (b0, .inl (G.2.1, 160, .inl (gPf tB 40))), (t0, .inr (3, [.ref co, .ref en, .ref sk, .int 0, .int 0])), (co, .inl (G.2.2.2, 6, .inr (.inr (.inr (.inr fO))))), (ck, .inl (G.2.1, 160, .inl (gPf tC 0)))] s.heap := hP
  have hD : va_D A [(h0, .inr (1, [.ref t0, .ref b0, .int 10, .int 3, .int 6, .int 0, .int 40])), (b0, .inl (G.2.1, 160, .inl (gPf tB 40))), (t0, .inr (3, [.ref co, .ref en, .ref sk, .int 0, .int 0])), (co, .inl (G.2.2.2, 6, .inr (.inr (.inr (.inr fO))))), (ck, .inl (G.2.1, 160, .inl (gPf tC 0)))] := hD
  have hl := lv_entry ([.ref h0, .int 0]) (n := 3) (Nat.le_of_ble_eq_true rfl)
  rw [lg_entry_eq]
  generalize (lg_sl ([.ref h0, .int 0]) ++ List.replicate (3 - (lg_sl ([.ref h0, .int 0])).length) Slot.unset).toArray = ls at hl ⊢
  have hl : lv_has ls 3 [(0, .ref h0), (1, .int 0)] := hl
  have kf45 := hts (.fieldLink RX1 45 "PebbleInShoe$Reader" "token" "I") (by decide +kernel)
  have hiX1 := (by decide +kernel : ∀ w ∈ wsX10, w ∈ wsX1_readNot)
  refine lv_aload_n hx hb dX1_readNot_0 rfl (lv_at hl 0 rfl) ?_
  refine va_get (D := G.1) (ci := 1) (v := .int 3) (C := RX1) (T := TX1) (N := 7) hx hb hts hiX1 hown hK hP 0 rfl rfl 3 (by decide) kf45 (fun _ h9 => h9) rfl dX1_readNot_1 ?_
  refine lv_bipush (v := 105) hx hb dX1_readNot_4 (by decide) ?_
  refine lv_icmp_ne (tgt := 44) hx hb dX1_readNot_6 (by decide) (fun c_1 => ?_) (fun c_1 => ?_)
  rotate_left
  · exact absurd c_1 (by decide)
  refine lv_aload_n hx hb dX1_readNot_44 rfl (lv_at hl 0 rfl) ?_
  refine lv_iload_n hx hb dX1_readNot_45 rfl (lv_at hl 1 rfl) ?_
  have hPc : va_P G.1 vwCl [(h0, .inr (1, [.ref t0, .ref b0, .int 10, .int 3, .int 6, .int 0, .int 40])), (b0, .inl (G.2.1, 160, .inl (gPf tB 40))), (t0, .inr (3, [.ref co, .ref en, .ref sk, .int 0, .int 0])), (co, .inl (G.2.2.2, 6, .inr (.inr (.inr (.inr fO))))), (ck, .inl (G.2.1, 160, .inl (gPf tC 0)))] s.heap := hP.sub [0, 1, 2, 3, 4] rfl
  have hDc : va_D A [(h0, .inr (1, [.ref t0, .ref b0, .int 10, .int 3, .int 6, .int 0, .int 40])), (b0, .inl (G.2.1, 160, .inl (gPf tB 40))), (t0, .inr (3, [.ref co, .ref en, .ref sk, .int 0, .int 0])), (co, .inl (G.2.2.2, 6, .inr (.inr (.inr (.inr fO))))), (ck, .inl (G.2.1, 160, .inl (gPf tC 0)))] := hD.sub [0, 1, 2, 3, 4] (by decide) rfl
  have hFc := va_free (wc := [(h0, .inr (1, [.ref t0, .ref b0, .int 10, .int 3, .int 6, .int 0, .int 40])), (b0, .inl (G.2.1, 160, .inl (gPf tB 40))), (t0, .inr (3, [.ref co, .ref en, .ref sk, .int 0, .int 0])), (co, .inl (G.2.2.2, 6, .inr (.inr (.inr (.inr fO))))), (ck, .inl (G.2.1, 160, .inl (gPf tC 0)))]) hD hS hA [0, 1, 2, 3, 4] rfl
  refine va_calli (va_runV (As := [.int 0]) (rest := []) ⟨hx, hb, hml, hown, hts⟩ (c_X1_readSum_a10 l G E h0 t0 b0 co en sk ck fO s.heap.size (hO)) (cwV 1 hts gX1_readNot_X1_readSum rfl rfl rfl (by decide +kernel) ⟨Nat.le_of_ble_eq_true rfl, Nat.le_of_ble_eq_true rfl⟩) ⟨gPreE_blind, va_recv hK hPc (ci := 1) (q0 := 0) rfl rfl, fun U hU hW => gPreE_of hU hW hK hPc hDc hE hS hFc⟩ rfl rfl hl.1 rfl (lv_room (Nat.le_of_ble_eq_true rfl)) dX1_readNot_46 ⟨Nat.le_of_ble_eq_true rfl, Nat.le_of_ble_eq_true rfl⟩) hS (fun q _ h => hFc q h) hFc (fun r_2 u t H locs ht hvm w_3 hB hz1 hk1 hS => ?_)
  obtain ⟨hP1, hK1, hD1⟩ := hB
  rw [ht] at hP1
  have hP1 : va_P G.1 vwCl [(h0, .inr (1, [.ref t0, .ref b0, .int 20, .int 59, .int 19, .int 1, .int 40])), (b0, .inl (G.2.1, 160, .inl (gPf tB 40))), (t0, .inr (3, [.ref co, .ref en, .ref sk, .int 3, .int 0])), (co, .inl (G.2.2.2, 6, .inr (.inr (.inr (.inr fO))))), (ck, .inl (G.2.1, 160, .inl (gPf tC 3)))] H := hP1
  have hD1 : va_D (va_A [(h0, .inr (1, [.ref t0, .ref b0, .int 10, .int 3, .int 6, .int 0, .int 40])), (b0, .inl (G.2.1, 160, .inl (gPf tB 40))), (t0, .inr (3, [.ref co, .ref en, .ref sk, .int 0, .int 0])), (co, .inl (G.2.2.2, 6, .inr (.inr (.inr (.inr fO))))), (ck, .inl (G.2.1, 160, .inl (gPf tC 0)))] s.heap.size) [(h0, .inr (1, [.ref t0, .ref b0, .int 20, .int 59, .int 19, .int 1, .int 40])), (b0, .inl (G.2.1, 160, .inl (gPf tB 40))), (t0, .inr (3, [.ref co, .ref en, .ref sk, .int 3, .int 0])), (co, .inl (G.2.2.2, 6, .inr (.inr (.inr (.inr fO))))), (ck, .inl (G.2.1, 160, .inl (gPf tC 3)))] := hD1
  have w_3 : r_2 = 1 := w_3
  obtain ⟨hP, hD⟩ := va_join (wr := []) (w1 := [(h0, .inr (1, [.ref t0, .ref b0, .int 20, .int 59, .int 19, .int 1, .int 40])), (b0, .inl (G.2.1, 160, .inl (gPf tB 40))), (t0, .inr (3, [.ref co, .ref en, .ref sk, .int 3, .int 0])), (co, .inl (G.2.2.2, 6, .inr (.inr (.inr (.inr fO))))), (ck, .inl (G.2.1, 160, .inl (gPf tC 3)))]) hP hD [0, 1, 2, 3, 4] [] rfl rfl (by decide) (by decide) hk1 hFc hP1 hD1
  have hP : va_P G.1 vwCl [(h0, .inr (1, [.ref t0, .ref b0, .int 20, .int 59, .int 19, .int 1, .int 40])), (b0, .inl (G.2.1, 160, .inl (gPf tB 40))), (t0, .inr (3, [.ref co, .ref en, .ref sk, .int 3, .int 0])), (co, .inl (G.2.2.2, 6, .inr (.inr (.inr (.inr fO))))), (ck, .inl (G.2.1, 160, .inl (gPf tC 3)))] H := hP
  have hD : va_D A [(h0, .inr (1, [.ref t0, .ref b0, .int 20, .int 59, .int 19, .int 1, .int 40])), (b0, .inl (G.2.1, 160, .inl (gPf tB 40))), (t0, .inr (3, [.ref co, .ref en, .ref sk, .int 3, .int 0])), (co, .inl (G.2.2.2, 6, .inr (.inr (.inr (.inr fO))))), (ck, .inl (G.2.1, 160, .inl (gPf tC 3)))] := hD
  have w_3 : r_2 = 1 := w_3
  subst w_3
  refine lv_if_ne (tgt := 54) hx hb dX1_readNot_49 (by decide) (fun c_4 => ?_) (fun c_4 => ?_)
  rotate_left
  · exact absurd c_4 (by decide)
  refine lv_aload_n hx hb dX1_readNot_54 rfl (lv_at hl 0 rfl) ?_
  refine va_get (D := G.1) (ci := 1) (v := .int 59) (C := RX1) (T := TX1) (N := 7) hx hb hts hiX1 hown hK hP 0 rfl rfl 3 (by decide) kf45 (fun _ h9 => h9) rfl dX1_readNot_55 ?_
  refine lv_bipush (v := 60) hx hb dX1_readNot_58 (by decide) ?_
  refine lv_icmp_eq (tgt := 74) hx hb dX1_readNot_60 (by decide) (fun c_5 => ?_) (fun c_5 => ?_)
  · exact absurd c_5 (by decide)
  refine lv_aload_n hx hb dX1_readNot_63 rfl (lv_at hl 0 rfl) ?_
  refine va_get (D := G.1) (ci := 1) (v := .int 59) (C := RX1) (T := TX1) (N := 7) hx hb hts hiX1 hown hK hP 0 rfl rfl 3 (by decide) kf45 (fun _ h9 => h9) rfl dX1_readNot_64 ?_
  refine lv_bipush (v := 61) hx hb dX1_readNot_67 (by decide) ?_
  refine lv_icmp_eq (tgt := 74) hx hb dX1_readNot_69 (by decide) (fun c_6 => ?_) (fun c_6 => ?_)
  · exact absurd c_6 (by decide)
  refine lv_iconst (v := 1) hx hb dX1_readNot_72 (by decide) ?_
  have hP9 := hP.sub (ws' := [(h0, .inr (1, [.ref t0, .ref b0, .int 20, .int 59, .int 19, .int 1, .int 40])), (b0, .inl (G.2.1, 160, .inl (gPf tB 40))), (t0, .inr (3, [.ref co, .ref en, .ref sk, .int 3, .int 0])), (co, .inl (G.2.2.2, 6, .inr (.inr (.inr (.inr fO))))), (ck, .inl (G.2.1, 160, .inl (gPf tC 3)))]) [0, 1, 2, 3, 4] rfl
  have hD9 := hD.sub (ws' := [(h0, .inr (1, [.ref t0, .ref b0, .int 20, .int 59, .int 19, .int 1, .int 40])), (b0, .inl (G.2.1, 160, .inl (gPf tB 40))), (t0, .inr (3, [.ref co, .ref en, .ref sk, .int 3, .int 0])), (co, .inl (G.2.2.2, 6, .inr (.inr (.inr (.inr fO))))), (ck, .inl (G.2.1, 160, .inl (gPf tC 3)))]) [0, 1, 2, 3, 4] (by decide) rfl
  have hpost : (fun (r : Int32) (u : Unit) => match u with | _ => r = 1) 1 () := by first | trivial | rfl | decide | simp
  exact W.zret (v := 1) hx hb hr (rfl) (fun t ht hW => ⟨⟨1, (), rfl, hpost, by rw [ht]; exact hP9, va_K.moved hW.alike hK, hD9⟩, hS.F ht⟩) hS.2.2 dX1_readNot_73
abbrev q_X1_readAnd_a10 (G : gG) (E : gS) (h0 t0 b0 co en sk ck : Nat) (fO : Nat → Option Nat) (A : Nat → Prop) : Array Value → State → Outcome → State → Prop := va_Qi (fun (r : Int32) (u : Unit) => match u with | _ => r = 1) (fun (u : Unit) t => match u with | _ => va_P G.1 vwCl [(h0, .inr (1, [.ref t0, .ref b0, .int 20, .int 59, .int 19, .int 1, .int 40])), (b0, .inl (G.2.1, 160, .inl (gPf tB 40))), (t0, .inr (3, [.ref co, .ref en, .ref sk, .int 3, .int 0])), (co, .inl (G.2.2.2, 6, .inr (.inr (.inr (.inr fO))))), (ck, .inl (G.2.1, 160, .inl (gPf tC 3)))] t.heap ∧ gK G t ∧ va_D A [(h0, .inr (1, [.ref t0, .ref b0, .int 20, .int 59, .int 19, .int 1, .int 40])), (b0, .inl (G.2.1, 160, .inl (gPf tB 40))), (t0, .inr (3, [.ref co, .ref en, .ref sk, .int 3, .int 0])), (co, .inl (G.2.2.2, 6, .inr (.inr (.inr (.inr fO))))), (ck, .inl (G.2.1, 160, .inl (gPf tC 3)))]) A
set_option maxHeartbeats 4000000 in
set_option maxRecDepth 100000 in
theorem c_X1_readAnd_a10 (l : Launch) (G : gG) (E : gS) (h0 t0 b0 co en sk ck : Nat) (fO : Nat → Option Nat) (sz : Nat) (hO : fO 0 = some ck) : Met l yX1_readAnd wsX1_readAnd ({ frames := 11, cells := 0, slots := 0, locals := 236 }) (gPreE G E [.ref h0, .int 0] [(h0, .inr (1, [.ref t0, .ref b0, .int 10, .int 3, .int 6, .int 0, .int 40])), (b0, .inl (G.2.1, 160, .inl (gPf tB 40))), (t0, .inr (3, [.ref co, .ref en, .ref sk, .int 0, .int 0])), (co, .inl (G.2.2.2, 6, .inr (.inr (.inr (.inr fO))))), (ck, .inl (G.2.1, 160, .inl (gPf tC 0)))] sz) (q_X1_readAnd_a10 G E h0 t0 b0 co en sk ck fO (va_A [(h0, .inr (1, [.ref t0, .ref b0, .int 10, .int 3, .int 6, .int 0, .int 40])), (b0, .inl (G.2.1, 160, .inl (gPf tB 40))), (t0, .inr (3, [.ref co, .ref en, .ref sk, .int 0, .int 0])), (co, .inl (G.2.2.2, 6, .inr (.inr (.inr (.inr fO))))), (ck, .inl (G.2.1, 160, .inl (gPf tC 0)))] sz)) 0 0 (va_A [(h0, .inr (1, [.ref t0, .ref b0, .int 10, .int 3, .int 6, .int 0, .int 40])), (b0, .inl (G.2.1, 160, .inl (gPf tB 40))), (t0, .inr (3, [.ref co, .ref en, .ref sk, .int 0, .int 0])), (co, .inl (G.2.2.2, 6, .inr (.inr (.inr (.inr fO))))), (ck, .inl (G.2.1, 160, .inl (gPf tC 0)))] sz) := by
  refine Met.ofW (cc := cX1_readAnd) (maxL := 3) (ret := (some .boolean)) (by decide) rfl ?_
  intro p e s m args below meth c s₁ B hml hv
  obtain ⟨rfl, hsz, hP, hK, hD0, hE⟩ := hv
  have hx := B.exec
  have hb := B.bytes
  have hr := B.returns
  have hts := atoms_spec (ws := wsX1_readAnd) B.pre
  have hown : s.vm.findClass RX1 = some m.cls := findClass_of_methodNamed B.named
  have hlocks := B.notSynchronized
  subst hsz
  have hD := hD0.self (sz := s.heap.size)
  generalize hAe : va_A [(h0, .inr (1, [.ref t0, .ref b0, .int 10, .int 3, .int 6, .int 0, .int 40])), (b0, .inl (G.2.1, 160, .inl (gPf tB 40))), (t0, .inr (3, [.ref co, .ref en, .ref sk, .int 0, .int 0])), (co, .inl (G.2.2.2, 6, .inr (.inr (.inr (.inr fO))))), (ck, .inl (G.2.1, 160, .inl (gPf tC 0)))] s.heap.size = A at hD hE ⊢
  have hA : ∀ q : Nat, s.heap.size ≤ q → A q := fun q h => by rw [← hAe]; exact Or.inr h
  have hS : va_S A s.heap s.heap [] := va_S.rf
  have hP : va_P G.1 vwCl [(h0, .inr (1, [.ref t0, .ref b0, .int 10, .int 3, .int 6, .int 0, .int 40])), (b0, .inl (G.2.1, 160, .inl (gPf tB 40))), (t0, .inr (3, [.ref co, .ref en, .ref sk, .int 0, .int 0])), (co, .inl (G.2.2.2, 6, .inr (.inr (.inr (.inr fO))))), (ck, .inl (G.2.1, 160, .inl (gPf tC 0)))] s.heap := hP
  have hD : va_D A [(h0, .inr (1, [.ref t0, .ref b0, .int 10, .int 3, .int 6, .int 0, .int 40])), (b0, .inl (G.2.1, 160, .inl (gPf tB 40))), (t0, .inr (3, [.ref co, .ref en, .ref sk, .int 0, .int 0])), (co, .inl (G.2.2.2, 6, .inr (.inr (.inr (.inr fO))))), (ck, .inl (G.2.1, 160, .inl (gPf tC 0)))] := hD
  have hl := lv_entry ([.ref h0, .int 0]) (n := 3) (Nat.le_of_ble_eq_true rfl)
  rw [lg_entry_eq]
  generalize (lg_sl ([.ref h0, .int 0]) ++ List.replicate (3 - (lg_sl ([.ref h0, .int 0])).length) Slot.unset).toArray = ls at hl ⊢
  have hl : lv_has ls 3 [(0, .ref h0), (1, .int 0)] := hl
  have kf45 := hts (.fieldLink RX1 45 "PebbleInShoe$Reader" "token" "I") (by decide +kernel)
  have hiX1 := (by decide +kernel : ∀ w ∈ wsX10, w ∈ wsX1_readAnd)
  refine lv_aload_n hx hb dX1_readAnd_0 rfl (lv_at hl 0 rfl) ?_
  refine lv_iload_n hx hb dX1_readAnd_1 rfl (lv_at hl 1 rfl) ?_
  have hPc : va_P G.1 vwCl [(h0, .inr (1, [.ref t0, .ref b0, .int 10, .int 3, .int 6, .int 0, .int 40])), (b0, .inl (G.2.1, 160, .inl (gPf tB 40))), (t0, .inr (3, [.ref co, .ref en, .ref sk, .int 0, .int 0])), (co, .inl (G.2.2.2, 6, .inr (.inr (.inr (.inr fO))))), (ck, .inl (G.2.1, 160, .inl (gPf tC 0)))] s.heap := hP.sub [0, 1, 2, 3, 4] rfl
  have hDc : va_D A [(h0, .inr (1, [.ref t0, .ref b0, .int 10, .int 3, .int 6, .int 0, .int 40])), (b0, .inl (G.2.1, 160, .inl (gPf tB 40))), (t0, .inr (3, [.ref co, .ref en, .ref sk, .int 0, .int 0])), (co, .inl (G.2.2.2, 6, .inr (.inr (.inr (.inr fO))))), (ck, .inl (G.2.1, 160, .inl (gPf tC 0)))] := hD.sub [0, 1, 2, 3, 4] (by decide) rfl
  have hFc := va_free (wc := [(h0, .inr (1, [.ref t0, .ref b0, .int 10, .int 3, .int 6, .int 0, .int 40])), (b0, .inl (G.2.1, 160, .inl (gPf tB 40))), (t0, .inr (3, [.ref co, .ref en, .ref sk, .int 0, .int 0])), (co, .inl (G.2.2.2, 6, .inr (.inr (.inr (.inr fO))))), (ck, .inl (G.2.1, 160, .inl (gPf tC 0)))]) hD hS hA [0, 1, 2, 3, 4] rfl
  refine va_calli (va_runV (As := [.int 0]) (rest := []) ⟨hx, hb, hml, hown, hts⟩ (c_X1_readNot_a10 l G E h0 t0 b0 co en sk ck fO s.heap.size (hO)) (cwV 1 hts gX1_readAnd_X1_readNot rfl rfl rfl (by decide +kernel) ⟨Nat.le_of_ble_eq_true rfl, Nat.le_of_ble_eq_true rfl⟩) ⟨gPreE_blind, va_recv hK hPc (ci := 1) (q0 := 0) rfl rfl, fun U hU hW => gPreE_of hU hW hK hPc hDc hE hS hFc⟩ rfl rfl hl.1 rfl (lv_room (Nat.le_of_ble_eq_true rfl)) dX1_readAnd_2 ⟨Nat.le_of_ble_eq_true rfl, Nat.le_of_ble_eq_true rfl⟩) hS (fun q _ h => hFc q h) hFc (fun r_1 u t H locs ht hvm w_2 hB hz1 hk1 hS => ?_)
  obtain ⟨hP1, hK1, hD1⟩ := hB
  rw [ht] at hP1
  have hP1 : va_P G.1 vwCl [(h0, .inr (1, [.ref t0, .ref b0, .int 20, .int 59, .int 19, .int 1, .int 40])), (b0, .inl (G.2.1, 160, .inl (gPf tB 40))), (t0, .inr (3, [.ref co, .ref en, .ref sk, .int 3, .int 0])), (co, .inl (G.2.2.2, 6, .inr (.inr (.inr (.inr fO))))), (ck, .inl (G.2.1, 160, .inl (gPf tC 3)))] H := hP1
  have hD1 : va_D (va_A [(h0, .inr (1, [.ref t0, .ref b0, .int 10, .int 3, .int 6, .int 0, .int 40])), (b0, .inl (G.2.1, 160, .inl (gPf tB 40))), (t0, .inr (3, [.ref co, .ref en, .ref sk, .int 0, .int 0])), (co, .inl (G.2.2.2, 6, .inr (.inr (.inr (.inr fO))))), (ck, .inl (G.2.1, 160, .inl (gPf tC 0)))] s.heap.size) [(h0, .inr (1, [.ref t0, .ref b0, .int 20, .int 59, .int 19, .int 1, .int 40])), (b0, .inl (G.2.1, 160, .inl (gPf tB 40))), (t0, .inr (3, [.ref co, .ref en, .ref sk, .int 3, .int 0])), (co, .inl (G.2.2.2, 6, .inr (.inr (.inr (.inr fO))))), (ck, .inl (G.2.1, 160, .inl (gPf tC 3)))] := hD1
  have w_2 : r_1 = 1 := w_2
  obtain ⟨hP, hD⟩ := va_join (wr := []) (w1 := [(h0, .inr (1, [.ref t0, .ref b0, .int 20, .int 59, .int 19, .int 1, .int 40])), (b0, .inl (G.2.1, 160, .inl (gPf tB 40))), (t0, .inr (3, [.ref co, .ref en, .ref sk, .int 3, .int 0])), (co, .inl (G.2.2.2, 6, .inr (.inr (.inr (.inr fO))))), (ck, .inl (G.2.1, 160, .inl (gPf tC 3)))]) hP hD [0, 1, 2, 3, 4] [] rfl rfl (by decide) (by decide) hk1 hFc hP1 hD1
  have hP : va_P G.1 vwCl [(h0, .inr (1, [.ref t0, .ref b0, .int 20, .int 59, .int 19, .int 1, .int 40])), (b0, .inl (G.2.1, 160, .inl (gPf tB 40))), (t0, .inr (3, [.ref co, .ref en, .ref sk, .int 3, .int 0])), (co, .inl (G.2.2.2, 6, .inr (.inr (.inr (.inr fO))))), (ck, .inl (G.2.1, 160, .inl (gPf tC 3)))] H := hP
  have hD : va_D A [(h0, .inr (1, [.ref t0, .ref b0, .int 20, .int 59, .int 19, .int 1, .int 40])), (b0, .inl (G.2.1, 160, .inl (gPf tB 40))), (t0, .inr (3, [.ref co, .ref en, .ref sk, .int 3, .int 0])), (co, .inl (G.2.2.2, 6, .inr (.inr (.inr (.inr fO))))), (ck, .inl (G.2.1, 160, .inl (gPf tC 3)))] := hD
  have w_2 : r_1 = 1 := w_2
  subst w_2
  refine lv_if_ne (tgt := 10) hx hb dX1_readAnd_5 (by decide) (fun c_3 => ?_) (fun c_3 => ?_)
  rotate_left
  · exact absurd c_3 (by decide)
  refine lv_iconst (v := 0) hx hb dX1_readAnd_10 (by decide) ?_
  refine lv_istore_n (lv' := [(2, .int 0), (0, .ref h0), (1, .int 0)]) hx hb dX1_readAnd_11 rfl hl (by decide) rfl (fun ls hl => ?_)
  refine lv_iload_n hx hb dX1_readAnd_12 rfl (lv_at hl 0 rfl) ?_
  refine lv_sipush (v := 160) hx hb dX1_readAnd_13 (by decide) ?_
  refine lv_icmp_ge (tgt := 58) hx hb dX1_readAnd_16 (by decide) (fun c_4 => ?_) (fun c_4 => ?_)
  · exact absurd c_4 (by decide)
  refine lv_aload_n hx hb dX1_readAnd_19 rfl (lv_at hl 1 rfl) ?_
  refine va_get (D := G.1) (ci := 1) (v := .int 59) (C := RX1) (T := TX1) (N := 7) hx hb hts hiX1 hown hK hP 0 rfl rfl 3 (by decide) kf45 (fun _ h9 => h9) rfl dX1_readAnd_20 ?_
  refine lv_bipush (v := 104) hx hb dX1_readAnd_23 (by decide) ?_
  refine lv_icmp_ne (tgt := 58) hx hb dX1_readAnd_25 (by decide) (fun c_5 => ?_) (fun c_5 => ?_)
  rotate_left
  · exact absurd c_5 (by decide)
  refine lv_iconst (v := 1) hx hb dX1_readAnd_58 (by decide) ?_
  have hP9 := hP.sub (ws' := [(h0, .inr (1, [.ref t0, .ref b0, .int 20, .int 59, .int 19, .int 1, .int 40])), (b0, .inl (G.2.1, 160, .inl (gPf tB 40))), (t0, .inr (3, [.ref co, .ref en, .ref sk, .int 3, .int 0])), (co, .inl (G.2.2.2, 6, .inr (.inr (.inr (.inr fO))))), (ck, .inl (G.2.1, 160, .inl (gPf tC 3)))]) [0, 1, 2, 3, 4] rfl
  have hD9 := hD.sub (ws' := [(h0, .inr (1, [.ref t0, .ref b0, .int 20, .int 59, .int 19, .int 1, .int 40])), (b0, .inl (G.2.1, 160, .inl (gPf tB 40))), (t0, .inr (3, [.ref co, .ref en, .ref sk, .int 3, .int 0])), (co, .inl (G.2.2.2, 6, .inr (.inr (.inr (.inr fO))))), (ck, .inl (G.2.1, 160, .inl (gPf tC 3)))]) [0, 1, 2, 3, 4] (by decide) rfl
  have hpost : (fun (r : Int32) (u : Unit) => match u with | _ => r = 1) 1 () := by first | trivial | rfl | decide | simp
  exact W.zret (v := 1) hx hb hr (rfl) (fun t ht hW => ⟨⟨1, (), rfl, hpost, by rw [ht]; exact hP9, va_K.moved hW.alike hK, hD9⟩, hS.F ht⟩) hS.2.2 dX1_readAnd_59
abbrev q_X1_readOr_a10 (G : gG) (E : gS) (h0 t0 b0 co en sk ck : Nat) (fO : Nat → Option Nat) (A : Nat → Prop) : Array Value → State → Outcome → State → Prop := va_Qi (fun (r : Int32) (u : Unit) => match u with | _ => r = 1) (fun (u : Unit) t => match u with | _ => va_P G.1 vwCl [(h0, .inr (1, [.ref t0, .ref b0, .int 20, .int 59, .int 19, .int 1, .int 40])), (b0, .inl (G.2.1, 160, .inl (gPf tB 40))), (t0, .inr (3, [.ref co, .ref en, .ref sk, .int 3, .int 0])), (co, .inl (G.2.2.2, 6, .inr (.inr (.inr (.inr fO))))), (ck, .inl (G.2.1, 160, .inl (gPf tC 3)))] t.heap ∧ gK G t ∧ va_D A [(h0, .inr (1, [.ref t0, .ref b0, .int 20, .int 59, .int 19, .int 1, .int 40])), (b0, .inl (G.2.1, 160, .inl (gPf tB 40))), (t0, .inr (3, [.ref co, .ref en, .ref sk, .int 3, .int 0])), (co, .inl (G.2.2.2, 6, .inr (.inr (.inr (.inr fO))))), (ck, .inl (G.2.1, 160, .inl (gPf tC 3)))]) A
set_option maxHeartbeats 4000000 in
set_option maxRecDepth 100000 in
theorem c_X1_readOr_a10 (l : Launch) (G : gG) (E : gS) (h0 t0 b0 co en sk ck : Nat) (fO : Nat → Option Nat) (sz : Nat) (hO : fO 0 = some ck) : Met l yX1_readOr wsX1_readOr ({ frames := 12, cells := 0, slots := 0, locals := 258 }) (gPreE G E [.ref h0, .int 0] [(h0, .inr (1, [.ref t0, .ref b0, .int 10, .int 3, .int 6, .int 0, .int 40])), (b0, .inl (G.2.1, 160, .inl (gPf tB 40))), (t0, .inr (3, [.ref co, .ref en, .ref sk, .int 0, .int 0])), (co, .inl (G.2.2.2, 6, .inr (.inr (.inr (.inr fO))))), (ck, .inl (G.2.1, 160, .inl (gPf tC 0)))] sz) (q_X1_readOr_a10 G E h0 t0 b0 co en sk ck fO (va_A [(h0, .inr (1, [.ref t0, .ref b0, .int 10, .int 3, .int 6, .int 0, .int 40])), (b0, .inl (G.2.1, 160, .inl (gPf tB 40))), (t0, .inr (3, [.ref co, .ref en, .ref sk, .int 0, .int 0])), (co, .inl (G.2.2.2, 6, .inr (.inr (.inr (.inr fO))))), (ck, .inl (G.2.1, 160, .inl (gPf tC 0)))] sz)) 0 0 (va_A [(h0, .inr (1, [.ref t0, .ref b0, .int 10, .int 3, .int 6, .int 0, .int 40])), (b0, .inl (G.2.1, 160, .inl (gPf tB 40))), (t0, .inr (3, [.ref co, .ref en, .ref sk, .int 0, .int 0])), (co, .inl (G.2.2.2, 6, .inr (.inr (.inr (.inr fO))))), (ck, .inl (G.2.1, 160, .inl (gPf tC 0)))] sz) := by
  refine Met.ofW (cc := cX1_readOr) (maxL := 3) (ret := (some .boolean)) (by decide) rfl ?_
  intro p e s m args below meth c s₁ B hml hv
  obtain ⟨rfl, hsz, hP, hK, hD0, hE⟩ := hv
  have hx := B.exec
  have hb := B.bytes
  have hr := B.returns
  have hts := atoms_spec (ws := wsX1_readOr) B.pre
  have hown : s.vm.findClass RX1 = some m.cls := findClass_of_methodNamed B.named
  have hlocks := B.notSynchronized
  subst hsz
  have hD := hD0.self (sz := s.heap.size)
  generalize hAe : va_A [(h0, .inr (1, [.ref t0, .ref b0, .int 10, .int 3, .int 6, .int 0, .int 40])), (b0, .inl (G.2.1, 160, .inl (gPf tB 40))), (t0, .inr (3, [.ref co, .ref en, .ref sk, .int 0, .int 0])), (co, .inl (G.2.2.2, 6, .inr (.inr (.inr (.inr fO))))), (ck, .inl (G.2.1, 160, .inl (gPf tC 0)))] s.heap.size = A at hD hE ⊢
  have hA : ∀ q : Nat, s.heap.size ≤ q → A q := fun q h => by rw [← hAe]; exact Or.inr h
  have hS : va_S A s.heap s.heap [] := va_S.rf
  have hP : va_P G.1 vwCl [(h0, .inr (1, [.ref t0, .ref b0, .int 10, .int 3, .int 6, .int 0, .int 40])), (b0, .inl (G.2.1, 160, .inl (gPf tB 40))), (t0, .inr (3, [.ref co, .ref en, .ref sk, .int 0, .int 0])), (co, .inl (G.2.2.2, 6, .inr (.inr (.inr (.inr fO))))), (ck, .inl (G.2.1, 160, .inl (gPf tC 0)))] s.heap := hP
  have hD : va_D A [(h0, .inr (1, [.ref t0, .ref b0, .int 10, .int 3, .int 6, .int 0, .int 40])), (b0, .inl (G.2.1, 160, .inl (gPf tB 40))), (t0, .inr (3, [.ref co, .ref en, .ref sk, .int 0, .int 0])), (co, .inl (G.2.2.2, 6, .inr (.inr (.inr (.inr fO))))), (ck, .inl (G.2.1, 160, .inl (gPf tC 0)))] := hD
  have hl := lv_entry ([.ref h0, .int 0]) (n := 3) (Nat.le_of_ble_eq_true rfl)
  rw [lg_entry_eq]
  generalize (lg_sl ([.ref h0, .int 0]) ++ List.replicate (3 - (lg_sl ([.ref h0, .int 0])).length) Slot.unset).toArray = ls at hl ⊢
  have hl : lv_has ls 3 [(0, .ref h0), (1, .int 0)] := hl
  have kf45 := hts (.fieldLink RX1 45 "PebbleInShoe$Reader" "token" "I") (by decide +kernel)
  have hiX1 := (by decide +kernel : ∀ w ∈ wsX10, w ∈ wsX1_readOr)
  refine lv_aload_n hx hb dX1_readOr_0 rfl (lv_at hl 0 rfl) ?_
  refine lv_iload_n hx hb dX1_readOr_1 rfl (lv_at hl 1 rfl) ?_
  have hPc : va_P G.1 vwCl [(h0, .inr (1, [.ref t0, .ref b0, .int 10, .int 3, .int 6, .int 0, .int 40])), (b0, .inl (G.2.1, 160, .inl (gPf tB 40))), (t0, .inr (3, [.ref co, .ref en, .ref sk, .int 0, .int 0])), (co, .inl (G.2.2.2, 6, .inr (.inr (.inr (.inr fO))))), (ck, .inl (G.2.1, 160, .inl (gPf tC 0)))] s.heap := hP.sub [0, 1, 2, 3, 4] rfl
  have hDc : va_D A [(h0, .inr (1, [.ref t0, .ref b0, .int 10, .int 3, .int 6, .int 0, .int 40])), (b0, .inl (G.2.1, 160, .inl (gPf tB 40))), (t0, .inr (3, [.ref co, .ref en, .ref sk, .int 0, .int 0])), (co, .inl (G.2.2.2, 6, .inr (.inr (.inr (.inr fO))))), (ck, .inl (G.2.1, 160, .inl (gPf tC 0)))] := hD.sub [0, 1, 2, 3, 4] (by decide) rfl
  have hFc := va_free (wc := [(h0, .inr (1, [.ref t0, .ref b0, .int 10, .int 3, .int 6, .int 0, .int 40])), (b0, .inl (G.2.1, 160, .inl (gPf tB 40))), (t0, .inr (3, [.ref co, .ref en, .ref sk, .int 0, .int 0])), (co, .inl (G.2.2.2, 6, .inr (.inr (.inr (.inr fO))))), (ck, .inl (G.2.1, 160, .inl (gPf tC 0)))]) hD hS hA [0, 1, 2, 3, 4] rfl
  refine va_calli (va_runV (As := [.int 0]) (rest := []) ⟨hx, hb, hml, hown, hts⟩ (c_X1_readAnd_a10 l G E h0 t0 b0 co en sk ck fO s.heap.size (hO)) (cwV 1 hts gX1_readOr_X1_readAnd rfl rfl rfl (by decide +kernel) ⟨Nat.le_of_ble_eq_true rfl, Nat.le_of_ble_eq_true rfl⟩) ⟨gPreE_blind, va_recv hK hPc (ci := 1) (q0 := 0) rfl rfl, fun U hU hW => gPreE_of hU hW hK hPc hDc hE hS hFc⟩ rfl rfl hl.1 rfl (lv_room (Nat.le_of_ble_eq_true rfl)) dX1_readOr_2 ⟨Nat.le_of_ble_eq_true rfl, Nat.le_of_ble_eq_true rfl⟩) hS (fun q _ h => hFc q h) hFc (fun r_1 u t H locs ht hvm w_2 hB hz1 hk1 hS => ?_)
  obtain ⟨hP1, hK1, hD1⟩ := hB
  rw [ht] at hP1
  have hP1 : va_P G.1 vwCl [(h0, .inr (1, [.ref t0, .ref b0, .int 20, .int 59, .int 19, .int 1, .int 40])), (b0, .inl (G.2.1, 160, .inl (gPf tB 40))), (t0, .inr (3, [.ref co, .ref en, .ref sk, .int 3, .int 0])), (co, .inl (G.2.2.2, 6, .inr (.inr (.inr (.inr fO))))), (ck, .inl (G.2.1, 160, .inl (gPf tC 3)))] H := hP1
  have hD1 : va_D (va_A [(h0, .inr (1, [.ref t0, .ref b0, .int 10, .int 3, .int 6, .int 0, .int 40])), (b0, .inl (G.2.1, 160, .inl (gPf tB 40))), (t0, .inr (3, [.ref co, .ref en, .ref sk, .int 0, .int 0])), (co, .inl (G.2.2.2, 6, .inr (.inr (.inr (.inr fO))))), (ck, .inl (G.2.1, 160, .inl (gPf tC 0)))] s.heap.size) [(h0, .inr (1, [.ref t0, .ref b0, .int 20, .int 59, .int 19, .int 1, .int 40])), (b0, .inl (G.2.1, 160, .inl (gPf tB 40))), (t0, .inr (3, [.ref co, .ref en, .ref sk, .int 3, .int 0])), (co, .inl (G.2.2.2, 6, .inr (.inr (.inr (.inr fO))))), (ck, .inl (G.2.1, 160, .inl (gPf tC 3)))] := hD1
  have w_2 : r_1 = 1 := w_2
  obtain ⟨hP, hD⟩ := va_join (wr := []) (w1 := [(h0, .inr (1, [.ref t0, .ref b0, .int 20, .int 59, .int 19, .int 1, .int 40])), (b0, .inl (G.2.1, 160, .inl (gPf tB 40))), (t0, .inr (3, [.ref co, .ref en, .ref sk, .int 3, .int 0])), (co, .inl (G.2.2.2, 6, .inr (.inr (.inr (.inr fO))))), (ck, .inl (G.2.1, 160, .inl (gPf tC 3)))]) hP hD [0, 1, 2, 3, 4] [] rfl rfl (by decide) (by decide) hk1 hFc hP1 hD1
  have hP : va_P G.1 vwCl [(h0, .inr (1, [.ref t0, .ref b0, .int 20, .int 59, .int 19, .int 1, .int 40])), (b0, .inl (G.2.1, 160, .inl (gPf tB 40))), (t0, .inr (3, [.ref co, .ref en, .ref sk, .int 3, .int 0])), (co, .inl (G.2.2.2, 6, .inr (.inr (.inr (.inr fO))))), (ck, .inl (G.2.1, 160, .inl (gPf tC 3)))] H := hP
  have hD : va_D A [(h0, .inr (1, [.ref t0, .ref b0, .int 20, .int 59, .int 19, .int 1, .int 40])), (b0, .inl (G.2.1, 160, .inl (gPf tB 40))), (t0, .inr (3, [.ref co, .ref en, .ref sk, .int 3, .int 0])), (co, .inl (G.2.2.2, 6, .inr (.inr (.inr (.inr fO))))), (ck, .inl (G.2.1, 160, .inl (gPf tC 3)))] := hD
  have w_2 : r_1 = 1 := w_2
  subst w_2
  refine lv_if_ne (tgt := 10) hx hb dX1_readOr_5 (by decide) (fun c_3 => ?_) (fun c_3 => ?_)
  rotate_left
  · exact absurd c_3 (by decide)
  refine lv_iconst (v := 0) hx hb dX1_readOr_10 (by decide) ?_
  refine lv_istore_n (lv' := [(2, .int 0), (0, .ref h0), (1, .int 0)]) hx hb dX1_readOr_11 rfl hl (by decide) rfl (fun ls hl => ?_)
  refine lv_iload_n hx hb dX1_readOr_12 rfl (lv_at hl 0 rfl) ?_
  refine lv_sipush (v := 160) hx hb dX1_readOr_13 (by decide) ?_
  refine lv_icmp_ge (tgt := 58) hx hb dX1_readOr_16 (by decide) (fun c_4 => ?_) (fun c_4 => ?_)
  · exact absurd c_4 (by decide)
  refine lv_aload_n hx hb dX1_readOr_19 rfl (lv_at hl 1 rfl) ?_
  refine va_get (D := G.1) (ci := 1) (v := .int 59) (C := RX1) (T := TX1) (N := 7) hx hb hts hiX1 hown hK hP 0 rfl rfl 3 (by decide) kf45 (fun _ h9 => h9) rfl dX1_readOr_20 ?_
  refine lv_bipush (v := 103) hx hb dX1_readOr_23 (by decide) ?_
  refine lv_icmp_ne (tgt := 58) hx hb dX1_readOr_25 (by decide) (fun c_5 => ?_) (fun c_5 => ?_)
  rotate_left
  · exact absurd c_5 (by decide)
  refine lv_iconst (v := 1) hx hb dX1_readOr_58 (by decide) ?_
  have hP9 := hP.sub (ws' := [(h0, .inr (1, [.ref t0, .ref b0, .int 20, .int 59, .int 19, .int 1, .int 40])), (b0, .inl (G.2.1, 160, .inl (gPf tB 40))), (t0, .inr (3, [.ref co, .ref en, .ref sk, .int 3, .int 0])), (co, .inl (G.2.2.2, 6, .inr (.inr (.inr (.inr fO))))), (ck, .inl (G.2.1, 160, .inl (gPf tC 3)))]) [0, 1, 2, 3, 4] rfl
  have hD9 := hD.sub (ws' := [(h0, .inr (1, [.ref t0, .ref b0, .int 20, .int 59, .int 19, .int 1, .int 40])), (b0, .inl (G.2.1, 160, .inl (gPf tB 40))), (t0, .inr (3, [.ref co, .ref en, .ref sk, .int 3, .int 0])), (co, .inl (G.2.2.2, 6, .inr (.inr (.inr (.inr fO))))), (ck, .inl (G.2.1, 160, .inl (gPf tC 3)))]) [0, 1, 2, 3, 4] (by decide) rfl
  have hpost : (fun (r : Int32) (u : Unit) => match u with | _ => r = 1) 1 () := by first | trivial | rfl | decide | simp
  exact W.zret (v := 1) hx hb hr (rfl) (fun t ht hW => ⟨⟨1, (), rfl, hpost, by rw [ht]; exact hP9, va_K.moved hW.alike hK, hD9⟩, hS.F ht⟩) hS.2.2 dX1_readOr_59
abbrev q_X1_readOne_a28 (G : gG) (E : gS) (h0 t0 b0 co en sk ck : Nat) (fO : Nat → Option Nat) (A : Nat → Prop) : Array Value → State → Outcome → State → Prop := va_Qi (fun (r : Int32) (u : Unit) => match u with | _ => r = 1) (fun (u : Unit) t => match u with | _ => va_P G.1 vwCl [(h0, .inr (1, [.ref t0, .ref b0, .int 30, .int 59, .int 29, .int 1, .int 40])), (b0, .inl (G.2.1, 160, .inl (gPf tB 40))), (t0, .inr (3, [.ref co, .ref en, .ref sk, .int 4, .int 0])), (co, .inl (G.2.2.2, 6, .inr (.inr (.inr (.inr fO))))), (ck, .inl (G.2.1, 160, .inl (gPf tC 4)))] t.heap ∧ gK G t ∧ va_D A [(h0, .inr (1, [.ref t0, .ref b0, .int 30, .int 59, .int 29, .int 1, .int 40])), (b0, .inl (G.2.1, 160, .inl (gPf tB 40))), (t0, .inr (3, [.ref co, .ref en, .ref sk, .int 4, .int 0])), (co, .inl (G.2.2.2, 6, .inr (.inr (.inr (.inr fO))))), (ck, .inl (G.2.1, 160, .inl (gPf tC 4)))]) A
set_option maxHeartbeats 4000000 in
set_option maxRecDepth 100000 in
theorem c_X1_readOne_a28 (l : Launch) (G : gG) (E : gS) (h0 t0 b0 co en sk ck : Nat) (fO : Nat → Option Nat) (sz : Nat) (hO : fO 0 = some ck) : Met l yX1_readOne wsX1_readOne ({ frames := 7, cells := 0, slots := 0, locals := 148 }) (gPreE G E [.ref h0, .int 0] [(h0, .inr (1, [.ref t0, .ref b0, .int 28, .int 2, .int 27, .int 1, .int 40])), (b0, .inl (G.2.1, 160, .inl (gPf tB 40))), (t0, .inr (3, [.ref co, .ref en, .ref sk, .int 3, .int 0])), (co, .inl (G.2.2.2, 6, .inr (.inr (.inr (.inr fO))))), (ck, .inl (G.2.1, 160, .inl (gPf tC 3)))] sz) (q_X1_readOne_a28 G E h0 t0 b0 co en sk ck fO (va_A [(h0, .inr (1, [.ref t0, .ref b0, .int 28, .int 2, .int 27, .int 1, .int 40])), (b0, .inl (G.2.1, 160, .inl (gPf tB 40))), (t0, .inr (3, [.ref co, .ref en, .ref sk, .int 3, .int 0])), (co, .inl (G.2.2.2, 6, .inr (.inr (.inr (.inr fO))))), (ck, .inl (G.2.1, 160, .inl (gPf tC 3)))] sz)) 0 0 (va_A [(h0, .inr (1, [.ref t0, .ref b0, .int 28, .int 2, .int 27, .int 1, .int 40])), (b0, .inl (G.2.1, 160, .inl (gPf tB 40))), (t0, .inr (3, [.ref co, .ref en, .ref sk, .int 3, .int 0])), (co, .inl (G.2.2.2, 6, .inr (.inr (.inr (.inr fO))))), (ck, .inl (G.2.1, 160, .inl (gPf tC 3)))] sz) := by
  refine Met.ofW (cc := cX1_readOne) (maxL := 2) (ret := (some .boolean)) (by decide) rfl ?_
  intro p e s m args below meth c s₁ B hml hv
  obtain ⟨rfl, hsz, hP, hK, hD0, hE⟩ := hv
  have hx := B.exec
  have hb := B.bytes
  have hr := B.returns
  have hts := atoms_spec (ws := wsX1_readOne) B.pre
  have hown : s.vm.findClass RX1 = some m.cls := findClass_of_methodNamed B.named
  have hlocks := B.notSynchronized
  subst hsz
  have hD := hD0.self (sz := s.heap.size)
  generalize hAe : va_A [(h0, .inr (1, [.ref t0, .ref b0, .int 28, .int 2, .int 27, .int 1, .int 40])), (b0, .inl (G.2.1, 160, .inl (gPf tB 40))), (t0, .inr (3, [.ref co, .ref en, .ref sk, .int 3, .int 0])), (co, .inl (G.2.2.2, 6, .inr (.inr (.inr (.inr fO))))), (ck, .inl (G.2.1, 160, .inl (gPf tC 3)))] s.heap.size = A at hD hE ⊢
  have hA : ∀ q : Nat, s.heap.size ≤ q → A q := fun q h => by rw [← hAe]; exact Or.inr h
  have hS : va_S A s.heap s.heap [] := va_S.rf
  have hP : va_P G.1 vwCl [(h0, .inr (1, [.ref t0, .ref b0, .int 28, .int 2, .int 27, .int 1, .int 40])), (b0, .inl (G.2.1, 160, .inl (gPf tB 40))), (t0, .inr (3, [.ref co, .ref en, .ref sk, .int 3, .int 0])), (co, .inl (G.2.2.2, 6, .inr (.inr (.inr (.inr fO))))), (ck, .inl (G.2.1, 160, .inl (gPf tC 3)))] s.heap := hP
  have hD : va_D A [(h0, .inr (1, [.ref t0, .ref b0, .int 28, .int 2, .int 27, .int 1, .int 40])), (b0, .inl (G.2.1, 160, .inl (gPf tB 40))), (t0, .inr (3, [.ref co, .ref en, .ref sk, .int 3, .int 0])), (co, .inl (G.2.2.2, 6, .inr (.inr (.inr (.inr fO))))), (ck, .inl (G.2.1, 160, .inl (gPf tC 3)))] := hD
  have hl := lv_entry ([.ref h0, .int 0]) (n := 2) (Nat.le_of_ble_eq_true rfl)
  rw [lg_entry_eq]
  generalize (lg_sl ([.ref h0, .int 0]) ++ List.replicate (2 - (lg_sl ([.ref h0, .int 0])).length) Slot.unset).toArray = ls at hl ⊢
  have hl : lv_has ls 2 [(0, .ref h0), (1, .int 0)] := hl
  have kf45 := hts (.fieldLink RX1 45 "PebbleInShoe$Reader" "token" "I") (by decide +kernel)
  have hiX1 := (by decide +kernel : ∀ w ∈ wsX10, w ∈ wsX1_readOne)
  have kf15 := hts (.fieldLink RX1 15 "PebbleInShoe$Reader" "texts" "LPebbleInShoe$Texts;") (by decide +kernel)
  have kf74 := hts (.fieldLink RX1 74 "PebbleInShoe$Reader" "meaning" "I") (by decide +kernel)
  refine lv_aload_n hx hb dX1_readOne_0 rfl (lv_at hl 0 rfl) ?_
  refine va_get (D := G.1) (ci := 1) (v := .int 2) (C := RX1) (T := TX1) (N := 7) hx hb hts hiX1 hown hK hP 0 rfl rfl 3 (by decide) kf45 (fun _ h9 => h9) rfl dX1_readOne_1 ?_
  refine lv_iconst (v := 2) hx hb dX1_readOne_4 (by decide) ?_
  refine lv_icmp_eq (tgt := 16) hx hb dX1_readOne_5 (by decide) (fun c_1 => ?_) (fun c_1 => ?_)
  rotate_left
  · exact absurd (by decide) c_1
  refine lv_aload_n hx hb dX1_readOne_16 rfl (lv_at hl 0 rfl) ?_
  refine va_get (D := G.1) (ci := 1) (v := .ref t0) (C := RX1) (T := TX1) (N := 7) hx hb hts hiX1 hown hK hP 0 rfl rfl 0 (by decide) kf15 (fun _ h9 => h9) rfl dX1_readOne_17 ?_
  refine lv_aload_n hx hb dX1_readOne_20 rfl (lv_at hl 0 rfl) ?_
  refine va_get (D := G.1) (ci := 1) (v := .int 2) (C := RX1) (T := TX1) (N := 7) hx hb hts hiX1 hown hK hP 0 rfl rfl 3 (by decide) kf45 (fun _ h9 => h9) rfl dX1_readOne_21 ?_
  refine lv_iconst (v := 2) hx hb dX1_readOne_24 (by decide) ?_
  refine lv_icmp_ne (tgt := 35) hx hb dX1_readOne_25 (by decide) (fun c_2 => ?_) (fun c_2 => ?_)
  · exact absurd (by decide) c_2
  refine lv_aload_n hx hb dX1_readOne_28 rfl (lv_at hl 0 rfl) ?_
  refine va_get (D := G.1) (ci := 1) (v := .int 1) (C := RX1) (T := TX1) (N := 7) hx hb hts hiX1 hown hK hP 0 rfl rfl 5 (by decide) kf74 (fun _ h9 => h9) rfl dX1_readOne_29 ?_
  refine lv_goto (tgt := 43) hx hb dX1_readOne_32 (by decide) ?_
  have hPc : va_P G.1 vwCl [(t0, .inr (3, [.ref co, .ref en, .ref sk, .int (nI 3), .int (nI 0)])), (co, .inl (G.2.2.2, 6, .inr (.inr (.inr (.inr fO))))), (ck, .inl (G.2.1, 160, .inl (gPf tC 3)))] s.heap := hP.sub [2, 3, 4] rfl
  have hDc : va_D A [(t0, .inr (3, [.ref co, .ref en, .ref sk, .int (nI 3), .int (nI 0)])), (co, .inl (G.2.2.2, 6, .inr (.inr (.inr (.inr fO))))), (ck, .inl (G.2.1, 160, .inl (gPf tC 3)))] := hD.sub [2, 3, 4] (by decide) rfl
  have hFc := va_free (wc := [(t0, .inr (3, [.ref co, .ref en, .ref sk, .int (nI 3), .int (nI 0)])), (co, .inl (G.2.2.2, 6, .inr (.inr (.inr (.inr fO))))), (ck, .inl (G.2.1, 160, .inl (gPf tC 3)))]) hD hS hA [2, 3, 4] rfl
  refine va_callv (va_runV (As := [.int 1]) (rest := []) ⟨hx, hb, hml, hown, hts⟩ (c_X3_write l G t0 co en sk ck fO (gPf tC 3) 3 0 1 s.heap.size (hO) (by decide) (by decide)) (cwV 1 hts gX1_readOne_X3_write rfl rfl rfl (by decide +kernel) ⟨Nat.le_of_ble_eq_true rfl, Nat.le_of_ble_eq_true rfl⟩) ⟨gPre_blind, va_recv hK hPc (ci := 3) (q0 := 0) rfl rfl, fun U hU hW => gPre_of hU hW hK hPc hDc⟩ rfl rfl hl.1 rfl (lv_room (Nat.le_of_ble_eq_true rfl)) dX1_readOne_43 ⟨Nat.le_of_ble_eq_true rfl, Nat.le_of_ble_eq_true rfl⟩) hS (fun q _ h => hFc q h) hFc (fun u t H locs ht hvm w_4 hB hz1 hk1 hS => ?_)
  obtain ⟨hP1, hK1, hD1⟩ := hB
  rw [ht] at hP1
  have hP1 : va_P G.1 vwCl [(t0, .inr (3, [.ref co, .ref en, .ref sk, .int 4, .int 0])), (co, .inl (G.2.2.2, 6, .inr (.inr (.inr (.inr fO))))), (ck, .inl (G.2.1, 160, .inl (upd (gPf tC 3) 3 1)))] H := hP1
  have hD1 : va_D (va_A [(t0, .inr (3, [.ref co, .ref en, .ref sk, .int (nI 3), .int (nI 0)])), (co, .inl (G.2.2.2, 6, .inr (.inr (.inr (.inr fO))))), (ck, .inl (G.2.1, 160, .inl (gPf tC 3)))] s.heap.size) [(t0, .inr (3, [.ref co, .ref en, .ref sk, .int 4, .int 0])), (co, .inl (G.2.2.2, 6, .inr (.inr (.inr (.inr fO))))), (ck, .inl (G.2.1, 160, .inl (upd (gPf tC 3) 3 1)))] := hD1
  obtain ⟨hP, hD⟩ := va_join (wr := [(h0, .inr (1, [.ref t0, .ref b0, .int 28, .int 2, .int 27, .int 1, .int 40])), (b0, .inl (G.2.1, 160, .inl (gPf tB 40)))]) (w1 := [(t0, .inr (3, [.ref co, .ref en, .ref sk, .int 4, .int 0])), (co, .inl (G.2.2.2, 6, .inr (.inr (.inr (.inr fO))))), (ck, .inl (G.2.1, 160, .inl (upd (gPf tC 3) 3 1)))]) hP hD [2, 3, 4] [0, 1] rfl rfl (by decide) (by decide) hk1 hFc hP1 hD1
  have hP : va_P G.1 vwCl [(h0, .inr (1, [.ref t0, .ref b0, .int 28, .int 2, .int 27, .int 1, .int 40])), (b0, .inl (G.2.1, 160, .inl (gPf tB 40))), (t0, .inr (3, [.ref co, .ref en, .ref sk, .int 4, .int 0])), (co, .inl (G.2.2.2, 6, .inr (.inr (.inr (.inr fO))))), (ck, .inl (G.2.1, 160, .inl (upd (gPf tC 3) 3 1)))] H := hP
  have hD : va_D A [(h0, .inr (1, [.ref t0, .ref b0, .int 28, .int 2, .int 27, .int 1, .int 40])), (b0, .inl (G.2.1, 160, .inl (gPf tB 40))), (t0, .inr (3, [.ref co, .ref en, .ref sk, .int 4, .int 0])), (co, .inl (G.2.2.2, 6, .inr (.inr (.inr (.inr fO))))), (ck, .inl (G.2.1, 160, .inl (upd (gPf tC 3) 3 1)))] := hD
  have hP : va_P G.1 vwCl [(h0, .inr (1, [.ref t0, .ref b0, .int 28, .int 2, .int 27, .int 1, .int 40])), (b0, .inl (G.2.1, 160, .inl (gPf tB 40))), (t0, .inr (3, [.ref co, .ref en, .ref sk, .int 4, .int 0])), (co, .inl (G.2.2.2, 6, .inr (.inr (.inr (.inr fO))))), (ck, .inl (G.2.1, 160, .inl (gPf tC 4)))] H := by rw [gPf_step (t := tC) (k := 3) (x := 1) (by decide)] at hP; exact hP
  have hD : va_D A [(h0, .inr (1, [.ref t0, .ref b0, .int 28, .int 2, .int 27, .int 1, .int 40])), (b0, .inl (G.2.1, 160, .inl (gPf tB 40))), (t0, .inr (3, [.ref co, .ref en, .ref sk, .int 4, .int 0])), (co, .inl (G.2.2.2, 6, .inr (.inr (.inr (.inr fO))))), (ck, .inl (G.2.1, 160, .inl (gPf tC 4)))] := by rw [gPf_step (t := tC) (k := 3) (x := 1) (by decide)] at hD; exact hD
  refine lv_aload_n hx hb dX1_readOne_46 rfl (lv_at hl 0 rfl) ?_
  have hPc : va_P G.1 vwCl [(h0, .inr (1, [.ref t0, .ref b0, .int (nI 28), .int 2, .int 27, .int 1, .int (nI 40)])), (b0, .inl (G.2.1, 160, .inl (gPf tB 40)))] H := hP.sub [0, 1] rfl
  have hDc : va_D A [(h0, .inr (1, [.ref t0, .ref b0, .int (nI 28), .int 2, .int 27, .int 1, .int (nI 40)])), (b0, .inl (G.2.1, 160, .inl (gPf tB 40)))] := hD.sub [0, 1] (by decide) rfl
  have hFc := va_free (wc := [(h0, .inr (1, [.ref t0, .ref b0, .int (nI 28), .int 2, .int 27, .int 1, .int (nI 40)])), (b0, .inl (G.2.1, 160, .inl (gPf tB 40)))]) hD hS hA [0, 1] rfl
  refine va_callv (va_runV (As := []) (rest := []) ⟨hx, hb, hml, hown, hts⟩ (c_X1_next l G E h0 t0 b0 (gPf tB 40) 2 27 1 40 28 H.size (by decide) (by decide)) (cwV 0 hts gX1_readOne_X1_next rfl rfl rfl (by decide +kernel) ⟨Nat.le_of_ble_eq_true rfl, Nat.le_of_ble_eq_true rfl⟩) ⟨gPreE_blind, va_recv hK hPc (ci := 1) (q0 := 0) rfl rfl, fun U hU hW => gPreE_of hU hW hK hPc hDc hE hS hFc⟩ rfl rfl hl.1 rfl (lv_room (Nat.le_of_ble_eq_true rfl)) dX1_readOne_47 ⟨Nat.le_of_ble_eq_true rfl, Nat.le_of_ble_eq_true rfl⟩) hS (fun q _ h => hFc q h) hFc (fun u t H locs ht hvm w_6 hB hz1 hk1 hS => ?_)
  obtain ⟨zb_7, zt_8, zp_9, zm_10⟩ := u
  obtain ⟨hP1, hK1, hD1⟩ := hB
  rw [ht] at hP1
  have hP1 : va_P G.1 vwCl [(h0, .inr (1, [.ref t0, .ref b0, .int (nI zb_7), .int zt_8, .int (nI zp_9), .int zm_10, .int 40])), (b0, .inl (G.2.1, 160, .inl (gPf tB 40)))] H := hP1
  have hD1 : va_D (va_A [(h0, .inr (1, [.ref t0, .ref b0, .int (nI 28), .int 2, .int 27, .int 1, .int (nI 40)])), (b0, .inl (G.2.1, 160, .inl (gPf tB 40)))] _) [(h0, .inr (1, [.ref t0, .ref b0, .int (nI zb_7), .int zt_8, .int (nI zp_9), .int zm_10, .int 40])), (b0, .inl (G.2.1, 160, .inl (gPf tB 40)))] := hD1
  have w_6 : (zb_7, zt_8, zp_9, zm_10) = mNext (gPf tB 40) 40 28 1 := w_6
  obtain ⟨hP, hD⟩ := va_join (wr := [(t0, .inr (3, [.ref co, .ref en, .ref sk, .int 4, .int 0])), (co, .inl (G.2.2.2, 6, .inr (.inr (.inr (.inr fO))))), (ck, .inl (G.2.1, 160, .inl (gPf tC 4)))]) (w1 := [(h0, .inr (1, [.ref t0, .ref b0, .int (nI zb_7), .int zt_8, .int (nI zp_9), .int zm_10, .int 40])), (b0, .inl (G.2.1, 160, .inl (gPf tB 40)))]) hP hD [0, 1] [2, 3, 4] rfl rfl (by decide) (by decide) hk1 hFc hP1 hD1
  have hP : va_P G.1 vwCl [(t0, .inr (3, [.ref co, .ref en, .ref sk, .int 4, .int 0])), (co, .inl (G.2.2.2, 6, .inr (.inr (.inr (.inr fO))))), (ck, .inl (G.2.1, 160, .inl (gPf tC 4))), (h0, .inr (1, [.ref t0, .ref b0, .int (nI zb_7), .int zt_8, .int (nI zp_9), .int zm_10, .int 40])), (b0, .inl (G.2.1, 160, .inl (gPf tB 40)))] H := hP
  have hD : va_D A [(t0, .inr (3, [.ref co, .ref en, .ref sk, .int 4, .int 0])), (co, .inl (G.2.2.2, 6, .inr (.inr (.inr (.inr fO))))), (ck, .inl (G.2.1, 160, .inl (gPf tC 4))), (h0, .inr (1, [.ref t0, .ref b0, .int (nI zb_7), .int zt_8, .int (nI zp_9), .int zm_10, .int 40])), (b0, .inl (G.2.1, 160, .inl (gPf tB 40)))] := hD
  rw [show mNext (gPf tB 40) 40 28 1 = (30, 59, 29, 1) by decide +kernel] at w_6
  simp only [Prod.mk.injEq] at w_6
  obtain ⟨g_11, g_12, g_13, g_14⟩ := w_6
  have g_11 := g_11.symm
  subst g_11
  have g_12 := g_12.symm
  subst g_12
  have g_13 := g_13.symm
  subst g_13
  have g_14 := g_14.symm
  subst g_14
  have hP : va_P G.1 vwCl [(t0, .inr (3, [.ref co, .ref en, .ref sk, .int 4, .int 0])), (co, .inl (G.2.2.2, 6, .inr (.inr (.inr (.inr fO))))), (ck, .inl (G.2.1, 160, .inl (gPf tC 4))), (h0, .inr (1, [.ref t0, .ref b0, .int 30, .int 59, .int 29, .int 1, .int 40])), (b0, .inl (G.2.1, 160, .inl (gPf tB 40)))] H := hP
  have hD : va_D A [(t0, .inr (3, [.ref co, .ref en, .ref sk, .int 4, .int 0])), (co, .inl (G.2.2.2, 6, .inr (.inr (.inr (.inr fO))))), (ck, .inl (G.2.1, 160, .inl (gPf tC 4))), (h0, .inr (1, [.ref t0, .ref b0, .int 30, .int 59, .int 29, .int 1, .int 40])), (b0, .inl (G.2.1, 160, .inl (gPf tB 40)))] := hD
  refine lv_iconst (v := 1) hx hb dX1_readOne_50 (by decide) ?_
  have hP9 := hP.sub (ws' := [(h0, .inr (1, [.ref t0, .ref b0, .int 30, .int 59, .int 29, .int 1, .int 40])), (b0, .inl (G.2.1, 160, .inl (gPf tB 40))), (t0, .inr (3, [.ref co, .ref en, .ref sk, .int 4, .int 0])), (co, .inl (G.2.2.2, 6, .inr (.inr (.inr (.inr fO))))), (ck, .inl (G.2.1, 160, .inl (gPf tC 4)))]) [3, 4, 0, 1, 2] rfl
  have hD9 := hD.sub (ws' := [(h0, .inr (1, [.ref t0, .ref b0, .int 30, .int 59, .int 29, .int 1, .int 40])), (b0, .inl (G.2.1, 160, .inl (gPf tB 40))), (t0, .inr (3, [.ref co, .ref en, .ref sk, .int 4, .int 0])), (co, .inl (G.2.2.2, 6, .inr (.inr (.inr (.inr fO))))), (ck, .inl (G.2.1, 160, .inl (gPf tC 4)))]) [3, 4, 0, 1, 2] (by decide) rfl
  have hpost : (fun (r : Int32) (u : Unit) => match u with | _ => r = 1) 1 () := by first | trivial | rfl | decide | simp
  exact W.zret (v := 1) hx hb hr (rfl) (fun t ht hW => ⟨⟨1, (), rfl, hpost, by rw [ht]; exact hP9, va_K.moved hW.alike hK, hD9⟩, hS.F ht⟩) hS.2.2 dX1_readOne_51
abbrev q_X1_readTerm_a28 (G : gG) (E : gS) (h0 t0 b0 co en sk ck : Nat) (fO : Nat → Option Nat) (A : Nat → Prop) : Array Value → State → Outcome → State → Prop := va_Qi (fun (r : Int32) (u : Unit) => match u with | _ => r = 1) (fun (u : Unit) t => match u with | _ => va_P G.1 vwCl [(h0, .inr (1, [.ref t0, .ref b0, .int 30, .int 59, .int 29, .int 1, .int 40])), (b0, .inl (G.2.1, 160, .inl (gPf tB 40))), (t0, .inr (3, [.ref co, .ref en, .ref sk, .int 4, .int 0])), (co, .inl (G.2.2.2, 6, .inr (.inr (.inr (.inr fO))))), (ck, .inl (G.2.1, 160, .inl (gPf tC 4)))] t.heap ∧ gK G t ∧ va_D A [(h0, .inr (1, [.ref t0, .ref b0, .int 30, .int 59, .int 29, .int 1, .int 40])), (b0, .inl (G.2.1, 160, .inl (gPf tB 40))), (t0, .inr (3, [.ref co, .ref en, .ref sk, .int 4, .int 0])), (co, .inl (G.2.2.2, 6, .inr (.inr (.inr (.inr fO))))), (ck, .inl (G.2.1, 160, .inl (gPf tC 4)))]) A
set_option maxHeartbeats 4000000 in
set_option maxRecDepth 100000 in
theorem c_X1_readTerm_a28 (l : Launch) (G : gG) (E : gS) (h0 t0 b0 co en sk ck : Nat) (fO : Nat → Option Nat) (sz : Nat) (hO : fO 0 = some ck) : Met l yX1_readTerm wsX1_readTerm ({ frames := 8, cells := 0, slots := 0, locals := 169 }) (gPreE G E [.ref h0, .int 0] [(h0, .inr (1, [.ref t0, .ref b0, .int 28, .int 2, .int 27, .int 1, .int 40])), (b0, .inl (G.2.1, 160, .inl (gPf tB 40))), (t0, .inr (3, [.ref co, .ref en, .ref sk, .int 3, .int 0])), (co, .inl (G.2.2.2, 6, .inr (.inr (.inr (.inr fO))))), (ck, .inl (G.2.1, 160, .inl (gPf tC 3)))] sz) (q_X1_readTerm_a28 G E h0 t0 b0 co en sk ck fO (va_A [(h0, .inr (1, [.ref t0, .ref b0, .int 28, .int 2, .int 27, .int 1, .int 40])), (b0, .inl (G.2.1, 160, .inl (gPf tB 40))), (t0, .inr (3, [.ref co, .ref en, .ref sk, .int 3, .int 0])), (co, .inl (G.2.2.2, 6, .inr (.inr (.inr (.inr fO))))), (ck, .inl (G.2.1, 160, .inl (gPf tC 3)))] sz)) 0 0 (va_A [(h0, .inr (1, [.ref t0, .ref b0, .int 28, .int 2, .int 27, .int 1, .int 40])), (b0, .inl (G.2.1, 160, .inl (gPf tB 40))), (t0, .inr (3, [.ref co, .ref en, .ref sk, .int 3, .int 0])), (co, .inl (G.2.2.2, 6, .inr (.inr (.inr (.inr fO))))), (ck, .inl (G.2.1, 160, .inl (gPf tC 3)))] sz) := by
  refine Met.ofW (cc := cX1_readTerm) (maxL := 3) (ret := (some .boolean)) (by decide) rfl ?_
  intro p e s m args below meth c s₁ B hml hv
  obtain ⟨rfl, hsz, hP, hK, hD0, hE⟩ := hv
  have hx := B.exec
  have hb := B.bytes
  have hr := B.returns
  have hts := atoms_spec (ws := wsX1_readTerm) B.pre
  have hown : s.vm.findClass RX1 = some m.cls := findClass_of_methodNamed B.named
  have hlocks := B.notSynchronized
  subst hsz
  have hD := hD0.self (sz := s.heap.size)
  generalize hAe : va_A [(h0, .inr (1, [.ref t0, .ref b0, .int 28, .int 2, .int 27, .int 1, .int 40])), (b0, .inl (G.2.1, 160, .inl (gPf tB 40))), (t0, .inr (3, [.ref co, .ref en, .ref sk, .int 3, .int 0])), (co, .inl (G.2.2.2, 6, .inr (.inr (.inr (.inr fO))))), (ck, .inl (G.2.1, 160, .inl (gPf tC 3)))] s.heap.size = A at hD hE ⊢
  have hA : ∀ q : Nat, s.heap.size ≤ q → A q := fun q h => by rw [← hAe]; exact Or.inr h
  have hS : va_S A s.heap s.heap [] := va_S.rf
  have hP : va_P G.1 vwCl [(h0, .inr (1, [.ref t0, .ref b0, .int 28, .int 2, .int 27, .int 1, .int 40])), (b0, .inl (G.2.1, 160, .inl (gPf tB 40))), (t0, .inr (3, [.ref co, .ref en, .ref sk, .int 3, .int 0])), (co, .inl (G.2.2.2, 6, .inr (.inr (.inr (.inr fO))))), (ck, .inl (G.2.1, 160, .inl (gPf tC 3)))] s.heap := hP
  have hD : va_D A [(h0, .inr (1, [.ref t0, .ref b0, .int 28, .int 2, .int 27, .int 1, .int 40])), (b0, .inl (G.2.1, 160, .inl (gPf tB 40))), (t0, .inr (3, [.ref co, .ref en, .ref sk, .int 3, .int 0])), (co, .inl (G.2.2.2, 6, .inr (.inr (.inr (.inr fO))))), (ck, .inl (G.2.1, 160, .inl (gPf tC 3)))] := hD
  have hl := lv_entry ([.ref h0, .int 0]) (n := 3) (Nat.le_of_ble_eq_true rfl)
  rw [lg_entry_eq]
  generalize (lg_sl ([.ref h0, .int 0]) ++ List.replicate (3 - (lg_sl ([.ref h0, .int 0])).length) Slot.unset).toArray = ls at hl ⊢
  have hl : lv_has ls 3 [(0, .ref h0), (1, .int 0)] := hl
  have kf45 := hts (.fieldLink RX1 45 "PebbleInShoe$Reader" "token" "I") (by decide +kernel)
  have hiX1 := (by decide +kernel : ∀ w ∈ wsX10, w ∈ wsX1_readTerm)
  refine lv_aload_n hx hb dX1_readTerm_0 rfl (lv_at hl 0 rfl) ?_
  refine lv_iload_n hx hb dX1_readTerm_1 rfl (lv_at hl 1 rfl) ?_
  have hPc : va_P G.1 vwCl [(h0, .inr (1, [.ref t0, .ref b0, .int 28, .int 2, .int 27, .int 1, .int 40])), (b0, .inl (G.2.1, 160, .inl (gPf tB 40))), (t0, .inr (3, [.ref co, .ref en, .ref sk, .int 3, .int 0])), (co, .inl (G.2.2.2, 6, .inr (.inr (.inr (.inr fO))))), (ck, .inl (G.2.1, 160, .inl (gPf tC 3)))] s.heap := hP.sub [0, 1, 2, 3, 4] rfl
  have hDc : va_D A [(h0, .inr (1, [.ref t0, .ref b0, .int 28, .int 2, .int 27, .int 1, .int 40])), (b0, .inl (G.2.1, 160, .inl (gPf tB 40))), (t0, .inr (3, [.ref co, .ref en, .ref sk, .int 3, .int 0])), (co, .inl (G.2.2.2, 6, .inr (.inr (.inr (.inr fO))))), (ck, .inl (G.2.1, 160, .inl (gPf tC 3)))] := hD.sub [0, 1, 2, 3, 4] (by decide) rfl
  have hFc := va_free (wc := [(h0, .inr (1, [.ref t0, .ref b0, .int 28, .int 2, .int 27, .int 1, .int 40])), (b0, .inl (G.2.1, 160, .inl (gPf tB 40))), (t0, .inr (3, [.ref co, .ref en, .ref sk, .int 3, .int 0])), (co, .inl (G.2.2.2, 6, .inr (.inr (.inr (.inr fO))))), (ck, .inl (G.2.1, 160, .inl (gPf tC 3)))]) hD hS hA [0, 1, 2, 3, 4] rfl
  refine va_calli (va_runV (As := [.int 0]) (rest := []) ⟨hx, hb, hml, hown, hts⟩ (c_X1_readOne_a28 l G E h0 t0 b0 co en sk ck fO s.heap.size (hO)) (cwV 1 hts gX1_readTerm_X1_readOne rfl rfl rfl (by decide +kernel) ⟨Nat.le_of_ble_eq_true rfl, Nat.le_of_ble_eq_true rfl⟩) ⟨gPreE_blind, va_recv hK hPc (ci := 1) (q0 := 0) rfl rfl, fun U hU hW => gPreE_of hU hW hK hPc hDc hE hS hFc⟩ rfl rfl hl.1 rfl (lv_room (Nat.le_of_ble_eq_true rfl)) dX1_readTerm_2 ⟨Nat.le_of_ble_eq_true rfl, Nat.le_of_ble_eq_true rfl⟩) hS (fun q _ h => hFc q h) hFc (fun r_1 u t H locs ht hvm w_2 hB hz1 hk1 hS => ?_)
  obtain ⟨hP1, hK1, hD1⟩ := hB
  rw [ht] at hP1
  have hP1 : va_P G.1 vwCl [(h0, .inr (1, [.ref t0, .ref b0, .int 30, .int 59, .int 29, .int 1, .int 40])), (b0, .inl (G.2.1, 160, .inl (gPf tB 40))), (t0, .inr (3, [.ref co, .ref en, .ref sk, .int 4, .int 0])), (co, .inl (G.2.2.2, 6, .inr (.inr (.inr (.inr fO))))), (ck, .inl (G.2.1, 160, .inl (gPf tC 4)))] H := hP1
  have hD1 : va_D (va_A [(h0, .inr (1, [.ref t0, .ref b0, .int 28, .int 2, .int 27, .int 1, .int 40])), (b0, .inl (G.2.1, 160, .inl (gPf tB 40))), (t0, .inr (3, [.ref co, .ref en, .ref sk, .int 3, .int 0])), (co, .inl (G.2.2.2, 6, .inr (.inr (.inr (.inr fO))))), (ck, .inl (G.2.1, 160, .inl (gPf tC 3)))] s.heap.size) [(h0, .inr (1, [.ref t0, .ref b0, .int 30, .int 59, .int 29, .int 1, .int 40])), (b0, .inl (G.2.1, 160, .inl (gPf tB 40))), (t0, .inr (3, [.ref co, .ref en, .ref sk, .int 4, .int 0])), (co, .inl (G.2.2.2, 6, .inr (.inr (.inr (.inr fO))))), (ck, .inl (G.2.1, 160, .inl (gPf tC 4)))] := hD1
  have w_2 : r_1 = 1 := w_2
  obtain ⟨hP, hD⟩ := va_join (wr := []) (w1 := [(h0, .inr (1, [.ref t0, .ref b0, .int 30, .int 59, .int 29, .int 1, .int 40])), (b0, .inl (G.2.1, 160, .inl (gPf tB 40))), (t0, .inr (3, [.ref co, .ref en, .ref sk, .int 4, .int 0])), (co, .inl (G.2.2.2, 6, .inr (.inr (.inr (.inr fO))))), (ck, .inl (G.2.1, 160, .inl (gPf tC 4)))]) hP hD [0, 1, 2, 3, 4] [] rfl rfl (by decide) (by decide) hk1 hFc hP1 hD1
  have hP : va_P G.1 vwCl [(h0, .inr (1, [.ref t0, .ref b0, .int 30, .int 59, .int 29, .int 1, .int 40])), (b0, .inl (G.2.1, 160, .inl (gPf tB 40))), (t0, .inr (3, [.ref co, .ref en, .ref sk, .int 4, .int 0])), (co, .inl (G.2.2.2, 6, .inr (.inr (.inr (.inr fO))))), (ck, .inl (G.2.1, 160, .inl (gPf tC 4)))] H := hP
  have hD : va_D A [(h0, .inr (1, [.ref t0, .ref b0, .int 30, .int 59, .int 29, .int 1, .int 40])), (b0, .inl (G.2.1, 160, .inl (gPf tB 40))), (t0, .inr (3, [.ref co, .ref en, .ref sk, .int 4, .int 0])), (co, .inl (G.2.2.2, 6, .inr (.inr (.inr (.inr fO))))), (ck, .inl (G.2.1, 160, .inl (gPf tC 4)))] := hD
  have w_2 : r_1 = 1 := w_2
  subst w_2
  refine lv_if_ne (tgt := 10) hx hb dX1_readTerm_5 (by decide) (fun c_3 => ?_) (fun c_3 => ?_)
  rotate_left
  · exact absurd c_3 (by decide)
  refine lv_iconst (v := 0) hx hb dX1_readTerm_10 (by decide) ?_
  refine lv_istore_n (lv' := [(2, .int 0), (0, .ref h0), (1, .int 0)]) hx hb dX1_readTerm_11 rfl hl (by decide) rfl (fun ls hl => ?_)
  refine lv_iload_n hx hb dX1_readTerm_12 rfl (lv_at hl 0 rfl) ?_
  refine lv_sipush (v := 160) hx hb dX1_readTerm_13 (by decide) ?_
  refine lv_icmp_ge (tgt := 58) hx hb dX1_readTerm_16 (by decide) (fun c_4 => ?_) (fun c_4 => ?_)
  · exact absurd c_4 (by decide)
  refine lv_aload_n hx hb dX1_readTerm_19 rfl (lv_at hl 1 rfl) ?_
  refine va_get (D := G.1) (ci := 1) (v := .int 59) (C := RX1) (T := TX1) (N := 7) hx hb hts hiX1 hown hK hP 0 rfl rfl 3 (by decide) kf45 (fun _ h9 => h9) rfl dX1_readTerm_20 ?_
  refine lv_bipush (v := 42) hx hb dX1_readTerm_23 (by decide) ?_
  refine lv_icmp_ne (tgt := 58) hx hb dX1_readTerm_25 (by decide) (fun c_5 => ?_) (fun c_5 => ?_)
  rotate_left
  · exact absurd c_5 (by decide)
  refine lv_iconst (v := 1) hx hb dX1_readTerm_58 (by decide) ?_
  have hP9 := hP.sub (ws' := [(h0, .inr (1, [.ref t0, .ref b0, .int 30, .int 59, .int 29, .int 1, .int 40])), (b0, .inl (G.2.1, 160, .inl (gPf tB 40))), (t0, .inr (3, [.ref co, .ref en, .ref sk, .int 4, .int 0])), (co, .inl (G.2.2.2, 6, .inr (.inr (.inr (.inr fO))))), (ck, .inl (G.2.1, 160, .inl (gPf tC 4)))]) [0, 1, 2, 3, 4] rfl
  have hD9 := hD.sub (ws' := [(h0, .inr (1, [.ref t0, .ref b0, .int 30, .int 59, .int 29, .int 1, .int 40])), (b0, .inl (G.2.1, 160, .inl (gPf tB 40))), (t0, .inr (3, [.ref co, .ref en, .ref sk, .int 4, .int 0])), (co, .inl (G.2.2.2, 6, .inr (.inr (.inr (.inr fO))))), (ck, .inl (G.2.1, 160, .inl (gPf tC 4)))]) [0, 1, 2, 3, 4] (by decide) rfl
  have hpost : (fun (r : Int32) (u : Unit) => match u with | _ => r = 1) 1 () := by first | trivial | rfl | decide | simp
  exact W.zret (v := 1) hx hb hr (rfl) (fun t ht hW => ⟨⟨1, (), rfl, hpost, by rw [ht]; exact hP9, va_K.moved hW.alike hK, hD9⟩, hS.F ht⟩) hS.2.2 dX1_readTerm_59
abbrev q_X1_readSum_a28 (G : gG) (E : gS) (h0 t0 b0 co en sk ck : Nat) (fO : Nat → Option Nat) (A : Nat → Prop) : Array Value → State → Outcome → State → Prop := va_Qi (fun (r : Int32) (u : Unit) => match u with | _ => r = 1) (fun (u : Unit) t => match u with | _ => va_P G.1 vwCl [(h0, .inr (1, [.ref t0, .ref b0, .int 30, .int 59, .int 29, .int 1, .int 40])), (b0, .inl (G.2.1, 160, .inl (gPf tB 40))), (t0, .inr (3, [.ref co, .ref en, .ref sk, .int 4, .int 0])), (co, .inl (G.2.2.2, 6, .inr (.inr (.inr (.inr fO))))), (ck, .inl (G.2.1, 160, .inl (gPf tC 4)))] t.heap ∧ gK G t ∧ va_D A [(h0, .inr (1, [.ref t0, .ref b0, .int 30, .int 59, .int 29, .int 1, .int 40])), (b0, .inl (G.2.1, 160, .inl (gPf tB 40))), (t0, .inr (3, [.ref co, .ref en, .ref sk, .int 4, .int 0])), (co, .inl (G.2.2.2, 6, .inr (.inr (.inr (.inr fO))))), (ck, .inl (G.2.1, 160, .inl (gPf tC 4)))]) A
set_option maxHeartbeats 4000000 in
set_option maxRecDepth 100000 in
theorem c_X1_readSum_a28 (l : Launch) (G : gG) (E : gS) (h0 t0 b0 co en sk ck : Nat) (fO : Nat → Option Nat) (sz : Nat) (hO : fO 0 = some ck) : Met l yX1_readSum wsX1_readSum ({ frames := 9, cells := 0, slots := 0, locals := 191 }) (gPreE G E [.ref h0, .int 0] [(h0, .inr (1, [.ref t0, .ref b0, .int 28, .int 2, .int 27, .int 1, .int 40])), (b0, .inl (G.2.1, 160, .inl (gPf tB 40))), (t0, .inr (3, [.ref co, .ref en, .ref sk, .int 3, .int 0])), (co, .inl (G.2.2.2, 6, .inr (.inr (.inr (.inr fO))))), (ck, .inl (G.2.1, 160, .inl (gPf tC 3)))] sz) (q_X1_readSum_a28 G E h0 t0 b0 co en sk ck fO (va_A [(h0, .inr (1, [.ref t0, .ref b0, .int 28, .int 2, .int 27, .int 1, .int 40])), (b0, .inl (G.2.1, 160, .inl (gPf tB 40))), (t0, .inr (3, [.ref co, .ref en, .ref sk, .int 3, .int 0])), (co, .inl (G.2.2.2, 6, .inr (.inr (.inr (.inr fO))))), (ck, .inl (G.2.1, 160, .inl (gPf tC 3)))] sz)) 0 0 (va_A [(h0, .inr (1, [.ref t0, .ref b0, .int 28, .int 2, .int 27, .int 1, .int 40])), (b0, .inl (G.2.1, 160, .inl (gPf tB 40))), (t0, .inr (3, [.ref co, .ref en, .ref sk, .int 3, .int 0])), (co, .inl (G.2.2.2, 6, .inr (.inr (.inr (.inr fO))))), (ck, .inl (G.2.1, 160, .inl (gPf tC 3)))] sz) := by
  refine Met.ofW (cc := cX1_readSum) (maxL := 4) (ret := (some .boolean)) (by decide) rfl ?_
  intro p e s m args below meth c s₁ B hml hv
  obtain ⟨rfl, hsz, hP, hK, hD0, hE⟩ := hv
  have hx := B.exec
  have hb := B.bytes
  have hr := B.returns
  have hts := atoms_spec (ws := wsX1_readSum) B.pre
  have hown : s.vm.findClass RX1 = some m.cls := findClass_of_methodNamed B.named
  have hlocks := B.notSynchronized
  subst hsz
  have hD := hD0.self (sz := s.heap.size)
  generalize hAe : va_A [(h0, .inr (1, [.ref t0, .ref b0, .int 28, .int 2, .int 27, .int 1, .int 40])), (b0, .inl (G.2.1, 160, .inl (gPf tB 40))), (t0, .inr (3, [.ref co, .ref en, .ref sk, .int 3, .int 0])), (co, .inl (G.2.2.2, 6, .inr (.inr (.inr (.inr fO))))), (ck, .inl (G.2.1, 160, .inl (gPf tC 3)))] s.heap.size = A at hD hE ⊢
  have hA : ∀ q : Nat, s.heap.size ≤ q → A q := fun q h => by rw [← hAe]; exact Or.inr h
  have hS : va_S A s.heap s.heap [] := va_S.rf
  have hP : va_P G.1 vwCl [(h0, .inr (1, [.ref t0, .ref b0, .int 28, .int 2, .int 27, .int 1, .int 40])), (b0, .inl (G.2.1, 160, .inl (gPf tB 40))), (t0, .inr (3, [.ref co, .ref en, .ref sk, .int 3, .int 0])), (co, .inl (G.2.2.2, 6, .inr (.inr (.inr (.inr fO))))), (ck, .inl (G.2.1, 160, .inl (gPf tC 3)))] s.heap := hP
  have hD : va_D A [(h0, .inr (1, [.ref t0, .ref b0, .int 28, .int 2, .int 27, .int 1, .int 40])), (b0, .inl (G.2.1, 160, .inl (gPf tB 40))), (t0, .inr (3, [.ref co, .ref en, .ref sk, .int 3, .int 0])), (co, .inl (G.2.2.2, 6, .inr (.inr (.inr (.inr fO))))), (ck, .inl (G.2.1, 160, .inl (gPf tC 3)))] := hD
  have hl := lv_entry ([.ref h0, .int 0]) (n := 4) (Nat.le_of_ble_eq_true rfl)
  rw [lg_entry_eq]
  generalize (lg_sl ([.ref h0, .int 0]) ++ List.replicate (4 - (lg_sl ([.ref h0, .int 0])).length) Slot.unset).toArray = ls at hl ⊢
  have hl : lv_has ls 4 [(0, .ref h0), (1, .int 0)] := hl
  have kf45 := hts (.fieldLink RX1 45 "PebbleInShoe$Reader" "token" "I") (by decide +kernel)
  have hiX1 := (by decide +kernel : ∀ w ∈ wsX10, w ∈ wsX1_readSum)
  refine lv_aload_n hx hb dX1_readSum_0 rfl (lv_at hl 0 rfl) ?_
  refine lv_iload_n hx hb dX1_readSum_1 rfl (lv_at hl 1 rfl) ?_
  have hPc : va_P G.1 vwCl [(h0, .inr (1, [.ref t0, .ref b0, .int 28, .int 2, .int 27, .int 1, .int 40])), (b0, .inl (G.2.1, 160, .inl (gPf tB 40))), (t0, .inr (3, [.ref co, .ref en, .ref sk, .int 3, .int 0])), (co, .inl (G.2.2.2, 6, .inr (.inr (.inr (.inr fO))))), (ck, .inl (G.2.1, 160, .inl (gPf tC 3)))] s.heap := hP.sub [0, 1, 2, 3, 4] rfl
  have hDc : va_D A [(h0, .inr (1, [.ref t0, .ref b0, .int 28, .int 2, .int 27, .int 1, .int 40])), (b0, .inl (G.2.1, 160, .inl (gPf tB 40))), (t0, .inr (3, [.ref co, .ref en, .ref sk, .int 3, .int 0])), (co, .inl (G.2.2.2, 6, .inr (.inr (.inr (.inr fO))))), (ck, .inl (G.2.1, 160, .inl (gPf tC 3)))] := hD.sub [0, 1, 2, 3, 4] (by decide) rfl
  have hFc := va_free (wc := [(h0, .inr (1, [.ref t0, .ref b0, .int 28, .int 2, .int 27, .int 1, .int 40])), (b0, .inl (G.2.1, 160, .inl (gPf tB 40))), (t0, .inr (3, [.ref co, .ref en, .ref sk, .int 3, .int 0])), (co, .inl (G.2.2.2, 6, .inr (.inr (.inr (.inr fO))))), (ck, .inl (G.2.1, 160, .inl (gPf tC 3)))]) hD hS hA [0, 1, 2, 3, 4] rfl
  refine va_calli (va_runV (As := [.int 0]) (rest := []) ⟨hx, hb, hml, hown, hts⟩ (c_X1_readTerm_a28 l G E h0 t0 b0 co en sk ck fO s.heap.size (hO)) (cwV 1 hts gX1_readSum_X1_readTerm rfl rfl rfl (by decide +kernel) ⟨Nat.le_of_ble_eq_true rfl, Nat.le_of_ble_eq_true rfl⟩) ⟨gPreE_blind, va_recv hK hPc (ci := 1) (q0 := 0) rfl rfl, fun U hU hW => gPreE_of hU hW hK hPc hDc hE hS hFc⟩ rfl rfl hl.1 rfl (lv_room (Nat.le_of_ble_eq_true rfl)) dX1_readSum_2 ⟨Nat.le_of_ble_eq_true rfl, Nat.le_of_ble_eq_true rfl⟩) hS (fun q _ h => hFc q h) hFc (fun r_1 u t H locs ht hvm w_2 hB hz1 hk1 hS => ?_)
  obtain ⟨hP1, hK1, hD1⟩ := hB
  rw [ht] at hP1
  have hP1 : va_P G.1 vwCl [(h0, .inr (1, [.ref t0, .ref b0, .int 30, .int 59, .int 29, .int 1, .int 40])), (b0, .inl (G.2.1, 160, .inl (gPf tB 40))), (t0, .inr (3, [.ref co, .ref en, .ref sk, .int 4, .int 0])), (co, .inl (G.2.2.2, 6, .inr (.inr (.inr (.inr fO))))), (ck, .inl (G.2.1, 160, .inl (gPf tC 4)))] H := hP1
  have hD1 : va_D (va_A [(h0, .inr (1, [.ref t0, .ref b0, .int 28, .int 2, .int 27, .int 1, .int 40])), (b0, .inl (G.2.1, 160, .inl (gPf tB 40))), (t0, .inr (3, [.ref co, .ref en, .ref sk, .int 3, .int 0])), (co, .inl (G.2.2.2, 6, .inr (.inr (.inr (.inr fO))))), (ck, .inl (G.2.1, 160, .inl (gPf tC 3)))] s.heap.size) [(h0, .inr (1, [.ref t0, .ref b0, .int 30, .int 59, .int 29, .int 1, .int 40])), (b0, .inl (G.2.1, 160, .inl (gPf tB 40))), (t0, .inr (3, [.ref co, .ref en, .ref sk, .int 4, .int 0])), (co, .inl (G.2.2.2, 6, .inr (.inr (.inr (.inr fO))))), (ck, .inl (G.2.1, 160, .inl (gPf tC 4)))] := hD1
  have w_2 : r_1 = 1 := w_2
  obtain ⟨hP, hD⟩ := va_join (wr := []) (w1 := [(h0, .inr (1, [.ref t0, .ref b0, .int 30, .int 59, .int 29, .int 1, .int 40])), (b0, .inl (G.2.1, 160, .inl (gPf tB 40))), (t0, .inr (3, [.ref co, .ref en, .ref sk, .int 4, .int 0])), (co, .inl (G.2.2.2, 6, .inr (.inr (.inr (.inr fO))))), (ck, .inl (G.2.1, 160, .inl (gPf tC 4)))]) hP hD [0, 1, 2, 3, 4] [] rfl rfl (by decide) (by decide) hk1 hFc hP1 hD1
  have hP : va_P G.1 vwCl [(h0, .inr (1, [.ref t0, .ref b0, .int 30, .int 59, .int 29, .int 1, .int 40])), (b0, .inl (G.2.1, 160, .inl (gPf tB 40))), (t0, .inr (3, [.ref co, .ref en, .ref sk, .int 4, .int 0])), (co, .inl (G.2.2.2, 6, .inr (.inr (.inr (.inr fO))))), (ck, .inl (G.2.1, 160, .inl (gPf tC 4)))] H := hP
  have hD : va_D A [(h0, .inr (1, [.ref t0, .ref b0, .int 30, .int 59, .int 29, .int 1, .int 40])), (b0, .inl (G.2.1, 160, .inl (gPf tB 40))), (t0, .inr (3, [.ref co, .ref en, .ref sk, .int 4, .int 0])), (co, .inl (G.2.2.2, 6, .inr (.inr (.inr (.inr fO))))), (ck, .inl (G.2.1, 160, .inl (gPf tC 4)))] := hD
  have w_2 : r_1 = 1 := w_2
  subst w_2
  refine lv_if_ne (tgt := 10) hx hb dX1_readSum_5 (by decide) (fun c_3 => ?_) (fun c_3 => ?_)
  rotate_left
  · exact absurd c_3 (by decide)
  refine lv_iconst (v := 0) hx hb dX1_readSum_10 (by decide) ?_
  refine lv_istore_n (lv' := [(2, .int 0), (0, .ref h0), (1, .int 0)]) hx hb dX1_readSum_11 rfl hl (by decide) rfl (fun ls hl => ?_)
  refine lv_iload_n hx hb dX1_readSum_12 rfl (lv_at hl 0 rfl) ?_
  refine lv_sipush (v := 160) hx hb dX1_readSum_13 (by decide) ?_
  refine lv_icmp_ge (tgt := 74) hx hb dX1_readSum_16 (by decide) (fun c_4 => ?_) (fun c_4 => ?_)
  · exact absurd c_4 (by decide)
  refine lv_aload_n hx hb dX1_readSum_19 rfl (lv_at hl 1 rfl) ?_
  refine va_get (D := G.1) (ci := 1) (v := .int 59) (C := RX1) (T := TX1) (N := 7) hx hb hts hiX1 hown hK hP 0 rfl rfl 3 (by decide) kf45 (fun _ h9 => h9) rfl dX1_readSum_20 ?_
  refine lv_bipush (v := 43) hx hb dX1_readSum_23 (by decide) ?_
  refine lv_icmp_eq (tgt := 37) hx hb dX1_readSum_25 (by decide) (fun c_5 => ?_) (fun c_5 => ?_)
  · exact absurd c_5 (by decide)
  refine lv_aload_n hx hb dX1_readSum_28 rfl (lv_at hl 1 rfl) ?_
  refine va_get (D := G.1) (ci := 1) (v := .int 59) (C := RX1) (T := TX1) (N := 7) hx hb hts hiX1 hown hK hP 0 rfl rfl 3 (by decide) kf45 (fun _ h9 => h9) rfl dX1_readSum_29 ?_
  refine lv_bipush (v := 45) hx hb dX1_readSum_32 (by decide) ?_
  refine lv_icmp_ne (tgt := 74) hx hb dX1_readSum_34 (by decide) (fun c_6 => ?_) (fun c_6 => ?_)
  rotate_left
  · exact absurd c_6 (by decide)
  refine lv_iconst (v := 1) hx hb dX1_readSum_74 (by decide) ?_
  have hP9 := hP.sub (ws' := [(h0, .inr (1, [.ref t0, .ref b0, .int 30, .int 59, .int 29, .int 1, .int 40])), (b0, .inl (G.2.1, 160, .inl (gPf tB 40))), (t0, .inr (3, [.ref co, .ref en, .ref sk, .int 4, .int 0])), (co, .inl (G.2.2.2, 6, .inr (.inr (.inr (.inr fO))))), (ck, .inl (G.2.1, 160, .inl (gPf tC 4)))]) [0, 1, 2, 3, 4] rfl
  have hD9 := hD.sub (ws' := [(h0, .inr (1, [.ref t0, .ref b0, .int 30, .int 59, .int 29, .int 1, .int 40])), (b0, .inl (G.2.1, 160, .inl (gPf tB 40))), (t0, .inr (3, [.ref co, .ref en, .ref sk, .int 4, .int 0])), (co, .inl (G.2.2.2, 6, .inr (.inr (.inr (.inr fO))))), (ck, .inl (G.2.1, 160, .inl (gPf tC 4)))]) [0, 1, 2, 3, 4] (by decide) rfl
  have hpost : (fun (r : Int32) (u : Unit) => match u with | _ => r = 1) 1 () := by first | trivial | rfl | decide | simp
  exact W.zret (v := 1) hx hb hr (rfl) (fun t ht hW => ⟨⟨1, (), rfl, hpost, by rw [ht]; exact hP9, va_K.moved hW.alike hK, hD9⟩, hS.F ht⟩) hS.2.2 dX1_readSum_75
abbrev q_X1_readNot_a28 (G : gG) (E : gS) (h0 t0 b0 co en sk ck : Nat) (fO : Nat → Option Nat) (A : Nat → Prop) : Array Value → State → Outcome → State → Prop := va_Qi (fun (r : Int32) (u : Unit) => match u with | _ => r = 1) (fun (u : Unit) t => match u with | _ => va_P G.1 vwCl [(h0, .inr (1, [.ref t0, .ref b0, .int 30, .int 59, .int 29, .int 1, .int 40])), (b0, .inl (G.2.1, 160, .inl (gPf tB 40))), (t0, .inr (3, [.ref co, .ref en, .ref sk, .int 4, .int 0])), (co, .inl (G.2.2.2, 6, .inr (.inr (.inr (.inr fO))))), (ck, .inl (G.2.1, 160, .inl (gPf tC 4)))] t.heap ∧ gK G t ∧ va_D A [(h0, .inr (1, [.ref t0, .ref b0, .int 30, .int 59, .int 29, .int 1, .int 40])), (b0, .inl (G.2.1, 160, .inl (gPf tB 40))), (t0, .inr (3, [.ref co, .ref en, .ref sk, .int 4, .int 0])), (co, .inl (G.2.2.2, 6, .inr (.inr (.inr (.inr fO))))), (ck, .inl (G.2.1, 160, .inl (gPf tC 4)))]) A
set_option maxHeartbeats 4000000 in
set_option maxRecDepth 100000 in
theorem c_X1_readNot_a28 (l : Launch) (G : gG) (E : gS) (h0 t0 b0 co en sk ck : Nat) (fO : Nat → Option Nat) (sz : Nat) (hO : fO 0 = some ck) : Met l yX1_readNot wsX1_readNot ({ frames := 10, cells := 0, slots := 0, locals := 214 }) (gPreE G E [.ref h0, .int 0] [(h0, .inr (1, [.ref t0, .ref b0, .int 28, .int 2, .int 27, .int 1, .int 40])), (b0, .inl (G.2.1, 160, .inl (gPf tB 40))), (t0, .inr (3, [.ref co, .ref en, .ref sk, .int 3, .int 0])), (co, .inl (G.2.2.2, 6, .inr (.inr (.inr (.inr fO))))), (ck, .inl (G.2.1, 160, .inl (gPf tC 3)))] sz) (q_X1_readNot_a28 G E h0 t0 b0 co en sk ck fO (va_A [(h0, .inr (1, [.ref t0, .ref b0, .int 28, .int 2, .int 27, .int 1, .int 40])), (b0, .inl (G.2.1, 160, .inl (gPf tB 40))), (t0, .inr (3, [.ref co, .ref en, .ref sk, .int 3, .int 0])), (co, .inl (G.2.2.2, 6, .inr (.inr (.inr (.inr fO))))), (ck, .inl (G.2.1, 160, .inl (gPf tC 3)))] sz)) 0 0 (va_A [(h0, .inr (1, [.ref t0, .ref b0, .int 28, .int 2, .int 27, .int 1, .int 40])), (b0, .inl (G.2.1, 160, .inl (gPf tB 40))), (t0, .inr (3, [.ref co, .ref en, .ref sk, .int 3, .int 0])), (co, .inl (G.2.2.2, 6, .inr (.inr (.inr (.inr fO))))), (ck, .inl (G.2.1, 160, .inl (gPf tC 3)))] sz) := by
  refine Met.ofW (cc := cX1_readNot) (maxL := 3) (ret := (some .boolean)) (by decide) rfl ?_
  intro p e s m args below meth c s₁ B hml hv
  obtain ⟨rfl, hsz, hP, hK, hD0, hE⟩ := hv
  have hx := B.exec
  have hb := B.bytes
  have hr := B.returns
  have hts := atoms_spec (ws := wsX1_readNot) B.pre
  have hown : s.vm.findClass RX1 = some m.cls := findClass_of_methodNamed B.named
  have hlocks := B.notSynchronized
  subst hsz
  have hD := hD0.self (sz := s.heap.size)
  generalize hAe : va_A [(h0, .inr (1, [.ref t0, .ref b0, .int 28, .int 2, .int 27, .int 1, .int 40])), (b0, .inl (G.2.1, 160, .inl (gPf tB 40))), (t0, .inr (3, [.ref co, .ref en, .ref sk, .int 3, .int 0])), (co, .inl (G.2.2.2, 6, .inr (.inr (.inr (.inr fO))))), (ck, .inl (G.2.1, 160, .inl (gPf tC 3)))] s.heap.size = A at hD hE ⊢
  have hA : ∀ q : Nat, s.heap.size ≤ q → A q := fun q h => by rw [← hAe]; exact Or.inr h
  have hS : va_S A s.heap s.heap [] := va_S.rf
  have hP : va_P G.1 vwCl [(h0, .inr (1, [.ref t0, .ref b0, .int 28, .int 2, .int 27, .int 1, .int 40])), (b0, .inl (G.2.1, 160, .inl (gPf tB 40))), (t0, .inr (3, [.ref co, .ref en, .ref sk, .int 3, .int 0])), (co, .inl (G.2.2.2, 6, .inr (.inr (.inr (.inr fO))))), (ck, .inl (G.2.1, 160, .inl (gPf tC 3)))] s.heap := hP
  have hD : va_D A [(h0, .inr (1, [.ref t0, .ref b0, .int 28, .int 2, .int 27, .int 1, .int 40])), (b0, .inl (G.2.1, 160, .inl (gPf tB 40))), (t0, .inr (3, [.ref co, .ref en, .ref sk, .int 3, .int 0])), (co, .inl (G.2.2.2, 6, .inr (.inr (.inr (.inr fO))))), (ck, .inl (G.2.1, 160, .inl (gPf tC 3)))] := hD
  have hl := lv_entry ([.ref h0, .int 0]) (n := 3) (Nat.le_of_ble_eq_true rfl)
  rw [lg_entry_eq]
  generalize (lg_sl ([.ref h0, .int 0]) ++ List.replicate (3 - (lg_sl ([.ref h0, .int 0])).length) Slot.unset).toArray = ls at hl ⊢
  have hl : lv_has ls 3 [(0, .ref h0), (1, .int 0)] := hl
  have kf45 := hts (.fieldLink RX1 45 "PebbleInShoe$Reader" "token" "I") (by decide +kernel)
  have hiX1 := (by decide +kernel : ∀ w ∈ wsX10, w ∈ wsX1_readNot)
  refine lv_aload_n hx hb dX1_readNot_0 rfl (lv_at hl 0 rfl) ?_
  refine va_get (D := G.1) (ci := 1) (v := .int 2) (C := RX1) (T := TX1) (N := 7) hx hb hts hiX1 hown hK hP 0 rfl rfl 3 (by decide) kf45 (fun _ h9 => h9) rfl dX1_readNot_1 ?_
  refine lv_bipush (v := 105) hx hb dX1_readNot_4 (by decide) ?_
  refine lv_icmp_ne (tgt := 44) hx hb dX1_readNot_6 (by decide) (fun c_1 => ?_) (fun c_1 => ?_)
  rotate_left
  · exact absurd c_1 (by decide)
  refine lv_aload_n hx hb dX1_readNot_44 rfl (lv_at hl 0 rfl) ?_
  refine lv_iload_n hx hb dX1_readNot_45 rfl (lv_at hl 1 rfl) ?_
  have hPc : va_P G.1 vwCl [(h0, .inr (1, [.ref t0, .ref b0, .int 28, .int 2, .int 27, .int 1, .int 40])), (b0, .inl (G.2.1, 160, .inl (gPf tB 40))), (t0, .inr (3, [.ref co, .ref en, .ref sk, .int 3, .int 0])), (co, .inl (G.2.2.2, 6, .inr (.inr (.inr (.inr fO))))), (ck, .inl (G.2.1, 160, .inl (gPf tC 3)))] s.heap := hP.sub [0, 1, 2, 3, 4] rfl
  have hDc : va_D A [(h0, .inr (1, [.ref t0, .ref b0, .int 28, .int 2, .int 27, .int 1, .int 40])), (b0, .inl (G.2.1, 160, .inl (gPf tB 40))), (t0, .inr (3, [.ref co, .ref en, .ref sk, .int 3, .int 0])), (co, .inl (G.2.2.2, 6, .inr (.inr (.inr (.inr fO))))), (ck, .inl (G.2.1, 160, .inl (gPf tC 3)))] := hD.sub [0, 1, 2, 3, 4] (by decide) rfl
  have hFc := va_free (wc := [(h0, .inr (1, [.ref t0, .ref b0, .int 28, .int 2, .int 27, .int 1, .int 40])), (b0, .inl (G.2.1, 160, .inl (gPf tB 40))), (t0, .inr (3, [.ref co, .ref en, .ref sk, .int 3, .int 0])), (co, .inl (G.2.2.2, 6, .inr (.inr (.inr (.inr fO))))), (ck, .inl (G.2.1, 160, .inl (gPf tC 3)))]) hD hS hA [0, 1, 2, 3, 4] rfl
  refine va_calli (va_runV (As := [.int 0]) (rest := []) ⟨hx, hb, hml, hown, hts⟩ (c_X1_readSum_a28 l G E h0 t0 b0 co en sk ck fO s.heap.size (hO)) (cwV 1 hts gX1_readNot_X1_readSum rfl rfl rfl (by decide +kernel) ⟨Nat.le_of_ble_eq_true rfl, Nat.le_of_ble_eq_true rfl⟩) ⟨gPreE_blind, va_recv hK hPc (ci := 1) (q0 := 0) rfl rfl, fun U hU hW => gPreE_of hU hW hK hPc hDc hE hS hFc⟩ rfl rfl hl.1 rfl (lv_room (Nat.le_of_ble_eq_true rfl)) dX1_readNot_46 ⟨Nat.le_of_ble_eq_true rfl, Nat.le_of_ble_eq_true rfl⟩) hS (fun q _ h => hFc q h) hFc (fun r_2 u t H locs ht hvm w_3 hB hz1 hk1 hS => ?_)
  obtain ⟨hP1, hK1, hD1⟩ := hB
  rw [ht] at hP1
  have hP1 : va_P G.1 vwCl [(h0, .inr (1, [.ref t0, .ref b0, .int 30, .int 59, .int 29, .int 1, .int 40])), (b0, .inl (G.2.1, 160, .inl (gPf tB 40))), (t0, .inr (3, [.ref co, .ref en, .ref sk, .int 4, .int 0])), (co, .inl (G.2.2.2, 6, .inr (.inr (.inr (.inr fO))))), (ck, .inl (G.2.1, 160, .inl (gPf tC 4)))] H := hP1
  have hD1 : va_D (va_A [(h0, .inr (1, [.ref t0, .ref b0, .int 28, .int 2, .int 27, .int 1, .int 40])), (b0, .inl (G.2.1, 160, .inl (gPf tB 40))), (t0, .inr (3, [.ref co, .ref en, .ref sk, .int 3, .int 0])), (co, .inl (G.2.2.2, 6, .inr (.inr (.inr (.inr fO))))), (ck, .inl (G.2.1, 160, .inl (gPf tC 3)))] s.heap.size) [(h0, .inr (1, [.ref t0, .ref b0, .int 30, .int 59, .int 29, .int 1, .int 40])), (b0, .inl (G.2.1, 160, .inl (gPf tB 40))), (t0, .inr (3, [.ref co, .ref en, .ref sk, .int 4, .int 0])), (co, .inl (G.2.2.2, 6, .inr (.inr (.inr (.inr fO))))), (ck, .inl (G.2.1, 160, .inl (gPf tC 4)))] := hD1
  have w_3 : r_2 = 1 := w_3
  obtain ⟨hP, hD⟩ := va_join (wr := []) (w1 := [(h0, .inr (1, [.ref t0, .ref b0, .int 30, .int 59, .int 29, .int 1, .int 40])), (b0, .inl (G.2.1, 160, .inl (gPf tB 40))), (t0, .inr (3, [.ref co, .ref en, .ref sk, .int 4, .int 0])), (co, .inl (G.2.2.2, 6, .inr (.inr (.inr (.inr fO))))), (ck, .inl (G.2.1, 160, .inl (gPf tC 4)))]) hP hD [0, 1, 2, 3, 4] [] rfl rfl (by decide) (by decide) hk1 hFc hP1 hD1
  have hP : va_P G.1 vwCl [(h0, .inr (1, [.ref t0, .ref b0, .int 30, .int 59, .int 29, .int 1, .int 40])), (b0, .inl (G.2.1, 160, .inl (gPf tB 40))), (t0, .inr (3, [.ref co, .ref en, .ref sk, .int 4, .int 0])), (co, .inl (G.2.2.2, 6, .inr (.inr (.inr (.inr fO))))), (ck, .inl (G.2.1, 160, .inl (gPf tC 4)))] H := hP
  have hD : va_D A [(h0, .inr (1, [.ref t0, .ref b0, .int 30, .int 59, .int 29, .int 1, .int 40])), (b0, .inl (G.2.1, 160, .inl (gPf tB 40))), (t0, .inr (3, [.ref co, .ref en, .ref sk, .int 4, .int 0])), (co, .inl (G.2.2.2, 6, .inr (.inr (.inr (.inr fO))))), (ck, .inl (G.2.1, 160, .inl (gPf tC 4)))] := hD
  have w_3 : r_2 = 1 := w_3
  subst w_3
  refine lv_if_ne (tgt := 54) hx hb dX1_readNot_49 (by decide) (fun c_4 => ?_) (fun c_4 => ?_)
  rotate_left
  · exact absurd c_4 (by decide)
  refine lv_aload_n hx hb dX1_readNot_54 rfl (lv_at hl 0 rfl) ?_
  refine va_get (D := G.1) (ci := 1) (v := .int 59) (C := RX1) (T := TX1) (N := 7) hx hb hts hiX1 hown hK hP 0 rfl rfl 3 (by decide) kf45 (fun _ h9 => h9) rfl dX1_readNot_55 ?_
  refine lv_bipush (v := 60) hx hb dX1_readNot_58 (by decide) ?_
  refine lv_icmp_eq (tgt := 74) hx hb dX1_readNot_60 (by decide) (fun c_5 => ?_) (fun c_5 => ?_)
  · exact absurd c_5 (by decide)
  refine lv_aload_n hx hb dX1_readNot_63 rfl (lv_at hl 0 rfl) ?_
  refine va_get (D := G.1) (ci := 1) (v := .int 59) (C := RX1) (T := TX1) (N := 7) hx hb hts hiX1 hown hK hP 0 rfl rfl 3 (by decide) kf45 (fun _ h9 => h9) rfl dX1_readNot_64 ?_
  refine lv_bipush (v := 61) hx hb dX1_readNot_67 (by decide) ?_
  refine lv_icmp_eq (tgt := 74) hx hb dX1_readNot_69 (by decide) (fun c_6 => ?_) (fun c_6 => ?_)
  · exact absurd c_6 (by decide)
  refine lv_iconst (v := 1) hx hb dX1_readNot_72 (by decide) ?_
  have hP9 := hP.sub (ws' := [(h0, .inr (1, [.ref t0, .ref b0, .int 30, .int 59, .int 29, .int 1, .int 40])), (b0, .inl (G.2.1, 160, .inl (gPf tB 40))), (t0, .inr (3, [.ref co, .ref en, .ref sk, .int 4, .int 0])), (co, .inl (G.2.2.2, 6, .inr (.inr (.inr (.inr fO))))), (ck, .inl (G.2.1, 160, .inl (gPf tC 4)))]) [0, 1, 2, 3, 4] rfl
  have hD9 := hD.sub (ws' := [(h0, .inr (1, [.ref t0, .ref b0, .int 30, .int 59, .int 29, .int 1, .int 40])), (b0, .inl (G.2.1, 160, .inl (gPf tB 40))), (t0, .inr (3, [.ref co, .ref en, .ref sk, .int 4, .int 0])), (co, .inl (G.2.2.2, 6, .inr (.inr (.inr (.inr fO))))), (ck, .inl (G.2.1, 160, .inl (gPf tC 4)))]) [0, 1, 2, 3, 4] (by decide) rfl
  have hpost : (fun (r : Int32) (u : Unit) => match u with | _ => r = 1) 1 () := by first | trivial | rfl | decide | simp
  exact W.zret (v := 1) hx hb hr (rfl) (fun t ht hW => ⟨⟨1, (), rfl, hpost, by rw [ht]; exact hP9, va_K.moved hW.alike hK, hD9⟩, hS.F ht⟩) hS.2.2 dX1_readNot_73
abbrev q_X1_readAnd_a28 (G : gG) (E : gS) (h0 t0 b0 co en sk ck : Nat) (fO : Nat → Option Nat) (A : Nat → Prop) : Array Value → State → Outcome → State → Prop := va_Qi (fun (r : Int32) (u : Unit) => match u with | _ => r = 1) (fun (u : Unit) t => match u with | _ => va_P G.1 vwCl [(h0, .inr (1, [.ref t0, .ref b0, .int 30, .int 59, .int 29, .int 1, .int 40])), (b0, .inl (G.2.1, 160, .inl (gPf tB 40))), (t0, .inr (3, [.ref co, .ref en, .ref sk, .int 4, .int 0])), (co, .inl (G.2.2.2, 6, .inr (.inr (.inr (.inr fO))))), (ck, .inl (G.2.1, 160, .inl (gPf tC 4)))] t.heap ∧ gK G t ∧ va_D A [(h0, .inr (1, [.ref t0, .ref b0, .int 30, .int 59, .int 29, .int 1, .int 40])), (b0, .inl (G.2.1, 160, .inl (gPf tB 40))), (t0, .inr (3, [.ref co, .ref en, .ref sk, .int 4, .int 0])), (co, .inl (G.2.2.2, 6, .inr (.inr (.inr (.inr fO))))), (ck, .inl (G.2.1, 160, .inl (gPf tC 4)))]) A
set_option maxHeartbeats 4000000 in
set_option maxRecDepth 100000 in
theorem c_X1_readAnd_a28 (l : Launch) (G : gG) (E : gS) (h0 t0 b0 co en sk ck : Nat) (fO : Nat → Option Nat) (sz : Nat) (hO : fO 0 = some ck) : Met l yX1_readAnd wsX1_readAnd ({ frames := 11, cells := 0, slots := 0, locals := 236 }) (gPreE G E [.ref h0, .int 0] [(h0, .inr (1, [.ref t0, .ref b0, .int 28, .int 2, .int 27, .int 1, .int 40])), (b0, .inl (G.2.1, 160, .inl (gPf tB 40))), (t0, .inr (3, [.ref co, .ref en, .ref sk, .int 3, .int 0])), (co, .inl (G.2.2.2, 6, .inr (.inr (.inr (.inr fO))))), (ck, .inl (G.2.1, 160, .inl (gPf tC 3)))] sz) (q_X1_readAnd_a28 G E h0 t0 b0 co en sk ck fO (va_A [(h0, .inr (1, [.ref t0, .ref b0, .int 28, .int 2, .int 27, .int 1, .int 40])), (b0, .inl (G.2.1, 160, .inl (gPf tB 40))), (t0, .inr (3, [.ref co, .ref en, .ref sk, .int 3, .int 0])), (co, .inl (G.2.2.2, 6, .inr (.inr (.inr (.inr fO))))), (ck, .inl (G.2.1, 160, .inl (gPf tC 3)))] sz)) 0 0 (va_A [(h0, .inr (1, [.ref t0, .ref b0, .int 28, .int 2, .int 27, .int 1, .int 40])), (b0, .inl (G.2.1, 160, .inl (gPf tB 40))), (t0, .inr (3, [.ref co, .ref en, .ref sk, .int 3, .int 0])), (co, .inl (G.2.2.2, 6, .inr (.inr (.inr (.inr fO))))), (ck, .inl (G.2.1, 160, .inl (gPf tC 3)))] sz) := by
  refine Met.ofW (cc := cX1_readAnd) (maxL := 3) (ret := (some .boolean)) (by decide) rfl ?_
  intro p e s m args below meth c s₁ B hml hv
  obtain ⟨rfl, hsz, hP, hK, hD0, hE⟩ := hv
  have hx := B.exec
  have hb := B.bytes
  have hr := B.returns
  have hts := atoms_spec (ws := wsX1_readAnd) B.pre
  have hown : s.vm.findClass RX1 = some m.cls := findClass_of_methodNamed B.named
  have hlocks := B.notSynchronized
  subst hsz
  have hD := hD0.self (sz := s.heap.size)
  generalize hAe : va_A [(h0, .inr (1, [.ref t0, .ref b0, .int 28, .int 2, .int 27, .int 1, .int 40])), (b0, .inl (G.2.1, 160, .inl (gPf tB 40))), (t0, .inr (3, [.ref co, .ref en, .ref sk, .int 3, .int 0])), (co, .inl (G.2.2.2, 6, .inr (.inr (.inr (.inr fO))))), (ck, .inl (G.2.1, 160, .inl (gPf tC 3)))] s.heap.size = A at hD hE ⊢
  have hA : ∀ q : Nat, s.heap.size ≤ q → A q := fun q h => by rw [← hAe]; exact Or.inr h
  have hS : va_S A s.heap s.heap [] := va_S.rf
  have hP : va_P G.1 vwCl [(h0, .inr (1, [.ref t0, .ref b0, .int 28, .int 2, .int 27, .int 1, .int 40])), (b0, .inl (G.2.1, 160, .inl (gPf tB 40))), (t0, .inr (3, [.ref co, .ref en, .ref sk, .int 3, .int 0])), (co, .inl (G.2.2.2, 6, .inr (.inr (.inr (.inr fO))))), (ck, .inl (G.2.1, 160, .inl (gPf tC 3)))] s.heap := hP
  have hD : va_D A [(h0, .inr (1, [.ref t0, .ref b0, .int 28, .int 2, .int 27, .int 1, .int 40])), (b0, .inl (G.2.1, 160, .inl (gPf tB 40))), (t0, .inr (3, [.ref co, .ref en, .ref sk, .int 3, .int 0])), (co, .inl (G.2.2.2, 6, .inr (.inr (.inr (.inr fO))))), (ck, .inl (G.2.1, 160, .inl (gPf tC 3)))] := hD
  have hl := lv_entry ([.ref h0, .int 0]) (n := 3) (Nat.le_of_ble_eq_true rfl)
  rw [lg_entry_eq]
  generalize (lg_sl ([.ref h0, .int 0]) ++ List.replicate (3 - (lg_sl ([.ref h0, .int 0])).length) Slot.unset).toArray = ls at hl ⊢
  have hl : lv_has ls 3 [(0, .ref h0), (1, .int 0)] := hl
  have kf45 := hts (.fieldLink RX1 45 "PebbleInShoe$Reader" "token" "I") (by decide +kernel)
  have hiX1 := (by decide +kernel : ∀ w ∈ wsX10, w ∈ wsX1_readAnd)
  refine lv_aload_n hx hb dX1_readAnd_0 rfl (lv_at hl 0 rfl) ?_
  refine lv_iload_n hx hb dX1_readAnd_1 rfl (lv_at hl 1 rfl) ?_
  have hPc : va_P G.1 vwCl [(h0, .inr (1, [.ref t0, .ref b0, .int 28, .int 2, .int 27, .int 1, .int 40])), (b0, .inl (G.2.1, 160, .inl (gPf tB 40))), (t0, .inr (3, [.ref co, .ref en, .ref sk, .int 3, .int 0])), (co, .inl (G.2.2.2, 6, .inr (.inr (.inr (.inr fO))))), (ck, .inl (G.2.1, 160, .inl (gPf tC 3)))] s.heap := hP.sub [0, 1, 2, 3, 4] rfl
  have hDc : va_D A [(h0, .inr (1, [.ref t0, .ref b0, .int 28, .int 2, .int 27, .int 1, .int 40])), (b0, .inl (G.2.1, 160, .inl (gPf tB 40))), (t0, .inr (3, [.ref co, .ref en, .ref sk, .int 3, .int 0])), (co, .inl (G.2.2.2, 6, .inr (.inr (.inr (.inr fO))))), (ck, .inl (G.2.1, 160, .inl (gPf tC 3)))] := hD.sub [0, 1, 2, 3, 4] (by decide) rfl
  have hFc := va_free (wc := [(h0, .inr (1, [.ref t0, .ref b0, .int 28, .int 2, .int 27, .int 1, .int 40])), (b0, .inl (G.2.1, 160, .inl (gPf tB 40))), (t0, .inr (3, [.ref co, .ref en, .ref sk, .int 3, .int 0])), (co, .inl (G.2.2.2, 6, .inr (.inr (.inr (.inr fO))))), (ck, .inl (G.2.1, 160, .inl (gPf tC 3)))]) hD hS hA [0, 1, 2, 3, 4] rfl
  refine va_calli (va_runV (As := [.int 0]) (rest := []) ⟨hx, hb, hml, hown, hts⟩ (c_X1_readNot_a28 l G E h0 t0 b0 co en sk ck fO s.heap.size (hO)) (cwV 1 hts gX1_readAnd_X1_readNot rfl rfl rfl (by decide +kernel) ⟨Nat.le_of_ble_eq_true rfl, Nat.le_of_ble_eq_true rfl⟩) ⟨gPreE_blind, va_recv hK hPc (ci := 1) (q0 := 0) rfl rfl, fun U hU hW => gPreE_of hU hW hK hPc hDc hE hS hFc⟩ rfl rfl hl.1 rfl (lv_room (Nat.le_of_ble_eq_true rfl)) dX1_readAnd_2 ⟨Nat.le_of_ble_eq_true rfl, Nat.le_of_ble_eq_true rfl⟩) hS (fun q _ h => hFc q h) hFc (fun r_1 u t H locs ht hvm w_2 hB hz1 hk1 hS => ?_)
  obtain ⟨hP1, hK1, hD1⟩ := hB
  rw [ht] at hP1
  have hP1 : va_P G.1 vwCl [(h0, .inr (1, [.ref t0, .ref b0, .int 30, .int 59, .int 29, .int 1, .int 40])), (b0, .inl (G.2.1, 160, .inl (gPf tB 40))), (t0, .inr (3, [.ref co, .ref en, .ref sk, .int 4, .int 0])), (co, .inl (G.2.2.2, 6, .inr (.inr (.inr (.inr fO))))), (ck, .inl (G.2.1, 160, .inl (gPf tC 4)))] H := hP1
  have hD1 : va_D (va_A [(h0, .inr (1, [.ref t0, .ref b0, .int 28, .int 2, .int 27, .int 1, .int 40])), (b0, .inl (G.2.1, 160, .inl (gPf tB 40))), (t0, .inr (3, [.ref co, .ref en, .ref sk, .int 3, .int 0])), (co, .inl (G.2.2.2, 6, .inr (.inr (.inr (.inr fO))))), (ck, .inl (G.2.1, 160, .inl (gPf tC 3)))] s.heap.size) [(h0, .inr (1, [.ref t0, .ref b0, .int 30, .int 59, .int 29, .int 1, .int 40])), (b0, .inl (G.2.1, 160, .inl (gPf tB 40))), (t0, .inr (3, [.ref co, .ref en, .ref sk, .int 4, .int 0])), (co, .inl (G.2.2.2, 6, .inr (.inr (.inr (.inr fO))))), (ck, .inl (G.2.1, 160, .inl (gPf tC 4)))] := hD1
  have w_2 : r_1 = 1 := w_2
  obtain ⟨hP, hD⟩ := va_join (wr := []) (w1 := [(h0, .inr (1, [.ref t0, .ref b0, .int 30, .int 59, .int 29, .int 1, .int 40])), (b0, .inl (G.2.1, 160, .inl (gPf tB 40))), (t0, .inr (3, [.ref co, .ref en, .ref sk, .int 4, .int 0])), (co, .inl (G.2.2.2, 6, .inr (.inr (.inr (.inr fO))))), (ck, .inl (G.2.1, 160, .inl (gPf tC 4)))]) hP hD [0, 1, 2, 3, 4] [] rfl rfl (by decide) (by decide) hk1 hFc hP1 hD1
  have hP : va_P G.1 vwCl [(h0, .inr (1, [.ref t0, .ref b0, .int 30, .int 59, .int 29, .int 1, .int 40])), (b0, .inl (G.2.1, 160, .inl (gPf tB 40))), (t0, .inr (3, [.ref co, .ref en, .ref sk, .int 4, .int 0])), (co, .inl (G.2.2.2, 6, .inr (.inr (.inr (.inr fO))))), (ck, .inl (G.2.1, 160, .inl (gPf tC 4)))] H := hP
  have hD : va_D A [(h0, .inr (1, [.ref t0, .ref b0, .int 30, .int 59, .int 29, .int 1, .int 40])), (b0, .inl (G.2.1, 160, .inl (gPf tB 40))), (t0, .inr (3, [.ref co, .ref en, .ref sk, .int 4, .int 0])), (co, .inl (G.2.2.2, 6, .inr (.inr (.inr (.inr fO))))), (ck, .inl (G.2.1, 160, .inl (gPf tC 4)))] := hD
  have w_2 : r_1 = 1 := w_2
  subst w_2
  refine lv_if_ne (tgt := 10) hx hb dX1_readAnd_5 (by decide) (fun c_3 => ?_) (fun c_3 => ?_)
  rotate_left
  · exact absurd c_3 (by decide)
  refine lv_iconst (v := 0) hx hb dX1_readAnd_10 (by decide) ?_
  refine lv_istore_n (lv' := [(2, .int 0), (0, .ref h0), (1, .int 0)]) hx hb dX1_readAnd_11 rfl hl (by decide) rfl (fun ls hl => ?_)
  refine lv_iload_n hx hb dX1_readAnd_12 rfl (lv_at hl 0 rfl) ?_
  refine lv_sipush (v := 160) hx hb dX1_readAnd_13 (by decide) ?_
  refine lv_icmp_ge (tgt := 58) hx hb dX1_readAnd_16 (by decide) (fun c_4 => ?_) (fun c_4 => ?_)
  · exact absurd c_4 (by decide)
  refine lv_aload_n hx hb dX1_readAnd_19 rfl (lv_at hl 1 rfl) ?_
  refine va_get (D := G.1) (ci := 1) (v := .int 59) (C := RX1) (T := TX1) (N := 7) hx hb hts hiX1 hown hK hP 0 rfl rfl 3 (by decide) kf45 (fun _ h9 => h9) rfl dX1_readAnd_20 ?_
  refine lv_bipush (v := 104) hx hb dX1_readAnd_23 (by decide) ?_
  refine lv_icmp_ne (tgt := 58) hx hb dX1_readAnd_25 (by decide) (fun c_5 => ?_) (fun c_5 => ?_)
  rotate_left
  · exact absurd c_5 (by decide)
  refine lv_iconst (v := 1) hx hb dX1_readAnd_58 (by decide) ?_
  have hP9 := hP.sub (ws' := [(h0, .inr (1, [.ref t0, .ref b0, .int 30, .int 59, .int 29, .int 1, .int 40])), (b0, .inl (G.2.1, 160, .inl (gPf tB 40))), (t0, .inr (3, [.ref co, .ref en, .ref sk, .int 4, .int 0])), (co, .inl (G.2.2.2, 6, .inr (.inr (.inr (.inr fO))))), (ck, .inl (G.2.1, 160, .inl (gPf tC 4)))]) [0, 1, 2, 3, 4] rfl
  have hD9 := hD.sub (ws' := [(h0, .inr (1, [.ref t0, .ref b0, .int 30, .int 59, .int 29, .int 1, .int 40])), (b0, .inl (G.2.1, 160, .inl (gPf tB 40))), (t0, .inr (3, [.ref co, .ref en, .ref sk, .int 4, .int 0])), (co, .inl (G.2.2.2, 6, .inr (.inr (.inr (.inr fO))))), (ck, .inl (G.2.1, 160, .inl (gPf tC 4)))]) [0, 1, 2, 3, 4] (by decide) rfl
  have hpost : (fun (r : Int32) (u : Unit) => match u with | _ => r = 1) 1 () := by first | trivial | rfl | decide | simp
  exact W.zret (v := 1) hx hb hr (rfl) (fun t ht hW => ⟨⟨1, (), rfl, hpost, by rw [ht]; exact hP9, va_K.moved hW.alike hK, hD9⟩, hS.F ht⟩) hS.2.2 dX1_readAnd_59
abbrev q_X1_readOr_a28 (G : gG) (E : gS) (h0 t0 b0 co en sk ck : Nat) (fO : Nat → Option Nat) (A : Nat → Prop) : Array Value → State → Outcome → State → Prop := va_Qi (fun (r : Int32) (u : Unit) => match u with | _ => r = 1) (fun (u : Unit) t => match u with | _ => va_P G.1 vwCl [(h0, .inr (1, [.ref t0, .ref b0, .int 30, .int 59, .int 29, .int 1, .int 40])), (b0, .inl (G.2.1, 160, .inl (gPf tB 40))), (t0, .inr (3, [.ref co, .ref en, .ref sk, .int 4, .int 0])), (co, .inl (G.2.2.2, 6, .inr (.inr (.inr (.inr fO))))), (ck, .inl (G.2.1, 160, .inl (gPf tC 4)))] t.heap ∧ gK G t ∧ va_D A [(h0, .inr (1, [.ref t0, .ref b0, .int 30, .int 59, .int 29, .int 1, .int 40])), (b0, .inl (G.2.1, 160, .inl (gPf tB 40))), (t0, .inr (3, [.ref co, .ref en, .ref sk, .int 4, .int 0])), (co, .inl (G.2.2.2, 6, .inr (.inr (.inr (.inr fO))))), (ck, .inl (G.2.1, 160, .inl (gPf tC 4)))]) A
set_option maxHeartbeats 4000000 in
set_option maxRecDepth 100000 in
theorem c_X1_readOr_a28 (l : Launch) (G : gG) (E : gS) (h0 t0 b0 co en sk ck : Nat) (fO : Nat → Option Nat) (sz : Nat) (hO : fO 0 = some ck) : Met l yX1_readOr wsX1_readOr ({ frames := 12, cells := 0, slots := 0, locals := 258 }) (gPreE G E [.ref h0, .int 0] [(h0, .inr (1, [.ref t0, .ref b0, .int 28, .int 2, .int 27, .int 1, .int 40])), (b0, .inl (G.2.1, 160, .inl (gPf tB 40))), (t0, .inr (3, [.ref co, .ref en, .ref sk, .int 3, .int 0])), (co, .inl (G.2.2.2, 6, .inr (.inr (.inr (.inr fO))))), (ck, .inl (G.2.1, 160, .inl (gPf tC 3)))] sz) (q_X1_readOr_a28 G E h0 t0 b0 co en sk ck fO (va_A [(h0, .inr (1, [.ref t0, .ref b0, .int 28, .int 2, .int 27, .int 1, .int 40])), (b0, .inl (G.2.1, 160, .inl (gPf tB 40))), (t0, .inr (3, [.ref co, .ref en, .ref sk, .int 3, .int 0])), (co, .inl (G.2.2.2, 6, .inr (.inr (.inr (.inr fO))))), (ck, .inl (G.2.1, 160, .inl (gPf tC 3)))] sz)) 0 0 (va_A [(h0, .inr (1, [.ref t0, .ref b0, .int 28, .int 2, .int 27, .int 1, .int 40])), (b0, .inl (G.2.1, 160, .inl (gPf tB 40))), (t0, .inr (3, [.ref co, .ref en, .ref sk, .int 3, .int 0])), (co, .inl (G.2.2.2, 6, .inr (.inr (.inr (.inr fO))))), (ck, .inl (G.2.1, 160, .inl (gPf tC 3)))] sz) := by
  refine Met.ofW (cc := cX1_readOr) (maxL := 3) (ret := (some .boolean)) (by decide) rfl ?_
  intro p e s m args below meth c s₁ B hml hv
  obtain ⟨rfl, hsz, hP, hK, hD0, hE⟩ := hv
  have hx := B.exec
  have hb := B.bytes
  have hr := B.returns
  have hts := atoms_spec (ws := wsX1_readOr) B.pre
  have hown : s.vm.findClass RX1 = some m.cls := findClass_of_methodNamed B.named
  have hlocks := B.notSynchronized
  subst hsz
  have hD := hD0.self (sz := s.heap.size)
  generalize hAe : va_A [(h0, .inr (1, [.ref t0, .ref b0, .int 28, .int 2, .int 27, .int 1, .int 40])), (b0, .inl (G.2.1, 160, .inl (gPf tB 40))), (t0, .inr (3, [.ref co, .ref en, .ref sk, .int 3, .int 0])), (co, .inl (G.2.2.2, 6, .inr (.inr (.inr (.inr fO))))), (ck, .inl (G.2.1, 160, .inl (gPf tC 3)))] s.heap.size = A at hD hE ⊢
  have hA : ∀ q : Nat, s.heap.size ≤ q → A q := fun q h => by rw [← hAe]; exact Or.inr h
  have hS : va_S A s.heap s.heap [] := va_S.rf
  have hP : va_P G.1 vwCl [(h0, .inr (1, [.ref t0, .ref b0, .int 28, .int 2, .int 27, .int 1, .int 40])), (b0, .inl (G.2.1, 160, .inl (gPf tB 40))), (t0, .inr (3, [.ref co, .ref en, .ref sk, .int 3, .int 0])), (co, .inl (G.2.2.2, 6, .inr (.inr (.inr (.inr fO))))), (ck, .inl (G.2.1, 160, .inl (gPf tC 3)))] s.heap := hP
  have hD : va_D A [(h0, .inr (1, [.ref t0, .ref b0, .int 28, .int 2, .int 27, .int 1, .int 40])), (b0, .inl (G.2.1, 160, .inl (gPf tB 40))), (t0, .inr (3, [.ref co, .ref en, .ref sk, .int 3, .int 0])), (co, .inl (G.2.2.2, 6, .inr (.inr (.inr (.inr fO))))), (ck, .inl (G.2.1, 160, .inl (gPf tC 3)))] := hD
  have hl := lv_entry ([.ref h0, .int 0]) (n := 3) (Nat.le_of_ble_eq_true rfl)
  rw [lg_entry_eq]
  generalize (lg_sl ([.ref h0, .int 0]) ++ List.replicate (3 - (lg_sl ([.ref h0, .int 0])).length) Slot.unset).toArray = ls at hl ⊢
  have hl : lv_has ls 3 [(0, .ref h0), (1, .int 0)] := hl
  have kf45 := hts (.fieldLink RX1 45 "PebbleInShoe$Reader" "token" "I") (by decide +kernel)
  have hiX1 := (by decide +kernel : ∀ w ∈ wsX10, w ∈ wsX1_readOr)
  refine lv_aload_n hx hb dX1_readOr_0 rfl (lv_at hl 0 rfl) ?_
  refine lv_iload_n hx hb dX1_readOr_1 rfl (lv_at hl 1 rfl) ?_
  have hPc : va_P G.1 vwCl [(h0, .inr (1, [.ref t0, .ref b0, .int 28, .int 2, .int 27, .int 1, .int 40])), (b0, .inl (G.2.1, 160, .inl (gPf tB 40))), (t0, .inr (3, [.ref co, .ref en, .ref sk, .int 3, .int 0])), (co, .inl (G.2.2.2, 6, .inr (.inr (.inr (.inr fO))))), (ck, .inl (G.2.1, 160, .inl (gPf tC 3)))] s.heap := hP.sub [0, 1, 2, 3, 4] rfl
  have hDc : va_D A [(h0, .inr (1, [.ref t0, .ref b0, .int 28, .int 2, .int 27, .int 1, .int 40])), (b0, .inl (G.2.1, 160, .inl (gPf tB 40))), (t0, .inr (3, [.ref co, .ref en, .ref sk, .int 3, .int 0])), (co, .inl (G.2.2.2, 6, .inr (.inr (.inr (.inr fO))))), (ck, .inl (G.2.1, 160, .inl (gPf tC 3)))] := hD.sub [0, 1, 2, 3, 4] (by decide) rfl
  have hFc := va_free (wc := [(h0, .inr (1, [.ref t0, .ref b0, .int 28, .int 2, .int 27, .int 1, .int 40])), (b0, .inl (G.2.1, 160, .inl (gPf tB 40))), (t0, .inr (3, [.ref co, .ref en, .ref sk, .int 3, .int 0])), (co, .inl (G.2.2.2, 6, .inr (.inr (.inr (.inr fO))))), (ck, .inl (G.2.1, 160, .inl (gPf tC 3)))]) hD hS hA [0, 1, 2, 3, 4] rfl
  refine va_calli (va_runV (As := [.int 0]) (rest := []) ⟨hx, hb, hml, hown, hts⟩ (c_X1_readAnd_a28 l G E h0 t0 b0 co en sk ck fO s.heap.size (hO)) (cwV 1 hts gX1_readOr_X1_readAnd rfl rfl rfl (by decide +kernel) ⟨Nat.le_of_ble_eq_true rfl, Nat.le_of_ble_eq_true rfl⟩) ⟨gPreE_blind, va_recv hK hPc (ci := 1) (q0 := 0) rfl rfl, fun U hU hW => gPreE_of hU hW hK hPc hDc hE hS hFc⟩ rfl rfl hl.1 rfl (lv_room (Nat.le_of_ble_eq_true rfl)) dX1_readOr_2 ⟨Nat.le_of_ble_eq_true rfl, Nat.le_of_ble_eq_true rfl⟩) hS (fun q _ h => hFc q h) hFc (fun r_1 u t H locs ht hvm w_2 hB hz1 hk1 hS => ?_)
  obtain ⟨hP1, hK1, hD1⟩ := hB
  rw [ht] at hP1
  have hP1 : va_P G.1 vwCl [(h0, .inr (1, [.ref t0, .ref b0, .int 30, .int 59, .int 29, .int 1, .int 40])), (b0, .inl (G.2.1, 160, .inl (gPf tB 40))), (t0, .inr (3, [.ref co, .ref en, .ref sk, .int 4, .int 0])), (co, .inl (G.2.2.2, 6, .inr (.inr (.inr (.inr fO))))), (ck, .inl (G.2.1, 160, .inl (gPf tC 4)))] H := hP1
  have hD1 : va_D (va_A [(h0, .inr (1, [.ref t0, .ref b0, .int 28, .int 2, .int 27, .int 1, .int 40])), (b0, .inl (G.2.1, 160, .inl (gPf tB 40))), (t0, .inr (3, [.ref co, .ref en, .ref sk, .int 3, .int 0])), (co, .inl (G.2.2.2, 6, .inr (.inr (.inr (.inr fO))))), (ck, .inl (G.2.1, 160, .inl (gPf tC 3)))] s.heap.size) [(h0, .inr (1, [.ref t0, .ref b0, .int 30, .int 59, .int 29, .int 1, .int 40])), (b0, .inl (G.2.1, 160, .inl (gPf tB 40))), (t0, .inr (3, [.ref co, .ref en, .ref sk, .int 4, .int 0])), (co, .inl (G.2.2.2, 6, .inr (.inr (.inr (.inr fO))))), (ck, .inl (G.2.1, 160, .inl (gPf tC 4)))] := hD1
  have w_2 : r_1 = 1 := w_2
  obtain ⟨hP, hD⟩ := va_join (wr := []) (w1 := [(h0, .inr (1, [.ref t0, .ref b0, .int 30, .int 59, .int 29, .int 1, .int 40])), (b0, .inl (G.2.1, 160, .inl (gPf tB 40))), (t0, .inr (3, [.ref co, .ref en, .ref sk, .int 4, .int 0])), (co, .inl (G.2.2.2, 6, .inr (.inr (.inr (.inr fO))))), (ck, .inl (G.2.1, 160, .inl (gPf tC 4)))]) hP hD [0, 1, 2, 3, 4] [] rfl rfl (by decide) (by decide) hk1 hFc hP1 hD1
  have hP : va_P G.1 vwCl [(h0, .inr (1, [.ref t0, .ref b0, .int 30, .int 59, .int 29, .int 1, .int 40])), (b0, .inl (G.2.1, 160, .inl (gPf tB 40))), (t0, .inr (3, [.ref co, .ref en, .ref sk, .int 4, .int 0])), (co, .inl (G.2.2.2, 6, .inr (.inr (.inr (.inr fO))))), (ck, .inl (G.2.1, 160, .inl (gPf tC 4)))] H := hP
  have hD : va_D A [(h0, .inr (1, [.ref t0, .ref b0, .int 30, .int 59, .int 29, .int 1, .int 40])), (b0, .inl (G.2.1, 160, .inl (gPf tB 40))), (t0, .inr (3, [.ref co, .ref en, .ref sk, .int 4, .int 0])), (co, .inl (G.2.2.2, 6, .inr (.inr (.inr (.inr fO))))), (ck, .inl (G.2.1, 160, .inl (gPf tC 4)))] := hD
  have w_2 : r_1 = 1 := w_2
  subst w_2
  refine lv_if_ne (tgt := 10) hx hb dX1_readOr_5 (by decide) (fun c_3 => ?_) (fun c_3 => ?_)
  rotate_left
  · exact absurd c_3 (by decide)
  refine lv_iconst (v := 0) hx hb dX1_readOr_10 (by decide) ?_
  refine lv_istore_n (lv' := [(2, .int 0), (0, .ref h0), (1, .int 0)]) hx hb dX1_readOr_11 rfl hl (by decide) rfl (fun ls hl => ?_)
  refine lv_iload_n hx hb dX1_readOr_12 rfl (lv_at hl 0 rfl) ?_
  refine lv_sipush (v := 160) hx hb dX1_readOr_13 (by decide) ?_
  refine lv_icmp_ge (tgt := 58) hx hb dX1_readOr_16 (by decide) (fun c_4 => ?_) (fun c_4 => ?_)
  · exact absurd c_4 (by decide)
  refine lv_aload_n hx hb dX1_readOr_19 rfl (lv_at hl 1 rfl) ?_
  refine va_get (D := G.1) (ci := 1) (v := .int 59) (C := RX1) (T := TX1) (N := 7) hx hb hts hiX1 hown hK hP 0 rfl rfl 3 (by decide) kf45 (fun _ h9 => h9) rfl dX1_readOr_20 ?_
  refine lv_bipush (v := 103) hx hb dX1_readOr_23 (by decide) ?_
  refine lv_icmp_ne (tgt := 58) hx hb dX1_readOr_25 (by decide) (fun c_5 => ?_) (fun c_5 => ?_)
  rotate_left
  · exact absurd c_5 (by decide)
  refine lv_iconst (v := 1) hx hb dX1_readOr_58 (by decide) ?_
  have hP9 := hP.sub (ws' := [(h0, .inr (1, [.ref t0, .ref b0, .int 30, .int 59, .int 29, .int 1, .int 40])), (b0, .inl (G.2.1, 160, .inl (gPf tB 40))), (t0, .inr (3, [.ref co, .ref en, .ref sk, .int 4, .int 0])), (co, .inl (G.2.2.2, 6, .inr (.inr (.inr (.inr fO))))), (ck, .inl (G.2.1, 160, .inl (gPf tC 4)))]) [0, 1, 2, 3, 4] rfl
  have hD9 := hD.sub (ws' := [(h0, .inr (1, [.ref t0, .ref b0, .int 30, .int 59, .int 29, .int 1, .int 40])), (b0, .inl (G.2.1, 160, .inl (gPf tB 40))), (t0, .inr (3, [.ref co, .ref en, .ref sk, .int 4, .int 0])), (co, .inl (G.2.2.2, 6, .inr (.inr (.inr (.inr fO))))), (ck, .inl (G.2.1, 160, .inl (gPf tC 4)))]) [0, 1, 2, 3, 4] (by decide) rfl
  have hpost : (fun (r : Int32) (u : Unit) => match u with | _ => r = 1) 1 () := by first | trivial | rfl | decide | simp
  exact W.zret (v := 1) hx hb hr (rfl) (fun t ht hW => ⟨⟨1, (), rfl, hpost, by rw [ht]; exact hP9, va_K.moved hW.alike hK, hD9⟩, hS.F ht⟩) hS.2.2 dX1_readOr_59
abbrev q_X1_readOne_a38 (G : gG) (E : gS) (h0 t0 b0 co en sk ck : Nat) (fO : Nat → Option Nat) (A : Nat → Prop) : Array Value → State → Outcome → State → Prop := va_Qi (fun (r : Int32) (u : Unit) => match u with | _ => r = 1) (fun (u : Unit) t => match u with | _ => va_P G.1 vwCl [(h0, .inr (1, [.ref t0, .ref b0, .int 40, .int 59, .int 39, .int 30, .int 40])), (b0, .inl (G.2.1, 160, .inl (gPf tB 40))), (t0, .inr (3, [.ref co, .ref en, .ref sk, .int 5, .int 0])), (co, .inl (G.2.2.2, 6, .inr (.inr (.inr (.inr fO))))), (ck, .inl (G.2.1, 160, .inl (gPf tC 5)))] t.heap ∧ gK G t ∧ va_D A [(h0, .inr (1, [.ref t0, .ref b0, .int 40, .int 59, .int 39, .int 30, .int 40])), (b0, .inl (G.2.1, 160, .inl (gPf tB 40))), (t0, .inr (3, [.ref co, .ref en, .ref sk, .int 5, .int 0])), (co, .inl (G.2.2.2, 6, .inr (.inr (.inr (.inr fO))))), (ck, .inl (G.2.1, 160, .inl (gPf tC 5)))]) A
set_option maxHeartbeats 4000000 in
set_option maxRecDepth 100000 in
theorem c_X1_readOne_a38 (l : Launch) (G : gG) (E : gS) (h0 t0 b0 co en sk ck : Nat) (fO : Nat → Option Nat) (sz : Nat) (hO : fO 0 = some ck) : Met l yX1_readOne wsX1_readOne ({ frames := 7, cells := 0, slots := 0, locals := 148 }) (gPreE G E [.ref h0, .int 0] [(h0, .inr (1, [.ref t0, .ref b0, .int 38, .int 2, .int 36, .int 30, .int 40])), (b0, .inl (G.2.1, 160, .inl (gPf tB 40))), (t0, .inr (3, [.ref co, .ref en, .ref sk, .int 4, .int 0])), (co, .inl (G.2.2.2, 6, .inr (.inr (.inr (.inr fO))))), (ck, .inl (G.2.1, 160, .inl (gPf tC 4)))] sz) (q_X1_readOne_a38 G E h0 t0 b0 co en sk ck fO (va_A [(h0, .inr (1, [.ref t0, .ref b0, .int 38, .int 2, .int 36, .int 30, .int 40])), (b0, .inl (G.2.1, 160, .inl (gPf tB 40))), (t0, .inr (3, [.ref co, .ref en, .ref sk, .int 4, .int 0])), (co, .inl (G.2.2.2, 6, .inr (.inr (.inr (.inr fO))))), (ck, .inl (G.2.1, 160, .inl (gPf tC 4)))] sz)) 0 0 (va_A [(h0, .inr (1, [.ref t0, .ref b0, .int 38, .int 2, .int 36, .int 30, .int 40])), (b0, .inl (G.2.1, 160, .inl (gPf tB 40))), (t0, .inr (3, [.ref co, .ref en, .ref sk, .int 4, .int 0])), (co, .inl (G.2.2.2, 6, .inr (.inr (.inr (.inr fO))))), (ck, .inl (G.2.1, 160, .inl (gPf tC 4)))] sz) := by
  refine Met.ofW (cc := cX1_readOne) (maxL := 2) (ret := (some .boolean)) (by decide) rfl ?_
  intro p e s m args below meth c s₁ B hml hv
  obtain ⟨rfl, hsz, hP, hK, hD0, hE⟩ := hv
  have hx := B.exec
  have hb := B.bytes
  have hr := B.returns
  have hts := atoms_spec (ws := wsX1_readOne) B.pre
  have hown : s.vm.findClass RX1 = some m.cls := findClass_of_methodNamed B.named
  have hlocks := B.notSynchronized
  subst hsz
  have hD := hD0.self (sz := s.heap.size)
  generalize hAe : va_A [(h0, .inr (1, [.ref t0, .ref b0, .int 38, .int 2, .int 36, .int 30, .int 40])), (b0, .inl (G.2.1, 160, .inl (gPf tB 40))), (t0, .inr (3, [.ref co, .ref en, .ref sk, .int 4, .int 0])), (co, .inl (G.2.2.2, 6, .inr (.inr (.inr (.inr fO))))), (ck, .inl (G.2.1, 160, .inl (gPf tC 4)))] s.heap.size = A at hD hE ⊢
  have hA : ∀ q : Nat, s.heap.size ≤ q → A q := fun q h => by rw [← hAe]; exact Or.inr h
  have hS : va_S A s.heap s.heap [] := va_S.rf
  have hP : va_P G.1 vwCl [(h0, .inr (1, [.ref t0, .ref b0, .int 38, .int 2, .int 36, .int 30, .int 40])), (b0, .inl (G.2.1, 160, .inl (gPf tB 40))), (t0, .inr (3, [.ref co, .ref en, .ref sk, .int 4, .int 0])), (co, .inl (G.2.2.2, 6, .inr (.inr (.inr (.inr fO))))), (ck, .inl (G.2.1, 160, .inl (gPf tC 4)))] s.heap := hP
  have hD : va_D A [(h0, .inr (1, [.ref t0, .ref b0, .int 38, .int 2, .int 36, .int 30, .int 40])), (b0, .inl (G.2.1, 160, .inl (gPf tB 40))), (t0, .inr (3, [.ref co, .ref en, .ref sk, .int 4, .int 0])), (co, .inl (G.2.2.2, 6, .inr (.inr (.inr (.inr fO))))), (ck, .inl (G.2.1, 160, .inl (gPf tC 4)))] := hD
  have hl := lv_entry ([.ref h0, .int 0]) (n := 2) (Nat.le_of_ble_eq_true rfl)
  rw [lg_entry_eq]
  generalize (lg_sl ([.ref h0, .int 0]) ++ List.replicate (2 - (lg_sl ([.ref h0, .int 0])).length) Slot.unset).toArray = ls at hl ⊢
  have hl : lv_has ls 2 [(0, .ref h0), (1, .int 0)] := hl
  have kf45 := hts (.fieldLink RX1 45 "PebbleInShoe$Reader" "token" "I") (by decide +kernel)
  have hiX1 := (by decide +kernel : ∀ w ∈ wsX10, w ∈ wsX1_readOne)
  have kf15 := hts (.fieldLink RX1 15 "PebbleInShoe$Reader" "texts" "LPebbleInShoe$Texts;") (by decide +kernel)
  have kf74 := hts (.fieldLink RX1 74 "PebbleInShoe$Reader" "meaning" "I") (by decide +kernel)
  refine lv_aload_n hx hb dX1_readOne_0 rfl (lv_at hl 0 rfl) ?_
  refine va_get (D := G.1) (ci := 1) (v := .int 2) (C := RX1) (T := TX1) (N := 7) hx hb hts hiX1 hown hK hP 0 rfl rfl 3 (by decide) kf45 (fun _ h9 => h9) rfl dX1_readOne_1 ?_
  refine lv_iconst (v := 2) hx hb dX1_readOne_4 (by decide) ?_
  refine lv_icmp_eq (tgt := 16) hx hb dX1_readOne_5 (by decide) (fun c_1 => ?_) (fun c_1 => ?_)
  rotate_left
  · exact absurd (by decide) c_1
  refine lv_aload_n hx hb dX1_readOne_16 rfl (lv_at hl 0 rfl) ?_
  refine va_get (D := G.1) (ci := 1) (v := .ref t0) (C := RX1) (T := TX1) (N := 7) hx hb hts hiX1 hown hK hP 0 rfl rfl 0 (by decide) kf15 (fun _ h9 => h9) rfl dX1_readOne_17 ?_
  refine lv_aload_n hx hb dX1_readOne_20 rfl (lv_at hl 0 rfl) ?_
  refine va_get (D := G.1) (ci := 1) (v := .int 2) (C := RX1) (T := TX1) (N := 7) hx hb hts hiX1 hown hK hP 0 rfl rfl 3 (by decide) kf45 (fun _ h9 => h9) rfl dX1_readOne_21 ?_
  refine lv_iconst (v := 2) hx hb dX1_readOne_24 (by decide) ?_
  refine lv_icmp_ne (tgt := 35) hx hb dX1_readOne_25 (by decide) (fun c_2 => ?_) (fun c_2 => ?_)
  · exact absurd (by decide) c_2
  refine lv_aload_n hx hb dX1_readOne_28 rfl (lv_at hl 0 rfl) ?_
  refine va_get (D := G.1) (ci := 1) (v := .int 30) (C := RX1) (T := TX1) (N := 7) hx hb hts hiX1 hown hK hP 0 rfl rfl 5 (by decide) kf74 (fun _ h9 => h9) rfl dX1_readOne_29 ?_
  refine lv_goto (tgt := 43) hx hb dX1_readOne_32 (by decide) ?_
  have hPc : va_P G.1 vwCl [(t0, .inr (3, [.ref co, .ref en, .ref sk, .int (nI 4), .int (nI 0)])), (co, .inl (G.2.2.2, 6, .inr (.inr (.inr (.inr fO))))), (ck, .inl (G.2.1, 160, .inl (gPf tC 4)))] s.heap := hP.sub [2, 3, 4] rfl
  have hDc : va_D A [(t0, .inr (3, [.ref co, .ref en, .ref sk, .int (nI 4), .int (nI 0)])), (co, .inl (G.2.2.2, 6, .inr (.inr (.inr (.inr fO))))), (ck, .inl (G.2.1, 160, .inl (gPf tC 4)))] := hD.sub [2, 3, 4] (by decide) rfl
  have hFc := va_free (wc := [(t0, .inr (3, [.ref co, .ref en, .ref sk, .int (nI 4), .int (nI 0)])), (co, .inl (G.2.2.2, 6, .inr (.inr (.inr (.inr fO))))), (ck, .inl (G.2.1, 160, .inl (gPf tC 4)))]) hD hS hA [2, 3, 4] rfl
  refine va_callv (va_runV (As := [.int 30]) (rest := []) ⟨hx, hb, hml, hown, hts⟩ (c_X3_write l G t0 co en sk ck fO (gPf tC 4) 4 0 30 s.heap.size (hO) (by decide) (by decide)) (cwV 1 hts gX1_readOne_X3_write rfl rfl rfl (by decide +kernel) ⟨Nat.le_of_ble_eq_true rfl, Nat.le_of_ble_eq_true rfl⟩) ⟨gPre_blind, va_recv hK hPc (ci := 3) (q0 := 0) rfl rfl, fun U hU hW => gPre_of hU hW hK hPc hDc⟩ rfl rfl hl.1 rfl (lv_room (Nat.le_of_ble_eq_true rfl)) dX1_readOne_43 ⟨Nat.le_of_ble_eq_true rfl, Nat.le_of_ble_eq_true rfl⟩) hS (fun q _ h => hFc q h) hFc (fun u t H locs ht hvm w_4 hB hz1 hk1 hS => ?_)
  obtain ⟨hP1, hK1, hD1⟩ := hB
  rw [ht] at hP1
  have hP1 : va_P G.1 vwCl [(t0, .inr (3, [.ref co, .ref en, .ref sk, .int 5, .int 0])), (co, .inl (G.2.2.2, 6, .inr (.inr (.inr (.inr fO))))), (ck, .inl (G.2.1, 160, .inl (upd (gPf tC 4) 4 30)))] H := hP1
  have hD1 : va_D (va_A [(t0, .inr (3, [.ref co, .ref en, .ref sk, .int (nI 4), .int (nI 0)])), (co, .inl (G.2.2.2, 6, .inr (.inr (.inr (.inr fO))))), (ck, .inl (G.2.1, 160, .inl (gPf tC 4)))] s.heap.size) [(t0, .inr (3, [.ref co, .ref en, .ref sk, .int 5, .int 0])), (co, .inl (G.2.2.2, 6, .inr (.inr (.inr (.inr fO))))), (ck, .inl (G.2.1, 160, .inl (upd (gPf tC 4) 4 30)))] := hD1
  obtain ⟨hP, hD⟩ := va_join (wr := [(h0, .inr (1, [.ref t0, .ref b0, .int 38, .int 2, .int 36, .int 30, .int 40])), (b0, .inl (G.2.1, 160, .inl (gPf tB 40)))]) (w1 := [(t0, .inr (3, [.ref co, .ref en, .ref sk, .int 5, .int 0])), (co, .inl (G.2.2.2, 6, .inr (.inr (.inr (.inr fO))))), (ck, .inl (G.2.1, 160, .inl (upd (gPf tC 4) 4 30)))]) hP hD [2, 3, 4] [0, 1] rfl rfl (by decide) (by decide) hk1 hFc hP1 hD1
  have hP : va_P G.1 vwCl [(h0, .inr (1, [.ref t0, .ref b0, .int 38, .int 2, .int 36, .int 30, .int 40])), (b0, .inl (G.2.1, 160, .inl (gPf tB 40))), (t0, .inr (3, [.ref co, .ref en, .ref sk, .int 5, .int 0])), (co, .inl (G.2.2.2, 6, .inr (.inr (.inr (.inr fO))))), (ck, .inl (G.2.1, 160, .inl (upd (gPf tC 4) 4 30)))] H := hP
  have hD : va_D A [(h0, .inr (1, [.ref t0, .ref b0, .int 38, .int 2, .int 36, .int 30, .int 40])), (b0, .inl (G.2.1, 160, .inl (gPf tB 40))), (t0, .inr (3, [.ref co, .ref en, .ref sk, .int 5, .int 0])), (co, .inl (G.2.2.2, 6, .inr (.inr (.inr (.inr fO))))), (ck, .inl (G.2.1, 160, .inl (upd (gPf tC 4) 4 30)))] := hD
  have hP : va_P G.1 vwCl [(h0, .inr (1, [.ref t0, .ref b0, .int 38, .int 2, .int 36, .int 30, .int 40])), (b0, .inl (G.2.1, 160, .inl (gPf tB 40))), (t0, .inr (3, [.ref co, .ref en, .ref sk, .int 5, .int 0])), (co, .inl (G.2.2.2, 6, .inr (.inr (.inr (.inr fO))))), (ck, .inl (G.2.1, 160, .inl (gPf tC 5)))] H := by rw [gPf_step (t := tC) (k := 4) (x := 30) (by decide)] at hP; exact hP
  have hD : va_D A [(h0, .inr (1, [.ref t0, .ref b0, .int 38, .int 2, .int 36, .int 30, .int 40])), (b0, .inl (G.2.1, 160, .inl (gPf tB 40))), (t0, .inr (3, [.ref co, .ref en, .ref sk, .int 5, .int 0])), (co, .inl (G.2.2.2, 6, .inr (.inr (.inr (.inr fO))))), (ck, .inl (G.2.1, 160, .inl (gPf tC 5)))] := by rw [gPf_step (t := tC) (k := 4) (x := 30) (by decide)] at hD; exact hD
  refine lv_aload_n hx hb dX1_readOne_46 rfl (lv_at hl 0 rfl) ?_
  have hPc : va_P G.1 vwCl [(h0, .inr (1, [.ref t0, .ref b0, .int (nI 38), .int 2, .int 36, .int 30, .int (nI 40)])), (b0, .inl (G.2.1, 160, .inl (gPf tB 40)))] H := hP.sub [0, 1] rfl
  have hDc : va_D A [(h0, .inr (1, [.ref t0, .ref b0, .int (nI 38), .int 2, .int 36, .int 30, .int (nI 40)])), (b0, .inl (G.2.1, 160, .inl (gPf tB 40)))] := hD.sub [0, 1] (by decide) rfl
  have hFc := va_free (wc := [(h0, .inr (1, [.ref t0, .ref b0, .int (nI 38), .int 2, .int 36, .int 30, .int (nI 40)])), (b0, .inl (G.2.1, 160, .inl (gPf tB 40)))]) hD hS hA [0, 1] rfl
  refine va_callv (va_runV (As := []) (rest := []) ⟨hx, hb, hml, hown, hts⟩ (c_X1_next l G E h0 t0 b0 (gPf tB 40) 2 36 30 40 38 H.size (by decide) (by decide)) (cwV 0 hts gX1_readOne_X1_next rfl rfl rfl (by decide +kernel) ⟨Nat.le_of_ble_eq_true rfl, Nat.le_of_ble_eq_true rfl⟩) ⟨gPreE_blind, va_recv hK hPc (ci := 1) (q0 := 0) rfl rfl, fun U hU hW => gPreE_of hU hW hK hPc hDc hE hS hFc⟩ rfl rfl hl.1 rfl (lv_room (Nat.le_of_ble_eq_true rfl)) dX1_readOne_47 ⟨Nat.le_of_ble_eq_true rfl, Nat.le_of_ble_eq_true rfl⟩) hS (fun q _ h => hFc q h) hFc (fun u t H locs ht hvm w_6 hB hz1 hk1 hS => ?_)
  obtain ⟨zb_7, zt_8, zp_9, zm_10⟩ := u
  obtain ⟨hP1, hK1, hD1⟩ := hB
  rw [ht] at hP1
  have hP1 : va_P G.1 vwCl [(h0, .inr (1, [.ref t0, .ref b0, .int (nI zb_7), .int zt_8, .int (nI zp_9), .int zm_10, .int 40])), (b0, .inl (G.2.1, 160, .inl (gPf tB 40)))] H := hP1
  have hD1 : va_D (va_A [(h0, .inr (1, [.ref t0, .ref b0, .int (nI 38), .int 2, .int 36, .int 30, .int (nI 40)])), (b0, .inl (G.2.1, 160, .inl (gPf tB 40)))] _) [(h0, .inr (1, [.ref t0, .ref b0, .int (nI zb_7), .int zt_8, .int (nI zp_9), .int zm_10, .int 40])), (b0, .inl (G.2.1, 160, .inl (gPf tB 40)))] := hD1
  have w_6 : (zb_7, zt_8, zp_9, zm_10) = mNext (gPf tB 40) 40 38 30 := w_6
  obtain ⟨hP, hD⟩ := va_join (wr := [(t0, .inr (3, [.ref co, .ref en, .ref sk, .int 5, .int 0])), (co, .inl (G.2.2.2, 6, .inr (.inr (.inr (.inr fO))))), (ck, .inl (G.2.1, 160, .inl (gPf tC 5)))]) (w1 := [(h0, .inr (1, [.ref t0, .ref b0, .int (nI zb_7), .int zt_8, .int (nI zp_9), .int zm_10, .int 40])), (b0, .inl (G.2.1, 160, .inl (gPf tB 40)))]) hP hD [0, 1] [2, 3, 4] rfl rfl (by decide) (by decide) hk1 hFc hP1 hD1
  have hP : va_P G.1 vwCl [(t0, .inr (3, [.ref co, .ref en, .ref sk, .int 5, .int 0])), (co, .inl (G.2.2.2, 6, .inr (.inr (.inr (.inr fO))))), (ck, .inl (G.2.1, 160, .inl (gPf tC 5))), (h0, .inr (1, [.ref t0, .ref b0, .int (nI zb_7), .int zt_8, .int (nI zp_9), .int zm_10, .int 40])), (b0, .inl (G.2.1, 160, .inl (gPf tB 40)))] H := hP
  have hD : va_D A [(t0, .inr (3, [.ref co, .ref en, .ref sk, .int 5, .int 0])), (co, .inl (G.2.2.2, 6, .inr (.inr (.inr (.inr fO))))), (ck, .inl (G.2.1, 160, .inl (gPf tC 5))), (h0, .inr (1, [.ref t0, .ref b0, .int (nI zb_7), .int zt_8, .int (nI zp_9), .int zm_10, .int 40])), (b0, .inl (G.2.1, 160, .inl (gPf tB 40)))] := hD
  rw [show mNext (gPf tB 40) 40 38 30 = (40, 59, 39, 30) by decide +kernel] at w_6
  simp only [Prod.mk.injEq] at w_6
  obtain ⟨g_11, g_12, g_13, g_14⟩ := w_6
  have g_11 := g_11.symm
  subst g_11
  have g_12 := g_12.symm
  subst g_12
  have g_13 := g_13.symm
  subst g_13
  have g_14 := g_14.symm
  subst g_14
  have hP : va_P G.1 vwCl [(t0, .inr (3, [.ref co, .ref en, .ref sk, .int 5, .int 0])), (co, .inl (G.2.2.2, 6, .inr (.inr (.inr (.inr fO))))), (ck, .inl (G.2.1, 160, .inl (gPf tC 5))), (h0, .inr (1, [.ref t0, .ref b0, .int 40, .int 59, .int 39, .int 30, .int 40])), (b0, .inl (G.2.1, 160, .inl (gPf tB 40)))] H := hP
  have hD : va_D A [(t0, .inr (3, [.ref co, .ref en, .ref sk, .int 5, .int 0])), (co, .inl (G.2.2.2, 6, .inr (.inr (.inr (.inr fO))))), (ck, .inl (G.2.1, 160, .inl (gPf tC 5))), (h0, .inr (1, [.ref t0, .ref b0, .int 40, .int 59, .int 39, .int 30, .int 40])), (b0, .inl (G.2.1, 160, .inl (gPf tB 40)))] := hD
  refine lv_iconst (v := 1) hx hb dX1_readOne_50 (by decide) ?_
  have hP9 := hP.sub (ws' := [(h0, .inr (1, [.ref t0, .ref b0, .int 40, .int 59, .int 39, .int 30, .int 40])), (b0, .inl (G.2.1, 160, .inl (gPf tB 40))), (t0, .inr (3, [.ref co, .ref en, .ref sk, .int 5, .int 0])), (co, .inl (G.2.2.2, 6, .inr (.inr (.inr (.inr fO))))), (ck, .inl (G.2.1, 160, .inl (gPf tC 5)))]) [3, 4, 0, 1, 2] rfl
  have hD9 := hD.sub (ws' := [(h0, .inr (1, [.ref t0, .ref b0, .int 40, .int 59, .int 39, .int 30, .int 40])), (b0, .inl (G.2.1, 160, .inl (gPf tB 40))), (t0, .inr (3, [.ref co, .ref en, .ref sk, .int 5, .int 0])), (co, .inl (G.2.2.2, 6, .inr (.inr (.inr (.inr fO))))), (ck, .inl (G.2.1, 160, .inl (gPf tC 5)))]) [3, 4, 0, 1, 2] (by decide) rfl
  have hpost : (fun (r : Int32) (u : Unit) => match u with | _ => r = 1) 1 () := by first | trivial | rfl | decide | simp
  exact W.zret (v := 1) hx hb hr (rfl) (fun t ht hW => ⟨⟨1, (), rfl, hpost, by rw [ht]; exact hP9, va_K.moved hW.alike hK, hD9⟩, hS.F ht⟩) hS.2.2 dX1_readOne_51
abbrev q_X1_readTerm_a38 (G : gG) (E : gS) (h0 t0 b0 co en sk ck : Nat) (fO : Nat → Option Nat) (A : Nat → Prop) : Array Value → State → Outcome → State → Prop := va_Qi (fun (r : Int32) (u : Unit) => match u with | _ => r = 1) (fun (u : Unit) t => match u with | _ => va_P G.1 vwCl [(h0, .inr (1, [.ref t0, .ref b0, .int 40, .int 59, .int 39, .int 30, .int 40])), (b0, .inl (G.2.1, 160, .inl (gPf tB 40))), (t0, .inr (3, [.ref co, .ref en, .ref sk, .int 5, .int 0])), (co, .inl (G.2.2.2, 6, .inr (.inr (.inr (.inr fO))))), (ck, .inl (G.2.1, 160, .inl (gPf tC 5)))] t.heap ∧ gK G t ∧ va_D A [(h0, .inr (1, [.ref t0, .ref b0, .int 40, .int 59, .int 39, .int 30, .int 40])), (b0, .inl (G.2.1, 160, .inl (gPf tB 40))), (t0, .inr (3, [.ref co, .ref en, .ref sk, .int 5, .int 0])), (co, .inl (G.2.2.2, 6, .inr (.inr (.inr (.inr fO))))), (ck, .inl (G.2.1, 160, .inl (gPf tC 5)))]) A
set_option maxHeartbeats 4000000 in
set_option maxRecDepth 100000 in
theorem c_X1_readTerm_a38 (l : Launch) (G : gG) (E : gS) (h0 t0 b0 co en sk ck : Nat) (fO : Nat → Option Nat) (sz : Nat) (hO : fO 0 = some ck) : Met l yX1_readTerm wsX1_readTerm ({ frames := 8, cells := 0, slots := 0, locals := 169 }) (gPreE G E [.ref h0, .int 0] [(h0, .inr (1, [.ref t0, .ref b0, .int 38, .int 2, .int 36, .int 30, .int 40])), (b0, .inl (G.2.1, 160, .inl (gPf tB 40))), (t0, .inr (3, [.ref co, .ref en, .ref sk, .int 4, .int 0])), (co, .inl (G.2.2.2, 6, .inr (.inr (.inr (.inr fO))))), (ck, .inl (G.2.1, 160, .inl (gPf tC 4)))] sz) (q_X1_readTerm_a38 G E h0 t0 b0 co en sk ck fO (va_A [(h0, .inr (1, [.ref t0, .ref b0, .int 38, .int 2, .int 36, .int 30, .int 40])), (b0, .inl (G.2.1, 160, .inl (gPf tB 40))), (t0, .inr (3, [.ref co, .ref en, .ref sk, .int 4, .int 0])), (co, .inl (G.2.2.2, 6, .inr (.inr (.inr (.inr fO))))), (ck, .inl (G.2.1, 160, .inl (gPf tC 4)))] sz)) 0 0 (va_A [(h0, .inr (1, [.ref t0, .ref b0, .int 38, .int 2, .int 36, .int 30, .int 40])), (b0, .inl (G.2.1, 160, .inl (gPf tB 40))), (t0, .inr (3, [.ref co, .ref en, .ref sk, .int 4, .int 0])), (co, .inl (G.2.2.2, 6, .inr (.inr (.inr (.inr fO))))), (ck, .inl (G.2.1, 160, .inl (gPf tC 4)))] sz) := by
  refine Met.ofW (cc := cX1_readTerm) (maxL := 3) (ret := (some .boolean)) (by decide) rfl ?_
  intro p e s m args below meth c s₁ B hml hv
  obtain ⟨rfl, hsz, hP, hK, hD0, hE⟩ := hv
  have hx := B.exec
  have hb := B.bytes
  have hr := B.returns
  have hts := atoms_spec (ws := wsX1_readTerm) B.pre
  have hown : s.vm.findClass RX1 = some m.cls := findClass_of_methodNamed B.named
  have hlocks := B.notSynchronized
  subst hsz
  have hD := hD0.self (sz := s.heap.size)
  generalize hAe : va_A [(h0, .inr (1, [.ref t0, .ref b0, .int 38, .int 2, .int 36, .int 30, .int 40])), (b0, .inl (G.2.1, 160, .inl (gPf tB 40))), (t0, .inr (3, [.ref co, .ref en, .ref sk, .int 4, .int 0])), (co, .inl (G.2.2.2, 6, .inr (.inr (.inr (.inr fO))))), (ck, .inl (G.2.1, 160, .inl (gPf tC 4)))] s.heap.size = A at hD hE ⊢
  have hA : ∀ q : Nat, s.heap.size ≤ q → A q := fun q h => by rw [← hAe]; exact Or.inr h
  have hS : va_S A s.heap s.heap [] := va_S.rf
  have hP : va_P G.1 vwCl [(h0, .inr (1, [.ref t0, .ref b0, .int 38, .int 2, .int 36, .int 30, .int 40])), (b0, .inl (G.2.1, 160, .inl (gPf tB 40))), (t0, .inr (3, [.ref co, .ref en, .ref sk, .int 4, .int 0])), (co, .inl (G.2.2.2, 6, .inr (.inr (.inr (.inr fO))))), (ck, .inl (G.2.1, 160, .inl (gPf tC 4)))] s.heap := hP
  have hD : va_D A [(h0, .inr (1, [.ref t0, .ref b0, .int 38, .int 2, .int 36, .int 30, .int 40])), (b0, .inl (G.2.1, 160, .inl (gPf tB 40))), (t0, .inr (3, [.ref co, .ref en, .ref sk, .int 4, .int 0])), (co, .inl (G.2.2.2, 6, .inr (.inr (.inr (.inr fO))))), (ck, .inl (G.2.1, 160, .inl (gPf tC 4)))] := hD
  have hl := lv_entry ([.ref h0, .int 0]) (n := 3) (Nat.le_of_ble_eq_true rfl)
  rw [lg_entry_eq]
  generalize (lg_sl ([.ref h0, .int 0]) ++ List.replicate (3 - (lg_sl ([.ref h0, .int 0])).length) Slot.unset).toArray = ls at hl ⊢
  have hl : lv_has ls 3 [(0, .ref h0), (1, .int 0)] := hl
  have kf45 := hts (.fieldLink RX1 45 "PebbleInShoe$Reader" "token" "I") (by decide +kernel)
  have hiX1 := (by decide +kernel : ∀ w ∈ wsX10, w ∈ wsX1_readTerm)
  refine lv_aload_n hx hb dX1_readTerm_0 rfl (lv_at hl 0 rfl) ?_
  refine lv_iload_n hx hb dX1_readTerm_1 rfl (lv_at hl 1 rfl) ?_
  have hPc : va_P G.1 vwCl [(h0, .inr (1, [.ref t0, .ref b0, .int 38, .int 2, .int 36, .int 30, .int 40])), (b0, .inl (G.2.1, 160, .inl (gPf tB 40))), (t0, .inr (3, [.ref co, .ref en, .ref sk, .int 4, .int 0])), (co, .inl (G.2.2.2, 6, .inr (.inr (.inr (.inr fO))))), (ck, .inl (G.2.1, 160, .inl (gPf tC 4)))] s.heap := hP.sub [0, 1, 2, 3, 4] rfl
  have hDc : va_D A [(h0, .inr (1, [.ref t0, .ref b0, .int 38, .int 2, .int 36, .int 30, .int 40])), (b0, .inl (G.2.1, 160, .inl (gPf tB 40))), (t0, .inr (3, [.ref co, .ref en, .ref sk, .int 4, .int 0])), (co, .inl (G.2.2.2, 6, .inr (.inr (.inr (.inr fO))))), (ck, .inl (G.2.1, 160, .inl (gPf tC 4)))] := hD.sub [0, 1, 2, 3, 4] (by decide) rfl
  have hFc := va_free (wc := [(h0, .inr (1, [.ref t0, .ref b0, .int 38, .int 2, .int 36, .int 30, .int 40])), (b0, .inl (G.2.1, 160, .inl (gPf tB 40))), (t0, .inr (3, [.ref co, .ref en, .ref sk, .int 4, .int 0])), (co, .inl (G.2.2.2, 6, .inr (.inr (.inr (.inr fO))))), (ck, .inl (G.2.1, 160, .inl (gPf tC 4)))]) hD hS hA [0, 1, 2, 3, 4] rfl
  refine va_calli (va_runV (As := [.int 0]) (rest := []) ⟨hx, hb, hml, hown, hts⟩ (c_X1_readOne_a38 l G E h0 t0 b0 co en sk ck fO s.heap.size (hO)) (cwV 1 hts gX1_readTerm_X1_readOne rfl rfl rfl (by decide +kernel) ⟨Nat.le_of_ble_eq_true rfl, Nat.le_of_ble_eq_true rfl⟩) ⟨gPreE_blind, va_recv hK hPc (ci := 1) (q0 := 0) rfl rfl, fun U hU hW => gPreE_of hU hW hK hPc hDc hE hS hFc⟩ rfl rfl hl.1 rfl (lv_room (Nat.le_of_ble_eq_true rfl)) dX1_readTerm_2 ⟨Nat.le_of_ble_eq_true rfl, Nat.le_of_ble_eq_true rfl⟩) hS (fun q _ h => hFc q h) hFc (fun r_1 u t H locs ht hvm w_2 hB hz1 hk1 hS => ?_)
  obtain ⟨hP1, hK1, hD1⟩ := hB
  rw [ht] at hP1
  have hP1 : va_P G.1 vwCl [(h0, .inr (1, [.ref t0, .ref b0, .int 40, .int 59, .int 39, .int 30, .int 40])), (b0, .inl (G.2.1, 160, .inl (gPf tB 40))), (t0, .inr (3, [.ref co, .ref en, .ref sk, .int 5, .int 0])), (co, .inl (G.2.2.2, 6, .inr (.inr (.inr (.inr fO))))), (ck, .inl (G.2.1, 160, .inl (gPf tC 5)))] H := hP1
  have hD1 : va_D (va_A [(h0, .inr (1, [.ref t0, .ref b0, .int 38, .int 2, .int 36, .int 30, .int 40])), (b0, .inl (G.2.1, 160, .inl (gPf tB 40))), (t0, .inr (3, [.ref co, .ref en, .ref sk, .int 4, .int 0])), (co, .inl (G.2.2.2, 6, .inr (.inr (.inr (.inr fO))))), (ck, .inl (G.2.1, 160, .inl (gPf tC 4)))] s.heap.size) [(h0, .inr (1, [.ref t0, .ref b0, .int 40, .int 59, .int 39, .int 30, .int 40])), (b0, .inl (G.2.1, 160, .inl (gPf tB 40))), (t0, .inr (3, [.ref co, .ref en, .ref sk, .int 5, .int 0])), (co, .inl (G.2.2.2, 6, .inr (.inr (.inr (.inr fO))))), (ck, .inl (G.2.1, 160, .inl (gPf tC 5)))] := hD1
  have w_2 : r_1 = 1 := w_2
  obtain ⟨hP, hD⟩ := va_join (wr := []) (w1 := [(h0, .inr (1, [.ref t0, .ref b0, .int 40, .int 59, .int 39, .int 30, .int 40])), (b0, .inl (G.2.1, 160, .inl (gPf tB 40))), (t0, .inr (3, [.ref co, .ref en, .ref sk, .int 5, .int 0])), (co, .inl (G.2.2.2, 6, .inr (.inr (.inr (.inr fO))))), (ck, .inl (G.2.1, 160, .inl (gPf tC 5)))]) hP hD [0, 1, 2, 3, 4] [] rfl rfl (by decide) (by decide) hk1 hFc hP1 hD1
  have hP : va_P G.1 vwCl [(h0, .inr (1, [.ref t0, .ref b0, .int 40, .int 59, .int 39, .int 30, .int 40])), (b0, .inl (G.2.1, 160, .inl (gPf tB 40))), (t0, .inr (3, [.ref co, .ref en, .ref sk, .int 5, .int 0])), (co, .inl (G.2.2.2, 6, .inr (.inr (.inr (.inr fO))))), (ck, .inl (G.2.1, 160, .inl (gPf tC 5)))] H := hP
  have hD : va_D A [(h0, .inr (1, [.ref t0, .ref b0, .int 40, .int 59, .int 39, .int 30, .int 40])), (b0, .inl (G.2.1, 160, .inl (gPf tB 40))), (t0, .inr (3, [.ref co, .ref en, .ref sk, .int 5, .int 0])), (co, .inl (G.2.2.2, 6, .inr (.inr (.inr (.inr fO))))), (ck, .inl (G.2.1, 160, .inl (gPf tC 5)))] := hD
  have w_2 : r_1 = 1 := w_2
  subst w_2
  refine lv_if_ne (tgt := 10) hx hb dX1_readTerm_5 (by decide) (fun c_3 => ?_) (fun c_3 => ?_)
  rotate_left
  · exact absurd c_3 (by decide)
  refine lv_iconst (v := 0) hx hb dX1_readTerm_10 (by decide) ?_
  refine lv_istore_n (lv' := [(2, .int 0), (0, .ref h0), (1, .int 0)]) hx hb dX1_readTerm_11 rfl hl (by decide) rfl (fun ls hl => ?_)
  refine lv_iload_n hx hb dX1_readTerm_12 rfl (lv_at hl 0 rfl) ?_
  refine lv_sipush (v := 160) hx hb dX1_readTerm_13 (by decide) ?_
  refine lv_icmp_ge (tgt := 58) hx hb dX1_readTerm_16 (by decide) (fun c_4 => ?_) (fun c_4 => ?_)
  · exact absurd c_4 (by decide)
  refine lv_aload_n hx hb dX1_readTerm_19 rfl (lv_at hl 1 rfl) ?_
  refine va_get (D := G.1) (ci := 1) (v := .int 59) (C := RX1) (T := TX1) (N := 7) hx hb hts hiX1 hown hK hP 0 rfl rfl 3 (by decide) kf45 (fun _ h9 => h9) rfl dX1_readTerm_20 ?_
  refine lv_bipush (v := 42) hx hb dX1_readTerm_23 (by decide) ?_
  refine lv_icmp_ne (tgt := 58) hx hb dX1_readTerm_25 (by decide) (fun c_5 => ?_) (fun c_5 => ?_)
  rotate_left
  · exact absurd c_5 (by decide)
  refine lv_iconst (v := 1) hx hb dX1_readTerm_58 (by decide) ?_
  have hP9 := hP.sub (ws' := [(h0, .inr (1, [.ref t0, .ref b0, .int 40, .int 59, .int 39, .int 30, .int 40])), (b0, .inl (G.2.1, 160, .inl (gPf tB 40))), (t0, .inr (3, [.ref co, .ref en, .ref sk, .int 5, .int 0])), (co, .inl (G.2.2.2, 6, .inr (.inr (.inr (.inr fO))))), (ck, .inl (G.2.1, 160, .inl (gPf tC 5)))]) [0, 1, 2, 3, 4] rfl
  have hD9 := hD.sub (ws' := [(h0, .inr (1, [.ref t0, .ref b0, .int 40, .int 59, .int 39, .int 30, .int 40])), (b0, .inl (G.2.1, 160, .inl (gPf tB 40))), (t0, .inr (3, [.ref co, .ref en, .ref sk, .int 5, .int 0])), (co, .inl (G.2.2.2, 6, .inr (.inr (.inr (.inr fO))))), (ck, .inl (G.2.1, 160, .inl (gPf tC 5)))]) [0, 1, 2, 3, 4] (by decide) rfl
  have hpost : (fun (r : Int32) (u : Unit) => match u with | _ => r = 1) 1 () := by first | trivial | rfl | decide | simp
  exact W.zret (v := 1) hx hb hr (rfl) (fun t ht hW => ⟨⟨1, (), rfl, hpost, by rw [ht]; exact hP9, va_K.moved hW.alike hK, hD9⟩, hS.F ht⟩) hS.2.2 dX1_readTerm_59
abbrev q_X1_readSum_a38 (G : gG) (E : gS) (h0 t0 b0 co en sk ck : Nat) (fO : Nat → Option Nat) (A : Nat → Prop) : Array Value → State → Outcome → State → Prop := va_Qi (fun (r : Int32) (u : Unit) => match u with | _ => r = 1) (fun (u : Unit) t => match u with | _ => va_P G.1 vwCl [(h0, .inr (1, [.ref t0, .ref b0, .int 40, .int 59, .int 39, .int 30, .int 40])), (b0, .inl (G.2.1, 160, .inl (gPf tB 40))), (t0, .inr (3, [.ref co, .ref en, .ref sk, .int 5, .int 0])), (co, .inl (G.2.2.2, 6, .inr (.inr (.inr (.inr fO))))), (ck, .inl (G.2.1, 160, .inl (gPf tC 5)))] t.heap ∧ gK G t ∧ va_D A [(h0, .inr (1, [.ref t0, .ref b0, .int 40, .int 59, .int 39, .int 30, .int 40])), (b0, .inl (G.2.1, 160, .inl (gPf tB 40))), (t0, .inr (3, [.ref co, .ref en, .ref sk, .int 5, .int 0])), (co, .inl (G.2.2.2, 6, .inr (.inr (.inr (.inr fO))))), (ck, .inl (G.2.1, 160, .inl (gPf tC 5)))]) A
set_option maxHeartbeats 4000000 in
set_option maxRecDepth 100000 in
theorem c_X1_readSum_a38 (l : Launch) (G : gG) (E : gS) (h0 t0 b0 co en sk ck : Nat) (fO : Nat → Option Nat) (sz : Nat) (hO : fO 0 = some ck) : Met l yX1_readSum wsX1_readSum ({ frames := 9, cells := 0, slots := 0, locals := 191 }) (gPreE G E [.ref h0, .int 0] [(h0, .inr (1, [.ref t0, .ref b0, .int 38, .int 2, .int 36, .int 30, .int 40])), (b0, .inl (G.2.1, 160, .inl (gPf tB 40))), (t0, .inr (3, [.ref co, .ref en, .ref sk, .int 4, .int 0])), (co, .inl (G.2.2.2, 6, .inr (.inr (.inr (.inr fO))))), (ck, .inl (G.2.1, 160, .inl (gPf tC 4)))] sz) (q_X1_readSum_a38 G E h0 t0 b0 co en sk ck fO (va_A [(h0, .inr (1, [.ref t0, .ref b0, .int 38, .int 2, .int 36, .int 30, .int 40])), (b0, .inl (G.2.1, 160, .inl (gPf tB 40))), (t0, .inr (3, [.ref co, .ref en, .ref sk, .int 4, .int 0])), (co, .inl (G.2.2.2, 6, .inr (.inr (.inr (.inr fO))))), (ck, .inl (G.2.1, 160, .inl (gPf tC 4)))] sz)) 0 0 (va_A [(h0, .inr (1, [.ref t0, .ref b0, .int 38, .int 2, .int 36, .int 30, .int 40])), (b0, .inl (G.2.1, 160, .inl (gPf tB 40))), (t0, .inr (3, [.ref co, .ref en, .ref sk, .int 4, .int 0])), (co, .inl (G.2.2.2, 6, .inr (.inr (.inr (.inr fO))))), (ck, .inl (G.2.1, 160, .inl (gPf tC 4)))] sz) := by
  refine Met.ofW (cc := cX1_readSum) (maxL := 4) (ret := (some .boolean)) (by decide) rfl ?_
  intro p e s m args below meth c s₁ B hml hv
  obtain ⟨rfl, hsz, hP, hK, hD0, hE⟩ := hv
  have hx := B.exec
  have hb := B.bytes
  have hr := B.returns
  have hts := atoms_spec (ws := wsX1_readSum) B.pre
  have hown : s.vm.findClass RX1 = some m.cls := findClass_of_methodNamed B.named
  have hlocks := B.notSynchronized
  subst hsz
  have hD := hD0.self (sz := s.heap.size)
  generalize hAe : va_A [(h0, .inr (1, [.ref t0, .ref b0, .int 38, .int 2, .int 36, .int 30, .int 40])), (b0, .inl (G.2.1, 160, .inl (gPf tB 40))), (t0, .inr (3, [.ref co, .ref en, .ref sk, .int 4, .int 0])), (co, .inl (G.2.2.2, 6, .inr (.inr (.inr (.inr fO))))), (ck, .inl (G.2.1, 160, .inl (gPf tC 4)))] s.heap.size = A at hD hE ⊢
  have hA : ∀ q : Nat, s.heap.size ≤ q → A q := fun q h => by rw [← hAe]; exact Or.inr h
  have hS : va_S A s.heap s.heap [] := va_S.rf
  have hP : va_P G.1 vwCl [(h0, .inr (1, [.ref t0, .ref b0, .int 38, .int 2, .int 36, .int 30, .int 40])), (b0, .inl (G.2.1, 160, .inl (gPf tB 40))), (t0, .inr (3, [.ref co, .ref en, .ref sk, .int 4, .int 0])), (co, .inl (G.2.2.2, 6, .inr (.inr (.inr (.inr fO))))), (ck, .inl (G.2.1, 160, .inl (gPf tC 4)))] s.heap := hP
  have hD : va_D A [(h0, .inr (1, [.ref t0, .ref b0, .int 38, .int 2, .int 36, .int 30, .int 40])), (b0, .inl (G.2.1, 160, .inl (gPf tB 40))), (t0, .inr (3, [.ref co, .ref en, .ref sk, .int 4, .int 0])), (co, .inl (G.2.2.2, 6, .inr (.inr (.inr (.inr fO))))), (ck, .inl (G.2.1, 160, .inl (gPf tC 4)))] := hD
  have hl := lv_entry ([.ref h0, .int 0]) (n := 4) (Nat.le_of_ble_eq_true rfl)
  rw [lg_entry_eq]
  generalize (lg_sl ([.ref h0, .int 0]) ++ List.replicate (4 - (lg_sl ([.ref h0, .int 0])).length) Slot.unset).toArray = ls at hl ⊢
  have hl : lv_has ls 4 [(0, .ref h0), (1, .int 0)] := hl
  have kf45 := hts (.fieldLink RX1 45 "PebbleInShoe$Reader" "token" "I") (by decide +kernel)
  have hiX1 := (by decide +kernel : ∀ w ∈ wsX10, w ∈ wsX1_readSum)
  refine lv_aload_n hx hb dX1_readSum_0 rfl (lv_at hl 0 rfl) ?_
  refine lv_iload_n hx hb dX1_readSum_1 rfl (lv_at hl 1 rfl) ?_
  have hPc : va_P G.1 vwCl [(h0, .inr (1, [.ref t0, .ref b0, .int 38, .int 2, .int 36, .int 30, .int 40])), (b0, .inl (G.2.1, 160, .inl (gPf tB 40))), (t0, .inr (3, [.ref co, .ref en, .ref sk, .int 4, .int 0])), (co, .inl (G.2.2.2, 6, .inr (.inr (.inr (.inr fO))))), (ck, .inl (G.2.1, 160, .inl (gPf tC 4)))] s.heap := hP.sub [0, 1, 2, 3, 4] rfl
  have hDc : va_D A [(h0, .inr (1, [.ref t0, .ref b0, .int 38, .int 2, .int 36, .int 30, .int 40])), (b0, .inl (G.2.1, 160, .inl (gPf tB 40))), (t0, .inr (3, [.ref co, .ref en, .ref sk, .int 4, .int 0])), (co, .inl (G.2.2.2, 6, .inr (.inr (.inr (.inr fO))))), (ck, .inl (G.2.1, 160, .inl (gPf tC 4)))] := hD.sub [0, 1, 2, 3, 4] (by decide) rfl
  have hFc := va_free (wc := [(h0, .inr (1, [.ref t0, .ref b0, .int 38, .int 2, .int 36, .int 30, .int 40])), (b0, .inl (G.2.1, 160, .inl (gPf tB 40))), (t0, .inr (3, [.ref co, .ref en, .ref sk, .int 4, .int 0])), (co, .inl (G.2.2.2, 6, .inr (.inr (.inr (.inr fO))))), (ck, .inl (G.2.1, 160, .inl (gPf tC 4)))]) hD hS hA [0, 1, 2, 3, 4] rfl
  refine va_calli (va_runV (As := [.int 0]) (rest := []) ⟨hx, hb, hml, hown, hts⟩ (c_X1_readTerm_a38 l G E h0 t0 b0 co en sk ck fO s.heap.size (hO)) (cwV 1 hts gX1_readSum_X1_readTerm rfl rfl rfl (by decide +kernel) ⟨Nat.le_of_ble_eq_true rfl, Nat.le_of_ble_eq_true rfl⟩) ⟨gPreE_blind, va_recv hK hPc (ci := 1) (q0 := 0) rfl rfl, fun U hU hW => gPreE_of hU hW hK hPc hDc hE hS hFc⟩ rfl rfl hl.1 rfl (lv_room (Nat.le_of_ble_eq_true rfl)) dX1_readSum_2 ⟨Nat.le_of_ble_eq_true rfl, Nat.le_of_ble_eq_true rfl⟩) hS (fun q _ h => hFc q h) hFc (fun r_1 u t H locs ht hvm w_2 hB hz1 hk1 hS => ?_)
  obtain ⟨hP1, hK1, hD1⟩ := hB
  rw [ht] at hP1
  have hP1 : va_P G.1 vwCl [(h0, .inr (1, [.ref t0, .ref b0, .int 40, .int 59, .int 39, .int 30, .int 40])), (b0, .inl (G.2.1, 160, .inl (gPf tB 40))), (t0, .inr (3, [.ref co, .ref en, .ref sk, .int 5, .int 0])), (co, .inl (G.2.2.2, 6, .inr (.inr (.inr (.inr fO))))), (ck, .inl (G.2.1, 160, .inl (gPf tC 5)))] H := hP1
  have hD1 : va_D (va_A [(h0, .inr (1, [.ref t0, .ref b0, .int 38, .int 2, .int 36, .int 30, .int 40])), (b0, .inl (G.2.1, 160, .inl (gPf tB 40))), (t0, .inr (3, [.ref co, .ref en, .ref sk, .int 4, .int 0])), (co, .inl (G.2.2.2, 6, .inr (.inr (.inr (.inr fO))))), (ck, .inl (G.2.1, 160, .inl (gPf tC 4)))] s.heap.size) [(h0, .inr (1, [.ref t0, .ref b0, .int 40, .int 59, .int 39, .int 30, .int 40])), (b0, .inl (G.2.1, 160, .inl (gPf tB 40))), (t0, .inr (3, [.ref co, .ref en, .ref sk, .int 5, .int 0])), (co, .inl (G.2.2.2, 6, .inr (.inr (.inr (.inr fO))))), (ck, .inl (G.2.1, 160, .inl (gPf tC 5)))] := hD1
  have w_2 : r_1 = 1 := w_2
  obtain ⟨hP, hD⟩ := va_join (wr := []) (w1 := [(h0, .inr (1, [.ref t0, .ref b0, .int 40, .int 59, .int 39, .int 30, .int 40])), (b0, .inl (G.2.1, 160, .inl (gPf tB 40))), (t0, .inr (3, [.ref co, .ref en, .ref sk, .int 5, .int 0])), (co, .inl (G.2.2.2, 6, .inr (.inr (.inr (.inr fO))))), (ck, .inl (G.2.1, 160, .inl (gPf tC 5)))]) hP hD [0, 1, 2, 3, 4] [] rfl rfl (by decide) (by decide) hk1 hFc hP1 hD1
  have hP : va_P G.1 vwCl [(h0, .inr (1, [.ref t0, .ref b0, .int 40, .int 59, .int 39, .int 30, .int 40])), (b0, .inl (G.2.1, 160, .inl (gPf tB 40))), (t0, .inr (3, [.ref co, .ref en, .ref sk, .int 5, .int 0])), (co, .inl (G.2.2.2, 6, .inr (.inr (.inr (.inr fO))))), (ck, .inl (G.2.1, 160, .inl (gPf tC 5)))] H := hP
  have hD : va_D A [(h0, .inr (1, [.ref t0, .ref b0, .int 40, .int 59, .int 39, .int 30, .int 40])), (b0, .inl (G.2.1, 160, .inl (gPf tB 40))), (t0, .inr (3, [.ref co, .ref en, .ref sk, .int 5, .int 0])), (co, .inl (G.2.2.2, 6, .inr (.inr (.inr (.inr fO))))), (ck, .inl (G.2.1, 160, .inl (gPf tC 5)))] := hD
  have w_2 : r_1 = 1 := w_2
  subst w_2
  refine lv_if_ne (tgt := 10) hx hb dX1_readSum_5 (by decide) (fun c_3 => ?_) (fun c_3 => ?_)
  rotate_left
  · exact absurd c_3 (by decide)
  refine lv_iconst (v := 0) hx hb dX1_readSum_10 (by decide) ?_
  refine lv_istore_n (lv' := [(2, .int 0), (0, .ref h0), (1, .int 0)]) hx hb dX1_readSum_11 rfl hl (by decide) rfl (fun ls hl => ?_)
  refine lv_iload_n hx hb dX1_readSum_12 rfl (lv_at hl 0 rfl) ?_
  refine lv_sipush (v := 160) hx hb dX1_readSum_13 (by decide) ?_
  refine lv_icmp_ge (tgt := 74) hx hb dX1_readSum_16 (by decide) (fun c_4 => ?_) (fun c_4 => ?_)
  · exact absurd c_4 (by decide)
  refine lv_aload_n hx hb dX1_readSum_19 rfl (lv_at hl 1 rfl) ?_
  refine va_get (D := G.1) (ci := 1) (v := .int 59) (C := RX1) (T := TX1) (N := 7) hx hb hts hiX1 hown hK hP 0 rfl rfl 3 (by decide) kf45 (fun _ h9 => h9) rfl dX1_readSum_20 ?_
  refine lv_bipush (v := 43) hx hb dX1_readSum_23 (by decide) ?_
  refine lv_icmp_eq (tgt := 37) hx hb dX1_readSum_25 (by decide) (fun c_5 => ?_) (fun c_5 => ?_)
  · exact absurd c_5 (by decide)
  refine lv_aload_n hx hb dX1_readSum_28 rfl (lv_at hl 1 rfl) ?_
  refine va_get (D := G.1) (ci := 1) (v := .int 59) (C := RX1) (T := TX1) (N := 7) hx hb hts hiX1 hown hK hP 0 rfl rfl 3 (by decide) kf45 (fun _ h9 => h9) rfl dX1_readSum_29 ?_
  refine lv_bipush (v := 45) hx hb dX1_readSum_32 (by decide) ?_
  refine lv_icmp_ne (tgt := 74) hx hb dX1_readSum_34 (by decide) (fun c_6 => ?_) (fun c_6 => ?_)
  rotate_left
  · exact absurd c_6 (by decide)
  refine lv_iconst (v := 1) hx hb dX1_readSum_74 (by decide) ?_
  have hP9 := hP.sub (ws' := [(h0, .inr (1, [.ref t0, .ref b0, .int 40, .int 59, .int 39, .int 30, .int 40])), (b0, .inl (G.2.1, 160, .inl (gPf tB 40))), (t0, .inr (3, [.ref co, .ref en, .ref sk, .int 5, .int 0])), (co, .inl (G.2.2.2, 6, .inr (.inr (.inr (.inr fO))))), (ck, .inl (G.2.1, 160, .inl (gPf tC 5)))]) [0, 1, 2, 3, 4] rfl
  have hD9 := hD.sub (ws' := [(h0, .inr (1, [.ref t0, .ref b0, .int 40, .int 59, .int 39, .int 30, .int 40])), (b0, .inl (G.2.1, 160, .inl (gPf tB 40))), (t0, .inr (3, [.ref co, .ref en, .ref sk, .int 5, .int 0])), (co, .inl (G.2.2.2, 6, .inr (.inr (.inr (.inr fO))))), (ck, .inl (G.2.1, 160, .inl (gPf tC 5)))]) [0, 1, 2, 3, 4] (by decide) rfl
  have hpost : (fun (r : Int32) (u : Unit) => match u with | _ => r = 1) 1 () := by first | trivial | rfl | decide | simp
  exact W.zret (v := 1) hx hb hr (rfl) (fun t ht hW => ⟨⟨1, (), rfl, hpost, by rw [ht]; exact hP9, va_K.moved hW.alike hK, hD9⟩, hS.F ht⟩) hS.2.2 dX1_readSum_75
abbrev q_X1_readNot_a38 (G : gG) (E : gS) (h0 t0 b0 co en sk ck : Nat) (fO : Nat → Option Nat) (A : Nat → Prop) : Array Value → State → Outcome → State → Prop := va_Qi (fun (r : Int32) (u : Unit) => match u with | _ => r = 1) (fun (u : Unit) t => match u with | _ => va_P G.1 vwCl [(h0, .inr (1, [.ref t0, .ref b0, .int 40, .int 59, .int 39, .int 30, .int 40])), (b0, .inl (G.2.1, 160, .inl (gPf tB 40))), (t0, .inr (3, [.ref co, .ref en, .ref sk, .int 5, .int 0])), (co, .inl (G.2.2.2, 6, .inr (.inr (.inr (.inr fO))))), (ck, .inl (G.2.1, 160, .inl (gPf tC 5)))] t.heap ∧ gK G t ∧ va_D A [(h0, .inr (1, [.ref t0, .ref b0, .int 40, .int 59, .int 39, .int 30, .int 40])), (b0, .inl (G.2.1, 160, .inl (gPf tB 40))), (t0, .inr (3, [.ref co, .ref en, .ref sk, .int 5, .int 0])), (co, .inl (G.2.2.2, 6, .inr (.inr (.inr (.inr fO))))), (ck, .inl (G.2.1, 160, .inl (gPf tC 5)))]) A
set_option maxHeartbeats 4000000 in
set_option maxRecDepth 100000 in
theorem c_X1_readNot_a38 (l : Launch) (G : gG) (E : gS) (h0 t0 b0 co en sk ck : Nat) (fO : Nat → Option Nat) (sz : Nat) (hO : fO 0 = some ck) : Met l yX1_readNot wsX1_readNot ({ frames := 10, cells := 0, slots := 0, locals := 214 }) (gPreE G E [.ref h0, .int 0] [(h0, .inr (1, [.ref t0, .ref b0, .int 38, .int 2, .int 36, .int 30, .int 40])), (b0, .inl (G.2.1, 160, .inl (gPf tB 40))), (t0, .inr (3, [.ref co, .ref en, .ref sk, .int 4, .int 0])), (co, .inl (G.2.2.2, 6, .inr (.inr (.inr (.inr fO))))), (ck, .inl (G.2.1, 160, .inl (gPf tC 4)))] sz) (q_X1_readNot_a38 G E h0 t0 b0 co en sk ck fO (va_A [(h0, .inr (1, [.ref t0, .ref b0, .int 38, .int 2, .int 36, .int 30, .int 40])), (b0, .inl (G.2.1, 160, .inl (gPf tB 40))), (t0, .inr (3, [.ref co, .ref en, .ref sk, .int 4, .int 0])), (co, .inl (G.2.2.2, 6, .inr (.inr (.inr (.inr fO))))), (ck, .inl (G.2.1, 160, .inl (gPf tC 4)))] sz)) 0 0 (va_A [(h0, .inr (1, [.ref t0, .ref b0, .int 38, .int 2, .int 36, .int 30, .int 40])), (b0, .inl (G.2.1, 160, .inl (gPf tB 40))), (t0, .inr (3, [.ref co, .ref en, .ref sk, .int 4, .int 0])), (co, .inl (G.2.2.2, 6, .inr (.inr (.inr (.inr fO))))), (ck, .inl (G.2.1, 160, .inl (gPf tC 4)))] sz) := by
  refine Met.ofW (cc := cX1_readNot) (maxL := 3) (ret := (some .boolean)) (by decide) rfl ?_
  intro p e s m args below meth c s₁ B hml hv
  obtain ⟨rfl, hsz, hP, hK, hD0, hE⟩ := hv
  have hx := B.exec
  have hb := B.bytes
  have hr := B.returns
  have hts := atoms_spec (ws := wsX1_readNot) B.pre
  have hown : s.vm.findClass RX1 = some m.cls := findClass_of_methodNamed B.named
  have hlocks := B.notSynchronized
  subst hsz
  have hD := hD0.self (sz := s.heap.size)
  generalize hAe : va_A [(h0, .inr (1, [.ref t0, .ref b0, .int 38, .int 2, .int 36, .int 30, .int 40])), (b0, .inl (G.2.1, 160, .inl (gPf tB 40))), (t0, .inr (3, [.ref co, .ref en, .ref sk, .int 4, .int 0])), (co, .inl (G.2.2.2, 6, .inr (.inr (.inr (.inr fO))))), (ck, .inl (G.2.1, 160, .inl (gPf tC 4)))] s.heap.size = A at hD hE ⊢
  have hA : ∀ q : Nat, s.heap.size ≤ q → A q := fun q h => by rw [← hAe]; exact Or.inr h
  have hS : va_S A s.heap s.heap [] := va_S.rf
  have hP : va_P G.1 vwCl [(h0, .inr (1, [.ref t0, .ref b0, .int 38, .int 2, .int 36, .int 30, .int 40])), (b0, .inl (G.2.1, 160, .inl (gPf tB 40))), (t0, .inr (3, [.ref co, .ref en, .ref sk, .int 4, .int 0])), (co, .inl (G.2.2.2, 6, .inr (.inr (.inr (.inr fO))))), (ck, .inl (G.2.1, 160, .inl (gPf tC 4)))] s.heap := hP
  have hD : va_D A [(h0, .inr (1, [.ref t0, .ref b0, .int 38, .int 2, .int 36, .int 30, .int 40])), (b0, .inl (G.2.1, 160, .inl (gPf tB 40))), (t0, .inr (3, [.ref co, .ref en, .ref sk, .int 4, .int 0])), (co, .inl (G.2.2.2, 6, .inr (.inr (.inr (.inr fO))))), (ck, .inl (G.2.1, 160, .inl (gPf tC 4)))] := hD
  have hl := lv_entry ([.ref h0, .int 0]) (n := 3) (Nat.le_of_ble_eq_true rfl)
  rw [lg_entry_eq]
  generalize (lg_sl ([.ref h0, .int 0]) ++ List.replicate (3 - (lg_sl ([.ref h0, .int 0])).length) Slot.unset).toArray = ls at hl ⊢
  have hl : lv_has ls 3 [(0, .ref h0), (1, .int 0)] := hl
  have kf45 := hts (.fieldLink RX1 45 "PebbleInShoe$Reader" "token" "I") (by decide +kernel)
  have hiX1 := (by decide +kernel : ∀ w ∈ wsX10, w ∈ wsX1_readNot)
  refine lv_aload_n hx hb dX1_readNot_0 rfl (lv_at hl 0 rfl) ?_
  refine va_get (D := G.1) (ci := 1) (v := .int 2) (C := RX1) (T := TX1) (N := 7) hx hb hts hiX1 hown hK hP 0 rfl rfl 3 (by decide) kf45 (fun _ h9 => h9) rfl dX1_readNot_1 ?_
  refine lv_bipush (v := 105) hx hb dX1_readNot_4 (by decide) ?_
  refine lv_icmp_ne (tgt := 44) hx hb dX1_readNot_6 (by decide) (fun c_1 => ?_) (fun c_1 => ?_)
  rotate_left
  · exact absurd c_1 (by decide)
  refine lv_aload_n hx hb dX1_readNot_44 rfl (lv_at hl 0 rfl) ?_
  refine lv_iload_n hx hb dX1_readNot_45 rfl (lv_at hl 1 rfl) ?_
  have hPc : va_P G.1 vwCl [(h0, .inr (1, [.ref t0, .ref b0, .int 38, .int 2, .int 36, .int 30, .int 40])), (b0, .inl (G.2.1, 160, .inl (gPf tB 40))), (t0, .inr (3, [.ref co, .ref en, .ref sk, .int 4, .int 0])), (co, .inl (G.2.2.2, 6, .inr (.inr (.inr (.inr fO))))), (ck, .inl (G.2.1, 160, .inl (gPf tC 4)))] s.heap := hP.sub [0, 1, 2, 3, 4] rfl
  have hDc : va_D A [(h0, .inr (1, [.ref t0, .ref b0, .int 38, .int 2, .int 36, .int 30, .int 40])), (b0, .inl (G.2.1, 160, .inl (gPf tB 40))), (t0, .inr (3, [.ref co, .ref en, .ref sk, .int 4, .int 0])), (co, .inl (G.2.2.2, 6, .inr (.inr (.inr (.inr fO))))), (ck, .inl (G.2.1, 160, .inl (gPf tC 4)))] := hD.sub [0, 1, 2, 3, 4] (by decide) rfl
  have hFc := va_free (wc := [(h0, .inr (1, [.ref t0, .ref b0, .int 38, .int 2, .int 36, .int 30, .int 40])), (b0, .inl (G.2.1, 160, .inl (gPf tB 40))), (t0, .inr (3, [.ref co, .ref en, .ref sk, .int 4, .int 0])), (co, .inl (G.2.2.2, 6, .inr (.inr (.inr (.inr fO))))), (ck, .inl (G.2.1, 160, .inl (gPf tC 4)))]) hD hS hA [0, 1, 2, 3, 4] rfl
  refine va_calli (va_runV (As := [.int 0]) (rest := []) ⟨hx, hb, hml, hown, hts⟩ (c_X1_readSum_a38 l G E h0 t0 b0 co en sk ck fO s.heap.size (hO)) (cwV 1 hts gX1_readNot_X1_readSum rfl rfl rfl (by decide +kernel) ⟨Nat.le_of_ble_eq_true rfl, Nat.le_of_ble_eq_true rfl⟩) ⟨gPreE_blind, va_recv hK hPc (ci := 1) (q0 := 0) rfl rfl, fun U hU hW => gPreE_of hU hW hK hPc hDc hE hS hFc⟩ rfl rfl hl.1 rfl (lv_room (Nat.le_of_ble_eq_true rfl)) dX1_readNot_46 ⟨Nat.le_of_ble_eq_true rfl, Nat.le_of_ble_eq_true rfl⟩) hS (fun q _ h => hFc q h) hFc (fun r_2 u t H locs ht hvm w_3 hB hz1 hk1 hS => ?_)
  obtain ⟨hP1, hK1, hD1⟩ := hB
  rw [ht] at hP1
  have hP1 : va_P G.1 vwCl [(h0, .inr (1, [.ref t0, .ref b0, .int 40, .int 59, .int 39, .int 30, .int 40])), (b0, .inl (G.2.1, 160, .inl (gPf tB 40))), (t0, .inr (3, [.ref co, .ref en, .ref sk, .int 5, .int 0])), (co, .inl (G.2.2.2, 6, .inr (.inr (.inr (.inr fO))))), (ck, .inl (G.2.1, 160, .inl (gPf tC 5)))] H := hP1
  have hD1 : va_D (va_A [(h0, .inr (1, [.ref t0, .ref b0, .int 38, .int 2, .int 36, .int 30, .int 40])), (b0, .inl (G.2.1, 160, .inl (gPf tB 40))), (t0, .inr (3, [.ref co, .ref en, .ref sk, .int 4, .int 0])), (co, .inl (G.2.2.2, 6, .inr (.inr (.inr (.inr fO))))), (ck, .inl (G.2.1, 160, .inl (gPf tC 4)))] s.heap.size) [(h0, .inr (1, [.ref t0, .ref b0, .int 40, .int 59, .int 39, .int 30, .int 40])), (b0, .inl (G.2.1, 160, .inl (gPf tB 40))), (t0, .inr (3, [.ref co, .ref en, .ref sk, .int 5, .int 0])), (co, .inl (G.2.2.2, 6, .inr (.inr (.inr (.inr fO))))), (ck, .inl (G.2.1, 160, .inl (gPf tC 5)))] := hD1
  have w_3 : r_2 = 1 := w_3
  obtain ⟨hP, hD⟩ := va_join (wr := []) (w1 := [(h0, .inr (1, [.ref t0, .ref b0, .int 40, .int 59, .int 39, .int 30, .int 40])), (b0, .inl (G.2.1, 160, .inl (gPf tB 40))), (t0, .inr (3, [.ref co, .ref en, .ref sk, .int 5, .int 0])), (co, .inl (G.2.2.2, 6, .inr (.inr (.inr (.inr fO))))), (ck, .inl (G.2.1, 160, .inl (gPf tC 5)))]) hP hD [0, 1, 2, 3, 4] [] rfl rfl (by decide) (by decide) hk1 hFc hP1 hD1
  have hP : va_P G.1 vwCl [(h0, .inr (1, [.ref t0, .ref b0, .int 40, .int 59, .int 39, .int 30, .int 40])), (b0, .inl (G.2.1, 160, .inl (gPf tB 40))), (t0, .inr (3, [.ref co, .ref en, .ref sk, .int 5, .int 0])), (co, .inl (G.2.2.2, 6, .inr (.inr (.inr (.inr fO))))), (ck, .inl (G.2.1, 160, .inl (gPf tC 5)))] H := hP
  have hD : va_D A [(h0, .inr (1, [.ref t0, .ref b0, .int 40, .int 59, .int 39, .int 30, .int 40])), (b0, .inl (G.2.1, 160, .inl (gPf tB 40))), (t0, .inr (3, [.ref co, .ref en, .ref sk, .int 5, .int 0])), (co, .inl (G.2.2.2, 6, .inr (.inr (.inr (.inr fO))))), (ck, .inl (G.2.1, 160, .inl (gPf tC 5)))] := hD
  have w_3 : r_2 = 1 := w_3
  subst w_3
  refine lv_if_ne (tgt := 54) hx hb dX1_readNot_49 (by decide) (fun c_4 => ?_) (fun c_4 => ?_)
  rotate_left
  · exact absurd c_4 (by decide)
  refine lv_aload_n hx hb dX1_readNot_54 rfl (lv_at hl 0 rfl) ?_
  refine va_get (D := G.1) (ci := 1) (v := .int 59) (C := RX1) (T := TX1) (N := 7) hx hb hts hiX1 hown hK hP 0 rfl rfl 3 (by decide) kf45 (fun _ h9 => h9) rfl dX1_readNot_55 ?_
  refine lv_bipush (v := 60) hx hb dX1_readNot_58 (by decide) ?_
  refine lv_icmp_eq (tgt := 74) hx hb dX1_readNot_60 (by decide) (fun c_5 => ?_) (fun c_5 => ?_)
  · exact absurd c_5 (by decide)
  refine lv_aload_n hx hb dX1_readNot_63 rfl (lv_at hl 0 rfl) ?_
  refine va_get (D := G.1) (ci := 1) (v := .int 59) (C := RX1) (T := TX1) (N := 7) hx hb hts hiX1 hown hK hP 0 rfl rfl 3 (by decide) kf45 (fun _ h9 => h9) rfl dX1_readNot_64 ?_
  refine lv_bipush (v := 61) hx hb dX1_readNot_67 (by decide) ?_
  refine lv_icmp_eq (tgt := 74) hx hb dX1_readNot_69 (by decide) (fun c_6 => ?_) (fun c_6 => ?_)
  · exact absurd c_6 (by decide)
  refine lv_iconst (v := 1) hx hb dX1_readNot_72 (by decide) ?_
  have hP9 := hP.sub (ws' := [(h0, .inr (1, [.ref t0, .ref b0, .int 40, .int 59, .int 39, .int 30, .int 40])), (b0, .inl (G.2.1, 160, .inl (gPf tB 40))), (t0, .inr (3, [.ref co, .ref en, .ref sk, .int 5, .int 0])), (co, .inl (G.2.2.2, 6, .inr (.inr (.inr (.inr fO))))), (ck, .inl (G.2.1, 160, .inl (gPf tC 5)))]) [0, 1, 2, 3, 4] rfl
  have hD9 := hD.sub (ws' := [(h0, .inr (1, [.ref t0, .ref b0, .int 40, .int 59, .int 39, .int 30, .int 40])), (b0, .inl (G.2.1, 160, .inl (gPf tB 40))), (t0, .inr (3, [.ref co, .ref en, .ref sk, .int 5, .int 0])), (co, .inl (G.2.2.2, 6, .inr (.inr (.inr (.inr fO))))), (ck, .inl (G.2.1, 160, .inl (gPf tC 5)))]) [0, 1, 2, 3, 4] (by decide) rfl
  have hpost : (fun (r : Int32) (u : Unit) => match u with | _ => r = 1) 1 () := by first | trivial | rfl | decide | simp
  exact W.zret (v := 1) hx hb hr (rfl) (fun t ht hW => ⟨⟨1, (), rfl, hpost, by rw [ht]; exact hP9, va_K.moved hW.alike hK, hD9⟩, hS.F ht⟩) hS.2.2 dX1_readNot_73
abbrev q_X1_readAnd_a38 (G : gG) (E : gS) (h0 t0 b0 co en sk ck : Nat) (fO : Nat → Option Nat) (A : Nat → Prop) : Array Value → State → Outcome → State → Prop := va_Qi (fun (r : Int32) (u : Unit) => match u with | _ => r = 1) (fun (u : Unit) t => match u with | _ => va_P G.1 vwCl [(h0, .inr (1, [.ref t0, .ref b0, .int 40, .int 59, .int 39, .int 30, .int 40])), (b0, .inl (G.2.1, 160, .inl (gPf tB 40))), (t0, .inr (3, [.ref co, .ref en, .ref sk, .int 5, .int 0])), (co, .inl (G.2.2.2, 6, .inr (.inr (.inr (.inr fO))))), (ck, .inl (G.2.1, 160, .inl (gPf tC 5)))] t.heap ∧ gK G t ∧ va_D A [(h0, .inr (1, [.ref t0, .ref b0, .int 40, .int 59, .int 39, .int 30, .int 40])), (b0, .inl (G.2.1, 160, .inl (gPf tB 40))), (t0, .inr (3, [.ref co, .ref en, .ref sk, .int 5, .int 0])), (co, .inl (G.2.2.2, 6, .inr (.inr (.inr (.inr fO))))), (ck, .inl (G.2.1, 160, .inl (gPf tC 5)))]) A
set_option maxHeartbeats 4000000 in
set_option maxRecDepth 100000 in
theorem c_X1_readAnd_a38 (l : Launch) (G : gG) (E : gS) (h0 t0 b0 co en sk ck : Nat) (fO : Nat → Option Nat) (sz : Nat) (hO : fO 0 = some ck) : Met l yX1_readAnd wsX1_readAnd ({ frames := 11, cells := 0, slots := 0, locals := 236 }) (gPreE G E [.ref h0, .int 0] [(h0, .inr (1, [.ref t0, .ref b0, .int 38, .int 2, .int 36, .int 30, .int 40])), (b0, .inl (G.2.1, 160, .inl (gPf tB 40))), (t0, .inr (3, [.ref co, .ref en, .ref sk, .int 4, .int 0])), (co, .inl (G.2.2.2, 6, .inr (.inr (.inr (.inr fO))))), (ck, .inl (G.2.1, 160, .inl (gPf tC 4)))] sz) (q_X1_readAnd_a38 G E h0 t0 b0 co en sk ck fO (va_A [(h0, .inr (1, [.ref t0, .ref b0, .int 38, .int 2, .int 36, .int 30, .int 40])), (b0, .inl (G.2.1, 160, .inl (gPf tB 40))), (t0, .inr (3, [.ref co, .ref en, .ref sk, .int 4, .int 0])), (co, .inl (G.2.2.2, 6, .inr (.inr (.inr (.inr fO))))), (ck, .inl (G.2.1, 160, .inl (gPf tC 4)))] sz)) 0 0 (va_A [(h0, .inr (1, [.ref t0, .ref b0, .int 38, .int 2, .int 36, .int 30, .int 40])), (b0, .inl (G.2.1, 160, .inl (gPf tB 40))), (t0, .inr (3, [.ref co, .ref en, .ref sk, .int 4, .int 0])), (co, .inl (G.2.2.2, 6, .inr (.inr (.inr (.inr fO))))), (ck, .inl (G.2.1, 160, .inl (gPf tC 4)))] sz) := by
  refine Met.ofW (cc := cX1_readAnd) (maxL := 3) (ret := (some .boolean)) (by decide) rfl ?_
  intro p e s m args below meth c s₁ B hml hv
  obtain ⟨rfl, hsz, hP, hK, hD0, hE⟩ := hv
  have hx := B.exec
  have hb := B.bytes
  have hr := B.returns
  have hts := atoms_spec (ws := wsX1_readAnd) B.pre
  have hown : s.vm.findClass RX1 = some m.cls := findClass_of_methodNamed B.named
  have hlocks := B.notSynchronized
  subst hsz
  have hD := hD0.self (sz := s.heap.size)
  generalize hAe : va_A [(h0, .inr (1, [.ref t0, .ref b0, .int 38, .int 2, .int 36, .int 30, .int 40])), (b0, .inl (G.2.1, 160, .inl (gPf tB 40))), (t0, .inr (3, [.ref co, .ref en, .ref sk, .int 4, .int 0])), (co, .inl (G.2.2.2, 6, .inr (.inr (.inr (.inr fO))))), (ck, .inl (G.2.1, 160, .inl (gPf tC 4)))] s.heap.size = A at hD hE ⊢
  have hA : ∀ q : Nat, s.heap.size ≤ q → A q := fun q h => by rw [← hAe]; exact Or.inr h
  have hS : va_S A s.heap s.heap [] := va_S.rf
  have hP : va_P G.1 vwCl [(h0, .inr (1, [.ref t0, .ref b0, .int 38, .int 2, .int 36, .int 30, .int 40])), (b0, .inl (G.2.1, 160, .inl (gPf tB 40))), (t0, .inr (3, [.ref co, .ref en, .ref sk, .int 4, .int 0])), (co, .inl (G.2.2.2, 6, .inr (.inr (.inr (.inr fO))))), (ck, .inl (G.2.1, 160, .inl (gPf tC 4)))] s.heap := hP
  have hD : va_D A [(h0, .inr (1, [.ref t0, .ref b0, .int 38, .int 2, .int 36, .int 30, .int 40])), (b0, .inl (G.2.1, 160, .inl (gPf tB 40))), (t0, .inr (3, [.ref co, .ref en, .ref sk, .int 4, .int 0])), (co, .inl (G.2.2.2, 6, .inr (.inr (.inr (.inr fO))))), (ck, .inl (G.2.1, 160, .inl (gPf tC 4)))] := hD
  have hl := lv_entry ([.ref h0, .int 0]) (n := 3) (Nat.le_of_ble_eq_true rfl)
  rw [lg_entry_eq]
  generalize (lg_sl ([.ref h0, .int 0]) ++ List.replicate (3 - (lg_sl ([.ref h0, .int 0])).length) Slot.unset).toArray = ls at hl ⊢
  have hl : lv_has ls 3 [(0, .ref h0), (1, .int 0)] := hl
  have kf45 := hts (.fieldLink RX1 45 "PebbleInShoe$Reader" "token" "I") (by decide +kernel)
  have hiX1 := (by decide +kernel : ∀ w ∈ wsX10, w ∈ wsX1_readAnd)
  refine lv_aload_n hx hb dX1_readAnd_0 rfl (lv_at hl 0 rfl) ?_
  refine lv_iload_n hx hb dX1_readAnd_1 rfl (lv_at hl 1 rfl) ?_
  have hPc : va_P G.1 vwCl [(h0, .inr (1, [.ref t0, .ref b0, .int 38, .int 2, .int 36, .int 30, .int 40])), (b0, .inl (G.2.1, 160, .inl (gPf tB 40))), (t0, .inr (3, [.ref co, .ref en, .ref sk, .int 4, .int 0])), (co, .inl (G.2.2.2, 6, .inr (.inr (.inr (.inr fO))))), (ck, .inl (G.2.1, 160, .inl (gPf tC 4)))] s.heap := hP.sub [0, 1, 2, 3, 4] rfl
  have hDc : va_D A [(h0, .inr (1, [.ref t0, .ref b0, .int 38, .int 2, .int 36, .int 30, .int 40])), (b0, .inl (G.2.1, 160, .inl (gPf tB 40))), (t0, .inr (3, [.ref co, .ref en, .ref sk, .int 4, .int 0])), (co, .inl (G.2.2.2, 6, .inr (.inr (.inr (.inr fO))))), (ck, .inl (G.2.1, 160, .inl (gPf tC 4)))] := hD.sub [0, 1, 2, 3, 4] (by decide) rfl
  have hFc := va_free (wc := [(h0, .inr (1, [.ref t0, .ref b0, .int 38, .int 2, .int 36, .int 30, .int 40])), (b0, .inl (G.2.1, 160, .inl (gPf tB 40))), (t0, .inr (3, [.ref co, .ref en, .ref sk, .int 4, .int 0])), (co, .inl (G.2.2.2, 6, .inr (.inr (.inr (.inr fO))))), (ck, .inl (G.2.1, 160, .inl (gPf tC 4)))]) hD hS hA [0, 1, 2, 3, 4] rfl
  refine va_calli (va_runV (As := [.int 0]) (rest := []) ⟨hx, hb, hml, hown, hts⟩ (c_X1_readNot_a38 l G E h0 t0 b0 co en sk ck fO s.heap.size (hO)) (cwV 1 hts gX1_readAnd_X1_readNot rfl rfl rfl (by decide +kernel) ⟨Nat.le_of_ble_eq_true rfl, Nat.le_of_ble_eq_true rfl⟩) ⟨gPreE_blind, va_recv hK hPc (ci := 1) (q0 := 0) rfl rfl, fun U hU hW => gPreE_of hU hW hK hPc hDc hE hS hFc⟩ rfl rfl hl.1 rfl (lv_room (Nat.le_of_ble_eq_true rfl)) dX1_readAnd_2 ⟨Nat.le_of_ble_eq_true rfl, Nat.le_of_ble_eq_true rfl⟩) hS (fun q _ h => hFc q h) hFc (fun r_1 u t H locs ht hvm w_2 hB hz1 hk1 hS => ?_)
  obtain ⟨hP1, hK1, hD1⟩ := hB
  rw [ht] at hP1
  have hP1 : va_P G.1 vwCl [(h0, .inr (1, [.ref t0, .ref b0, .int 40, .int 59, .int 39, .int 30, .int 40])), (b0, .inl (G.2.1, 160, .inl (gPf tB 40))), (t0, .inr (3, [.ref co, .ref en, .ref sk, .int 5, .int 0])), (co, .inl (G.2.2.2, 6, .inr (.inr (.inr (.inr fO))))), (ck, .inl (G.2.1, 160, .inl (gPf tC 5)))] H := hP1
  have hD1 : va_D (va_A [(h0, .inr (1, [.ref t0, .ref b0, .int 38, .int 2, .int 36, .int 30, .int 40])), (b0, .inl (G.2.1, 160, .inl (gPf tB 40))), (t0, .inr (3, [.ref co, .ref en, .ref sk, .int 4, .int 0])), (co, .inl (G.2.2.2, 6, .inr (.inr (.inr (.inr fO))))), (ck, .inl (G.2.1, 160, .inl (gPf tC 4)))] s.heap.size) [(h0, .inr (1, [.ref t0, .ref b0, .int 40, .int 59, .int 39, .int 30, .int 40])), (b0, .inl (G.2.1, 160, .inl (gPf tB 40))), (t0, .inr (3, [.ref co, .ref en, .ref sk, .int 5, .int 0])), (co, .inl (G.2.2.2, 6, .inr (.inr (.inr (.inr fO))))), (ck, .inl (G.2.1, 160, .inl (gPf tC 5)))] := hD1
  have w_2 : r_1 = 1 := w_2
  obtain ⟨hP, hD⟩ := va_join (wr := []) (w1 := [(h0, .inr (1, [.ref t0, .ref b0, .int 40, .int 59, .int 39, .int 30, .int 40])), (b0, .inl (G.2.1, 160, .inl (gPf tB 40))), (t0, .inr (3, [.ref co, .ref en, .ref sk, .int 5, .int 0])), (co, .inl (G.2.2.2, 6, .inr (.inr (.inr (.inr fO))))), (ck, .inl (G.2.1, 160, .inl (gPf tC 5)))]) hP hD [0, 1, 2, 3, 4] [] rfl rfl (by decide) (by decide) hk1 hFc hP1 hD1
  have hP : va_P G.1 vwCl [(h0, .inr (1, [.ref t0, .ref b0, .int 40, .int 59, .int 39, .int 30, .int 40])), (b0, .inl (G.2.1, 160, .inl (gPf tB 40))), (t0, .inr (3, [.ref co, .ref en, .ref sk, .int 5, .int 0])), (co, .inl (G.2.2.2, 6, .inr (.inr (.inr (.inr fO))))), (ck, .inl (G.2.1, 160, .inl (gPf tC 5)))] H := hP
  have hD : va_D A [(h0, .inr (1, [.ref t0, .ref b0, .int 40, .int 59, .int 39, .int 30, .int 40])), (b0, .inl (G.2.1, 160, .inl (gPf tB 40))), (t0, .inr (3, [.ref co, .ref en, .ref sk, .int 5, .int 0])), (co, .inl (G.2.2.2, 6, .inr (.inr (.inr (.inr fO))))), (ck, .inl (G.2.1, 160, .inl (gPf tC 5)))] := hD
  have w_2 : r_1 = 1 := w_2
  subst w_2
  refine lv_if_ne (tgt := 10) hx hb dX1_readAnd_5 (by decide) (fun c_3 => ?_) (fun c_3 => ?_)
  rotate_left
  · exact absurd c_3 (by decide)
  refine lv_iconst (v := 0) hx hb dX1_readAnd_10 (by decide) ?_
  refine lv_istore_n (lv' := [(2, .int 0), (0, .ref h0), (1, .int 0)]) hx hb dX1_readAnd_11 rfl hl (by decide) rfl (fun ls hl => ?_)
  refine lv_iload_n hx hb dX1_readAnd_12 rfl (lv_at hl 0 rfl) ?_
  refine lv_sipush (v := 160) hx hb dX1_readAnd_13 (by decide) ?_
  refine lv_icmp_ge (tgt := 58) hx hb dX1_readAnd_16 (by decide) (fun c_4 => ?_) (fun c_4 => ?_)
  · exact absurd c_4 (by decide)
  refine lv_aload_n hx hb dX1_readAnd_19 rfl (lv_at hl 1 rfl) ?_
  refine va_get (D := G.1) (ci := 1) (v := .int 59) (C := RX1) (T := TX1) (N := 7) hx hb hts hiX1 hown hK hP 0 rfl rfl 3 (by decide) kf45 (fun _ h9 => h9) rfl dX1_readAnd_20 ?_
  refine lv_bipush (v := 104) hx hb dX1_readAnd_23 (by decide) ?_
  refine lv_icmp_ne (tgt := 58) hx hb dX1_readAnd_25 (by decide) (fun c_5 => ?_) (fun c_5 => ?_)
  rotate_left
  · exact absurd c_5 (by decide)
  refine lv_iconst (v := 1) hx hb dX1_readAnd_58 (by decide) ?_
  have hP9 := hP.sub (ws' := [(h0, .inr (1, [.ref t0, .ref b0, .int 40, .int 59, .int 39, .int 30, .int 40])), (b0, .inl (G.2.1, 160, .inl (gPf tB 40))), (t0, .inr (3, [.ref co, .ref en, .ref sk, .int 5, .int 0])), (co, .inl (G.2.2.2, 6, .inr (.inr (.inr (.inr fO))))), (ck, .inl (G.2.1, 160, .inl (gPf tC 5)))]) [0, 1, 2, 3, 4] rfl
  have hD9 := hD.sub (ws' := [(h0, .inr (1, [.ref t0, .ref b0, .int 40, .int 59, .int 39, .int 30, .int 40])), (b0, .inl (G.2.1, 160, .inl (gPf tB 40))), (t0, .inr (3, [.ref co, .ref en, .ref sk, .int 5, .int 0])), (co, .inl (G.2.2.2, 6, .inr (.inr (.inr (.inr fO))))), (ck, .inl (G.2.1, 160, .inl (gPf tC 5)))]) [0, 1, 2, 3, 4] (by decide) rfl
  have hpost : (fun (r : Int32) (u : Unit) => match u with | _ => r = 1) 1 () := by first | trivial | rfl | decide | simp
  exact W.zret (v := 1) hx hb hr (rfl) (fun t ht hW => ⟨⟨1, (), rfl, hpost, by rw [ht]; exact hP9, va_K.moved hW.alike hK, hD9⟩, hS.F ht⟩) hS.2.2 dX1_readAnd_59
abbrev q_X1_readOr_a38 (G : gG) (E : gS) (h0 t0 b0 co en sk ck : Nat) (fO : Nat → Option Nat) (A : Nat → Prop) : Array Value → State → Outcome → State → Prop := va_Qi (fun (r : Int32) (u : Unit) => match u with | _ => r = 1) (fun (u : Unit) t => match u with | _ => va_P G.1 vwCl [(h0, .inr (1, [.ref t0, .ref b0, .int 40, .int 59, .int 39, .int 30, .int 40])), (b0, .inl (G.2.1, 160, .inl (gPf tB 40))), (t0, .inr (3, [.ref co, .ref en, .ref sk, .int 5, .int 0])), (co, .inl (G.2.2.2, 6, .inr (.inr (.inr (.inr fO))))), (ck, .inl (G.2.1, 160, .inl (gPf tC 5)))] t.heap ∧ gK G t ∧ va_D A [(h0, .inr (1, [.ref t0, .ref b0, .int 40, .int 59, .int 39, .int 30, .int 40])), (b0, .inl (G.2.1, 160, .inl (gPf tB 40))), (t0, .inr (3, [.ref co, .ref en, .ref sk, .int 5, .int 0])), (co, .inl (G.2.2.2, 6, .inr (.inr (.inr (.inr fO))))), (ck, .inl (G.2.1, 160, .inl (gPf tC 5)))]) A
set_option maxHeartbeats 4000000 in
set_option maxRecDepth 100000 in
theorem c_X1_readOr_a38 (l : Launch) (G : gG) (E : gS) (h0 t0 b0 co en sk ck : Nat) (fO : Nat → Option Nat) (sz : Nat) (hO : fO 0 = some ck) : Met l yX1_readOr wsX1_readOr ({ frames := 12, cells := 0, slots := 0, locals := 258 }) (gPreE G E [.ref h0, .int 0] [(h0, .inr (1, [.ref t0, .ref b0, .int 38, .int 2, .int 36, .int 30, .int 40])), (b0, .inl (G.2.1, 160, .inl (gPf tB 40))), (t0, .inr (3, [.ref co, .ref en, .ref sk, .int 4, .int 0])), (co, .inl (G.2.2.2, 6, .inr (.inr (.inr (.inr fO))))), (ck, .inl (G.2.1, 160, .inl (gPf tC 4)))] sz) (q_X1_readOr_a38 G E h0 t0 b0 co en sk ck fO (va_A [(h0, .inr (1, [.ref t0, .ref b0, .int 38, .int 2, .int 36, .int 30, .int 40])), (b0, .inl (G.2.1, 160, .inl (gPf tB 40))), (t0, .inr (3, [.ref co, .ref en, .ref sk, .int 4, .int 0])), (co, .inl (G.2.2.2, 6, .inr (.inr (.inr (.inr fO))))), (ck, .inl (G.2.1, 160, .inl (gPf tC 4)))] sz)) 0 0 (va_A [(h0, .inr (1, [.ref t0, .ref b0, .int 38, .int 2, .int 36, .int 30, .int 40])), (b0, .inl (G.2.1, 160, .inl (gPf tB 40))), (t0, .inr (3, [.ref co, .ref en, .ref sk, .int 4, .int 0])), (co, .inl (G.2.2.2, 6, .inr (.inr (.inr (.inr fO))))), (ck, .inl (G.2.1, 160, .inl (gPf tC 4)))] sz) := by
  refine Met.ofW (cc := cX1_readOr) (maxL := 3) (ret := (some .boolean)) (by decide) rfl ?_
  intro p e s m args below meth c s₁ B hml hv
  obtain ⟨rfl, hsz, hP, hK, hD0, hE⟩ := hv
  have hx := B.exec
  have hb := B.bytes
  have hr := B.returns
  have hts := atoms_spec (ws := wsX1_readOr) B.pre
  have hown : s.vm.findClass RX1 = some m.cls := findClass_of_methodNamed B.named
  have hlocks := B.notSynchronized
  subst hsz
  have hD := hD0.self (sz := s.heap.size)
  generalize hAe : va_A [(h0, .inr (1, [.ref t0, .ref b0, .int 38, .int 2, .int 36, .int 30, .int 40])), (b0, .inl (G.2.1, 160, .inl (gPf tB 40))), (t0, .inr (3, [.ref co, .ref en, .ref sk, .int 4, .int 0])), (co, .inl (G.2.2.2, 6, .inr (.inr (.inr (.inr fO))))), (ck, .inl (G.2.1, 160, .inl (gPf tC 4)))] s.heap.size = A at hD hE ⊢
  have hA : ∀ q : Nat, s.heap.size ≤ q → A q := fun q h => by rw [← hAe]; exact Or.inr h
  have hS : va_S A s.heap s.heap [] := va_S.rf
  have hP : va_P G.1 vwCl [(h0, .inr (1, [.ref t0, .ref b0, .int 38, .int 2, .int 36, .int 30, .int 40])), (b0, .inl (G.2.1, 160, .inl (gPf tB 40))), (t0, .inr (3, [.ref co, .ref en, .ref sk, .int 4, .int 0])), (co, .inl (G.2.2.2, 6, .inr (.inr (.inr (.inr fO))))), (ck, .inl (G.2.1, 160, .inl (gPf tC 4)))] s.heap := hP
  have hD : va_D A [(h0, .inr (1, [.ref t0, .ref b0, .int 38, .int 2, .int 36, .int 30, .int 40])), (b0, .inl (G.2.1, 160, .inl (gPf tB 40))), (t0, .inr (3, [.ref co, .ref en, .ref sk, .int 4, .int 0])), (co, .inl (G.2.2.2, 6, .inr (.inr (.inr (.inr fO))))), (ck, .inl (G.2.1, 160, .inl (gPf tC 4)))] := hD
  have hl := lv_entry ([.ref h0, .int 0]) (n := 3) (Nat.le_of_ble_eq_true rfl)
  rw [lg_entry_eq]
  generalize (lg_sl ([.ref h0, .int 0]) ++ List.replicate (3 - (lg_sl ([.ref h0, .int 0])).length) Slot.unset).toArray = ls at hl ⊢
  have hl : lv_has ls 3 [(0, .ref h0), (1, .int 0)] := hl
  have kf45 := hts (.fieldLink RX1 45 "PebbleInShoe$Reader" "token" "I") (by decide +kernel)
  have hiX1 := (by decide +kernel : ∀ w ∈ wsX10, w ∈ wsX1_readOr)
  refine lv_aload_n hx hb dX1_readOr_0 rfl (lv_at hl 0 rfl) ?_
  refine lv_iload_n hx hb dX1_readOr_1 rfl (lv_at hl 1 rfl) ?_
  have hPc : va_P G.1 vwCl [(h0, .inr (1, [.ref t0, .ref b0, .int 38, .int 2, .int 36, .int 30, .int 40])), (b0, .inl (G.2.1, 160, .inl (gPf tB 40))), (t0, .inr (3, [.ref co, .ref en, .ref sk, .int 4, .int 0])), (co, .inl (G.2.2.2, 6, .inr (.inr (.inr (.inr fO))))), (ck, .inl (G.2.1, 160, .inl (gPf tC 4)))] s.heap := hP.sub [0, 1, 2, 3, 4] rfl
  have hDc : va_D A [(h0, .inr (1, [.ref t0, .ref b0, .int 38, .int 2, .int 36, .int 30, .int 40])), (b0, .inl (G.2.1, 160, .inl (gPf tB 40))), (t0, .inr (3, [.ref co, .ref en, .ref sk, .int 4, .int 0])), (co, .inl (G.2.2.2, 6, .inr (.inr (.inr (.inr fO))))), (ck, .inl (G.2.1, 160, .inl (gPf tC 4)))] := hD.sub [0, 1, 2, 3, 4] (by decide) rfl
  have hFc := va_free (wc := [(h0, .inr (1, [.ref t0, .ref b0, .int 38, .int 2, .int 36, .int 30, .int 40])), (b0, .inl (G.2.1, 160, .inl (gPf tB 40))), (t0, .inr (3, [.ref co, .ref en, .ref sk, .int 4, .int 0])), (co, .inl (G.2.2.2, 6, .inr (.inr (.inr (.inr fO))))), (ck, .inl (G.2.1, 160, .inl (gPf tC 4)))]) hD hS hA [0, 1, 2, 3, 4] rfl
  refine va_calli (va_runV (As := [.int 0]) (rest := []) ⟨hx, hb, hml, hown, hts⟩ (c_X1_readAnd_a38 l G E h0 t0 b0 co en sk ck fO s.heap.size (hO)) (cwV 1 hts gX1_readOr_X1_readAnd rfl rfl rfl (by decide +kernel) ⟨Nat.le_of_ble_eq_true rfl, Nat.le_of_ble_eq_true rfl⟩) ⟨gPreE_blind, va_recv hK hPc (ci := 1) (q0 := 0) rfl rfl, fun U hU hW => gPreE_of hU hW hK hPc hDc hE hS hFc⟩ rfl rfl hl.1 rfl (lv_room (Nat.le_of_ble_eq_true rfl)) dX1_readOr_2 ⟨Nat.le_of_ble_eq_true rfl, Nat.le_of_ble_eq_true rfl⟩) hS (fun q _ h => hFc q h) hFc (fun r_1 u t H locs ht hvm w_2 hB hz1 hk1 hS => ?_)
  obtain ⟨hP1, hK1, hD1⟩ := hB
  rw [ht] at hP1
  have hP1 : va_P G.1 vwCl [(h0, .inr (1, [.ref t0, .ref b0, .int 40, .int 59, .int 39, .int 30, .int 40])), (b0, .inl (G.2.1, 160, .inl (gPf tB 40))), (t0, .inr (3, [.ref co, .ref en, .ref sk, .int 5, .int 0])), (co, .inl (G.2.2.2, 6, .inr (.inr (.inr (.inr fO))))), (ck, .inl (G.2.1, 160, .inl (gPf tC 5)))] H := hP1
  have hD1 : va_D (va_A [(h0, .inr (1, [.ref t0, .ref b0, .int 38, .int 2, .int 36, .int 30, .int 40])), (b0, .inl (G.2.1, 160, .inl (gPf tB 40))), (t0, .inr (3, [.ref co, .ref en, .ref sk, .int 4, .int 0])), (co, .inl (G.2.2.2, 6, .inr (.inr (.inr (.inr fO))))), (ck, .inl (G.2.1, 160, .inl (gPf tC 4)))] s.heap.size) [(h0, .inr (1, [.ref t0, .ref b0, .int 40, .int 59, .int 39, .int 30, .int 40])), (b0, .inl (G.2.1, 160, .inl (gPf tB 40))), (t0, .inr (3, [.ref co, .ref en, .ref sk, .int 5, .int 0])), (co, .inl (G.2.2.2, 6, .inr (.inr (.inr (.inr fO))))), (ck, .inl (G.2.1, 160, .inl (gPf tC 5)))] := hD1
  have w_2 : r_1 = 1 := w_2
  obtain ⟨hP, hD⟩ := va_join (wr := []) (w1 := [(h0, .inr (1, [.ref t0, .ref b0, .int 40, .int 59, .int 39, .int 30, .int 40])), (b0, .inl (G.2.1, 160, .inl (gPf tB 40))), (t0, .inr (3, [.ref co, .ref en, .ref sk, .int 5, .int 0])), (co, .inl (G.2.2.2, 6, .inr (.inr (.inr (.inr fO))))), (ck, .inl (G.2.1, 160, .inl (gPf tC 5)))]) hP hD [0, 1, 2, 3, 4] [] rfl rfl (by decide) (by decide) hk1 hFc hP1 hD1
  have hP : va_P G.1 vwCl [(h0, .inr (1, [.ref t0, .ref b0, .int 40, .int 59, .int 39, .int 30, .int 40])), (b0, .inl (G.2.1, 160, .inl (gPf tB 40))), (t0, .inr (3, [.ref co, .ref en, .ref sk, .int 5, .int 0])), (co, .inl (G.2.2.2, 6, .inr (.inr (.inr (.inr fO))))), (ck, .inl (G.2.1, 160, .inl (gPf tC 5)))] H := hP
  have hD : va_D A [(h0, .inr (1, [.ref t0, .ref b0, .int 40, .int 59, .int 39, .int 30, .int 40])), (b0, .inl (G.2.1, 160, .inl (gPf tB 40))), (t0, .inr (3, [.ref co, .ref en, .ref sk, .int 5, .int 0])), (co, .inl (G.2.2.2, 6, .inr (.inr (.inr (.inr fO))))), (ck, .inl (G.2.1, 160, .inl (gPf tC 5)))] := hD
  have w_2 : r_1 = 1 := w_2
  subst w_2
  refine lv_if_ne (tgt := 10) hx hb dX1_readOr_5 (by decide) (fun c_3 => ?_) (fun c_3 => ?_)
  rotate_left
  · exact absurd c_3 (by decide)
  refine lv_iconst (v := 0) hx hb dX1_readOr_10 (by decide) ?_
  refine lv_istore_n (lv' := [(2, .int 0), (0, .ref h0), (1, .int 0)]) hx hb dX1_readOr_11 rfl hl (by decide) rfl (fun ls hl => ?_)
  refine lv_iload_n hx hb dX1_readOr_12 rfl (lv_at hl 0 rfl) ?_
  refine lv_sipush (v := 160) hx hb dX1_readOr_13 (by decide) ?_
  refine lv_icmp_ge (tgt := 58) hx hb dX1_readOr_16 (by decide) (fun c_4 => ?_) (fun c_4 => ?_)
  · exact absurd c_4 (by decide)
  refine lv_aload_n hx hb dX1_readOr_19 rfl (lv_at hl 1 rfl) ?_
  refine va_get (D := G.1) (ci := 1) (v := .int 59) (C := RX1) (T := TX1) (N := 7) hx hb hts hiX1 hown hK hP 0 rfl rfl 3 (by decide) kf45 (fun _ h9 => h9) rfl dX1_readOr_20 ?_
  refine lv_bipush (v := 103) hx hb dX1_readOr_23 (by decide) ?_
  refine lv_icmp_ne (tgt := 58) hx hb dX1_readOr_25 (by decide) (fun c_5 => ?_) (fun c_5 => ?_)
  rotate_left
  · exact absurd c_5 (by decide)
  refine lv_iconst (v := 1) hx hb dX1_readOr_58 (by decide) ?_
  have hP9 := hP.sub (ws' := [(h0, .inr (1, [.ref t0, .ref b0, .int 40, .int 59, .int 39, .int 30, .int 40])), (b0, .inl (G.2.1, 160, .inl (gPf tB 40))), (t0, .inr (3, [.ref co, .ref en, .ref sk, .int 5, .int 0])), (co, .inl (G.2.2.2, 6, .inr (.inr (.inr (.inr fO))))), (ck, .inl (G.2.1, 160, .inl (gPf tC 5)))]) [0, 1, 2, 3, 4] rfl
  have hD9 := hD.sub (ws' := [(h0, .inr (1, [.ref t0, .ref b0, .int 40, .int 59, .int 39, .int 30, .int 40])), (b0, .inl (G.2.1, 160, .inl (gPf tB 40))), (t0, .inr (3, [.ref co, .ref en, .ref sk, .int 5, .int 0])), (co, .inl (G.2.2.2, 6, .inr (.inr (.inr (.inr fO))))), (ck, .inl (G.2.1, 160, .inl (gPf tC 5)))]) [0, 1, 2, 3, 4] (by decide) rfl
  have hpost : (fun (r : Int32) (u : Unit) => match u with | _ => r = 1) 1 () := by first | trivial | rfl | decide | simp
  exact W.zret (v := 1) hx hb hr (rfl) (fun t ht hW => ⟨⟨1, (), rfl, hpost, by rw [ht]; exact hP9, va_K.moved hW.alike hK, hD9⟩, hS.F ht⟩) hS.2.2 dX1_readOr_59
abbrev q_X1_readParts_law (G : gG) (E : gS) (h0 t0 b0 co en sk ck ek : Nat) (fO : Nat → Option Nat) (fN : Nat → Option Nat) (A : Nat → Prop) : Array Value → State → Outcome → State → Prop := va_Qi (fun (r : Int32) (u : Unit) => match u with | _ => r = 1) (fun (u : Unit) t => match u with | _ => va_P G.1 vwCl [(h0, .inr (1, [.ref t0, .ref b0, .int 40, .int 0, .int 40, .int 30, .int 40])), (b0, .inl (G.2.1, 160, .inl (gPf tB 40))), (t0, .inr (3, [.ref co, .ref en, .ref sk, .int 5, .int 0])), (co, .inl (G.2.2.2, 6, .inr (.inr (.inr (.inr fO))))), (ck, .inl (G.2.1, 160, .inl (gPf tC 5))), (en, .inl (G.2.2.2, 6, .inr (.inr (.inr (.inr fN))))), (ek, .inl (G.2.1, 3, .inl (gPf tE 3)))] t.heap ∧ gK G t ∧ va_D A [(h0, .inr (1, [.ref t0, .ref b0, .int 40, .int 0, .int 40, .int 30, .int 40])), (b0, .inl (G.2.1, 160, .inl (gPf tB 40))), (t0, .inr (3, [.ref co, .ref en, .ref sk, .int 5, .int 0])), (co, .inl (G.2.2.2, 6, .inr (.inr (.inr (.inr fO))))), (ck, .inl (G.2.1, 160, .inl (gPf tC 5))), (en, .inl (G.2.2.2, 6, .inr (.inr (.inr (.inr fN))))), (ek, .inl (G.2.1, 3, .inl (gPf tE 3)))]) A
set_option maxHeartbeats 4000000 in
set_option maxRecDepth 100000 in
theorem c_X1_readParts_law (l : Launch) (G : gG) (E : gS) (h0 t0 b0 co en sk ck ek : Nat) (fO : Nat → Option Nat) (fN : Nat → Option Nat) (sz : Nat) (hO : fO 0 = some ck) (hN : fN 0 = some ek) : Met l yX1_readParts wsX1_readParts ({ frames := 13, cells := 0, slots := 0, locals := 280 }) (gPreE G E [.ref h0] [(h0, .inr (1, [.ref t0, .ref b0, .int 0, .int 0, .int 0, .int 0, .int 40])), (b0, .inl (G.2.1, 160, .inl (gPf tB 40))), (t0, .inr (3, [.ref co, .ref en, .ref sk, .int 0, .int 0])), (co, .inl (G.2.2.2, 6, .inr (.inr (.inr (.inr fO))))), (ck, .inl (G.2.1, 160, .inl (gPf tC 0))), (en, .inl (G.2.2.2, 6, .inr (.inr (.inr (.inr fN))))), (ek, .inl (G.2.1, 3, .inl (gPf tE 0)))] sz) (q_X1_readParts_law G E h0 t0 b0 co en sk ck ek fO fN (va_A [(h0, .inr (1, [.ref t0, .ref b0, .int 0, .int 0, .int 0, .int 0, .int 40])), (b0, .inl (G.2.1, 160, .inl (gPf tB 40))), (t0, .inr (3, [.ref co, .ref en, .ref sk, .int 0, .int 0])), (co, .inl (G.2.2.2, 6, .inr (.inr (.inr (.inr fO))))), (ck, .inl (G.2.1, 160, .inl (gPf tC 0))), (en, .inl (G.2.2.2, 6, .inr (.inr (.inr (.inr fN))))), (ek, .inl (G.2.1, 3, .inl (gPf tE 0)))] sz)) 0 0 (va_A [(h0, .inr (1, [.ref t0, .ref b0, .int 0, .int 0, .int 0, .int 0, .int 40])), (b0, .inl (G.2.1, 160, .inl (gPf tB 40))), (t0, .inr (3, [.ref co, .ref en, .ref sk, .int 0, .int 0])), (co, .inl (G.2.2.2, 6, .inr (.inr (.inr (.inr fO))))), (ck, .inl (G.2.1, 160, .inl (gPf tC 0))), (en, .inl (G.2.2.2, 6, .inr (.inr (.inr (.inr fN))))), (ek, .inl (G.2.1, 3, .inl (gPf tE 0)))] sz) := by
  refine Met.ofW (cc := cX1_readParts) (maxL := 2) (ret := (some .boolean)) (by decide) rfl ?_
  intro p e s m args below meth c s₁ B hml hv
  obtain ⟨rfl, hsz, hP, hK, hD0, hE⟩ := hv
  have hx := B.exec
  have hb := B.bytes
  have hr := B.returns
  have hts := atoms_spec (ws := wsX1_readParts) B.pre
  have hown : s.vm.findClass RX1 = some m.cls := findClass_of_methodNamed B.named
  have hlocks := B.notSynchronized
  subst hsz
  have hD := hD0.self (sz := s.heap.size)
  generalize hAe : va_A [(h0, .inr (1, [.ref t0, .ref b0, .int 0, .int 0, .int 0, .int 0, .int 40])), (b0, .inl (G.2.1, 160, .inl (gPf tB 40))), (t0, .inr (3, [.ref co, .ref en, .ref sk, .int 0, .int 0])), (co, .inl (G.2.2.2, 6, .inr (.inr (.inr (.inr fO))))), (ck, .inl (G.2.1, 160, .inl (gPf tC 0))), (en, .inl (G.2.2.2, 6, .inr (.inr (.inr (.inr fN))))), (ek, .inl (G.2.1, 3, .inl (gPf tE 0)))] s.heap.size = A at hD hE ⊢
  have hA : ∀ q : Nat, s.heap.size ≤ q → A q := fun q h => by rw [← hAe]; exact Or.inr h
  have hS : va_S A s.heap s.heap [] := va_S.rf
  have hP : va_P G.1 vwCl [(h0, .inr (1, [.ref t0, .ref b0, .int 0, .int 0, .int 0, .int 0, .int 40])), (b0, .inl (G.2.1, 160, .inl (gPf tB 40))), (t0, .inr (3, [.ref co, .ref en, .ref sk, .int 0, .int 0])), (co, .inl (G.2.2.2, 6, .inr (.inr (.inr (.inr fO))))), (ck, .inl (G.2.1, 160, .inl (gPf tC 0))), (en, .inl (G.2.2.2, 6, .inr (.inr (.inr (.inr fN))))), (ek, .inl (G.2.1, 3, .inl (gPf tE 0)))] s.heap := hP
  have hD : va_D A [(h0, .inr (1, [.ref t0, .ref b0, .int 0, .int 0, .int 0, .int 0, .int 40])), (b0, .inl (G.2.1, 160, .inl (gPf tB 40))), (t0, .inr (3, [.ref co, .ref en, .ref sk, .int 0, .int 0])), (co, .inl (G.2.2.2, 6, .inr (.inr (.inr (.inr fO))))), (ck, .inl (G.2.1, 160, .inl (gPf tC 0))), (en, .inl (G.2.2.2, 6, .inr (.inr (.inr (.inr fN))))), (ek, .inl (G.2.1, 3, .inl (gPf tE 0)))] := hD
  have hl := lv_entry ([.ref h0]) (n := 2) (Nat.le_of_ble_eq_true rfl)
  rw [lg_entry_eq]
  generalize (lg_sl ([.ref h0]) ++ List.replicate (2 - (lg_sl ([.ref h0])).length) Slot.unset).toArray = ls at hl ⊢
  have hl : lv_has ls 2 [(0, .ref h0)] := hl
  have kf45 := hts (.fieldLink RX1 45 "PebbleInShoe$Reader" "token" "I") (by decide +kernel)
  have hiX1 := (by decide +kernel : ∀ w ∈ wsX10, w ∈ wsX1_readParts)
  have kf15 := hts (.fieldLink RX1 15 "PebbleInShoe$Reader" "texts" "LPebbleInShoe$Texts;") (by decide +kernel)
  refine lv_aload_n hx hb dX1_readParts_0 rfl (lv_at hl 0 rfl) ?_
  have hPc : va_P G.1 vwCl [(h0, .inr (1, [.ref t0, .ref b0, .int (nI 0), .int 0, .int 0, .int 0, .int (nI 40)])), (b0, .inl (G.2.1, 160, .inl (gPf tB 40)))] s.heap := hP.sub [0, 1] rfl
  have hDc : va_D A [(h0, .inr (1, [.ref t0, .ref b0, .int (nI 0), .int 0, .int 0, .int 0, .int (nI 40)])), (b0, .inl (G.2.1, 160, .inl (gPf tB 40)))] := hD.sub [0, 1] (by decide) rfl
  have hFc := va_free (wc := [(h0, .inr (1, [.ref t0, .ref b0, .int (nI 0), .int 0, .int 0, .int 0, .int (nI 40)])), (b0, .inl (G.2.1, 160, .inl (gPf tB 40)))]) hD hS hA [0, 1] rfl
  refine va_callv (va_runV (As := []) (rest := []) ⟨hx, hb, hml, hown, hts⟩ (c_X1_next l G E h0 t0 b0 (gPf tB 40) 0 0 0 40 0 s.heap.size (by decide) (by decide)) (cwV 0 hts gX1_readParts_X1_next rfl rfl rfl (by decide +kernel) ⟨Nat.le_of_ble_eq_true rfl, Nat.le_of_ble_eq_true rfl⟩) ⟨gPreE_blind, va_recv hK hPc (ci := 1) (q0 := 0) rfl rfl, fun U hU hW => gPreE_of hU hW hK hPc hDc hE hS hFc⟩ rfl rfl hl.1 rfl (lv_room (Nat.le_of_ble_eq_true rfl)) dX1_readParts_1 ⟨Nat.le_of_ble_eq_true rfl, Nat.le_of_ble_eq_true rfl⟩) hS (fun q _ h => hFc q h) hFc (fun u t H locs ht hvm w_2 hB hz1 hk1 hS => ?_)
  obtain ⟨zb_3, zt_4, zp_5, zm_6⟩ := u
  obtain ⟨hP1, hK1, hD1⟩ := hB
  rw [ht] at hP1
  have hP1 : va_P G.1 vwCl [(h0, .inr (1, [.ref t0, .ref b0, .int (nI zb_3), .int zt_4, .int (nI zp_5), .int zm_6, .int 40])), (b0, .inl (G.2.1, 160, .inl (gPf tB 40)))] H := hP1
  have hD1 : va_D (va_A [(h0, .inr (1, [.ref t0, .ref b0, .int (nI 0), .int 0, .int 0, .int 0, .int (nI 40)])), (b0, .inl (G.2.1, 160, .inl (gPf tB 40)))] s.heap.size) [(h0, .inr (1, [.ref t0, .ref b0, .int (nI zb_3), .int zt_4, .int (nI zp_5), .int zm_6, .int 40])), (b0, .inl (G.2.1, 160, .inl (gPf tB 40)))] := hD1
  have w_2 : (zb_3, zt_4, zp_5, zm_6) = mNext (gPf tB 40) 40 0 0 := w_2
  obtain ⟨hP, hD⟩ := va_join (wr := [(t0, .inr (3, [.ref co, .ref en, .ref sk, .int 0, .int 0])), (co, .inl (G.2.2.2, 6, .inr (.inr (.inr (.inr fO))))), (ck, .inl (G.2.1, 160, .inl (gPf tC 0))), (en, .inl (G.2.2.2, 6, .inr (.inr (.inr (.inr fN))))), (ek, .inl (G.2.1, 3, .inl (gPf tE 0)))]) (w1 := [(h0, .inr (1, [.ref t0, .ref b0, .int (nI zb_3), .int zt_4, .int (nI zp_5), .int zm_6, .int 40])), (b0, .inl (G.2.1, 160, .inl (gPf tB 40)))]) hP hD [0, 1] [2, 3, 4, 5, 6] rfl rfl (by decide) (by decide) hk1 hFc hP1 hD1
  have hP : va_P G.1 vwCl [(t0, .inr (3, [.ref co, .ref en, .ref sk, .int 0, .int 0])), (co, .inl (G.2.2.2, 6, .inr (.inr (.inr (.inr fO))))), (ck, .inl (G.2.1, 160, .inl (gPf tC 0))), (en, .inl (G.2.2.2, 6, .inr (.inr (.inr (.inr fN))))), (ek, .inl (G.2.1, 3, .inl (gPf tE 0))), (h0, .inr (1, [.ref t0, .ref b0, .int (nI zb_3), .int zt_4, .int (nI zp_5), .int zm_6, .int 40])), (b0, .inl (G.2.1, 160, .inl (gPf tB 40)))] H := hP
  have hD : va_D A [(t0, .inr (3, [.ref co, .ref en, .ref sk, .int 0, .int 0])), (co, .inl (G.2.2.2, 6, .inr (.inr (.inr (.inr fO))))), (ck, .inl (G.2.1, 160, .inl (gPf tC 0))), (en, .inl (G.2.2.2, 6, .inr (.inr (.inr (.inr fN))))), (ek, .inl (G.2.1, 3, .inl (gPf tE 0))), (h0, .inr (1, [.ref t0, .ref b0, .int (nI zb_3), .int zt_4, .int (nI zp_5), .int zm_6, .int 40])), (b0, .inl (G.2.1, 160, .inl (gPf tB 40)))] := hD
  rw [show mNext (gPf tB 40) 40 0 0 = (5, 100, 0, -6) by decide +kernel] at w_2
  simp only [Prod.mk.injEq] at w_2
  obtain ⟨g_7, g_8, g_9, g_10⟩ := w_2
  have g_7 := g_7.symm
  subst g_7
  have g_8 := g_8.symm
  subst g_8
  have g_9 := g_9.symm
  subst g_9
  have g_10 := g_10.symm
  subst g_10
  have hP : va_P G.1 vwCl [(t0, .inr (3, [.ref co, .ref en, .ref sk, .int 0, .int 0])), (co, .inl (G.2.2.2, 6, .inr (.inr (.inr (.inr fO))))), (ck, .inl (G.2.1, 160, .inl (gPf tC 0))), (en, .inl (G.2.2.2, 6, .inr (.inr (.inr (.inr fN))))), (ek, .inl (G.2.1, 3, .inl (gPf tE 0))), (h0, .inr (1, [.ref t0, .ref b0, .int 5, .int 100, .int 0, .int (-6), .int 40])), (b0, .inl (G.2.1, 160, .inl (gPf tB 40)))] H := hP
  have hD : va_D A [(t0, .inr (3, [.ref co, .ref en, .ref sk, .int 0, .int 0])), (co, .inl (G.2.2.2, 6, .inr (.inr (.inr (.inr fO))))), (ck, .inl (G.2.1, 160, .inl (gPf tC 0))), (en, .inl (G.2.2.2, 6, .inr (.inr (.inr (.inr fN))))), (ek, .inl (G.2.1, 3, .inl (gPf tE 0))), (h0, .inr (1, [.ref t0, .ref b0, .int 5, .int 100, .int 0, .int (-6), .int 40])), (b0, .inl (G.2.1, 160, .inl (gPf tB 40)))] := hD
  refine lv_iconst (v := 0) hx hb dX1_readParts_4 (by decide) ?_
  refine lv_istore_n (lv' := [(1, .int 0), (0, .ref h0)]) hx hb dX1_readParts_5 rfl hl (by decide) rfl (fun ls hl => ?_)
  refine lv_iload_n hx hb dX1_readParts_6 rfl (lv_at hl 0 rfl) ?_
  refine lv_iconst (v := 2) hx hb dX1_readParts_7 (by decide) ?_
  refine lv_icmp_gt (tgt := 65) hx hb dX1_readParts_8 (by decide) (fun c_11 => ?_) (fun c_11 => ?_)
  · exact absurd c_11 (by decide)
  refine lv_aload_n hx hb dX1_readParts_11 rfl (lv_at hl 1 rfl) ?_
  refine va_get (D := G.1) (ci := 1) (v := .int 100) (C := RX1) (T := TX1) (N := 7) hx hb hts hiX1 hown hK hP 5 rfl rfl 3 (by decide) kf45 (fun _ h9 => h9) rfl dX1_readParts_12 ?_
  refine lv_bipush (v := 100) hx hb dX1_readParts_15 (by decide) ?_
  refine lv_iload_n hx hb dX1_readParts_17 rfl (lv_at hl 0 rfl) ?_
  refine lv_iadd hx hb dX1_readParts_18 ?_
  refine lv_topi (fun v_12 ev_12 => ?_)
  have ev_12 : v_12 = 100 := ev_12.trans (by decide)
  subst ev_12
  refine lv_icmp_eq (tgt := 24) hx hb dX1_readParts_19 (by decide) (fun c_13 => ?_) (fun c_13 => ?_)
  rotate_left
  · exact absurd (by decide) c_13
  refine lv_aload_n hx hb dX1_readParts_24 rfl (lv_at hl 1 rfl) ?_
  have hPc : va_P G.1 vwCl [(h0, .inr (1, [.ref t0, .ref b0, .int (nI 5), .int 100, .int 0, .int (-6), .int (nI 40)])), (b0, .inl (G.2.1, 160, .inl (gPf tB 40)))] H := hP.sub [5, 6] rfl
  have hDc : va_D A [(h0, .inr (1, [.ref t0, .ref b0, .int (nI 5), .int 100, .int 0, .int (-6), .int (nI 40)])), (b0, .inl (G.2.1, 160, .inl (gPf tB 40)))] := hD.sub [5, 6] (by decide) rfl
  have hFc := va_free (wc := [(h0, .inr (1, [.ref t0, .ref b0, .int (nI 5), .int 100, .int 0, .int (-6), .int (nI 40)])), (b0, .inl (G.2.1, 160, .inl (gPf tB 40)))]) hD hS hA [5, 6] rfl
  refine va_callv (va_runV (As := []) (rest := []) ⟨hx, hb, hml, hown, hts⟩ (c_X1_next l G E h0 t0 b0 (gPf tB 40) 100 0 (-6) 40 5 H.size (by decide) (by decide)) (cwV 0 hts gX1_readParts_X1_next rfl rfl rfl (by decide +kernel) ⟨Nat.le_of_ble_eq_true rfl, Nat.le_of_ble_eq_true rfl⟩) ⟨gPreE_blind, va_recv hK hPc (ci := 1) (q0 := 0) rfl rfl, fun U hU hW => gPreE_of hU hW hK hPc hDc hE hS hFc⟩ rfl rfl hl.1 rfl (lv_room (Nat.le_of_ble_eq_true rfl)) dX1_readParts_25 ⟨Nat.le_of_ble_eq_true rfl, Nat.le_of_ble_eq_true rfl⟩) hS (fun q _ h => hFc q h) hFc (fun u t H locs ht hvm w_15 hB hz1 hk1 hS => ?_)
  obtain ⟨zb_16, zt_17, zp_18, zm_19⟩ := u
  obtain ⟨hP1, hK1, hD1⟩ := hB
  rw [ht] at hP1
  have hP1 : va_P G.1 vwCl [(h0, .inr (1, [.ref t0, .ref b0, .int (nI zb_16), .int zt_17, .int (nI zp_18), .int zm_19, .int 40])), (b0, .inl (G.2.1, 160, .inl (gPf tB 40)))] H := hP1
  have hD1 : va_D (va_A [(h0, .inr (1, [.ref t0, .ref b0, .int (nI 5), .int 100, .int 0, .int (-6), .int (nI 40)])), (b0, .inl (G.2.1, 160, .inl (gPf tB 40)))] _) [(h0, .inr (1, [.ref t0, .ref b0, .int (nI zb_16), .int zt_17, .int (nI zp_18), .int zm_19, .int 40])), (b0, .inl (G.2.1, 160, .inl (gPf tB 40)))] := hD1
  have w_15 : (zb_16, zt_17, zp_18, zm_19) = mNext (gPf tB 40) 40 5 (-6) := w_15
  obtain ⟨hP, hD⟩ := va_join (wr := [(t0, .inr (3, [.ref co, .ref en, .ref sk, .int 0, .int 0])), (co, .inl (G.2.2.2, 6, .inr (.inr (.inr (.inr fO))))), (ck, .inl (G.2.1, 160, .inl (gPf tC 0))), (en, .inl (G.2.2.2, 6, .inr (.inr (.inr (.inr fN))))), (ek, .inl (G.2.1, 3, .inl (gPf tE 0)))]) (w1 := [(h0, .inr (1, [.ref t0, .ref b0, .int (nI zb_16), .int zt_17, .int (nI zp_18), .int zm_19, .int 40])), (b0, .inl (G.2.1, 160, .inl (gPf tB 40)))]) hP hD [5, 6] [0, 1, 2, 3, 4] rfl rfl (by decide) (by decide) hk1 hFc hP1 hD1
  have hP : va_P G.1 vwCl [(t0, .inr (3, [.ref co, .ref en, .ref sk, .int 0, .int 0])), (co, .inl (G.2.2.2, 6, .inr (.inr (.inr (.inr fO))))), (ck, .inl (G.2.1, 160, .inl (gPf tC 0))), (en, .inl (G.2.2.2, 6, .inr (.inr (.inr (.inr fN))))), (ek, .inl (G.2.1, 3, .inl (gPf tE 0))), (h0, .inr (1, [.ref t0, .ref b0, .int (nI zb_16), .int zt_17, .int (nI zp_18), .int zm_19, .int 40])), (b0, .inl (G.2.1, 160, .inl (gPf tB 40)))] H := hP
  have hD : va_D A [(t0, .inr (3, [.ref co, .ref en, .ref sk, .int 0, .int 0])), (co, .inl (G.2.2.2, 6, .inr (.inr (.inr (.inr fO))))), (ck, .inl (G.2.1, 160, .inl (gPf tC 0))), (en, .inl (G.2.2.2, 6, .inr (.inr (.inr (.inr fN))))), (ek, .inl (G.2.1, 3, .inl (gPf tE 0))), (h0, .inr (1, [.ref t0, .ref b0, .int (nI zb_16), .int zt_17, .int (nI zp_18), .int zm_19, .int 40])), (b0, .inl (G.2.1, 160, .inl (gPf tB 40)))] := hD
  rw [show mNext (gPf tB 40) 40 5 (-6) = (10, 3, 6, 0) by decide +kernel] at w_15
  simp only [Prod.mk.injEq] at w_15
  obtain ⟨g_20, g_21, g_22, g_23⟩ := w_15
  have g_20 := g_20.symm
  subst g_20
  have g_21 := g_21.symm
  subst g_21
  have g_22 := g_22.symm
  subst g_22
  have g_23 := g_23.symm
  subst g_23
  have hP : va_P G.1 vwCl [(t0, .inr (3, [.ref co, .ref en, .ref sk, .int 0, .int 0])), (co, .inl (G.2.2.2, 6, .inr (.inr (.inr (.inr fO))))), (ck, .inl (G.2.1, 160, .inl (gPf tC 0))), (en, .inl (G.2.2.2, 6, .inr (.inr (.inr (.inr fN))))), (ek, .inl (G.2.1, 3, .inl (gPf tE 0))), (h0, .inr (1, [.ref t0, .ref b0, .int 10, .int 3, .int 6, .int 0, .int 40])), (b0, .inl (G.2.1, 160, .inl (gPf tB 40)))] H := hP
  have hD : va_D A [(t0, .inr (3, [.ref co, .ref en, .ref sk, .int 0, .int 0])), (co, .inl (G.2.2.2, 6, .inr (.inr (.inr (.inr fO))))), (ck, .inl (G.2.1, 160, .inl (gPf tC 0))), (en, .inl (G.2.2.2, 6, .inr (.inr (.inr (.inr fN))))), (ek, .inl (G.2.1, 3, .inl (gPf tE 0))), (h0, .inr (1, [.ref t0, .ref b0, .int 10, .int 3, .int 6, .int 0, .int 40])), (b0, .inl (G.2.1, 160, .inl (gPf tB 40)))] := hD
  refine lv_aload_n hx hb dX1_readParts_28 rfl (lv_at hl 1 rfl) ?_
  refine lv_iconst (v := 0) hx hb dX1_readParts_29 (by decide) ?_
  have hPc : va_P G.1 vwCl [(h0, .inr (1, [.ref t0, .ref b0, .int 10, .int 3, .int 6, .int 0, .int 40])), (b0, .inl (G.2.1, 160, .inl (gPf tB 40))), (t0, .inr (3, [.ref co, .ref en, .ref sk, .int 0, .int 0])), (co, .inl (G.2.2.2, 6, .inr (.inr (.inr (.inr fO))))), (ck, .inl (G.2.1, 160, .inl (gPf tC 0)))] H := hP.sub [5, 6, 0, 1, 2] rfl
  have hDc : va_D A [(h0, .inr (1, [.ref t0, .ref b0, .int 10, .int 3, .int 6, .int 0, .int 40])), (b0, .inl (G.2.1, 160, .inl (gPf tB 40))), (t0, .inr (3, [.ref co, .ref en, .ref sk, .int 0, .int 0])), (co, .inl (G.2.2.2, 6, .inr (.inr (.inr (.inr fO))))), (ck, .inl (G.2.1, 160, .inl (gPf tC 0)))] := hD.sub [5, 6, 0, 1, 2] (by decide) rfl
  have hFc := va_free (wc := [(h0, .inr (1, [.ref t0, .ref b0, .int 10, .int 3, .int 6, .int 0, .int 40])), (b0, .inl (G.2.1, 160, .inl (gPf tB 40))), (t0, .inr (3, [.ref co, .ref en, .ref sk, .int 0, .int 0])), (co, .inl (G.2.2.2, 6, .inr (.inr (.inr (.inr fO))))), (ck, .inl (G.2.1, 160, .inl (gPf tC 0)))]) hD hS hA [5, 6, 0, 1, 2] rfl
  refine va_calli (va_runV (As := [.int 0]) (rest := []) ⟨hx, hb, hml, hown, hts⟩ (c_X1_readOr_a10 l G E h0 t0 b0 co en sk ck fO H.size (hO)) (cwV 1 hts gX1_readParts_X1_readOr rfl rfl rfl (by decide +kernel) ⟨Nat.le_of_ble_eq_true rfl, Nat.le_of_ble_eq_true rfl⟩) ⟨gPreE_blind, va_recv hK hPc (ci := 1) (q0 := 0) rfl rfl, fun U hU hW => gPreE_of hU hW hK hPc hDc hE hS hFc⟩ rfl rfl hl.1 rfl (lv_room (Nat.le_of_ble_eq_true rfl)) dX1_readParts_30 ⟨Nat.le_of_ble_eq_true rfl, Nat.le_of_ble_eq_true rfl⟩) hS (fun q _ h => hFc q h) hFc (fun r_24 u t H locs ht hvm w_25 hB hz1 hk1 hS => ?_)
  obtain ⟨hP1, hK1, hD1⟩ := hB
  rw [ht] at hP1
  have hP1 : va_P G.1 vwCl [(h0, .inr (1, [.ref t0, .ref b0, .int 20, .int 59, .int 19, .int 1, .int 40])), (b0, .inl (G.2.1, 160, .inl (gPf tB 40))), (t0, .inr (3, [.ref co, .ref en, .ref sk, .int 3, .int 0])), (co, .inl (G.2.2.2, 6, .inr (.inr (.inr (.inr fO))))), (ck, .inl (G.2.1, 160, .inl (gPf tC 3)))] H := hP1
  have hD1 : va_D (va_A [(h0, .inr (1, [.ref t0, .ref b0, .int 10, .int 3, .int 6, .int 0, .int 40])), (b0, .inl (G.2.1, 160, .inl (gPf tB 40))), (t0, .inr (3, [.ref co, .ref en, .ref sk, .int 0, .int 0])), (co, .inl (G.2.2.2, 6, .inr (.inr (.inr (.inr fO))))), (ck, .inl (G.2.1, 160, .inl (gPf tC 0)))] _) [(h0, .inr (1, [.ref t0, .ref b0, .int 20, .int 59, .int 19, .int 1, .int 40])), (b0, .inl (G.2.1, 160, .inl (gPf tB 40))), (t0, .inr (3, [.ref co, .ref en, .ref sk, .int 3, .int 0])), (co, .inl (G.2.2.2, 6, .inr (.inr (.inr (.inr fO))))), (ck, .inl (G.2.1, 160, .inl (gPf tC 3)))] := hD1
  have w_25 : r_24 = 1 := w_25
  obtain ⟨hP, hD⟩ := va_join (wr := [(en, .inl (G.2.2.2, 6, .inr (.inr (.inr (.inr fN))))), (ek, .inl (G.2.1, 3, .inl (gPf tE 0)))]) (w1 := [(h0, .inr (1, [.ref t0, .ref b0, .int 20, .int 59, .int 19, .int 1, .int 40])), (b0, .inl (G.2.1, 160, .inl (gPf tB 40))), (t0, .inr (3, [.ref co, .ref en, .ref sk, .int 3, .int 0])), (co, .inl (G.2.2.2, 6, .inr (.inr (.inr (.inr fO))))), (ck, .inl (G.2.1, 160, .inl (gPf tC 3)))]) hP hD [5, 6, 0, 1, 2] [3, 4] rfl rfl (by decide) (by decide) hk1 hFc hP1 hD1
  have hP : va_P G.1 vwCl [(en, .inl (G.2.2.2, 6, .inr (.inr (.inr (.inr fN))))), (ek, .inl (G.2.1, 3, .inl (gPf tE 0))), (h0, .inr (1, [.ref t0, .ref b0, .int 20, .int 59, .int 19, .int 1, .int 40])), (b0, .inl (G.2.1, 160, .inl (gPf tB 40))), (t0, .inr (3, [.ref co, .ref en, .ref sk, .int 3, .int 0])), (co, .inl (G.2.2.2, 6, .inr (.inr (.inr (.inr fO))))), (ck, .inl (G.2.1, 160, .inl (gPf tC 3)))] H := hP
  have hD : va_D A [(en, .inl (G.2.2.2, 6, .inr (.inr (.inr (.inr fN))))), (ek, .inl (G.2.1, 3, .inl (gPf tE 0))), (h0, .inr (1, [.ref t0, .ref b0, .int 20, .int 59, .int 19, .int 1, .int 40])), (b0, .inl (G.2.1, 160, .inl (gPf tB 40))), (t0, .inr (3, [.ref co, .ref en, .ref sk, .int 3, .int 0])), (co, .inl (G.2.2.2, 6, .inr (.inr (.inr (.inr fO))))), (ck, .inl (G.2.1, 160, .inl (gPf tC 3)))] := hD
  have w_25 : r_24 = 1 := w_25
  subst w_25
  refine lv_if_eq (tgt := 45) hx hb dX1_readParts_33 (by decide) (fun c_26 => ?_) (fun c_26 => ?_)
  · exact absurd c_26 (by decide)
  refine lv_aload_n hx hb dX1_readParts_36 rfl (lv_at hl 1 rfl) ?_
  refine va_get (D := G.1) (ci := 1) (v := .int 59) (C := RX1) (T := TX1) (N := 7) hx hb hts hiX1 hown hK hP 2 rfl rfl 3 (by decide) kf45 (fun _ h9 => h9) rfl dX1_readParts_37 ?_
  refine lv_bipush (v := 59) hx hb dX1_readParts_40 (by decide) ?_
  refine lv_icmp_eq (tgt := 47) hx hb dX1_readParts_42 (by decide) (fun c_27 => ?_) (fun c_27 => ?_)
  rotate_left
  · exact absurd (by decide) c_27
  refine lv_aload_n hx hb dX1_readParts_47 rfl (lv_at hl 1 rfl) ?_
  refine va_get (D := G.1) (ci := 1) (v := .ref t0) (C := RX1) (T := TX1) (N := 7) hx hb hts hiX1 hown hK hP 2 rfl rfl 0 (by decide) kf15 (fun _ h9 => h9) rfl dX1_readParts_48 ?_
  refine lv_iload_n hx hb dX1_readParts_51 rfl (lv_at hl 0 rfl) ?_
  have hPc : va_P G.1 vwCl [(t0, .inr (3, [.ref co, .ref en, .ref sk, .int (nI 3), .int (nI 0)])), (en, .inl (G.2.2.2, 6, .inr (.inr (.inr (.inr fN))))), (ek, .inl (G.2.1, 3, .inl (gPf tE 0)))] H := hP.sub [4, 0, 1] rfl
  have hDc : va_D A [(t0, .inr (3, [.ref co, .ref en, .ref sk, .int (nI 3), .int (nI 0)])), (en, .inl (G.2.2.2, 6, .inr (.inr (.inr (.inr fN))))), (ek, .inl (G.2.1, 3, .inl (gPf tE 0)))] := hD.sub [4, 0, 1] (by decide) rfl
  have hFc := va_free (wc := [(t0, .inr (3, [.ref co, .ref en, .ref sk, .int (nI 3), .int (nI 0)])), (en, .inl (G.2.2.2, 6, .inr (.inr (.inr (.inr fN))))), (ek, .inl (G.2.1, 3, .inl (gPf tE 0)))]) hD hS hA [4, 0, 1] rfl
  refine va_callv (va_runV (As := [.int 0]) (rest := []) ⟨hx, hb, hml, hown, hts⟩ (c_X3_endPart l G t0 co en sk ek fN (gPf tE 0) 3 0 0 H.size (hN) (by decide) (by decide)) (cwV 1 hts gX1_readParts_X3_endPart rfl rfl rfl (by decide +kernel) ⟨Nat.le_of_ble_eq_true rfl, Nat.le_of_ble_eq_true rfl⟩) ⟨gPre_blind, va_recv hK hPc (ci := 3) (q0 := 0) rfl rfl, fun U hU hW => gPre_of hU hW hK hPc hDc⟩ rfl rfl hl.1 rfl (lv_room (Nat.le_of_ble_eq_true rfl)) dX1_readParts_52 ⟨Nat.le_of_ble_eq_true rfl, Nat.le_of_ble_eq_true rfl⟩) hS (fun q _ h => hFc q h) hFc (fun u t H locs ht hvm w_29 hB hz1 hk1 hS => ?_)
  obtain ⟨hP1, hK1, hD1⟩ := hB
  rw [ht] at hP1
  have hP1 : va_P G.1 vwCl [(t0, .inr (3, [.ref co, .ref en, .ref sk, .int 3, .int 0])), (en, .inl (G.2.2.2, 6, .inr (.inr (.inr (.inr fN))))), (ek, .inl (G.2.1, 3, .inl (upd (gPf tE 0) 0 (nI 3))))] H := hP1
  have hD1 : va_D (va_A [(t0, .inr (3, [.ref co, .ref en, .ref sk, .int (nI 3), .int (nI 0)])), (en, .inl (G.2.2.2, 6, .inr (.inr (.inr (.inr fN))))), (ek, .inl (G.2.1, 3, .inl (gPf tE 0)))] _) [(t0, .inr (3, [.ref co, .ref en, .ref sk, .int 3, .int 0])), (en, .inl (G.2.2.2, 6, .inr (.inr (.inr (.inr fN))))), (ek, .inl (G.2.1, 3, .inl (upd (gPf tE 0) 0 (nI 3))))] := hD1
  obtain ⟨hP, hD⟩ := va_join (wr := [(h0, .inr (1, [.ref t0, .ref b0, .int 20, .int 59, .int 19, .int 1, .int 40])), (b0, .inl (G.2.1, 160, .inl (gPf tB 40))), (co, .inl (G.2.2.2, 6, .inr (.inr (.inr (.inr fO))))), (ck, .inl (G.2.1, 160, .inl (gPf tC 3)))]) (w1 := [(t0, .inr (3, [.ref co, .ref en, .ref sk, .int 3, .int 0])), (en, .inl (G.2.2.2, 6, .inr (.inr (.inr (.inr fN))))), (ek, .inl (G.2.1, 3, .inl (upd (gPf tE 0) 0 (nI 3))))]) hP hD [4, 0, 1] [2, 3, 5, 6] rfl rfl (by decide) (by decide) hk1 hFc hP1 hD1
  have hP : va_P G.1 vwCl [(h0, .inr (1, [.ref t0, .ref b0, .int 20, .int 59, .int 19, .int 1, .int 40])), (b0, .inl (G.2.1, 160, .inl (gPf tB 40))), (co, .inl (G.2.2.2, 6, .inr (.inr (.inr (.inr fO))))), (ck, .inl (G.2.1, 160, .inl (gPf tC 3))), (t0, .inr (3, [.ref co, .ref en, .ref sk, .int 3, .int 0])), (en, .inl (G.2.2.2, 6, .inr (.inr (.inr (.inr fN))))), (ek, .inl (G.2.1, 3, .inl (upd (gPf tE 0) 0 (nI 3))))] H := hP
  have hD : va_D A [(h0, .inr (1, [.ref t0, .ref b0, .int 20, .int 59, .int 19, .int 1, .int 40])), (b0, .inl (G.2.1, 160, .inl (gPf tB 40))), (co, .inl (G.2.2.2, 6, .inr (.inr (.inr (.inr fO))))), (ck, .inl (G.2.1, 160, .inl (gPf tC 3))), (t0, .inr (3, [.ref co, .ref en, .ref sk, .int 3, .int 0])), (en, .inl (G.2.2.2, 6, .inr (.inr (.inr (.inr fN))))), (ek, .inl (G.2.1, 3, .inl (upd (gPf tE 0) 0 (nI 3))))] := hD
  have hP : va_P G.1 vwCl [(h0, .inr (1, [.ref t0, .ref b0, .int 20, .int 59, .int 19, .int 1, .int 40])), (b0, .inl (G.2.1, 160, .inl (gPf tB 40))), (co, .inl (G.2.2.2, 6, .inr (.inr (.inr (.inr fO))))), (ck, .inl (G.2.1, 160, .inl (gPf tC 3))), (t0, .inr (3, [.ref co, .ref en, .ref sk, .int 3, .int 0])), (en, .inl (G.2.2.2, 6, .inr (.inr (.inr (.inr fN))))), (ek, .inl (G.2.1, 3, .inl (gPf tE 1)))] H := by rw [gPf_step (t := tE) (k := 0) (x := nI 3) (by decide)] at hP; exact hP
  have hD : va_D A [(h0, .inr (1, [.ref t0, .ref b0, .int 20, .int 59, .int 19, .int 1, .int 40])), (b0, .inl (G.2.1, 160, .inl (gPf tB 40))), (co, .inl (G.2.2.2, 6, .inr (.inr (.inr (.inr fO))))), (ck, .inl (G.2.1, 160, .inl (gPf tC 3))), (t0, .inr (3, [.ref co, .ref en, .ref sk, .int 3, .int 0])), (en, .inl (G.2.2.2, 6, .inr (.inr (.inr (.inr fN))))), (ek, .inl (G.2.1, 3, .inl (gPf tE 1)))] := by rw [gPf_step (t := tE) (k := 0) (x := nI 3) (by decide)] at hD; exact hD
  refine lv_aload_n hx hb dX1_readParts_55 rfl (lv_at hl 1 rfl) ?_
  have hPc : va_P G.1 vwCl [(h0, .inr (1, [.ref t0, .ref b0, .int (nI 20), .int 59, .int 19, .int 1, .int (nI 40)])), (b0, .inl (G.2.1, 160, .inl (gPf tB 40)))] H := hP.sub [0, 1] rfl
  have hDc : va_D A [(h0, .inr (1, [.ref t0, .ref b0, .int (nI 20), .int 59, .int 19, .int 1, .int (nI 40)])), (b0, .inl (G.2.1, 160, .inl (gPf tB 40)))] := hD.sub [0, 1] (by decide) rfl
  have hFc := va_free (wc := [(h0, .inr (1, [.ref t0, .ref b0, .int (nI 20), .int 59, .int 19, .int 1, .int (nI 40)])), (b0, .inl (G.2.1, 160, .inl (gPf tB 40)))]) hD hS hA [0, 1] rfl
  refine va_callv (va_runV (As := []) (rest := []) ⟨hx, hb, hml, hown, hts⟩ (c_X1_next l G E h0 t0 b0 (gPf tB 40) 59 19 1 40 20 H.size (by decide) (by decide)) (cwV 0 hts gX1_readParts_X1_next rfl rfl rfl (by decide +kernel) ⟨Nat.le_of_ble_eq_true rfl, Nat.le_of_ble_eq_true rfl⟩) ⟨gPreE_blind, va_recv hK hPc (ci := 1) (q0 := 0) rfl rfl, fun U hU hW => gPreE_of hU hW hK hPc hDc hE hS hFc⟩ rfl rfl hl.1 rfl (lv_room (Nat.le_of_ble_eq_true rfl)) dX1_readParts_56 ⟨Nat.le_of_ble_eq_true rfl, Nat.le_of_ble_eq_true rfl⟩) hS (fun q _ h => hFc q h) hFc (fun u t H locs ht hvm w_31 hB hz1 hk1 hS => ?_)
  obtain ⟨zb_32, zt_33, zp_34, zm_35⟩ := u
  obtain ⟨hP1, hK1, hD1⟩ := hB
  rw [ht] at hP1
  have hP1 : va_P G.1 vwCl [(h0, .inr (1, [.ref t0, .ref b0, .int (nI zb_32), .int zt_33, .int (nI zp_34), .int zm_35, .int 40])), (b0, .inl (G.2.1, 160, .inl (gPf tB 40)))] H := hP1
  have hD1 : va_D (va_A [(h0, .inr (1, [.ref t0, .ref b0, .int (nI 20), .int 59, .int 19, .int 1, .int (nI 40)])), (b0, .inl (G.2.1, 160, .inl (gPf tB 40)))] _) [(h0, .inr (1, [.ref t0, .ref b0, .int (nI zb_32), .int zt_33, .int (nI zp_34), .int zm_35, .int 40])), (b0, .inl (G.2.1, 160, .inl (gPf tB 40)))] := hD1
  have w_31 : (zb_32, zt_33, zp_34, zm_35) = mNext (gPf tB 40) 40 20 1 := w_31
  obtain ⟨hP, hD⟩ := va_join (wr := [(co, .inl (G.2.2.2, 6, .inr (.inr (.inr (.inr fO))))), (ck, .inl (G.2.1, 160, .inl (gPf tC 3))), (t0, .inr (3, [.ref co, .ref en, .ref sk, .int 3, .int 0])), (en, .inl (G.2.2.2, 6, .inr (.inr (.inr (.inr fN))))), (ek, .inl (G.2.1, 3, .inl (gPf tE 1)))]) (w1 := [(h0, .inr (1, [.ref t0, .ref b0, .int (nI zb_32), .int zt_33, .int (nI zp_34), .int zm_35, .int 40])), (b0, .inl (G.2.1, 160, .inl (gPf tB 40)))]) hP hD [0, 1] [2, 3, 4, 5, 6] rfl rfl (by decide) (by decide) hk1 hFc hP1 hD1
  have hP : va_P G.1 vwCl [(co, .inl (G.2.2.2, 6, .inr (.inr (.inr (.inr fO))))), (ck, .inl (G.2.1, 160, .inl (gPf tC 3))), (t0, .inr (3, [.ref co, .ref en, .ref sk, .int 3, .int 0])), (en, .inl (G.2.2.2, 6, .inr (.inr (.inr (.inr fN))))), (ek, .inl (G.2.1, 3, .inl (gPf tE 1))), (h0, .inr (1, [.ref t0, .ref b0, .int (nI zb_32), .int zt_33, .int (nI zp_34), .int zm_35, .int 40])), (b0, .inl (G.2.1, 160, .inl (gPf tB 40)))] H := hP
  have hD : va_D A [(co, .inl (G.2.2.2, 6, .inr (.inr (.inr (.inr fO))))), (ck, .inl (G.2.1, 160, .inl (gPf tC 3))), (t0, .inr (3, [.ref co, .ref en, .ref sk, .int 3, .int 0])), (en, .inl (G.2.2.2, 6, .inr (.inr (.inr (.inr fN))))), (ek, .inl (G.2.1, 3, .inl (gPf tE 1))), (h0, .inr (1, [.ref t0, .ref b0, .int (nI zb_32), .int zt_33, .int (nI zp_34), .int zm_35, .int 40])), (b0, .inl (G.2.1, 160, .inl (gPf tB 40)))] := hD
  rw [show mNext (gPf tB 40) 40 20 1 = (26, 101, 21, -5) by decide +kernel] at w_31
  simp only [Prod.mk.injEq] at w_31
  obtain ⟨g_36, g_37, g_38, g_39⟩ := w_31
  have g_36 := g_36.symm
  subst g_36
  have g_37 := g_37.symm
  subst g_37
  have g_38 := g_38.symm
  subst g_38
  have g_39 := g_39.symm
  subst g_39
  have hP : va_P G.1 vwCl [(co, .inl (G.2.2.2, 6, .inr (.inr (.inr (.inr fO))))), (ck, .inl (G.2.1, 160, .inl (gPf tC 3))), (t0, .inr (3, [.ref co, .ref en, .ref sk, .int 3, .int 0])), (en, .inl (G.2.2.2, 6, .inr (.inr (.inr (.inr fN))))), (ek, .inl (G.2.1, 3, .inl (gPf tE 1))), (h0, .inr (1, [.ref t0, .ref b0, .int 26, .int 101, .int 21, .int (-5), .int 40])), (b0, .inl (G.2.1, 160, .inl (gPf tB 40)))] H := hP
  have hD : va_D A [(co, .inl (G.2.2.2, 6, .inr (.inr (.inr (.inr fO))))), (ck, .inl (G.2.1, 160, .inl (gPf tC 3))), (t0, .inr (3, [.ref co, .ref en, .ref sk, .int 3, .int 0])), (en, .inl (G.2.2.2, 6, .inr (.inr (.inr (.inr fN))))), (ek, .inl (G.2.1, 3, .inl (gPf tE 1))), (h0, .inr (1, [.ref t0, .ref b0, .int 26, .int 101, .int 21, .int (-5), .int 40])), (b0, .inl (G.2.1, 160, .inl (gPf tB 40)))] := hD
  refine lv_iinc (v := 1) (lv' := [(1, .int 1), (0, .ref h0)]) hx hb dX1_readParts_59 hl (k := 0) rfl (by decide) (by decide) rfl (fun ls hl => ?_)
  refine lv_goto (tgt := 6) hx hb dX1_readParts_62 (by decide) ?_
  refine lv_iload_n hx hb dX1_readParts_6 rfl (lv_at hl 0 rfl) ?_
  refine lv_iconst (v := 2) hx hb dX1_readParts_7 (by decide) ?_
  refine lv_icmp_gt (tgt := 65) hx hb dX1_readParts_8 (by decide) (fun c_40 => ?_) (fun c_40 => ?_)
  · exact absurd c_40 (by decide)
  refine lv_aload_n hx hb dX1_readParts_11 rfl (lv_at hl 1 rfl) ?_
  refine va_get (D := G.1) (ci := 1) (v := .int 101) (C := RX1) (T := TX1) (N := 7) hx hb hts hiX1 hown hK hP 5 rfl rfl 3 (by decide) kf45 (fun _ h9 => h9) rfl dX1_readParts_12 ?_
  refine lv_bipush (v := 100) hx hb dX1_readParts_15 (by decide) ?_
  refine lv_iload_n hx hb dX1_readParts_17 rfl (lv_at hl 0 rfl) ?_
  refine lv_iadd hx hb dX1_readParts_18 ?_
  refine lv_topi (fun v_41 ev_41 => ?_)
  have ev_41 : v_41 = 101 := ev_41.trans (by decide)
  subst ev_41
  refine lv_icmp_eq (tgt := 24) hx hb dX1_readParts_19 (by decide) (fun c_42 => ?_) (fun c_42 => ?_)
  rotate_left
  · exact absurd (by decide) c_42
  refine lv_aload_n hx hb dX1_readParts_24 rfl (lv_at hl 1 rfl) ?_
  have hPc : va_P G.1 vwCl [(h0, .inr (1, [.ref t0, .ref b0, .int (nI 26), .int 101, .int 21, .int (-5), .int (nI 40)])), (b0, .inl (G.2.1, 160, .inl (gPf tB 40)))] H := hP.sub [5, 6] rfl
  have hDc : va_D A [(h0, .inr (1, [.ref t0, .ref b0, .int (nI 26), .int 101, .int 21, .int (-5), .int (nI 40)])), (b0, .inl (G.2.1, 160, .inl (gPf tB 40)))] := hD.sub [5, 6] (by decide) rfl
  have hFc := va_free (wc := [(h0, .inr (1, [.ref t0, .ref b0, .int (nI 26), .int 101, .int 21, .int (-5), .int (nI 40)])), (b0, .inl (G.2.1, 160, .inl (gPf tB 40)))]) hD hS hA [5, 6] rfl
  refine va_callv (va_runV (As := []) (rest := []) ⟨hx, hb, hml, hown, hts⟩ (c_X1_next l G E h0 t0 b0 (gPf tB 40) 101 21 (-5) 40 26 H.size (by decide) (by decide)) (cwV 0 hts gX1_readParts_X1_next rfl rfl rfl (by decide +kernel) ⟨Nat.le_of_ble_eq_true rfl, Nat.le_of_ble_eq_true rfl⟩) ⟨gPreE_blind, va_recv hK hPc (ci := 1) (q0 := 0) rfl rfl, fun U hU hW => gPreE_of hU hW hK hPc hDc hE hS hFc⟩ rfl rfl hl.1 rfl (lv_room (Nat.le_of_ble_eq_true rfl)) dX1_readParts_25 ⟨Nat.le_of_ble_eq_true rfl, Nat.le_of_ble_eq_true rfl⟩) hS (fun q _ h => hFc q h) hFc (fun u t H locs ht hvm w_44 hB hz1 hk1 hS => ?_)
  obtain ⟨zb_45, zt_46, zp_47, zm_48⟩ := u
  obtain ⟨hP1, hK1, hD1⟩ := hB
  rw [ht] at hP1
  have hP1 : va_P G.1 vwCl [(h0, .inr (1, [.ref t0, .ref b0, .int (nI zb_45), .int zt_46, .int (nI zp_47), .int zm_48, .int 40])), (b0, .inl (G.2.1, 160, .inl (gPf tB 40)))] H := hP1
  have hD1 : va_D (va_A [(h0, .inr (1, [.ref t0, .ref b0, .int (nI 26), .int 101, .int 21, .int (-5), .int (nI 40)])), (b0, .inl (G.2.1, 160, .inl (gPf tB 40)))] _) [(h0, .inr (1, [.ref t0, .ref b0, .int (nI zb_45), .int zt_46, .int (nI zp_47), .int zm_48, .int 40])), (b0, .inl (G.2.1, 160, .inl (gPf tB 40)))] := hD1
  have w_44 : (zb_45, zt_46, zp_47, zm_48) = mNext (gPf tB 40) 40 26 (-5) := w_44
  obtain ⟨hP, hD⟩ := va_join (wr := [(co, .inl (G.2.2.2, 6, .inr (.inr (.inr (.inr fO))))), (ck, .inl (G.2.1, 160, .inl (gPf tC 3))), (t0, .inr (3, [.ref co, .ref en, .ref sk, .int 3, .int 0])), (en, .inl (G.2.2.2, 6, .inr (.inr (.inr (.inr fN))))), (ek, .inl (G.2.1, 3, .inl (gPf tE 1)))]) (w1 := [(h0, .inr (1, [.ref t0, .ref b0, .int (nI zb_45), .int zt_46, .int (nI zp_47), .int zm_48, .int 40])), (b0, .inl (G.2.1, 160, .inl (gPf tB 40)))]) hP hD [5, 6] [0, 1, 2, 3, 4] rfl rfl (by decide) (by decide) hk1 hFc hP1 hD1
  have hP : va_P G.1 vwCl [(co, .inl (G.2.2.2, 6, .inr (.inr (.inr (.inr fO))))), (ck, .inl (G.2.1, 160, .inl (gPf tC 3))), (t0, .inr (3, [.ref co, .ref en, .ref sk, .int 3, .int 0])), (en, .inl (G.2.2.2, 6, .inr (.inr (.inr (.inr fN))))), (ek, .inl (G.2.1, 3, .inl (gPf tE 1))), (h0, .inr (1, [.ref t0, .ref b0, .int (nI zb_45), .int zt_46, .int (nI zp_47), .int zm_48, .int 40])), (b0, .inl (G.2.1, 160, .inl (gPf tB 40)))] H := hP
  have hD : va_D A [(co, .inl (G.2.2.2, 6, .inr (.inr (.inr (.inr fO))))), (ck, .inl (G.2.1, 160, .inl (gPf tC 3))), (t0, .inr (3, [.ref co, .ref en, .ref sk, .int 3, .int 0])), (en, .inl (G.2.2.2, 6, .inr (.inr (.inr (.inr fN))))), (ek, .inl (G.2.1, 3, .inl (gPf tE 1))), (h0, .inr (1, [.ref t0, .ref b0, .int (nI zb_45), .int zt_46, .int (nI zp_47), .int zm_48, .int 40])), (b0, .inl (G.2.1, 160, .inl (gPf tB 40)))] := hD
  rw [show mNext (gPf tB 40) 40 26 (-5) = (28, 2, 27, 1) by decide +kernel] at w_44
  simp only [Prod.mk.injEq] at w_44
  obtain ⟨g_49, g_50, g_51, g_52⟩ := w_44
  have g_49 := g_49.symm
  subst g_49
  have g_50 := g_50.symm
  subst g_50
  have g_51 := g_51.symm
  subst g_51
  have g_52 := g_52.symm
  subst g_52
  have hP : va_P G.1 vwCl [(co, .inl (G.2.2.2, 6, .inr (.inr (.inr (.inr fO))))), (ck, .inl (G.2.1, 160, .inl (gPf tC 3))), (t0, .inr (3, [.ref co, .ref en, .ref sk, .int 3, .int 0])), (en, .inl (G.2.2.2, 6, .inr (.inr (.inr (.inr fN))))), (ek, .inl (G.2.1, 3, .inl (gPf tE 1))), (h0, .inr (1, [.ref t0, .ref b0, .int 28, .int 2, .int 27, .int 1, .int 40])), (b0, .inl (G.2.1, 160, .inl (gPf tB 40)))] H := hP
  have hD : va_D A [(co, .inl (G.2.2.2, 6, .inr (.inr (.inr (.inr fO))))), (ck, .inl (G.2.1, 160, .inl (gPf tC 3))), (t0, .inr (3, [.ref co, .ref en, .ref sk, .int 3, .int 0])), (en, .inl (G.2.2.2, 6, .inr (.inr (.inr (.inr fN))))), (ek, .inl (G.2.1, 3, .inl (gPf tE 1))), (h0, .inr (1, [.ref t0, .ref b0, .int 28, .int 2, .int 27, .int 1, .int 40])), (b0, .inl (G.2.1, 160, .inl (gPf tB 40)))] := hD
  refine lv_aload_n hx hb dX1_readParts_28 rfl (lv_at hl 1 rfl) ?_
  refine lv_iconst (v := 0) hx hb dX1_readParts_29 (by decide) ?_
  have hPc : va_P G.1 vwCl [(h0, .inr (1, [.ref t0, .ref b0, .int 28, .int 2, .int 27, .int 1, .int 40])), (b0, .inl (G.2.1, 160, .inl (gPf tB 40))), (t0, .inr (3, [.ref co, .ref en, .ref sk, .int 3, .int 0])), (co, .inl (G.2.2.2, 6, .inr (.inr (.inr (.inr fO))))), (ck, .inl (G.2.1, 160, .inl (gPf tC 3)))] H := hP.sub [5, 6, 2, 0, 1] rfl
  have hDc : va_D A [(h0, .inr (1, [.ref t0, .ref b0, .int 28, .int 2, .int 27, .int 1, .int 40])), (b0, .inl (G.2.1, 160, .inl (gPf tB 40))), (t0, .inr (3, [.ref co, .ref en, .ref sk, .int 3, .int 0])), (co, .inl (G.2.2.2, 6, .inr (.inr (.inr (.inr fO))))), (ck, .inl (G.2.1, 160, .inl (gPf tC 3)))] := hD.sub [5, 6, 2, 0, 1] (by decide) rfl
  have hFc := va_free (wc := [(h0, .inr (1, [.ref t0, .ref b0, .int 28, .int 2, .int 27, .int 1, .int 40])), (b0, .inl (G.2.1, 160, .inl (gPf tB 40))), (t0, .inr (3, [.ref co, .ref en, .ref sk, .int 3, .int 0])), (co, .inl (G.2.2.2, 6, .inr (.inr (.inr (.inr fO))))), (ck, .inl (G.2.1, 160, .inl (gPf tC 3)))]) hD hS hA [5, 6, 2, 0, 1] rfl
  refine va_calli (va_runV (As := [.int 0]) (rest := []) ⟨hx, hb, hml, hown, hts⟩ (c_X1_readOr_a28 l G E h0 t0 b0 co en sk ck fO H.size (hO)) (cwV 1 hts gX1_readParts_X1_readOr rfl rfl rfl (by decide +kernel) ⟨Nat.le_of_ble_eq_true rfl, Nat.le_of_ble_eq_true rfl⟩) ⟨gPreE_blind, va_recv hK hPc (ci := 1) (q0 := 0) rfl rfl, fun U hU hW => gPreE_of hU hW hK hPc hDc hE hS hFc⟩ rfl rfl hl.1 rfl (lv_room (Nat.le_of_ble_eq_true rfl)) dX1_readParts_30 ⟨Nat.le_of_ble_eq_true rfl, Nat.le_of_ble_eq_true rfl⟩) hS (fun q _ h => hFc q h) hFc (fun r_53 u t H locs ht hvm w_54 hB hz1 hk1 hS => ?_)
  obtain ⟨hP1, hK1, hD1⟩ := hB
  rw [ht] at hP1
  have hP1 : va_P G.1 vwCl [(h0, .inr (1, [.ref t0, .ref b0, .int 30, .int 59, .int 29, .int 1, .int 40])), (b0, .inl (G.2.1, 160, .inl (gPf tB 40))), (t0, .inr (3, [.ref co, .ref en, .ref sk, .int 4, .int 0])), (co, .inl (G.2.2.2, 6, .inr (.inr (.inr (.inr fO))))), (ck, .inl (G.2.1, 160, .inl (gPf tC 4)))] H := hP1
  have hD1 : va_D (va_A [(h0, .inr (1, [.ref t0, .ref b0, .int 28, .int 2, .int 27, .int 1, .int 40])), (b0, .inl (G.2.1, 160, .inl (gPf tB 40))), (t0, .inr (3, [.ref co, .ref en, .ref sk, .int 3, .int 0])), (co, .inl (G.2.2.2, 6, .inr (.inr (.inr (.inr fO))))), (ck, .inl (G.2.1, 160, .inl (gPf tC 3)))] _) [(h0, .inr (1, [.ref t0, .ref b0, .int 30, .int 59, .int 29, .int 1, .int 40])), (b0, .inl (G.2.1, 160, .inl (gPf tB 40))), (t0, .inr (3, [.ref co, .ref en, .ref sk, .int 4, .int 0])), (co, .inl (G.2.2.2, 6, .inr (.inr (.inr (.inr fO))))), (ck, .inl (G.2.1, 160, .inl (gPf tC 4)))] := hD1
  have w_54 : r_53 = 1 := w_54
  obtain ⟨hP, hD⟩ := va_join (wr := [(en, .inl (G.2.2.2, 6, .inr (.inr (.inr (.inr fN))))), (ek, .inl (G.2.1, 3, .inl (gPf tE 1)))]) (w1 := [(h0, .inr (1, [.ref t0, .ref b0, .int 30, .int 59, .int 29, .int 1, .int 40])), (b0, .inl (G.2.1, 160, .inl (gPf tB 40))), (t0, .inr (3, [.ref co, .ref en, .ref sk, .int 4, .int 0])), (co, .inl (G.2.2.2, 6, .inr (.inr (.inr (.inr fO))))), (ck, .inl (G.2.1, 160, .inl (gPf tC 4)))]) hP hD [5, 6, 2, 0, 1] [3, 4] rfl rfl (by decide) (by decide) hk1 hFc hP1 hD1
  have hP : va_P G.1 vwCl [(en, .inl (G.2.2.2, 6, .inr (.inr (.inr (.inr fN))))), (ek, .inl (G.2.1, 3, .inl (gPf tE 1))), (h0, .inr (1, [.ref t0, .ref b0, .int 30, .int 59, .int 29, .int 1, .int 40])), (b0, .inl (G.2.1, 160, .inl (gPf tB 40))), (t0, .inr (3, [.ref co, .ref en, .ref sk, .int 4, .int 0])), (co, .inl (G.2.2.2, 6, .inr (.inr (.inr (.inr fO))))), (ck, .inl (G.2.1, 160, .inl (gPf tC 4)))] H := hP
  have hD : va_D A [(en, .inl (G.2.2.2, 6, .inr (.inr (.inr (.inr fN))))), (ek, .inl (G.2.1, 3, .inl (gPf tE 1))), (h0, .inr (1, [.ref t0, .ref b0, .int 30, .int 59, .int 29, .int 1, .int 40])), (b0, .inl (G.2.1, 160, .inl (gPf tB 40))), (t0, .inr (3, [.ref co, .ref en, .ref sk, .int 4, .int 0])), (co, .inl (G.2.2.2, 6, .inr (.inr (.inr (.inr fO))))), (ck, .inl (G.2.1, 160, .inl (gPf tC 4)))] := hD
  have w_54 : r_53 = 1 := w_54
  subst w_54
  refine lv_if_eq (tgt := 45) hx hb dX1_readParts_33 (by decide) (fun c_55 => ?_) (fun c_55 => ?_)
  · exact absurd c_55 (by decide)
  refine lv_aload_n hx hb dX1_readParts_36 rfl (lv_at hl 1 rfl) ?_
  refine va_get (D := G.1) (ci := 1) (v := .int 59) (C := RX1) (T := TX1) (N := 7) hx hb hts hiX1 hown hK hP 2 rfl rfl 3 (by decide) kf45 (fun _ h9 => h9) rfl dX1_readParts_37 ?_
  refine lv_bipush (v := 59) hx hb dX1_readParts_40 (by decide) ?_
  refine lv_icmp_eq (tgt := 47) hx hb dX1_readParts_42 (by decide) (fun c_56 => ?_) (fun c_56 => ?_)
  rotate_left
  · exact absurd (by decide) c_56
  refine lv_aload_n hx hb dX1_readParts_47 rfl (lv_at hl 1 rfl) ?_
  refine va_get (D := G.1) (ci := 1) (v := .ref t0) (C := RX1) (T := TX1) (N := 7) hx hb hts hiX1 hown hK hP 2 rfl rfl 0 (by decide) kf15 (fun _ h9 => h9) rfl dX1_readParts_48 ?_
  refine lv_iload_n hx hb dX1_readParts_51 rfl (lv_at hl 0 rfl) ?_
  have hPc : va_P G.1 vwCl [(t0, .inr (3, [.ref co, .ref en, .ref sk, .int (nI 4), .int (nI 0)])), (en, .inl (G.2.2.2, 6, .inr (.inr (.inr (.inr fN))))), (ek, .inl (G.2.1, 3, .inl (gPf tE 1)))] H := hP.sub [4, 0, 1] rfl
  have hDc : va_D A [(t0, .inr (3, [.ref co, .ref en, .ref sk, .int (nI 4), .int (nI 0)])), (en, .inl (G.2.2.2, 6, .inr (.inr (.inr (.inr fN))))), (ek, .inl (G.2.1, 3, .inl (gPf tE 1)))] := hD.sub [4, 0, 1] (by decide) rfl
  have hFc := va_free (wc := [(t0, .inr (3, [.ref co, .ref en, .ref sk, .int (nI 4), .int (nI 0)])), (en, .inl (G.2.2.2, 6, .inr (.inr (.inr (.inr fN))))), (ek, .inl (G.2.1, 3, .inl (gPf tE 1)))]) hD hS hA [4, 0, 1] rfl
  refine va_callv (va_runV (As := [.int 1]) (rest := []) ⟨hx, hb, hml, hown, hts⟩ (c_X3_endPart l G t0 co en sk ek fN (gPf tE 1) 4 0 1 H.size (hN) (by decide) (by decide)) (cwV 1 hts gX1_readParts_X3_endPart rfl rfl rfl (by decide +kernel) ⟨Nat.le_of_ble_eq_true rfl, Nat.le_of_ble_eq_true rfl⟩) ⟨gPre_blind, va_recv hK hPc (ci := 3) (q0 := 0) rfl rfl, fun U hU hW => gPre_of hU hW hK hPc hDc⟩ rfl rfl hl.1 rfl (lv_room (Nat.le_of_ble_eq_true rfl)) dX1_readParts_52 ⟨Nat.le_of_ble_eq_true rfl, Nat.le_of_ble_eq_true rfl⟩) hS (fun q _ h => hFc q h) hFc (fun u t H locs ht hvm w_58 hB hz1 hk1 hS => ?_)
  obtain ⟨hP1, hK1, hD1⟩ := hB
  rw [ht] at hP1
  have hP1 : va_P G.1 vwCl [(t0, .inr (3, [.ref co, .ref en, .ref sk, .int 4, .int 0])), (en, .inl (G.2.2.2, 6, .inr (.inr (.inr (.inr fN))))), (ek, .inl (G.2.1, 3, .inl (upd (gPf tE 1) 1 (nI 4))))] H := hP1
  have hD1 : va_D (va_A [(t0, .inr (3, [.ref co, .ref en, .ref sk, .int (nI 4), .int (nI 0)])), (en, .inl (G.2.2.2, 6, .inr (.inr (.inr (.inr fN))))), (ek, .inl (G.2.1, 3, .inl (gPf tE 1)))] _) [(t0, .inr (3, [.ref co, .ref en, .ref sk, .int 4, .int 0])), (en, .inl (G.2.2.2, 6, .inr (.inr (.inr (.inr fN))))), (ek, .inl (G.2.1, 3, .inl (upd (gPf tE 1) 1 (nI 4))))] := hD1
  obtain ⟨hP, hD⟩ := va_join (wr := [(h0, .inr (1, [.ref t0, .ref b0, .int 30, .int 59, .int 29, .int 1, .int 40])), (b0, .inl (G.2.1, 160, .inl (gPf tB 40))), (co, .inl (G.2.2.2, 6, .inr (.inr (.inr (.inr fO))))), (ck, .inl (G.2.1, 160, .inl (gPf tC 4)))]) (w1 := [(t0, .inr (3, [.ref co, .ref en, .ref sk, .int 4, .int 0])), (en, .inl (G.2.2.2, 6, .inr (.inr (.inr (.inr fN))))), (ek, .inl (G.2.1, 3, .inl (upd (gPf tE 1) 1 (nI 4))))]) hP hD [4, 0, 1] [2, 3, 5, 6] rfl rfl (by decide) (by decide) hk1 hFc hP1 hD1
  have hP : va_P G.1 vwCl [(h0, .inr (1, [.ref t0, .ref b0, .int 30, .int 59, .int 29, .int 1, .int 40])), (b0, .inl (G.2.1, 160, .inl (gPf tB 40))), (co, .inl (G.2.2.2, 6, .inr (.inr (.inr (.inr fO))))), (ck, .inl (G.2.1, 160, .inl (gPf tC 4))), (t0, .inr (3, [.ref co, .ref en, .ref sk, .int 4, .int 0])), (en, .inl (G.2.2.2, 6, .inr (.inr (.inr (.inr fN))))), (ek, .inl (G.2.1, 3, .inl (upd (gPf tE 1) 1 (nI 4))))] H := hP
  have hD : va_D A [(h0, .inr (1, [.ref t0, .ref b0, .int 30, .int 59, .int 29, .int 1, .int 40])), (b0, .inl (G.2.1, 160, .inl (gPf tB 40))), (co, .inl (G.2.2.2, 6, .inr (.inr (.inr (.inr fO))))), (ck, .inl (G.2.1, 160, .inl (gPf tC 4))), (t0, .inr (3, [.ref co, .ref en, .ref sk, .int 4, .int 0])), (en, .inl (G.2.2.2, 6, .inr (.inr (.inr (.inr fN))))), (ek, .inl (G.2.1, 3, .inl (upd (gPf tE 1) 1 (nI 4))))] := hD
  have hP : va_P G.1 vwCl [(h0, .inr (1, [.ref t0, .ref b0, .int 30, .int 59, .int 29, .int 1, .int 40])), (b0, .inl (G.2.1, 160, .inl (gPf tB 40))), (co, .inl (G.2.2.2, 6, .inr (.inr (.inr (.inr fO))))), (ck, .inl (G.2.1, 160, .inl (gPf tC 4))), (t0, .inr (3, [.ref co, .ref en, .ref sk, .int 4, .int 0])), (en, .inl (G.2.2.2, 6, .inr (.inr (.inr (.inr fN))))), (ek, .inl (G.2.1, 3, .inl (gPf tE 2)))] H := by rw [gPf_step (t := tE) (k := 1) (x := nI 4) (by decide)] at hP; exact hP
  have hD : va_D A [(h0, .inr (1, [.ref t0, .ref b0, .int 30, .int 59, .int 29, .int 1, .int 40])), (b0, .inl (G.2.1, 160, .inl (gPf tB 40))), (co, .inl (G.2.2.2, 6, .inr (.inr (.inr (.inr fO))))), (ck, .inl (G.2.1, 160, .inl (gPf tC 4))), (t0, .inr (3, [.ref co, .ref en, .ref sk, .int 4, .int 0])), (en, .inl (G.2.2.2, 6, .inr (.inr (.inr (.inr fN))))), (ek, .inl (G.2.1, 3, .inl (gPf tE 2)))] := by rw [gPf_step (t := tE) (k := 1) (x := nI 4) (by decide)] at hD; exact hD
  refine lv_aload_n hx hb dX1_readParts_55 rfl (lv_at hl 1 rfl) ?_
  have hPc : va_P G.1 vwCl [(h0, .inr (1, [.ref t0, .ref b0, .int (nI 30), .int 59, .int 29, .int 1, .int (nI 40)])), (b0, .inl (G.2.1, 160, .inl (gPf tB 40)))] H := hP.sub [0, 1] rfl
  have hDc : va_D A [(h0, .inr (1, [.ref t0, .ref b0, .int (nI 30), .int 59, .int 29, .int 1, .int (nI 40)])), (b0, .inl (G.2.1, 160, .inl (gPf tB 40)))] := hD.sub [0, 1] (by decide) rfl
  have hFc := va_free (wc := [(h0, .inr (1, [.ref t0, .ref b0, .int (nI 30), .int 59, .int 29, .int 1, .int (nI 40)])), (b0, .inl (G.2.1, 160, .inl (gPf tB 40)))]) hD hS hA [0, 1] rfl
  refine va_callv (va_runV (As := []) (rest := []) ⟨hx, hb, hml, hown, hts⟩ (c_X1_next l G E h0 t0 b0 (gPf tB 40) 59 29 1 40 30 H.size (by decide) (by decide)) (cwV 0 hts gX1_readParts_X1_next rfl rfl rfl (by decide +kernel) ⟨Nat.le_of_ble_eq_true rfl, Nat.le_of_ble_eq_true rfl⟩) ⟨gPreE_blind, va_recv hK hPc (ci := 1) (q0 := 0) rfl rfl, fun U hU hW => gPreE_of hU hW hK hPc hDc hE hS hFc⟩ rfl rfl hl.1 rfl (lv_room (Nat.le_of_ble_eq_true rfl)) dX1_readParts_56 ⟨Nat.le_of_ble_eq_true rfl, Nat.le_of_ble_eq_true rfl⟩) hS (fun q _ h => hFc q h) hFc (fun u t H locs ht hvm w_60 hB hz1 hk1 hS => ?_)
  obtain ⟨zb_61, zt_62, zp_63, zm_64⟩ := u
  obtain ⟨hP1, hK1, hD1⟩ := hB
  rw [ht] at hP1
  have hP1 : va_P G.1 vwCl [(h0, .inr (1, [.ref t0, .ref b0, .int (nI zb_61), .int zt_62, .int (nI zp_63), .int zm_64, .int 40])), (b0, .inl (G.2.1, 160, .inl (gPf tB 40)))] H := hP1
  have hD1 : va_D (va_A [(h0, .inr (1, [.ref t0, .ref b0, .int (nI 30), .int 59, .int 29, .int 1, .int (nI 40)])), (b0, .inl (G.2.1, 160, .inl (gPf tB 40)))] _) [(h0, .inr (1, [.ref t0, .ref b0, .int (nI zb_61), .int zt_62, .int (nI zp_63), .int zm_64, .int 40])), (b0, .inl (G.2.1, 160, .inl (gPf tB 40)))] := hD1
  have w_60 : (zb_61, zt_62, zp_63, zm_64) = mNext (gPf tB 40) 40 30 1 := w_60
  obtain ⟨hP, hD⟩ := va_join (wr := [(co, .inl (G.2.2.2, 6, .inr (.inr (.inr (.inr fO))))), (ck, .inl (G.2.1, 160, .inl (gPf tC 4))), (t0, .inr (3, [.ref co, .ref en, .ref sk, .int 4, .int 0])), (en, .inl (G.2.2.2, 6, .inr (.inr (.inr (.inr fN))))), (ek, .inl (G.2.1, 3, .inl (gPf tE 2)))]) (w1 := [(h0, .inr (1, [.ref t0, .ref b0, .int (nI zb_61), .int zt_62, .int (nI zp_63), .int zm_64, .int 40])), (b0, .inl (G.2.1, 160, .inl (gPf tB 40)))]) hP hD [0, 1] [2, 3, 4, 5, 6] rfl rfl (by decide) (by decide) hk1 hFc hP1 hD1
  have hP : va_P G.1 vwCl [(co, .inl (G.2.2.2, 6, .inr (.inr (.inr (.inr fO))))), (ck, .inl (G.2.1, 160, .inl (gPf tC 4))), (t0, .inr (3, [.ref co, .ref en, .ref sk, .int 4, .int 0])), (en, .inl (G.2.2.2, 6, .inr (.inr (.inr (.inr fN))))), (ek, .inl (G.2.1, 3, .inl (gPf tE 2))), (h0, .inr (1, [.ref t0, .ref b0, .int (nI zb_61), .int zt_62, .int (nI zp_63), .int zm_64, .int 40])), (b0, .inl (G.2.1, 160, .inl (gPf tB 40)))] H := hP
  have hD : va_D A [(co, .inl (G.2.2.2, 6, .inr (.inr (.inr (.inr fO))))), (ck, .inl (G.2.1, 160, .inl (gPf tC 4))), (t0, .inr (3, [.ref co, .ref en, .ref sk, .int 4, .int 0])), (en, .inl (G.2.2.2, 6, .inr (.inr (.inr (.inr fN))))), (ek, .inl (G.2.1, 3, .inl (gPf tE 2))), (h0, .inr (1, [.ref t0, .ref b0, .int (nI zb_61), .int zt_62, .int (nI zp_63), .int zm_64, .int 40])), (b0, .inl (G.2.1, 160, .inl (gPf tB 40)))] := hD
  rw [show mNext (gPf tB 40) 40 30 1 = (35, 102, 31, -4) by decide +kernel] at w_60
  simp only [Prod.mk.injEq] at w_60
  obtain ⟨g_65, g_66, g_67, g_68⟩ := w_60
  have g_65 := g_65.symm
  subst g_65
  have g_66 := g_66.symm
  subst g_66
  have g_67 := g_67.symm
  subst g_67
  have g_68 := g_68.symm
  subst g_68
  have hP : va_P G.1 vwCl [(co, .inl (G.2.2.2, 6, .inr (.inr (.inr (.inr fO))))), (ck, .inl (G.2.1, 160, .inl (gPf tC 4))), (t0, .inr (3, [.ref co, .ref en, .ref sk, .int 4, .int 0])), (en, .inl (G.2.2.2, 6, .inr (.inr (.inr (.inr fN))))), (ek, .inl (G.2.1, 3, .inl (gPf tE 2))), (h0, .inr (1, [.ref t0, .ref b0, .int 35, .int 102, .int 31, .int (-4), .int 40])), (b0, .inl (G.2.1, 160, .inl (gPf tB 40)))] H := hP
  have hD : va_D A [(co, .inl (G.2.2.2, 6, .inr (.inr (.inr (.inr fO))))), (ck, .inl (G.2.1, 160, .inl (gPf tC 4))), (t0, .inr (3, [.ref co, .ref en, .ref sk, .int 4, .int 0])), (en, .inl (G.2.2.2, 6, .inr (.inr (.inr (.inr fN))))), (ek, .inl (G.2.1, 3, .inl (gPf tE 2))), (h0, .inr (1, [.ref t0, .ref b0, .int 35, .int 102, .int 31, .int (-4), .int 40])), (b0, .inl (G.2.1, 160, .inl (gPf tB 40)))] := hD
  refine lv_iinc (v := 2) (lv' := [(1, .int 2), (0, .ref h0)]) hx hb dX1_readParts_59 hl (k := 0) rfl (by decide) (by decide) rfl (fun ls hl => ?_)
  refine lv_goto (tgt := 6) hx hb dX1_readParts_62 (by decide) ?_
  refine lv_iload_n hx hb dX1_readParts_6 rfl (lv_at hl 0 rfl) ?_
  refine lv_iconst (v := 2) hx hb dX1_readParts_7 (by decide) ?_
  refine lv_icmp_gt (tgt := 65) hx hb dX1_readParts_8 (by decide) (fun c_69 => ?_) (fun c_69 => ?_)
  · exact absurd c_69 (by decide)
  refine lv_aload_n hx hb dX1_readParts_11 rfl (lv_at hl 1 rfl) ?_
  refine va_get (D := G.1) (ci := 1) (v := .int 102) (C := RX1) (T := TX1) (N := 7) hx hb hts hiX1 hown hK hP 5 rfl rfl 3 (by decide) kf45 (fun _ h9 => h9) rfl dX1_readParts_12 ?_
  refine lv_bipush (v := 100) hx hb dX1_readParts_15 (by decide) ?_
  refine lv_iload_n hx hb dX1_readParts_17 rfl (lv_at hl 0 rfl) ?_
  refine lv_iadd hx hb dX1_readParts_18 ?_
  refine lv_topi (fun v_70 ev_70 => ?_)
  have ev_70 : v_70 = 102 := ev_70.trans (by decide)
  subst ev_70
  refine lv_icmp_eq (tgt := 24) hx hb dX1_readParts_19 (by decide) (fun c_71 => ?_) (fun c_71 => ?_)
  rotate_left
  · exact absurd (by decide) c_71
  refine lv_aload_n hx hb dX1_readParts_24 rfl (lv_at hl 1 rfl) ?_
  have hPc : va_P G.1 vwCl [(h0, .inr (1, [.ref t0, .ref b0, .int (nI 35), .int 102, .int 31, .int (-4), .int (nI 40)])), (b0, .inl (G.2.1, 160, .inl (gPf tB 40)))] H := hP.sub [5, 6] rfl
  have hDc : va_D A [(h0, .inr (1, [.ref t0, .ref b0, .int (nI 35), .int 102, .int 31, .int (-4), .int (nI 40)])), (b0, .inl (G.2.1, 160, .inl (gPf tB 40)))] := hD.sub [5, 6] (by decide) rfl
  have hFc := va_free (wc := [(h0, .inr (1, [.ref t0, .ref b0, .int (nI 35), .int 102, .int 31, .int (-4), .int (nI 40)])), (b0, .inl (G.2.1, 160, .inl (gPf tB 40)))]) hD hS hA [5, 6] rfl
  refine va_callv (va_runV (As := []) (rest := []) ⟨hx, hb, hml, hown, hts⟩ (c_X1_next l G E h0 t0 b0 (gPf tB 40) 102 31 (-4) 40 35 H.size (by decide) (by decide)) (cwV 0 hts gX1_readParts_X1_next rfl rfl rfl (by decide +kernel) ⟨Nat.le_of_ble_eq_true rfl, Nat.le_of_ble_eq_true rfl⟩) ⟨gPreE_blind, va_recv hK hPc (ci := 1) (q0 := 0) rfl rfl, fun U hU hW => gPreE_of hU hW hK hPc hDc hE hS hFc⟩ rfl rfl hl.1 rfl (lv_room (Nat.le_of_ble_eq_true rfl)) dX1_readParts_25 ⟨Nat.le_of_ble_eq_true rfl, Nat.le_of_ble_eq_true rfl⟩) hS (fun q _ h => hFc q h) hFc (fun u t H locs ht hvm w_73 hB hz1 hk1 hS => ?_)
  obtain ⟨zb_74, zt_75, zp_76, zm_77⟩ := u
  obtain ⟨hP1, hK1, hD1⟩ := hB
  rw [ht] at hP1
  have hP1 : va_P G.1 vwCl [(h0, .inr (1, [.ref t0, .ref b0, .int (nI zb_74), .int zt_75, .int (nI zp_76), .int zm_77, .int 40])), (b0, .inl (G.2.1, 160, .inl (gPf tB 40)))] H := hP1
  have hD1 : va_D (va_A [(h0, .inr (1, [.ref t0, .ref b0, .int (nI 35), .int 102, .int 31, .int (-4), .int (nI 40)])), (b0, .inl (G.2.1, 160, .inl (gPf tB 40)))] _) [(h0, .inr (1, [.ref t0, .ref b0, .int (nI zb_74), .int zt_75, .int (nI zp_76), .int zm_77, .int 40])), (b0, .inl (G.2.1, 160, .inl (gPf tB 40)))] := hD1
  have w_73 : (zb_74, zt_75, zp_76, zm_77) = mNext (gPf tB 40) 40 35 (-4) := w_73
  obtain ⟨hP, hD⟩ := va_join (wr := [(co, .inl (G.2.2.2, 6, .inr (.inr (.inr (.inr fO))))), (ck, .inl (G.2.1, 160, .inl (gPf tC 4))), (t0, .inr (3, [.ref co, .ref en, .ref sk, .int 4, .int 0])), (en, .inl (G.2.2.2, 6, .inr (.inr (.inr (.inr fN))))), (ek, .inl (G.2.1, 3, .inl (gPf tE 2)))]) (w1 := [(h0, .inr (1, [.ref t0, .ref b0, .int (nI zb_74), .int zt_75, .int (nI zp_76), .int zm_77, .int 40])), (b0, .inl (G.2.1, 160, .inl (gPf tB 40)))]) hP hD [5, 6] [0, 1, 2, 3, 4] rfl rfl (by decide) (by decide) hk1 hFc hP1 hD1
  have hP : va_P G.1 vwCl [(co, .inl (G.2.2.2, 6, .inr (.inr (.inr (.inr fO))))), (ck, .inl (G.2.1, 160, .inl (gPf tC 4))), (t0, .inr (3, [.ref co, .ref en, .ref sk, .int 4, .int 0])), (en, .inl (G.2.2.2, 6, .inr (.inr (.inr (.inr fN))))), (ek, .inl (G.2.1, 3, .inl (gPf tE 2))), (h0, .inr (1, [.ref t0, .ref b0, .int (nI zb_74), .int zt_75, .int (nI zp_76), .int zm_77, .int 40])), (b0, .inl (G.2.1, 160, .inl (gPf tB 40)))] H := hP
  have hD : va_D A [(co, .inl (G.2.2.2, 6, .inr (.inr (.inr (.inr fO))))), (ck, .inl (G.2.1, 160, .inl (gPf tC 4))), (t0, .inr (3, [.ref co, .ref en, .ref sk, .int 4, .int 0])), (en, .inl (G.2.2.2, 6, .inr (.inr (.inr (.inr fN))))), (ek, .inl (G.2.1, 3, .inl (gPf tE 2))), (h0, .inr (1, [.ref t0, .ref b0, .int (nI zb_74), .int zt_75, .int (nI zp_76), .int zm_77, .int 40])), (b0, .inl (G.2.1, 160, .inl (gPf tB 40)))] := hD
  rw [show mNext (gPf tB 40) 40 35 (-4) = (38, 2, 36, 30) by decide +kernel] at w_73
  simp only [Prod.mk.injEq] at w_73
  obtain ⟨g_78, g_79, g_80, g_81⟩ := w_73
  have g_78 := g_78.symm
  subst g_78
  have g_79 := g_79.symm
  subst g_79
  have g_80 := g_80.symm
  subst g_80
  have g_81 := g_81.symm
  subst g_81
  have hP : va_P G.1 vwCl [(co, .inl (G.2.2.2, 6, .inr (.inr (.inr (.inr fO))))), (ck, .inl (G.2.1, 160, .inl (gPf tC 4))), (t0, .inr (3, [.ref co, .ref en, .ref sk, .int 4, .int 0])), (en, .inl (G.2.2.2, 6, .inr (.inr (.inr (.inr fN))))), (ek, .inl (G.2.1, 3, .inl (gPf tE 2))), (h0, .inr (1, [.ref t0, .ref b0, .int 38, .int 2, .int 36, .int 30, .int 40])), (b0, .inl (G.2.1, 160, .inl (gPf tB 40)))] H := hP
  have hD : va_D A [(co, .inl (G.2.2.2, 6, .inr (.inr (.inr (.inr fO))))), (ck, .inl (G.2.1, 160, .inl (gPf tC 4))), (t0, .inr (3, [.ref co, .ref en, .ref sk, .int 4, .int 0])), (en, .inl (G.2.2.2, 6, .inr (.inr (.inr (.inr fN))))), (ek, .inl (G.2.1, 3, .inl (gPf tE 2))), (h0, .inr (1, [.ref t0, .ref b0, .int 38, .int 2, .int 36, .int 30, .int 40])), (b0, .inl (G.2.1, 160, .inl (gPf tB 40)))] := hD
  refine lv_aload_n hx hb dX1_readParts_28 rfl (lv_at hl 1 rfl) ?_
  refine lv_iconst (v := 0) hx hb dX1_readParts_29 (by decide) ?_
  have hPc : va_P G.1 vwCl [(h0, .inr (1, [.ref t0, .ref b0, .int 38, .int 2, .int 36, .int 30, .int 40])), (b0, .inl (G.2.1, 160, .inl (gPf tB 40))), (t0, .inr (3, [.ref co, .ref en, .ref sk, .int 4, .int 0])), (co, .inl (G.2.2.2, 6, .inr (.inr (.inr (.inr fO))))), (ck, .inl (G.2.1, 160, .inl (gPf tC 4)))] H := hP.sub [5, 6, 2, 0, 1] rfl
  have hDc : va_D A [(h0, .inr (1, [.ref t0, .ref b0, .int 38, .int 2, .int 36, .int 30, .int 40])), (b0, .inl (G.2.1, 160, .inl (gPf tB 40))), (t0, .inr (3, [.ref co, .ref en, .ref sk, .int 4, .int 0])), (co, .inl (G.2.2.2, 6, .inr (.inr (.inr (.inr fO))))), (ck, .inl (G.2.1, 160, .inl (gPf tC 4)))] := hD.sub [5, 6, 2, 0, 1] (by decide) rfl
  have hFc := va_free (wc := [(h0, .inr (1, [.ref t0, .ref b0, .int 38, .int 2, .int 36, .int 30, .int 40])), (b0, .inl (G.2.1, 160, .inl (gPf tB 40))), (t0, .inr (3, [.ref co, .ref en, .ref sk, .int 4, .int 0])), (co, .inl (G.2.2.2, 6, .inr (.inr (.inr (.inr fO))))), (ck, .inl (G.2.1, 160, .inl (gPf tC 4)))]) hD hS hA [5, 6, 2, 0, 1] rfl
  refine va_calli (va_runV (As := [.int 0]) (rest := []) ⟨hx, hb, hml, hown, hts⟩ (c_X1_readOr_a38 l G E h0 t0 b0 co en sk ck fO H.size (hO)) (cwV 1 hts gX1_readParts_X1_readOr rfl rfl rfl (by decide +kernel) ⟨Nat.le_of_ble_eq_true rfl, Nat.le_of_ble_eq_true rfl⟩) ⟨gPreE_blind, va_recv hK hPc (ci := 1) (q0 := 0) rfl rfl, fun U hU hW => gPreE_of hU hW hK hPc hDc hE hS hFc⟩ rfl rfl hl.1 rfl (lv_room (Nat.le_of_ble_eq_true rfl)) dX1_readParts_30 ⟨Nat.le_of_ble_eq_true rfl, Nat.le_of_ble_eq_true rfl⟩) hS (fun q _ h => hFc q h) hFc (fun r_82 u t H locs ht hvm w_83 hB hz1 hk1 hS => ?_)
  obtain ⟨hP1, hK1, hD1⟩ := hB
  rw [ht] at hP1
  have hP1 : va_P G.1 vwCl [(h0, .inr (1, [.ref t0, .ref b0, .int 40, .int 59, .int 39, .int 30, .int 40])), (b0, .inl (G.2.1, 160, .inl (gPf tB 40))), (t0, .inr (3, [.ref co, .ref en, .ref sk, .int 5, .int 0])), (co, .inl (G.2.2.2, 6, .inr (.inr (.inr (.inr fO))))), (ck, .inl (G.2.1, 160, .inl (gPf tC 5)))] H := hP1
  have hD1 : va_D (va_A [(h0, .inr (1, [.ref t0, .ref b0, .int 38, .int 2, .int 36, .int 30, .int 40])), (b0, .inl (G.2.1, 160, .inl (gPf tB 40))), (t0, .inr (3, [.ref co, .ref en, .ref sk, .int 4, .int 0])), (co, .inl (G.2.2.2, 6, .inr (.inr (.inr (.inr fO))))), (ck, .inl (G.2.1, 160, .inl (gPf tC 4)))] _) [(h0, .inr (1, [.ref t0, .ref b0, .int 40, .int 59, .int 39, .int 30, .int 40])), (b0, .inl (G.2.1, 160, .inl (gPf tB 40))), (t0, .inr (3, [.ref co, .ref en, .ref sk, .int 5, .int 0])), (co, .inl (G.2.2.2, 6, .inr (.inr (.inr (.inr fO))))), (ck, .inl (G.2.1, 160, .inl (gPf tC 5)))] := hD1
  have w_83 : r_82 = 1 := w_83
  obtain ⟨hP, hD⟩ := va_join (wr := [(en, .inl (G.2.2.2, 6, .inr (.inr (.inr (.inr fN))))), (ek, .inl (G.2.1, 3, .inl (gPf tE 2)))]) (w1 := [(h0, .inr (1, [.ref t0, .ref b0, .int 40, .int 59, .int 39, .int 30, .int 40])), (b0, .inl (G.2.1, 160, .inl (gPf tB 40))), (t0, .inr (3, [.ref co, .ref en, .ref sk, .int 5, .int 0])), (co, .inl (G.2.2.2, 6, .inr (.inr (.inr (.inr fO))))), (ck, .inl (G.2.1, 160, .inl (gPf tC 5)))]) hP hD [5, 6, 2, 0, 1] [3, 4] rfl rfl (by decide) (by decide) hk1 hFc hP1 hD1
  have hP : va_P G.1 vwCl [(en, .inl (G.2.2.2, 6, .inr (.inr (.inr (.inr fN))))), (ek, .inl (G.2.1, 3, .inl (gPf tE 2))), (h0, .inr (1, [.ref t0, .ref b0, .int 40, .int 59, .int 39, .int 30, .int 40])), (b0, .inl (G.2.1, 160, .inl (gPf tB 40))), (t0, .inr (3, [.ref co, .ref en, .ref sk, .int 5, .int 0])), (co, .inl (G.2.2.2, 6, .inr (.inr (.inr (.inr fO))))), (ck, .inl (G.2.1, 160, .inl (gPf tC 5)))] H := hP
  have hD : va_D A [(en, .inl (G.2.2.2, 6, .inr (.inr (.inr (.inr fN))))), (ek, .inl (G.2.1, 3, .inl (gPf tE 2))), (h0, .inr (1, [.ref t0, .ref b0, .int 40, .int 59, .int 39, .int 30, .int 40])), (b0, .inl (G.2.1, 160, .inl (gPf tB 40))), (t0, .inr (3, [.ref co, .ref en, .ref sk, .int 5, .int 0])), (co, .inl (G.2.2.2, 6, .inr (.inr (.inr (.inr fO))))), (ck, .inl (G.2.1, 160, .inl (gPf tC 5)))] := hD
  have w_83 : r_82 = 1 := w_83
  subst w_83
  refine lv_if_eq (tgt := 45) hx hb dX1_readParts_33 (by decide) (fun c_84 => ?_) (fun c_84 => ?_)
  · exact absurd c_84 (by decide)
  refine lv_aload_n hx hb dX1_readParts_36 rfl (lv_at hl 1 rfl) ?_
  refine va_get (D := G.1) (ci := 1) (v := .int 59) (C := RX1) (T := TX1) (N := 7) hx hb hts hiX1 hown hK hP 2 rfl rfl 3 (by decide) kf45 (fun _ h9 => h9) rfl dX1_readParts_37 ?_
  refine lv_bipush (v := 59) hx hb dX1_readParts_40 (by decide) ?_
  refine lv_icmp_eq (tgt := 47) hx hb dX1_readParts_42 (by decide) (fun c_85 => ?_) (fun c_85 => ?_)
  rotate_left
  · exact absurd (by decide) c_85
  refine lv_aload_n hx hb dX1_readParts_47 rfl (lv_at hl 1 rfl) ?_
  refine va_get (D := G.1) (ci := 1) (v := .ref t0) (C := RX1) (T := TX1) (N := 7) hx hb hts hiX1 hown hK hP 2 rfl rfl 0 (by decide) kf15 (fun _ h9 => h9) rfl dX1_readParts_48 ?_
  refine lv_iload_n hx hb dX1_readParts_51 rfl (lv_at hl 0 rfl) ?_
  have hPc : va_P G.1 vwCl [(t0, .inr (3, [.ref co, .ref en, .ref sk, .int (nI 5), .int (nI 0)])), (en, .inl (G.2.2.2, 6, .inr (.inr (.inr (.inr fN))))), (ek, .inl (G.2.1, 3, .inl (gPf tE 2)))] H := hP.sub [4, 0, 1] rfl
  have hDc : va_D A [(t0, .inr (3, [.ref co, .ref en, .ref sk, .int (nI 5), .int (nI 0)])), (en, .inl (G.2.2.2, 6, .inr (.inr (.inr (.inr fN))))), (ek, .inl (G.2.1, 3, .inl (gPf tE 2)))] := hD.sub [4, 0, 1] (by decide) rfl
  have hFc := va_free (wc := [(t0, .inr (3, [.ref co, .ref en, .ref sk, .int (nI 5), .int (nI 0)])), (en, .inl (G.2.2.2, 6, .inr (.inr (.inr (.inr fN))))), (ek, .inl (G.2.1, 3, .inl (gPf tE 2)))]) hD hS hA [4, 0, 1] rfl
  refine va_callv (va_runV (As := [.int 2]) (rest := []) ⟨hx, hb, hml, hown, hts⟩ (c_X3_endPart l G t0 co en sk ek fN (gPf tE 2) 5 0 2 H.size (hN) (by decide) (by decide)) (cwV 1 hts gX1_readParts_X3_endPart rfl rfl rfl (by decide +kernel) ⟨Nat.le_of_ble_eq_true rfl, Nat.le_of_ble_eq_true rfl⟩) ⟨gPre_blind, va_recv hK hPc (ci := 3) (q0 := 0) rfl rfl, fun U hU hW => gPre_of hU hW hK hPc hDc⟩ rfl rfl hl.1 rfl (lv_room (Nat.le_of_ble_eq_true rfl)) dX1_readParts_52 ⟨Nat.le_of_ble_eq_true rfl, Nat.le_of_ble_eq_true rfl⟩) hS (fun q _ h => hFc q h) hFc (fun u t H locs ht hvm w_87 hB hz1 hk1 hS => ?_)
  obtain ⟨hP1, hK1, hD1⟩ := hB
  rw [ht] at hP1
  have hP1 : va_P G.1 vwCl [(t0, .inr (3, [.ref co, .ref en, .ref sk, .int 5, .int 0])), (en, .inl (G.2.2.2, 6, .inr (.inr (.inr (.inr fN))))), (ek, .inl (G.2.1, 3, .inl (upd (gPf tE 2) 2 (nI 5))))] H := hP1
  have hD1 : va_D (va_A [(t0, .inr (3, [.ref co, .ref en, .ref sk, .int (nI 5), .int (nI 0)])), (en, .inl (G.2.2.2, 6, .inr (.inr (.inr (.inr fN))))), (ek, .inl (G.2.1, 3, .inl (gPf tE 2)))] _) [(t0, .inr (3, [.ref co, .ref en, .ref sk, .int 5, .int 0])), (en, .inl (G.2.2.2, 6, .inr (.inr (.inr (.inr fN))))), (ek, .inl (G.2.1, 3, .inl (upd (gPf tE 2) 2 (nI 5))))] := hD1
  obtain ⟨hP, hD⟩ := va_join (wr := [(h0, .inr (1, [.ref t0, .ref b0, .int 40, .int 59, .int 39, .int 30, .int 40])), (b0, .inl (G.2.1, 160, .inl (gPf tB 40))), (co, .inl (G.2.2.2, 6, .inr (.inr (.inr (.inr fO))))), (ck, .inl (G.2.1, 160, .inl (gPf tC 5)))]) (w1 := [(t0, .inr (3, [.ref co, .ref en, .ref sk, .int 5, .int 0])), (en, .inl (G.2.2.2, 6, .inr (.inr (.inr (.inr fN))))), (ek, .inl (G.2.1, 3, .inl (upd (gPf tE 2) 2 (nI 5))))]) hP hD [4, 0, 1] [2, 3, 5, 6] rfl rfl (by decide) (by decide) hk1 hFc hP1 hD1
  have hP : va_P G.1 vwCl [(h0, .inr (1, [.ref t0, .ref b0, .int 40, .int 59, .int 39, .int 30, .int 40])), (b0, .inl (G.2.1, 160, .inl (gPf tB 40))), (co, .inl (G.2.2.2, 6, .inr (.inr (.inr (.inr fO))))), (ck, .inl (G.2.1, 160, .inl (gPf tC 5))), (t0, .inr (3, [.ref co, .ref en, .ref sk, .int 5, .int 0])), (en, .inl (G.2.2.2, 6, .inr (.inr (.inr (.inr fN))))), (ek, .inl (G.2.1, 3, .inl (upd (gPf tE 2) 2 (nI 5))))] H := hP
  have hD : va_D A [(h0, .inr (1, [.ref t0, .ref b0, .int 40, .int 59, .int 39, .int 30, .int 40])), (b0, .inl (G.2.1, 160, .inl (gPf tB 40))), (co, .inl (G.2.2.2, 6, .inr (.inr (.inr (.inr fO))))), (ck, .inl (G.2.1, 160, .inl (gPf tC 5))), (t0, .inr (3, [.ref co, .ref en, .ref sk, .int 5, .int 0])), (en, .inl (G.2.2.2, 6, .inr (.inr (.inr (.inr fN))))), (ek, .inl (G.2.1, 3, .inl (upd (gPf tE 2) 2 (nI 5))))] := hD
  have hP : va_P G.1 vwCl [(h0, .inr (1, [.ref t0, .ref b0, .int 40, .int 59, .int 39, .int 30, .int 40])), (b0, .inl (G.2.1, 160, .inl (gPf tB 40))), (co, .inl (G.2.2.2, 6, .inr (.inr (.inr (.inr fO))))), (ck, .inl (G.2.1, 160, .inl (gPf tC 5))), (t0, .inr (3, [.ref co, .ref en, .ref sk, .int 5, .int 0])), (en, .inl (G.2.2.2, 6, .inr (.inr (.inr (.inr fN))))), (ek, .inl (G.2.1, 3, .inl (gPf tE 3)))] H := by rw [gPf_step (t := tE) (k := 2) (x := nI 5) (by decide)] at hP; exact hP
  have hD : va_D A [(h0, .inr (1, [.ref t0, .ref b0, .int 40, .int 59, .int 39, .int 30, .int 40])), (b0, .inl (G.2.1, 160, .inl (gPf tB 40))), (co, .inl (G.2.2.2, 6, .inr (.inr (.inr (.inr fO))))), (ck, .inl (G.2.1, 160, .inl (gPf tC 5))), (t0, .inr (3, [.ref co, .ref en, .ref sk, .int 5, .int 0])), (en, .inl (G.2.2.2, 6, .inr (.inr (.inr (.inr fN))))), (ek, .inl (G.2.1, 3, .inl (gPf tE 3)))] := by rw [gPf_step (t := tE) (k := 2) (x := nI 5) (by decide)] at hD; exact hD
  refine lv_aload_n hx hb dX1_readParts_55 rfl (lv_at hl 1 rfl) ?_
  have hPc : va_P G.1 vwCl [(h0, .inr (1, [.ref t0, .ref b0, .int (nI 40), .int 59, .int 39, .int 30, .int (nI 40)])), (b0, .inl (G.2.1, 160, .inl (gPf tB 40)))] H := hP.sub [0, 1] rfl
  have hDc : va_D A [(h0, .inr (1, [.ref t0, .ref b0, .int (nI 40), .int 59, .int 39, .int 30, .int (nI 40)])), (b0, .inl (G.2.1, 160, .inl (gPf tB 40)))] := hD.sub [0, 1] (by decide) rfl
  have hFc := va_free (wc := [(h0, .inr (1, [.ref t0, .ref b0, .int (nI 40), .int 59, .int 39, .int 30, .int (nI 40)])), (b0, .inl (G.2.1, 160, .inl (gPf tB 40)))]) hD hS hA [0, 1] rfl
  refine va_callv (va_runV (As := []) (rest := []) ⟨hx, hb, hml, hown, hts⟩ (c_X1_next l G E h0 t0 b0 (gPf tB 40) 59 39 30 40 40 H.size (by decide) (by decide)) (cwV 0 hts gX1_readParts_X1_next rfl rfl rfl (by decide +kernel) ⟨Nat.le_of_ble_eq_true rfl, Nat.le_of_ble_eq_true rfl⟩) ⟨gPreE_blind, va_recv hK hPc (ci := 1) (q0 := 0) rfl rfl, fun U hU hW => gPreE_of hU hW hK hPc hDc hE hS hFc⟩ rfl rfl hl.1 rfl (lv_room (Nat.le_of_ble_eq_true rfl)) dX1_readParts_56 ⟨Nat.le_of_ble_eq_true rfl, Nat.le_of_ble_eq_true rfl⟩) hS (fun q _ h => hFc q h) hFc (fun u t H locs ht hvm w_89 hB hz1 hk1 hS => ?_)
  obtain ⟨zb_90, zt_91, zp_92, zm_93⟩ := u
  obtain ⟨hP1, hK1, hD1⟩ := hB
  rw [ht] at hP1
  have hP1 : va_P G.1 vwCl [(h0, .inr (1, [.ref t0, .ref b0, .int (nI zb_90), .int zt_91, .int (nI zp_92), .int zm_93, .int 40])), (b0, .inl (G.2.1, 160, .inl (gPf tB 40)))] H := hP1
  have hD1 : va_D (va_A [(h0, .inr (1, [.ref t0, .ref b0, .int (nI 40), .int 59, .int 39, .int 30, .int (nI 40)])), (b0, .inl (G.2.1, 160, .inl (gPf tB 40)))] _) [(h0, .inr (1, [.ref t0, .ref b0, .int (nI zb_90), .int zt_91, .int (nI zp_92), .int zm_93, .int 40])), (b0, .inl (G.2.1, 160, .inl (gPf tB 40)))] := hD1
  have w_89 : (zb_90, zt_91, zp_92, zm_93) = mNext (gPf tB 40) 40 40 30 := w_89
  obtain ⟨hP, hD⟩ := va_join (wr := [(co, .inl (G.2.2.2, 6, .inr (.inr (.inr (.inr fO))))), (ck, .inl (G.2.1, 160, .inl (gPf tC 5))), (t0, .inr (3, [.ref co, .ref en, .ref sk, .int 5, .int 0])), (en, .inl (G.2.2.2, 6, .inr (.inr (.inr (.inr fN))))), (ek, .inl (G.2.1, 3, .inl (gPf tE 3)))]) (w1 := [(h0, .inr (1, [.ref t0, .ref b0, .int (nI zb_90), .int zt_91, .int (nI zp_92), .int zm_93, .int 40])), (b0, .inl (G.2.1, 160, .inl (gPf tB 40)))]) hP hD [0, 1] [2, 3, 4, 5, 6] rfl rfl (by decide) (by decide) hk1 hFc hP1 hD1
  have hP : va_P G.1 vwCl [(co, .inl (G.2.2.2, 6, .inr (.inr (.inr (.inr fO))))), (ck, .inl (G.2.1, 160, .inl (gPf tC 5))), (t0, .inr (3, [.ref co, .ref en, .ref sk, .int 5, .int 0])), (en, .inl (G.2.2.2, 6, .inr (.inr (.inr (.inr fN))))), (ek, .inl (G.2.1, 3, .inl (gPf tE 3))), (h0, .inr (1, [.ref t0, .ref b0, .int (nI zb_90), .int zt_91, .int (nI zp_92), .int zm_93, .int 40])), (b0, .inl (G.2.1, 160, .inl (gPf tB 40)))] H := hP
  have hD : va_D A [(co, .inl (G.2.2.2, 6, .inr (.inr (.inr (.inr fO))))), (ck, .inl (G.2.1, 160, .inl (gPf tC 5))), (t0, .inr (3, [.ref co, .ref en, .ref sk, .int 5, .int 0])), (en, .inl (G.2.2.2, 6, .inr (.inr (.inr (.inr fN))))), (ek, .inl (G.2.1, 3, .inl (gPf tE 3))), (h0, .inr (1, [.ref t0, .ref b0, .int (nI zb_90), .int zt_91, .int (nI zp_92), .int zm_93, .int 40])), (b0, .inl (G.2.1, 160, .inl (gPf tB 40)))] := hD
  rw [show mNext (gPf tB 40) 40 40 30 = (40, 0, 40, 30) by decide +kernel] at w_89
  simp only [Prod.mk.injEq] at w_89
  obtain ⟨g_94, g_95, g_96, g_97⟩ := w_89
  have g_94 := g_94.symm
  subst g_94
  have g_95 := g_95.symm
  subst g_95
  have g_96 := g_96.symm
  subst g_96
  have g_97 := g_97.symm
  subst g_97
  have hP : va_P G.1 vwCl [(co, .inl (G.2.2.2, 6, .inr (.inr (.inr (.inr fO))))), (ck, .inl (G.2.1, 160, .inl (gPf tC 5))), (t0, .inr (3, [.ref co, .ref en, .ref sk, .int 5, .int 0])), (en, .inl (G.2.2.2, 6, .inr (.inr (.inr (.inr fN))))), (ek, .inl (G.2.1, 3, .inl (gPf tE 3))), (h0, .inr (1, [.ref t0, .ref b0, .int 40, .int 0, .int 40, .int 30, .int 40])), (b0, .inl (G.2.1, 160, .inl (gPf tB 40)))] H := hP
  have hD : va_D A [(co, .inl (G.2.2.2, 6, .inr (.inr (.inr (.inr fO))))), (ck, .inl (G.2.1, 160, .inl (gPf tC 5))), (t0, .inr (3, [.ref co, .ref en, .ref sk, .int 5, .int 0])), (en, .inl (G.2.2.2, 6, .inr (.inr (.inr (.inr fN))))), (ek, .inl (G.2.1, 3, .inl (gPf tE 3))), (h0, .inr (1, [.ref t0, .ref b0, .int 40, .int 0, .int 40, .int 30, .int 40])), (b0, .inl (G.2.1, 160, .inl (gPf tB 40)))] := hD
  refine lv_iinc (v := 3) (lv' := [(1, .int 3), (0, .ref h0)]) hx hb dX1_readParts_59 hl (k := 0) rfl (by decide) (by decide) rfl (fun ls hl => ?_)
  refine lv_goto (tgt := 6) hx hb dX1_readParts_62 (by decide) ?_
  refine lv_iload_n hx hb dX1_readParts_6 rfl (lv_at hl 0 rfl) ?_
  refine lv_iconst (v := 2) hx hb dX1_readParts_7 (by decide) ?_
  refine lv_icmp_gt (tgt := 65) hx hb dX1_readParts_8 (by decide) (fun c_98 => ?_) (fun c_98 => ?_)
  rotate_left
  · exact absurd (by decide) c_98
  refine lv_aload_n hx hb dX1_readParts_65 rfl (lv_at hl 1 rfl) ?_
  refine va_get (D := G.1) (ci := 1) (v := .int 0) (C := RX1) (T := TX1) (N := 7) hx hb hts hiX1 hown hK hP 5 rfl rfl 3 (by decide) kf45 (fun _ h9 => h9) rfl dX1_readParts_66 ?_
  refine lv_if_ne (tgt := 76) hx hb dX1_readParts_69 (by decide) (fun c_99 => ?_) (fun c_99 => ?_)
  · exact absurd (by decide) c_99
  refine lv_iconst (v := 1) hx hb dX1_readParts_72 (by decide) ?_
  refine lv_goto (tgt := 77) hx hb dX1_readParts_73 (by decide) ?_
  have hP9 := hP.sub (ws' := [(h0, .inr (1, [.ref t0, .ref b0, .int 40, .int 0, .int 40, .int 30, .int 40])), (b0, .inl (G.2.1, 160, .inl (gPf tB 40))), (t0, .inr (3, [.ref co, .ref en, .ref sk, .int 5, .int 0])), (co, .inl (G.2.2.2, 6, .inr (.inr (.inr (.inr fO))))), (ck, .inl (G.2.1, 160, .inl (gPf tC 5))), (en, .inl (G.2.2.2, 6, .inr (.inr (.inr (.inr fN))))), (ek, .inl (G.2.1, 3, .inl (gPf tE 3)))]) [5, 6, 2, 0, 1, 3, 4] rfl
  have hD9 := hD.sub (ws' := [(h0, .inr (1, [.ref t0, .ref b0, .int 40, .int 0, .int 40, .int 30, .int 40])), (b0, .inl (G.2.1, 160, .inl (gPf tB 40))), (t0, .inr (3, [.ref co, .ref en, .ref sk, .int 5, .int 0])), (co, .inl (G.2.2.2, 6, .inr (.inr (.inr (.inr fO))))), (ck, .inl (G.2.1, 160, .inl (gPf tC 5))), (en, .inl (G.2.2.2, 6, .inr (.inr (.inr (.inr fN))))), (ek, .inl (G.2.1, 3, .inl (gPf tE 3)))]) [5, 6, 2, 0, 1, 3, 4] (by decide) rfl
  have hpost : (fun (r : Int32) (u : Unit) => match u with | _ => r = 1) 1 () := by first | trivial | rfl | decide | simp
  exact W.zret (v := 1) hx hb hr (rfl) (fun t ht hW => ⟨⟨1, (), rfl, hpost, by rw [ht]; exact hP9, va_K.moved hW.alike hK, hD9⟩, hS.F ht⟩) hS.2.2 dX1_readParts_77
abbrev q_X1_read_law (G : gG) (E : gS) (h0 t0 b0 co en sk ck ek : Nat) (fO : Nat → Option Nat) (fN : Nat → Option Nat) (A : Nat → Prop) : Array Value → State → Outcome → State → Prop := va_Qi (fun (r : Int32) (u : Unit) => match u with | _ => r = 0) (fun (u : Unit) t => match u with | _ => va_P G.1 vwCl [(h0, .inr (1, [.ref t0, .ref b0, .int 40, .int 0, .int 40, .int 30, .int 0])), (b0, .inl (G.2.1, 160, .inl (gPf tB 40))), (t0, .inr (3, [.ref co, .ref en, .ref sk, .int 5, .int 1])), (co, .inl (G.2.2.2, 6, .inr (.inr (.inr (.inr fO))))), (ck, .inl (G.2.1, 160, .inl (gPf tC 5))), (en, .inl (G.2.2.2, 6, .inr (.inr (.inr (.inr fN))))), (ek, .inl (G.2.1, 3, .inl (gPf tE 3)))] t.heap ∧ gK G t ∧ va_D A [(h0, .inr (1, [.ref t0, .ref b0, .int 40, .int 0, .int 40, .int 30, .int 0])), (b0, .inl (G.2.1, 160, .inl (gPf tB 40))), (t0, .inr (3, [.ref co, .ref en, .ref sk, .int 5, .int 1])), (co, .inl (G.2.2.2, 6, .inr (.inr (.inr (.inr fO))))), (ck, .inl (G.2.1, 160, .inl (gPf tC 5))), (en, .inl (G.2.2.2, 6, .inr (.inr (.inr (.inr fN))))), (ek, .inl (G.2.1, 3, .inl (gPf tE 3)))]) A
set_option maxHeartbeats 4000000 in
set_option maxRecDepth 100000 in
theorem c_X1_read_law (l : Launch) (G : gG) (E : gS) (h0 t0 b0 co en sk ck ek : Nat) (fO : Nat → Option Nat) (fN : Nat → Option Nat) (sz : Nat) (hO : fO 0 = some ck) (hN : fN 0 = some ek) : Met l yX1_read wsX1_read ({ frames := 14, cells := 0, slots := 0, locals := 301 }) (gPreE G E [.ref h0] [(h0, .inr (1, [.ref t0, .ref b0, .int 0, .int 0, .int 0, .int 0, .int 40])), (b0, .inl (G.2.1, 160, .inl (gPf tB 40))), (t0, .inr (3, [.ref co, .ref en, .ref sk, .int 0, .int 0])), (co, .inl (G.2.2.2, 6, .inr (.inr (.inr (.inr fO))))), (ck, .inl (G.2.1, 160, .inl (gPf tC 0))), (en, .inl (G.2.2.2, 6, .inr (.inr (.inr (.inr fN))))), (ek, .inl (G.2.1, 3, .inl (gPf tE 0)))] sz) (q_X1_read_law G E h0 t0 b0 co en sk ck ek fO fN (va_A [(h0, .inr (1, [.ref t0, .ref b0, .int 0, .int 0, .int 0, .int 0, .int 40])), (b0, .inl (G.2.1, 160, .inl (gPf tB 40))), (t0, .inr (3, [.ref co, .ref en, .ref sk, .int 0, .int 0])), (co, .inl (G.2.2.2, 6, .inr (.inr (.inr (.inr fO))))), (ck, .inl (G.2.1, 160, .inl (gPf tC 0))), (en, .inl (G.2.2.2, 6, .inr (.inr (.inr (.inr fN))))), (ek, .inl (G.2.1, 3, .inl (gPf tE 0)))] sz)) 0 0 (va_A [(h0, .inr (1, [.ref t0, .ref b0, .int 0, .int 0, .int 0, .int 0, .int 40])), (b0, .inl (G.2.1, 160, .inl (gPf tB 40))), (t0, .inr (3, [.ref co, .ref en, .ref sk, .int 0, .int 0])), (co, .inl (G.2.2.2, 6, .inr (.inr (.inr (.inr fO))))), (ck, .inl (G.2.1, 160, .inl (gPf tC 0))), (en, .inl (G.2.2.2, 6, .inr (.inr (.inr (.inr fN))))), (ek, .inl (G.2.1, 3, .inl (gPf tE 0)))] sz) := by
  refine Met.ofW (cc := cX1_read) (maxL := 2) (ret := (some .int)) (by decide) rfl ?_
  intro p e s m args below meth c s₁ B hml hv
  obtain ⟨rfl, hsz, hP, hK, hD0, hE⟩ := hv
  have hx := B.exec
  have hb := B.bytes
  have hr := B.returns
  have hts := atoms_spec (ws := wsX1_read) B.pre
  have hown : s.vm.findClass RX1 = some m.cls := findClass_of_methodNamed B.named
  have hlocks := B.notSynchronized
  subst hsz
  have hD := hD0.self (sz := s.heap.size)
  generalize hAe : va_A [(h0, .inr (1, [.ref t0, .ref b0, .int 0, .int 0, .int 0, .int 0, .int 40])), (b0, .inl (G.2.1, 160, .inl (gPf tB 40))), (t0, .inr (3, [.ref co, .ref en, .ref sk, .int 0, .int 0])), (co, .inl (G.2.2.2, 6, .inr (.inr (.inr (.inr fO))))), (ck, .inl (G.2.1, 160, .inl (gPf tC 0))), (en, .inl (G.2.2.2, 6, .inr (.inr (.inr (.inr fN))))), (ek, .inl (G.2.1, 3, .inl (gPf tE 0)))] s.heap.size = A at hD hE ⊢
  have hA : ∀ q : Nat, s.heap.size ≤ q → A q := fun q h => by rw [← hAe]; exact Or.inr h
  have hS : va_S A s.heap s.heap [] := va_S.rf
  have hP : va_P G.1 vwCl [(h0, .inr (1, [.ref t0, .ref b0, .int 0, .int 0, .int 0, .int 0, .int 40])), (b0, .inl (G.2.1, 160, .inl (gPf tB 40))), (t0, .inr (3, [.ref co, .ref en, .ref sk, .int 0, .int 0])), (co, .inl (G.2.2.2, 6, .inr (.inr (.inr (.inr fO))))), (ck, .inl (G.2.1, 160, .inl (gPf tC 0))), (en, .inl (G.2.2.2, 6, .inr (.inr (.inr (.inr fN))))), (ek, .inl (G.2.1, 3, .inl (gPf tE 0)))] s.heap := hP
  have hD : va_D A [(h0, .inr (1, [.ref t0, .ref b0, .int 0, .int 0, .int 0, .int 0, .int 40])), (b0, .inl (G.2.1, 160, .inl (gPf tB 40))), (t0, .inr (3, [.ref co, .ref en, .ref sk, .int 0, .int 0])), (co, .inl (G.2.2.2, 6, .inr (.inr (.inr (.inr fO))))), (ck, .inl (G.2.1, 160, .inl (gPf tC 0))), (en, .inl (G.2.2.2, 6, .inr (.inr (.inr (.inr fN))))), (ek, .inl (G.2.1, 3, .inl (gPf tE 0)))] := hD
  have hl := lv_entry ([.ref h0]) (n := 2) (Nat.le_of_ble_eq_true rfl)
  rw [lg_entry_eq]
  generalize (lg_sl ([.ref h0]) ++ List.replicate (2 - (lg_sl ([.ref h0])).length) Slot.unset).toArray = ls at hl ⊢
  have hl : lv_has ls 2 [(0, .ref h0)] := hl
  have kf23 := hts (.fieldLink RX1 23 "PebbleInShoe$Reader" "at" "I") (by decide +kernel)
  have hiX1 := (by decide +kernel : ∀ w ∈ wsX10, w ∈ wsX1_read)
  have kf15 := hts (.fieldLink RX1 15 "PebbleInShoe$Reader" "texts" "LPebbleInShoe$Texts;") (by decide +kernel)
  have kf19 := hts (.fieldLink RX1 19 "PebbleInShoe$Reader" "length" "I") (by decide +kernel)
  refine lv_aload_n hx hb dX1_read_0 rfl (lv_at hl 0 rfl) ?_
  refine lv_iconst (v := 0) hx hb dX1_read_1 (by decide) ?_
  refine va_put (D := G.1) (ci := 1) (v := .int 0) (ty := .int) (C := RX1) (T := TX1) (N := 7) hx hb hts hiX1 tyX1 tyX1_ok nmX1 hown hK hP hD hS 0 rfl rfl 2 (by decide) kf23 (fun _ h9 => h9) rfl (by decide +kernel) rfl rfl (Nat.le_of_ble_eq_true rfl) dX1_read_2 (fun H locs hP hD hS => ?_)
  have hP : va_P G.1 vwCl [(h0, .inr (1, [.ref t0, .ref b0, .int 0, .int 0, .int 0, .int 0, .int 40])), (b0, .inl (G.2.1, 160, .inl (gPf tB 40))), (t0, .inr (3, [.ref co, .ref en, .ref sk, .int 0, .int 0])), (co, .inl (G.2.2.2, 6, .inr (.inr (.inr (.inr fO))))), (ck, .inl (G.2.1, 160, .inl (gPf tC 0))), (en, .inl (G.2.2.2, 6, .inr (.inr (.inr (.inr fN))))), (ek, .inl (G.2.1, 3, .inl (gPf tE 0)))] H := hP
  have hD : va_D A [(h0, .inr (1, [.ref t0, .ref b0, .int 0, .int 0, .int 0, .int 0, .int 40])), (b0, .inl (G.2.1, 160, .inl (gPf tB 40))), (t0, .inr (3, [.ref co, .ref en, .ref sk, .int 0, .int 0])), (co, .inl (G.2.2.2, 6, .inr (.inr (.inr (.inr fO))))), (ck, .inl (G.2.1, 160, .inl (gPf tC 0))), (en, .inl (G.2.2.2, 6, .inr (.inr (.inr (.inr fN))))), (ek, .inl (G.2.1, 3, .inl (gPf tE 0)))] := hD
  refine lv_aload_n hx hb dX1_read_5 rfl (lv_at hl 0 rfl) ?_
  refine va_get (D := G.1) (ci := 1) (v := .ref t0) (C := RX1) (T := TX1) (N := 7) hx hb hts hiX1 hown hK hP 0 rfl rfl 0 (by decide) kf15 (fun _ h9 => h9) rfl dX1_read_6 ?_
  have hPc : va_P G.1 vwCl [(t0, .inr (3, [.ref co, .ref en, .ref sk, .int 0, .int 0]))] H := hP.sub [2] rfl
  have hDc : va_D A [(t0, .inr (3, [.ref co, .ref en, .ref sk, .int 0, .int 0]))] := hD.sub [2] (by decide) rfl
  have hFc := va_free (wc := [(t0, .inr (3, [.ref co, .ref en, .ref sk, .int 0, .int 0]))]) hD hS hA [2] rfl
  refine va_callv (va_runV (As := []) (rest := []) ⟨hx, hb, hml, hown, hts⟩ (c_X3_begin l G t0 co en sk 0 0 H.size) (cwV 0 hts gX1_read_X3_begin rfl rfl rfl (by decide +kernel) ⟨Nat.le_of_ble_eq_true rfl, Nat.le_of_ble_eq_true rfl⟩) ⟨gPre_blind, va_recv hK hPc (ci := 3) (q0 := 0) rfl rfl, fun U hU hW => gPre_of hU hW hK hPc hDc⟩ rfl rfl hl.1 rfl (lv_room (Nat.le_of_ble_eq_true rfl)) dX1_read_9 ⟨Nat.le_of_ble_eq_true rfl, Nat.le_of_ble_eq_true rfl⟩) hS (fun q _ h => hFc q h) hFc (fun u t H locs ht hvm w_2 hB hz1 hk1 hS => ?_)
  obtain ⟨hP1, hK1, hD1⟩ := hB
  rw [ht] at hP1
  have hP1 : va_P G.1 vwCl [(t0, .inr (3, [.ref co, .ref en, .ref sk, .int 0, .int 0]))] H := hP1
  have hD1 : va_D (va_A [(t0, .inr (3, [.ref co, .ref en, .ref sk, .int 0, .int 0]))] _) [(t0, .inr (3, [.ref co, .ref en, .ref sk, .int 0, .int 0]))] := hD1
  obtain ⟨hP, hD⟩ := va_join (wr := [(h0, .inr (1, [.ref t0, .ref b0, .int 0, .int 0, .int 0, .int 0, .int 40])), (b0, .inl (G.2.1, 160, .inl (gPf tB 40))), (co, .inl (G.2.2.2, 6, .inr (.inr (.inr (.inr fO))))), (ck, .inl (G.2.1, 160, .inl (gPf tC 0))), (en, .inl (G.2.2.2, 6, .inr (.inr (.inr (.inr fN))))), (ek, .inl (G.2.1, 3, .inl (gPf tE 0)))]) (w1 := [(t0, .inr (3, [.ref co, .ref en, .ref sk, .int 0, .int 0]))]) hP hD [2] [0, 1, 3, 4, 5, 6] rfl rfl (by decide) (by decide) hk1 hFc hP1 hD1
  have hP : va_P G.1 vwCl [(h0, .inr (1, [.ref t0, .ref b0, .int 0, .int 0, .int 0, .int 0, .int 40])), (b0, .inl (G.2.1, 160, .inl (gPf tB 40))), (co, .inl (G.2.2.2, 6, .inr (.inr (.inr (.inr fO))))), (ck, .inl (G.2.1, 160, .inl (gPf tC 0))), (en, .inl (G.2.2.2, 6, .inr (.inr (.inr (.inr fN))))), (ek, .inl (G.2.1, 3, .inl (gPf tE 0))), (t0, .inr (3, [.ref co, .ref en, .ref sk, .int 0, .int 0]))] H := hP
  have hD : va_D A [(h0, .inr (1, [.ref t0, .ref b0, .int 0, .int 0, .int 0, .int 0, .int 40])), (b0, .inl (G.2.1, 160, .inl (gPf tB 40))), (co, .inl (G.2.2.2, 6, .inr (.inr (.inr (.inr fO))))), (ck, .inl (G.2.1, 160, .inl (gPf tC 0))), (en, .inl (G.2.2.2, 6, .inr (.inr (.inr (.inr fN))))), (ek, .inl (G.2.1, 3, .inl (gPf tE 0))), (t0, .inr (3, [.ref co, .ref en, .ref sk, .int 0, .int 0]))] := hD
  refine lv_aload_n hx hb dX1_read_12 rfl (lv_at hl 0 rfl) ?_
  have hPc : va_P G.1 vwCl [(h0, .inr (1, [.ref t0, .ref b0, .int 0, .int 0, .int 0, .int 0, .int 40])), (b0, .inl (G.2.1, 160, .inl (gPf tB 40))), (t0, .inr (3, [.ref co, .ref en, .ref sk, .int 0, .int 0])), (co, .inl (G.2.2.2, 6, .inr (.inr (.inr (.inr fO))))), (ck, .inl (G.2.1, 160, .inl (gPf tC 0))), (en, .inl (G.2.2.2, 6, .inr (.inr (.inr (.inr fN))))), (ek, .inl (G.2.1, 3, .inl (gPf tE 0)))] H := hP.sub [0, 1, 6, 2, 3, 4, 5] rfl
  have hDc : va_D A [(h0, .inr (1, [.ref t0, .ref b0, .int 0, .int 0, .int 0, .int 0, .int 40])), (b0, .inl (G.2.1, 160, .inl (gPf tB 40))), (t0, .inr (3, [.ref co, .ref en, .ref sk, .int 0, .int 0])), (co, .inl (G.2.2.2, 6, .inr (.inr (.inr (.inr fO))))), (ck, .inl (G.2.1, 160, .inl (gPf tC 0))), (en, .inl (G.2.2.2, 6, .inr (.inr (.inr (.inr fN))))), (ek, .inl (G.2.1, 3, .inl (gPf tE 0)))] := hD.sub [0, 1, 6, 2, 3, 4, 5] (by decide) rfl
  have hFc := va_free (wc := [(h0, .inr (1, [.ref t0, .ref b0, .int 0, .int 0, .int 0, .int 0, .int 40])), (b0, .inl (G.2.1, 160, .inl (gPf tB 40))), (t0, .inr (3, [.ref co, .ref en, .ref sk, .int 0, .int 0])), (co, .inl (G.2.2.2, 6, .inr (.inr (.inr (.inr fO))))), (ck, .inl (G.2.1, 160, .inl (gPf tC 0))), (en, .inl (G.2.2.2, 6, .inr (.inr (.inr (.inr fN))))), (ek, .inl (G.2.1, 3, .inl (gPf tE 0)))]) hD hS hA [0, 1, 6, 2, 3, 4, 5] rfl
  refine va_calli (va_runV (As := []) (rest := []) ⟨hx, hb, hml, hown, hts⟩ (c_X1_readParts_law l G E h0 t0 b0 co en sk ck ek fO fN H.size (hO) (hN)) (cwV 0 hts gX1_read_X1_readParts rfl rfl rfl (by decide +kernel) ⟨Nat.le_of_ble_eq_true rfl, Nat.le_of_ble_eq_true rfl⟩) ⟨gPreE_blind, va_recv hK hPc (ci := 1) (q0 := 0) rfl rfl, fun U hU hW => gPreE_of hU hW hK hPc hDc hE hS hFc⟩ rfl rfl hl.1 rfl (lv_room (Nat.le_of_ble_eq_true rfl)) dX1_read_13 ⟨Nat.le_of_ble_eq_true rfl, Nat.le_of_ble_eq_true rfl⟩) hS (fun q _ h => hFc q h) hFc (fun r_3 u t H locs ht hvm w_4 hB hz1 hk1 hS => ?_)
  obtain ⟨hP1, hK1, hD1⟩ := hB
  rw [ht] at hP1
  have hP1 : va_P G.1 vwCl [(h0, .inr (1, [.ref t0, .ref b0, .int 40, .int 0, .int 40, .int 30, .int 40])), (b0, .inl (G.2.1, 160, .inl (gPf tB 40))), (t0, .inr (3, [.ref co, .ref en, .ref sk, .int 5, .int 0])), (co, .inl (G.2.2.2, 6, .inr (.inr (.inr (.inr fO))))), (ck, .inl (G.2.1, 160, .inl (gPf tC 5))), (en, .inl (G.2.2.2, 6, .inr (.inr (.inr (.inr fN))))), (ek, .inl (G.2.1, 3, .inl (gPf tE 3)))] H := hP1
  have hD1 : va_D (va_A [(h0, .inr (1, [.ref t0, .ref b0, .int 0, .int 0, .int 0, .int 0, .int 40])), (b0, .inl (G.2.1, 160, .inl (gPf tB 40))), (t0, .inr (3, [.ref co, .ref en, .ref sk, .int 0, .int 0])), (co, .inl (G.2.2.2, 6, .inr (.inr (.inr (.inr fO))))), (ck, .inl (G.2.1, 160, .inl (gPf tC 0))), (en, .inl (G.2.2.2, 6, .inr (.inr (.inr (.inr fN))))), (ek, .inl (G.2.1, 3, .inl (gPf tE 0)))] _) [(h0, .inr (1, [.ref t0, .ref b0, .int 40, .int 0, .int 40, .int 30, .int 40])), (b0, .inl (G.2.1, 160, .inl (gPf tB 40))), (t0, .inr (3, [.ref co, .ref en, .ref sk, .int 5, .int 0])), (co, .inl (G.2.2.2, 6, .inr (.inr (.inr (.inr fO))))), (ck, .inl (G.2.1, 160, .inl (gPf tC 5))), (en, .inl (G.2.2.2, 6, .inr (.inr (.inr (.inr fN))))), (ek, .inl (G.2.1, 3, .inl (gPf tE 3)))] := hD1
  have w_4 : r_3 = 1 := w_4
  obtain ⟨hP, hD⟩ := va_join (wr := []) (w1 := [(h0, .inr (1, [.ref t0, .ref b0, .int 40, .int 0, .int 40, .int 30, .int 40])), (b0, .inl (G.2.1, 160, .inl (gPf tB 40))), (t0, .inr (3, [.ref co, .ref en, .ref sk, .int 5, .int 0])), (co, .inl (G.2.2.2, 6, .inr (.inr (.inr (.inr fO))))), (ck, .inl (G.2.1, 160, .inl (gPf tC 5))), (en, .inl (G.2.2.2, 6, .inr (.inr (.inr (.inr fN))))), (ek, .inl (G.2.1, 3, .inl (gPf tE 3)))]) hP hD [0, 1, 6, 2, 3, 4, 5] [] rfl rfl (by decide) (by decide) hk1 hFc hP1 hD1
  have hP : va_P G.1 vwCl [(h0, .inr (1, [.ref t0, .ref b0, .int 40, .int 0, .int 40, .int 30, .int 40])), (b0, .inl (G.2.1, 160, .inl (gPf tB 40))), (t0, .inr (3, [.ref co, .ref en, .ref sk, .int 5, .int 0])), (co, .inl (G.2.2.2, 6, .inr (.inr (.inr (.inr fO))))), (ck, .inl (G.2.1, 160, .inl (gPf tC 5))), (en, .inl (G.2.2.2, 6, .inr (.inr (.inr (.inr fN))))), (ek, .inl (G.2.1, 3, .inl (gPf tE 3)))] H := hP
  have hD : va_D A [(h0, .inr (1, [.ref t0, .ref b0, .int 40, .int 0, .int 40, .int 30, .int 40])), (b0, .inl (G.2.1, 160, .inl (gPf tB 40))), (t0, .inr (3, [.ref co, .ref en, .ref sk, .int 5, .int 0])), (co, .inl (G.2.2.2, 6, .inr (.inr (.inr (.inr fO))))), (ck, .inl (G.2.1, 160, .inl (gPf tC 5))), (en, .inl (G.2.2.2, 6, .inr (.inr (.inr (.inr fN))))), (ek, .inl (G.2.1, 3, .inl (gPf tE 3)))] := hD
  have w_4 : r_3 = 1 := w_4
  subst w_4
  refine lv_istore_n (lv' := [(1, .int 1), (0, .ref h0)]) hx hb dX1_read_16 rfl hl (by decide) rfl (fun ls hl => ?_)
  refine lv_aload_n hx hb dX1_read_17 rfl (lv_at hl 1 rfl) ?_
  refine lv_iconst (v := 0) hx hb dX1_read_18 (by decide) ?_
  refine va_put (D := G.1) (ci := 1) (v := .int 0) (ty := .int) (C := RX1) (T := TX1) (N := 7) hx hb hts hiX1 tyX1 tyX1_ok nmX1 hown hK hP hD hS 0 rfl rfl 6 (by decide) kf19 (fun _ h9 => h9) rfl (by decide +kernel) rfl rfl (Nat.le_of_ble_eq_true rfl) dX1_read_19 (fun H locs hP hD hS => ?_)
  have hP : va_P G.1 vwCl [(h0, .inr (1, [.ref t0, .ref b0, .int 40, .int 0, .int 40, .int 30, .int 0])), (b0, .inl (G.2.1, 160, .inl (gPf tB 40))), (t0, .inr (3, [.ref co, .ref en, .ref sk, .int 5, .int 0])), (co, .inl (G.2.2.2, 6, .inr (.inr (.inr (.inr fO))))), (ck, .inl (G.2.1, 160, .inl (gPf tC 5))), (en, .inl (G.2.2.2, 6, .inr (.inr (.inr (.inr fN))))), (ek, .inl (G.2.1, 3, .inl (gPf tE 3)))] H := hP
  have hD : va_D A [(h0, .inr (1, [.ref t0, .ref b0, .int 40, .int 0, .int 40, .int 30, .int 0])), (b0, .inl (G.2.1, 160, .inl (gPf tB 40))), (t0, .inr (3, [.ref co, .ref en, .ref sk, .int 5, .int 0])), (co, .inl (G.2.2.2, 6, .inr (.inr (.inr (.inr fO))))), (ck, .inl (G.2.1, 160, .inl (gPf tC 5))), (en, .inl (G.2.2.2, 6, .inr (.inr (.inr (.inr fN))))), (ek, .inl (G.2.1, 3, .inl (gPf tE 3)))] := hD
  refine lv_iload_n hx hb dX1_read_22 rfl (lv_at hl 0 rfl) ?_
  refine lv_if_eq (tgt := 36) hx hb dX1_read_23 (by decide) (fun c_5 => ?_) (fun c_5 => ?_)
  · exact absurd c_5 (by decide)
  refine lv_aload_n hx hb dX1_read_26 rfl (lv_at hl 1 rfl) ?_
  refine va_get (D := G.1) (ci := 1) (v := .ref t0) (C := RX1) (T := TX1) (N := 7) hx hb hts hiX1 hown hK hP 0 rfl rfl 0 (by decide) kf15 (fun _ h9 => h9) rfl dX1_read_27 ?_
  have hPc : va_P G.1 vwCl [(t0, .inr (3, [.ref co, .ref en, .ref sk, .int 5, .int (nI 0)]))] H := hP.sub [2] rfl
  have hDc : va_D A [(t0, .inr (3, [.ref co, .ref en, .ref sk, .int 5, .int (nI 0)]))] := hD.sub [2] (by decide) rfl
  have hFc := va_free (wc := [(t0, .inr (3, [.ref co, .ref en, .ref sk, .int 5, .int (nI 0)]))]) hD hS hA [2] rfl
  refine va_calli (va_runV (As := []) (rest := []) ⟨hx, hb, hml, hown, hts⟩ (c_X3_keep l G t0 co en sk 5 0 H.size (by decide)) (cwV 0 hts gX1_read_X3_keep rfl rfl rfl (by decide +kernel) ⟨Nat.le_of_ble_eq_true rfl, Nat.le_of_ble_eq_true rfl⟩) ⟨gPre_blind, va_recv hK hPc (ci := 3) (q0 := 0) rfl rfl, fun U hU hW => gPre_of hU hW hK hPc hDc⟩ rfl rfl hl.1 rfl (lv_room (Nat.le_of_ble_eq_true rfl)) dX1_read_30 ⟨Nat.le_of_ble_eq_true rfl, Nat.le_of_ble_eq_true rfl⟩) hS (fun q _ h => hFc q h) hFc (fun r_6 u t H locs ht hvm w_7 hB hz1 hk1 hS => ?_)
  obtain ⟨hP1, hK1, hD1⟩ := hB
  rw [ht] at hP1
  have hP1 : va_P G.1 vwCl [(t0, .inr (3, [.ref co, .ref en, .ref sk, .int 5, .int 1]))] H := hP1
  have hD1 : va_D (va_A [(t0, .inr (3, [.ref co, .ref en, .ref sk, .int 5, .int (nI 0)]))] _) [(t0, .inr (3, [.ref co, .ref en, .ref sk, .int 5, .int 1]))] := hD1
  have w_7 : r_6 = nI 0 := w_7
  obtain ⟨hP, hD⟩ := va_join (wr := [(h0, .inr (1, [.ref t0, .ref b0, .int 40, .int 0, .int 40, .int 30, .int 0])), (b0, .inl (G.2.1, 160, .inl (gPf tB 40))), (co, .inl (G.2.2.2, 6, .inr (.inr (.inr (.inr fO))))), (ck, .inl (G.2.1, 160, .inl (gPf tC 5))), (en, .inl (G.2.2.2, 6, .inr (.inr (.inr (.inr fN))))), (ek, .inl (G.2.1, 3, .inl (gPf tE 3)))]) (w1 := [(t0, .inr (3, [.ref co, .ref en, .ref sk, .int 5, .int 1]))]) hP hD [2] [0, 1, 3, 4, 5, 6] rfl rfl (by decide) (by decide) hk1 hFc hP1 hD1
  have hP : va_P G.1 vwCl [(h0, .inr (1, [.ref t0, .ref b0, .int 40, .int 0, .int 40, .int 30, .int 0])), (b0, .inl (G.2.1, 160, .inl (gPf tB 40))), (co, .inl (G.2.2.2, 6, .inr (.inr (.inr (.inr fO))))), (ck, .inl (G.2.1, 160, .inl (gPf tC 5))), (en, .inl (G.2.2.2, 6, .inr (.inr (.inr (.inr fN))))), (ek, .inl (G.2.1, 3, .inl (gPf tE 3))), (t0, .inr (3, [.ref co, .ref en, .ref sk, .int 5, .int 1]))] H := hP
  have hD : va_D A [(h0, .inr (1, [.ref t0, .ref b0, .int 40, .int 0, .int 40, .int 30, .int 0])), (b0, .inl (G.2.1, 160, .inl (gPf tB 40))), (co, .inl (G.2.2.2, 6, .inr (.inr (.inr (.inr fO))))), (ck, .inl (G.2.1, 160, .inl (gPf tC 5))), (en, .inl (G.2.2.2, 6, .inr (.inr (.inr (.inr fN))))), (ek, .inl (G.2.1, 3, .inl (gPf tE 3))), (t0, .inr (3, [.ref co, .ref en, .ref sk, .int 5, .int 1]))] := hD
  have hP : va_P G.1 vwCl [(h0, .inr (1, [.ref t0, .ref b0, .int 40, .int 0, .int 40, .int 30, .int 0])), (b0, .inl (G.2.1, 160, .inl (gPf tB 40))), (co, .inl (G.2.2.2, 6, .inr (.inr (.inr (.inr fO))))), (ck, .inl (G.2.1, 160, .inl (gPf tC 5))), (en, .inl (G.2.2.2, 6, .inr (.inr (.inr (.inr fN))))), (ek, .inl (G.2.1, 3, .inl (gPf tE 3))), (t0, .inr (3, [.ref co, .ref en, .ref sk, .int 5, .int 1]))] H := hP
  have hD : va_D A [(h0, .inr (1, [.ref t0, .ref b0, .int 40, .int 0, .int 40, .int 30, .int 0])), (b0, .inl (G.2.1, 160, .inl (gPf tB 40))), (co, .inl (G.2.2.2, 6, .inr (.inr (.inr (.inr fO))))), (ck, .inl (G.2.1, 160, .inl (gPf tC 5))), (en, .inl (G.2.2.2, 6, .inr (.inr (.inr (.inr fN))))), (ek, .inl (G.2.1, 3, .inl (gPf tE 3))), (t0, .inr (3, [.ref co, .ref en, .ref sk, .int 5, .int 1]))] := hD
  have w_7 : r_6 = 0 := w_7
  subst w_7
  refine lv_goto (tgt := 43) hx hb dX1_read_33 (by decide) ?_
  have hP9 := hP.sub (ws' := [(h0, .inr (1, [.ref t0, .ref b0, .int 40, .int 0, .int 40, .int 30, .int 0])), (b0, .inl (G.2.1, 160, .inl (gPf tB 40))), (t0, .inr (3, [.ref co, .ref en, .ref sk, .int 5, .int 1])), (co, .inl (G.2.2.2, 6, .inr (.inr (.inr (.inr fO))))), (ck, .inl (G.2.1, 160, .inl (gPf tC 5))), (en, .inl (G.2.2.2, 6, .inr (.inr (.inr (.inr fN))))), (ek, .inl (G.2.1, 3, .inl (gPf tE 3)))]) [0, 1, 6, 2, 3, 4, 5] rfl
  have hD9 := hD.sub (ws' := [(h0, .inr (1, [.ref t0, .ref b0, .int 40, .int 0, .int 40, .int 30, .int 0])), (b0, .inl (G.2.1, 160, .inl (gPf tB 40))), (t0, .inr (3, [.ref co, .ref en, .ref sk, .int 5, .int 1])), (co, .inl (G.2.2.2, 6, .inr (.inr (.inr (.inr fO))))), (ck, .inl (G.2.1, 160, .inl (gPf tC 5))), (en, .inl (G.2.2.2, 6, .inr (.inr (.inr (.inr fN))))), (ek, .inl (G.2.1, 3, .inl (gPf tE 3)))]) [0, 1, 6, 2, 3, 4, 5] (by decide) rfl
  have hpost : (fun (r : Int32) (u : Unit) => match u with | _ => r = 0) 0 () := by first | trivial | rfl | decide | simp
  exact W.iret (v := 0) hx hb hr (fun t ht hW => ⟨⟨0, (), rfl, hpost, by rw [ht]; exact hP9, va_K.moved hW.alike hK, hD9⟩, hS.F ht⟩) hS.2.2 dX1_read_43
abbrev q_X1_readParts_e (G : gG) (E : gS) (h0 t0 b0 : Nat) (f : Nat → Int32) (x3 : Int32) (x4 : Int32) (x5 : Int32) (A : Nat → Prop) : Array Value → State → Outcome → State → Prop := va_Qi (fun (r : Int32) (u : Unit) => match u with | _ => r = 0) (fun (u : Unit) t => match u with | _ => va_P G.1 vwCl [(h0, .inr (1, [.ref t0, .ref b0, .int 0, .int 0, .int 0, .int x5, .int 0])), (b0, .inl (G.2.1, 160, .inl f))] t.heap ∧ gK G t ∧ va_D A [(h0, .inr (1, [.ref t0, .ref b0, .int 0, .int 0, .int 0, .int x5, .int 0])), (b0, .inl (G.2.1, 160, .inl f))]) A
set_option maxHeartbeats 4000000 in
set_option maxRecDepth 100000 in
theorem c_X1_readParts_e (l : Launch) (G : gG) (E : gS) (h0 t0 b0 : Nat) (f : Nat → Int32) (x3 : Int32) (x4 : Int32) (x5 : Int32) (sz : Nat) : Met l yX1_readParts wsX1_readParts ({ frames := 7, cells := 0, slots := 0, locals := 148 }) (gPreE G E [.ref h0] [(h0, .inr (1, [.ref t0, .ref b0, .int 0, .int x3, .int x4, .int x5, .int 0])), (b0, .inl (G.2.1, 160, .inl f))] sz) (q_X1_readParts_e G E h0 t0 b0 f x3 x4 x5 (va_A [(h0, .inr (1, [.ref t0, .ref b0, .int 0, .int x3, .int x4, .int x5, .int 0])), (b0, .inl (G.2.1, 160, .inl f))] sz)) 0 0 (va_A [(h0, .inr (1, [.ref t0, .ref b0, .int 0, .int x3, .int x4, .int x5, .int 0])), (b0, .inl (G.2.1, 160, .inl f))] sz) := by
  refine Met.ofW (cc := cX1_readParts) (maxL := 2) (ret := (some .boolean)) (by decide) rfl ?_
  intro p e s m args below meth c s₁ B hml hv
  obtain ⟨rfl, hsz, hP, hK, hD0, hE⟩ := hv
  have hx := B.exec
  have hb := B.bytes
  have hr := B.returns
  have hts := atoms_spec (ws := wsX1_readParts) B.pre
  have hown : s.vm.findClass RX1 = some m.cls := findClass_of_methodNamed B.named
  have hlocks := B.notSynchronized
  subst hsz
  have hD := hD0.self (sz := s.heap.size)
  generalize hAe : va_A [(h0, .inr (1, [.ref t0, .ref b0, .int 0, .int x3, .int x4, .int x5, .int 0])), (b0, .inl (G.2.1, 160, .inl f))] s.heap.size = A at hD hE ⊢
  have hA : ∀ q : Nat, s.heap.size ≤ q → A q := fun q h => by rw [← hAe]; exact Or.inr h
  have hS : va_S A s.heap s.heap [] := va_S.rf
  have hP : va_P G.1 vwCl [(h0, .inr (1, [.ref t0, .ref b0, .int 0, .int x3, .int x4, .int x5, .int 0])), (b0, .inl (G.2.1, 160, .inl f))] s.heap := hP
  have hD : va_D A [(h0, .inr (1, [.ref t0, .ref b0, .int 0, .int x3, .int x4, .int x5, .int 0])), (b0, .inl (G.2.1, 160, .inl f))] := hD
  have hl := lv_entry ([.ref h0]) (n := 2) (Nat.le_of_ble_eq_true rfl)
  rw [lg_entry_eq]
  generalize (lg_sl ([.ref h0]) ++ List.replicate (2 - (lg_sl ([.ref h0])).length) Slot.unset).toArray = ls at hl ⊢
  have hl : lv_has ls 2 [(0, .ref h0)] := hl
  have kf45 := hts (.fieldLink RX1 45 "PebbleInShoe$Reader" "token" "I") (by decide +kernel)
  have hiX1 := (by decide +kernel : ∀ w ∈ wsX10, w ∈ wsX1_readParts)
  refine lv_aload_n hx hb dX1_readParts_0 rfl (lv_at hl 0 rfl) ?_
  have hPc : va_P G.1 vwCl [(h0, .inr (1, [.ref t0, .ref b0, .int (nI 0), .int x3, .int x4, .int x5, .int (nI 0)])), (b0, .inl (G.2.1, 160, .inl f))] s.heap := hP.sub [0, 1] rfl
  have hDc : va_D A [(h0, .inr (1, [.ref t0, .ref b0, .int (nI 0), .int x3, .int x4, .int x5, .int (nI 0)])), (b0, .inl (G.2.1, 160, .inl f))] := hD.sub [0, 1] (by decide) rfl
  have hFc := va_free (wc := [(h0, .inr (1, [.ref t0, .ref b0, .int (nI 0), .int x3, .int x4, .int x5, .int (nI 0)])), (b0, .inl (G.2.1, 160, .inl f))]) hD hS hA [0, 1] rfl
  refine va_callv (va_runV (As := []) (rest := []) ⟨hx, hb, hml, hown, hts⟩ (c_X1_next l G E h0 t0 b0 f x3 x4 x5 0 0 s.heap.size (by decide) (by decide)) (cwV 0 hts gX1_readParts_X1_next rfl rfl rfl (by decide +kernel) ⟨Nat.le_of_ble_eq_true rfl, Nat.le_of_ble_eq_true rfl⟩) ⟨gPreE_blind, va_recv hK hPc (ci := 1) (q0 := 0) rfl rfl, fun U hU hW => gPreE_of hU hW hK hPc hDc hE hS hFc⟩ rfl rfl hl.1 rfl (lv_room (Nat.le_of_ble_eq_true rfl)) dX1_readParts_1 ⟨Nat.le_of_ble_eq_true rfl, Nat.le_of_ble_eq_true rfl⟩) hS (fun q _ h => hFc q h) hFc (fun u t H locs ht hvm w_2 hB hz1 hk1 hS => ?_)
  obtain ⟨zb_3, zt_4, zp_5, zm_6⟩ := u
  obtain ⟨hP1, hK1, hD1⟩ := hB
  rw [ht] at hP1
  have hP1 : va_P G.1 vwCl [(h0, .inr (1, [.ref t0, .ref b0, .int (nI zb_3), .int zt_4, .int (nI zp_5), .int zm_6, .int 0])), (b0, .inl (G.2.1, 160, .inl f))] H := hP1
  have hD1 : va_D (va_A [(h0, .inr (1, [.ref t0, .ref b0, .int (nI 0), .int x3, .int x4, .int x5, .int (nI 0)])), (b0, .inl (G.2.1, 160, .inl f))] s.heap.size) [(h0, .inr (1, [.ref t0, .ref b0, .int (nI zb_3), .int zt_4, .int (nI zp_5), .int zm_6, .int 0])), (b0, .inl (G.2.1, 160, .inl f))] := hD1
  have w_2 : (zb_3, zt_4, zp_5, zm_6) = mNext f 0 0 x5 := w_2
  obtain ⟨hP, hD⟩ := va_join (wr := []) (w1 := [(h0, .inr (1, [.ref t0, .ref b0, .int (nI zb_3), .int zt_4, .int (nI zp_5), .int zm_6, .int 0])), (b0, .inl (G.2.1, 160, .inl f))]) hP hD [0, 1] [] rfl rfl (by decide) (by decide) hk1 hFc hP1 hD1
  have hP : va_P G.1 vwCl [(h0, .inr (1, [.ref t0, .ref b0, .int (nI zb_3), .int zt_4, .int (nI zp_5), .int zm_6, .int 0])), (b0, .inl (G.2.1, 160, .inl f))] H := hP
  have hD : va_D A [(h0, .inr (1, [.ref t0, .ref b0, .int (nI zb_3), .int zt_4, .int (nI zp_5), .int zm_6, .int 0])), (b0, .inl (G.2.1, 160, .inl f))] := hD
  rw [show mNext f 0 0 x5 = (0, 0, 0, x5) by rfl] at w_2
  simp only [Prod.mk.injEq] at w_2
  obtain ⟨g_7, g_8, g_9, g_10⟩ := w_2
  have g_7 := g_7.symm
  subst g_7
  have g_8 := g_8.symm
  subst g_8
  have g_9 := g_9.symm
  subst g_9
  have g_10 := g_10.symm
  subst g_10
  have hP : va_P G.1 vwCl [(h0, .inr (1, [.ref t0, .ref b0, .int 0, .int 0, .int 0, .int x5, .int 0])), (b0, .inl (G.2.1, 160, .inl f))] H := hP
  have hD : va_D A [(h0, .inr (1, [.ref t0, .ref b0, .int 0, .int 0, .int 0, .int x5, .int 0])), (b0, .inl (G.2.1, 160, .inl f))] := hD
  refine lv_iconst (v := 0) hx hb dX1_readParts_4 (by decide) ?_
  refine lv_istore_n (lv' := [(1, .int 0), (0, .ref h0)]) hx hb dX1_readParts_5 rfl hl (by decide) rfl (fun ls hl => ?_)
  refine lv_iload_n hx hb dX1_readParts_6 rfl (lv_at hl 0 rfl) ?_
  refine lv_iconst (v := 2) hx hb dX1_readParts_7 (by decide) ?_
  refine lv_icmp_gt (tgt := 65) hx hb dX1_readParts_8 (by decide) (fun c_11 => ?_) (fun c_11 => ?_)
  · exact absurd c_11 (by decide)
  refine lv_aload_n hx hb dX1_readParts_11 rfl (lv_at hl 1 rfl) ?_
  refine va_get (D := G.1) (ci := 1) (v := .int 0) (C := RX1) (T := TX1) (N := 7) hx hb hts hiX1 hown hK hP 0 rfl rfl 3 (by decide) kf45 (fun _ h9 => h9) rfl dX1_readParts_12 ?_
  refine lv_bipush (v := 100) hx hb dX1_readParts_15 (by decide) ?_
  refine lv_iload_n hx hb dX1_readParts_17 rfl (lv_at hl 0 rfl) ?_
  refine lv_iadd hx hb dX1_readParts_18 ?_
  refine lv_topi (fun v_12 ev_12 => ?_)
  have ev_12 : v_12 = 100 := ev_12.trans (by decide)
  subst ev_12
  refine lv_icmp_eq (tgt := 24) hx hb dX1_readParts_19 (by decide) (fun c_13 => ?_) (fun c_13 => ?_)
  · exact absurd c_13 (by decide)
  refine lv_iconst (v := 0) hx hb dX1_readParts_22 (by decide) ?_
  have hP9 := hP.sub (ws' := [(h0, .inr (1, [.ref t0, .ref b0, .int 0, .int 0, .int 0, .int x5, .int 0])), (b0, .inl (G.2.1, 160, .inl f))]) [0, 1] rfl
  have hD9 := hD.sub (ws' := [(h0, .inr (1, [.ref t0, .ref b0, .int 0, .int 0, .int 0, .int x5, .int 0])), (b0, .inl (G.2.1, 160, .inl f))]) [0, 1] (by decide) rfl
  have hpost : (fun (r : Int32) (u : Unit) => match u with | _ => r = 0) 0 () := by first | trivial | rfl | decide | simp
  exact W.zret (v := 0) hx hb hr (rfl) (fun t ht hW => ⟨⟨0, (), rfl, hpost, by rw [ht]; exact hP9, va_K.moved hW.alike hK, hD9⟩, hS.F ht⟩) hS.2.2 dX1_readParts_23
abbrev q_X1_read_e (G : gG) (E : gS) (h0 t0 b0 co en sk : Nat) (f : Nat → Int32) (x2 : Int32) (x3 : Int32) (x4 : Int32) (x5 : Int32) (x7 : Int32) (x8 : Int32) (A : Nat → Prop) : Array Value → State → Outcome → State → Prop := va_Qi (fun (r : Int32) (u : Unit) => match u with | _ => r = -100) (fun (u : Unit) t => match u with | _ => va_P G.1 vwCl [(h0, .inr (1, [.ref t0, .ref b0, .int 0, .int 0, .int 0, .int x5, .int 0])), (b0, .inl (G.2.1, 160, .inl f)), (t0, .inr (3, [.ref co, .ref en, .ref sk, .int 0, .int x8]))] t.heap ∧ gK G t ∧ va_D A [(h0, .inr (1, [.ref t0, .ref b0, .int 0, .int 0, .int 0, .int x5, .int 0])), (b0, .inl (G.2.1, 160, .inl f)), (t0, .inr (3, [.ref co, .ref en, .ref sk, .int 0, .int x8]))]) A
set_option maxHeartbeats 4000000 in
set_option maxRecDepth 100000 in
theorem c_X1_read_e (l : Launch) (G : gG) (E : gS) (h0 t0 b0 co en sk : Nat) (f : Nat → Int32) (x2 : Int32) (x3 : Int32) (x4 : Int32) (x5 : Int32) (x7 : Int32) (x8 : Int32) (sz : Nat) : Met l yX1_read wsX1_read ({ frames := 8, cells := 0, slots := 0, locals := 169 }) (gPreE G E [.ref h0] [(h0, .inr (1, [.ref t0, .ref b0, .int x2, .int x3, .int x4, .int x5, .int 0])), (b0, .inl (G.2.1, 160, .inl f)), (t0, .inr (3, [.ref co, .ref en, .ref sk, .int x7, .int x8]))] sz) (q_X1_read_e G E h0 t0 b0 co en sk f x2 x3 x4 x5 x7 x8 (va_A [(h0, .inr (1, [.ref t0, .ref b0, .int x2, .int x3, .int x4, .int x5, .int 0])), (b0, .inl (G.2.1, 160, .inl f)), (t0, .inr (3, [.ref co, .ref en, .ref sk, .int x7, .int x8]))] sz)) 0 0 (va_A [(h0, .inr (1, [.ref t0, .ref b0, .int x2, .int x3, .int x4, .int x5, .int 0])), (b0, .inl (G.2.1, 160, .inl f)), (t0, .inr (3, [.ref co, .ref en, .ref sk, .int x7, .int x8]))] sz) := by
  refine Met.ofW (cc := cX1_read) (maxL := 2) (ret := (some .int)) (by decide) rfl ?_
  intro p e s m args below meth c s₁ B hml hv
  obtain ⟨rfl, hsz, hP, hK, hD0, hE⟩ := hv
  have hx := B.exec
  have hb := B.bytes
  have hr := B.returns
  have hts := atoms_spec (ws := wsX1_read) B.pre
  have hown : s.vm.findClass RX1 = some m.cls := findClass_of_methodNamed B.named
  have hlocks := B.notSynchronized
  subst hsz
  have hD := hD0.self (sz := s.heap.size)
  generalize hAe : va_A [(h0, .inr (1, [.ref t0, .ref b0, .int x2, .int x3, .int x4, .int x5, .int 0])), (b0, .inl (G.2.1, 160, .inl f)), (t0, .inr (3, [.ref co, .ref en, .ref sk, .int x7, .int x8]))] s.heap.size = A at hD hE ⊢
  have hA : ∀ q : Nat, s.heap.size ≤ q → A q := fun q h => by rw [← hAe]; exact Or.inr h
  have hS : va_S A s.heap s.heap [] := va_S.rf
  have hP : va_P G.1 vwCl [(h0, .inr (1, [.ref t0, .ref b0, .int x2, .int x3, .int x4, .int x5, .int 0])), (b0, .inl (G.2.1, 160, .inl f)), (t0, .inr (3, [.ref co, .ref en, .ref sk, .int x7, .int x8]))] s.heap := hP
  have hD : va_D A [(h0, .inr (1, [.ref t0, .ref b0, .int x2, .int x3, .int x4, .int x5, .int 0])), (b0, .inl (G.2.1, 160, .inl f)), (t0, .inr (3, [.ref co, .ref en, .ref sk, .int x7, .int x8]))] := hD
  have hl := lv_entry ([.ref h0]) (n := 2) (Nat.le_of_ble_eq_true rfl)
  rw [lg_entry_eq]
  generalize (lg_sl ([.ref h0]) ++ List.replicate (2 - (lg_sl ([.ref h0])).length) Slot.unset).toArray = ls at hl ⊢
  have hl : lv_has ls 2 [(0, .ref h0)] := hl
  have kf23 := hts (.fieldLink RX1 23 "PebbleInShoe$Reader" "at" "I") (by decide +kernel)
  have hiX1 := (by decide +kernel : ∀ w ∈ wsX10, w ∈ wsX1_read)
  have kf15 := hts (.fieldLink RX1 15 "PebbleInShoe$Reader" "texts" "LPebbleInShoe$Texts;") (by decide +kernel)
  have kf19 := hts (.fieldLink RX1 19 "PebbleInShoe$Reader" "length" "I") (by decide +kernel)
  have kf39 := hts (.fieldLink RX1 39 "PebbleInShoe$Reader" "place" "I") (by decide +kernel)
  refine lv_aload_n hx hb dX1_read_0 rfl (lv_at hl 0 rfl) ?_
  refine lv_iconst (v := 0) hx hb dX1_read_1 (by decide) ?_
  refine va_put (D := G.1) (ci := 1) (v := .int 0) (ty := .int) (C := RX1) (T := TX1) (N := 7) hx hb hts hiX1 tyX1 tyX1_ok nmX1 hown hK hP hD hS 0 rfl rfl 2 (by decide) kf23 (fun _ h9 => h9) rfl (by decide +kernel) rfl rfl (Nat.le_of_ble_eq_true rfl) dX1_read_2 (fun H locs hP hD hS => ?_)
  have hP : va_P G.1 vwCl [(h0, .inr (1, [.ref t0, .ref b0, .int 0, .int x3, .int x4, .int x5, .int 0])), (b0, .inl (G.2.1, 160, .inl f)), (t0, .inr (3, [.ref co, .ref en, .ref sk, .int x7, .int x8]))] H := hP
  have hD : va_D A [(h0, .inr (1, [.ref t0, .ref b0, .int 0, .int x3, .int x4, .int x5, .int 0])), (b0, .inl (G.2.1, 160, .inl f)), (t0, .inr (3, [.ref co, .ref en, .ref sk, .int x7, .int x8]))] := hD
  refine lv_aload_n hx hb dX1_read_5 rfl (lv_at hl 0 rfl) ?_
  refine va_get (D := G.1) (ci := 1) (v := .ref t0) (C := RX1) (T := TX1) (N := 7) hx hb hts hiX1 hown hK hP 0 rfl rfl 0 (by decide) kf15 (fun _ h9 => h9) rfl dX1_read_6 ?_
  have hPc : va_P G.1 vwCl [(t0, .inr (3, [.ref co, .ref en, .ref sk, .int x7, .int x8]))] H := hP.sub [2] rfl
  have hDc : va_D A [(t0, .inr (3, [.ref co, .ref en, .ref sk, .int x7, .int x8]))] := hD.sub [2] (by decide) rfl
  have hFc := va_free (wc := [(t0, .inr (3, [.ref co, .ref en, .ref sk, .int x7, .int x8]))]) hD hS hA [2] rfl
  refine va_callv (va_runV (As := []) (rest := []) ⟨hx, hb, hml, hown, hts⟩ (c_X3_begin l G t0 co en sk x7 x8 H.size) (cwV 0 hts gX1_read_X3_begin rfl rfl rfl (by decide +kernel) ⟨Nat.le_of_ble_eq_true rfl, Nat.le_of_ble_eq_true rfl⟩) ⟨gPre_blind, va_recv hK hPc (ci := 3) (q0 := 0) rfl rfl, fun U hU hW => gPre_of hU hW hK hPc hDc⟩ rfl rfl hl.1 rfl (lv_room (Nat.le_of_ble_eq_true rfl)) dX1_read_9 ⟨Nat.le_of_ble_eq_true rfl, Nat.le_of_ble_eq_true rfl⟩) hS (fun q _ h => hFc q h) hFc (fun u t H locs ht hvm w_2 hB hz1 hk1 hS => ?_)
  obtain ⟨hP1, hK1, hD1⟩ := hB
  rw [ht] at hP1
  have hP1 : va_P G.1 vwCl [(t0, .inr (3, [.ref co, .ref en, .ref sk, .int 0, .int x8]))] H := hP1
  have hD1 : va_D (va_A [(t0, .inr (3, [.ref co, .ref en, .ref sk, .int x7, .int x8]))] _) [(t0, .inr (3, [.ref co, .ref en, .ref sk, .int 0, .int x8]))] := hD1
  obtain ⟨hP, hD⟩ := va_join (wr := [(h0, .inr (1, [.ref t0, .ref b0, .int 0, .int x3, .int x4, .int x5, .int 0])), (b0, .inl (G.2.1, 160, .inl f))]) (w1 := [(t0, .inr (3, [.ref co, .ref en, .ref sk, .int 0, .int x8]))]) hP hD [2] [0, 1] rfl rfl (by decide) (by decide) hk1 hFc hP1 hD1
  have hP : va_P G.1 vwCl [(h0, .inr (1, [.ref t0, .ref b0, .int 0, .int x3, .int x4, .int x5, .int 0])), (b0, .inl (G.2.1, 160, .inl f)), (t0, .inr (3, [.ref co, .ref en, .ref sk, .int 0, .int x8]))] H := hP
  have hD : va_D A [(h0, .inr (1, [.ref t0, .ref b0, .int 0, .int x3, .int x4, .int x5, .int 0])), (b0, .inl (G.2.1, 160, .inl f)), (t0, .inr (3, [.ref co, .ref en, .ref sk, .int 0, .int x8]))] := hD
  refine lv_aload_n hx hb dX1_read_12 rfl (lv_at hl 0 rfl) ?_
  have hPc : va_P G.1 vwCl [(h0, .inr (1, [.ref t0, .ref b0, .int 0, .int x3, .int x4, .int x5, .int 0])), (b0, .inl (G.2.1, 160, .inl f))] H := hP.sub [0, 1] rfl
  have hDc : va_D A [(h0, .inr (1, [.ref t0, .ref b0, .int 0, .int x3, .int x4, .int x5, .int 0])), (b0, .inl (G.2.1, 160, .inl f))] := hD.sub [0, 1] (by decide) rfl
  have hFc := va_free (wc := [(h0, .inr (1, [.ref t0, .ref b0, .int 0, .int x3, .int x4, .int x5, .int 0])), (b0, .inl (G.2.1, 160, .inl f))]) hD hS hA [0, 1] rfl
  refine va_calli (va_runV (As := []) (rest := []) ⟨hx, hb, hml, hown, hts⟩ (c_X1_readParts_e l G E h0 t0 b0 f x3 x4 x5 H.size) (cwV 0 hts gX1_read_X1_readParts rfl rfl rfl (by decide +kernel) ⟨Nat.le_of_ble_eq_true rfl, Nat.le_of_ble_eq_true rfl⟩) ⟨gPreE_blind, va_recv hK hPc (ci := 1) (q0 := 0) rfl rfl, fun U hU hW => gPreE_of hU hW hK hPc hDc hE hS hFc⟩ rfl rfl hl.1 rfl (lv_room (Nat.le_of_ble_eq_true rfl)) dX1_read_13 ⟨Nat.le_of_ble_eq_true rfl, Nat.le_of_ble_eq_true rfl⟩) hS (fun q _ h => hFc q h) hFc (fun r_3 u t H locs ht hvm w_4 hB hz1 hk1 hS => ?_)
  obtain ⟨hP1, hK1, hD1⟩ := hB
  rw [ht] at hP1
  have hP1 : va_P G.1 vwCl [(h0, .inr (1, [.ref t0, .ref b0, .int 0, .int 0, .int 0, .int x5, .int 0])), (b0, .inl (G.2.1, 160, .inl f))] H := hP1
  have hD1 : va_D (va_A [(h0, .inr (1, [.ref t0, .ref b0, .int 0, .int x3, .int x4, .int x5, .int 0])), (b0, .inl (G.2.1, 160, .inl f))] _) [(h0, .inr (1, [.ref t0, .ref b0, .int 0, .int 0, .int 0, .int x5, .int 0])), (b0, .inl (G.2.1, 160, .inl f))] := hD1
  have w_4 : r_3 = 0 := w_4
  obtain ⟨hP, hD⟩ := va_join (wr := [(t0, .inr (3, [.ref co, .ref en, .ref sk, .int 0, .int x8]))]) (w1 := [(h0, .inr (1, [.ref t0, .ref b0, .int 0, .int 0, .int 0, .int x5, .int 0])), (b0, .inl (G.2.1, 160, .inl f))]) hP hD [0, 1] [2] rfl rfl (by decide) (by decide) hk1 hFc hP1 hD1
  have hP : va_P G.1 vwCl [(t0, .inr (3, [.ref co, .ref en, .ref sk, .int 0, .int x8])), (h0, .inr (1, [.ref t0, .ref b0, .int 0, .int 0, .int 0, .int x5, .int 0])), (b0, .inl (G.2.1, 160, .inl f))] H := hP
  have hD : va_D A [(t0, .inr (3, [.ref co, .ref en, .ref sk, .int 0, .int x8])), (h0, .inr (1, [.ref t0, .ref b0, .int 0, .int 0, .int 0, .int x5, .int 0])), (b0, .inl (G.2.1, 160, .inl f))] := hD
  have w_4 : r_3 = 0 := w_4
  subst w_4
  refine lv_istore_n (lv' := [(1, .int 0), (0, .ref h0)]) hx hb dX1_read_16 rfl hl (by decide) rfl (fun ls hl => ?_)
  refine lv_aload_n hx hb dX1_read_17 rfl (lv_at hl 1 rfl) ?_
  refine lv_iconst (v := 0) hx hb dX1_read_18 (by decide) ?_
  refine va_put (D := G.1) (ci := 1) (v := .int 0) (ty := .int) (C := RX1) (T := TX1) (N := 7) hx hb hts hiX1 tyX1 tyX1_ok nmX1 hown hK hP hD hS 1 rfl rfl 6 (by decide) kf19 (fun _ h9 => h9) rfl (by decide +kernel) rfl rfl (Nat.le_of_ble_eq_true rfl) dX1_read_19 (fun H locs hP hD hS => ?_)
  have hP : va_P G.1 vwCl [(t0, .inr (3, [.ref co, .ref en, .ref sk, .int 0, .int x8])), (h0, .inr (1, [.ref t0, .ref b0, .int 0, .int 0, .int 0, .int x5, .int 0])), (b0, .inl (G.2.1, 160, .inl f))] H := hP
  have hD : va_D A [(t0, .inr (3, [.ref co, .ref en, .ref sk, .int 0, .int x8])), (h0, .inr (1, [.ref t0, .ref b0, .int 0, .int 0, .int 0, .int x5, .int 0])), (b0, .inl (G.2.1, 160, .inl f))] := hD
  refine lv_iload_n hx hb dX1_read_22 rfl (lv_at hl 0 rfl) ?_
  refine lv_if_eq (tgt := 36) hx hb dX1_read_23 (by decide) (fun c_5 => ?_) (fun c_5 => ?_)
  rotate_left
  · exact absurd (by decide) c_5
  refine lv_bipush (v := -100) hx hb dX1_read_36 (by decide) ?_
  refine lv_aload_n hx hb dX1_read_38 rfl (lv_at hl 1 rfl) ?_
  refine va_get (D := G.1) (ci := 1) (v := .int 0) (C := RX1) (T := TX1) (N := 7) hx hb hts hiX1 hown hK hP 1 rfl rfl 4 (by decide) kf39 (fun _ h9 => h9) rfl dX1_read_39 ?_
  refine lv_isub hx hb dX1_read_42 ?_
  refine lv_topi (fun v_6 ev_6 => ?_)
  have ev_6 : v_6 = -100 := ev_6.trans (by decide)
  subst ev_6
  have hP9 := hP.sub (ws' := [(h0, .inr (1, [.ref t0, .ref b0, .int 0, .int 0, .int 0, .int x5, .int 0])), (b0, .inl (G.2.1, 160, .inl f)), (t0, .inr (3, [.ref co, .ref en, .ref sk, .int 0, .int x8]))]) [1, 2, 0] rfl
  have hD9 := hD.sub (ws' := [(h0, .inr (1, [.ref t0, .ref b0, .int 0, .int 0, .int 0, .int x5, .int 0])), (b0, .inl (G.2.1, 160, .inl f)), (t0, .inr (3, [.ref co, .ref en, .ref sk, .int 0, .int x8]))]) [1, 2, 0] (by decide) rfl
  have hpost : (fun (r : Int32) (u : Unit) => match u with | _ => r = -100) (-100) () := by first | trivial | rfl | decide | simp
  exact W.iret (v := (-100)) hx hb hr (fun t ht hW => ⟨⟨(-100), (), rfl, hpost, by rw [ht]; exact hP9, va_K.moved hW.alike hK, hD9⟩, hS.F ht⟩) hS.2.2 dX1_read_43
