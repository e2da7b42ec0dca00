abbrev q_X1_add (G : gG) (h0 t0 b0 : Nat) (f : Nat → Int32) (x2 : Int32) (x3 : Int32) (x4 : Int32) (x5 : Int32) (n : Nat) (v : Int32) (A : Nat → Prop) : Array Value → State → Outcome → State → Prop := va_Qv (fun (u : Unit) => match u with | _ => True) (fun (u : Unit) t => match u with | _ => va_P G.1 vwCl [zo1 h0 t0 b0 x2 x3 x4 x5 (nI (n + 1)), zi G b0 160 (upd f n v)] t.heap ∧ gK G t ∧ va_D A [zo1 h0 t0 b0 x2 x3 x4 x5 (nI (n + 1)), zi G b0 160 (upd f n v)]) A
set_option maxHeartbeats 4000000 in
set_option maxRecDepth 100000 in
theorem c_X1_add (l : Launch) (G : gG) (h0 t0 b0 : Nat) (f : Nat → Int32) (x2 : Int32) (x3 : Int32) (x4 : Int32) (x5 : Int32) (n : Nat) (v : Int32) (sz : Nat) (hn : n < 160) : Met l yX1_add wsX1_add ({ frames := 0, cells := 0, slots := 0, locals := 0 }) (gPre G [.ref h0, .int v] [zo1 h0 t0 b0 x2 x3 x4 x5 (nI n), zi G b0 160 f] sz) (q_X1_add G h0 t0 b0 f x2 x3 x4 x5 n v (va_A [zo1 h0 t0 b0 x2 x3 x4 x5 (nI n), zi G b0 160 f] sz)) 0 0 (va_A [zo1 h0 t0 b0 x2 x3 x4 x5 (nI n), zi G b0 160 f] sz) := by
  refine Met.ofW (cc := cX1_add) (maxL := 2) (ret := none) (by decide +kernel) rfl ?_
  intro p e s m args below meth c s₁ B hml hv
  obtain ⟨rfl, hsz, hP, hK, hD0⟩ := hv
  have hx := B.exec
  have hb := B.bytes
  have hr := B.returns
  have hts := atoms_spec (ws := wsX1_add) B.pre
  have hown : s.vm.findClass RX1 = some m.cls := findClass_of_methodNamed B.named
  have hlocks := B.notSynchronized
  subst hsz
  have hD := hD0.self (sz := s.heap.size)
  generalize hAe : va_A [zo1 h0 t0 b0 x2 x3 x4 x5 (nI n), zi G b0 160 f] s.heap.size = A at hD ⊢
  have hA : ∀ q : Nat, s.heap.size ≤ q → A q := fun q h => by rw [← hAe]; exact Or.inr h
  have hS : va_S A s.heap s.heap [] := va_S.rf
  have hz9 : gPD G A [zo1 h0 t0 b0 x2 x3 x4 x5 (nI n), zi G b0 160 f] s.heap := ⟨hP, hD⟩
  have hP := hz9.1
  have hD := hz9.2
  have hl := lv_entry ([.ref h0, .int v]) (n := 2) (Nat.le_of_ble_eq_true rfl)
  rw [lg_entry_eq]
  generalize (lg_sl ([.ref h0, .int v]) ++ List.replicate (2 - (lg_sl ([.ref h0, .int v])).length) Slot.unset).toArray = ls at hl ⊢
  have hl : lv_has ls 2 [zR 0 h0, zI 1 v] := hl
  have kf19 := hts (.fieldLink RX1 19 "PebbleInShoe$Reader" "length" "I") (by decide +kernel)
  have hiX1 := (by decide +kernel : ∀ w ∈ wsX10, w ∈ wsX1_add)
  have kf9 := hts (.fieldLink RX1 9 "PebbleInShoe$Reader" "bytes" "[I") (by decide +kernel)
  refine lv_aload_n hx hb dX1_add_0 rfl (lv_at hl 0 rfl) ?_
  refine va_get (D := G.1) (ci := 1) (v := .int (nI n)) (C := RX1) (T := TX1) (N := 7) hx hb hts hiX1 hown hK hP 0 rfl rfl 6 (by decide +kernel) kf19 (fun _ h9 => h9) rfl dX1_add_1 ?_
  refine lv_sipush (v := 160) hx hb dX1_add_4 (by decide +kernel) ?_
  refine lv_icmp_ge (tgt := 30) hx hb dX1_add_7 (by decide +kernel) (fun c_1 => ?_) (fun c_1 => ?_)
  · exact absurd c_1 (nI_ge (b := 160) hn (by decide +kernel))
  refine lv_aload_n hx hb dX1_add_10 rfl (lv_at hl 0 rfl) ?_
  refine va_get (D := G.1) (ci := 1) (v := .ref b0) (C := RX1) (T := TX1) (N := 7) hx hb hts hiX1 hown hK hP 0 rfl rfl 1 (by decide +kernel) kf9 (fun _ h9 => h9) rfl dX1_add_11 ?_
  refine lv_aload_n hx hb dX1_add_14 rfl (lv_at hl 0 rfl) ?_
  refine va_get (D := G.1) (ci := 1) (v := .int (nI n)) (C := RX1) (T := TX1) (N := 7) hx hb hts hiX1 hown hK hP 0 rfl rfl 6 (by decide +kernel) kf19 (fun _ h9 => h9) rfl dX1_add_15 ?_
  refine lv_iload_n hx hb dX1_add_18 rfl (lv_at hl 1 rfl) ?_
  refine va_iast (D := G.1) hx hb hK hP hD hS 1 0 rfl rfl (i := (nI n)) (x := v) (vp_in_nI (by omega) (by omega)) dX1_add_19 (fun H locs hP hD hS => ?_)
  have hz9 : gPD G A [zo1 h0 t0 b0 x2 x3 x4 x5 (nI n), zi G b0 160 (upd f n v)] H := ⟨by rw [nI_clamp (by omega)] at hP; exact hP, by rw [nI_clamp (by omega)] at hD; exact hD⟩
  have hP := hz9.1
  have hD := hz9.2
  refine lv_aload_n hx hb dX1_add_20 rfl (lv_at hl 0 rfl) ?_
  refine lv_dup hx hb dX1_add_21 rfl ?_
  refine va_get (D := G.1) (ci := 1) (v := .int (nI n)) (C := RX1) (T := TX1) (N := 7) hx hb hts hiX1 hown hK hP 0 rfl rfl 6 (by decide +kernel) kf19 (fun _ h9 => h9) rfl dX1_add_22 ?_
  refine lv_iconst (v := 1) hx hb dX1_add_25 (by decide +kernel) ?_
  refine lv_iadd hx hb dX1_add_26 ?_
  refine lv_topi (fun v_2 ev_2 => ?_)
  have ev_2 : v_2 = nI (n + 1) := ev_2.trans (nI_1 n)
  subst ev_2
  refine va_put (D := G.1) (ci := 1) (v := .int (nI (n + 1))) (ty := .int) (C := RX1) (T := TX1) (N := 7) hx hb hts hiX1 tyX1 tyX1_ok nmX1 hown hK hP hD hS 0 rfl rfl 6 (by decide +kernel) kf19 (fun _ h9 => h9) rfl (by decide +kernel) rfl rfl (Nat.le_of_ble_eq_true rfl) dX1_add_27 (fun H locs hP hD hS => ?_)
  have hz9 : gPD G A [zo1 h0 t0 b0 x2 x3 x4 x5 (nI (n + 1)), zi G b0 160 (upd f n v)] H := ⟨hP, hD⟩
  have hP := hz9.1
  have hD := hz9.2
  have hP9 := hP.sub (ws' := [zo1 h0 t0 b0 x2 x3 x4 x5 (nI (n + 1)), zi G b0 160 (upd f n v)]) [0, 1] rfl
  have hD9 := hD.sub (ws' := [zo1 h0 t0 b0 x2 x3 x4 x5 (nI (n + 1)), zi G b0 160 (upd f n v)]) [0, 1] (by decide +kernel) rfl
  have hpost : (fun (u : Unit) => match u with | _ => True) () := by first | trivial | rfl | decide | simp
  exact W.vret hx hb hr (fun t ht hW => ⟨⟨(), rfl, hpost, by rw [ht]; exact hP9, va_K.moved hW.alike hK, hD9⟩, hS.F ht⟩) hS.2.2 dX1_add_30
abbrev q_X3_init_g (G : gG) (E : gS) (h0 : Nat) (A : Nat → Prop) : Array Value → State → Outcome → State → Prop := va_Qv (fun (u : Nat × Nat × Nat × (Nat → Option Nat) × (Nat → Option Nat) × Nat × Nat × Nat × Nat × Nat × Nat × Nat × Nat × Nat × Nat × Nat × Nat) => match u with | (qc, qe, qs, fc, fe, c0, c1, c2, c3, c4, c5, e0, e1, e2, e3, e4, e5) => fc 0 = some c0 ∧ fc 1 = some c1 ∧ fc 2 = some c2 ∧ fc 3 = some c3 ∧ fc 4 = some c4 ∧ fc 5 = some c5 ∧ fe 0 = some e0 ∧ fe 1 = some e1 ∧ fe 2 = some e2 ∧ fe 3 = some e3 ∧ fe 4 = some e4 ∧ fe 5 = some e5) (fun (u : Nat × Nat × Nat × (Nat → Option Nat) × (Nat → Option Nat) × Nat × Nat × Nat × Nat × Nat × Nat × Nat × Nat × Nat × Nat × Nat × Nat) t => match u with | (qc, qe, qs, fc, fe, c0, c1, c2, c3, c4, c5, e0, e1, e2, e3, e4, e5) => va_P G.1 vwCl [zo3 h0 qc qe qs 0 0, zr G qc 6 fc, zi G c0 160 (fun _ => 0), zi G c1 160 (fun _ => 0), zi G c2 160 (fun _ => 0), zi G c3 160 (fun _ => 0), zi G c4 160 (fun _ => 0), zi G c5 160 (fun _ => 0), zr G qe 6 fe, zi G e0 3 (fun _ => 0), zi G e1 3 (fun _ => 0), zi G e2 3 (fun _ => 0), zi G e3 3 (fun _ => 0), zi G e4 3 (fun _ => 0), zi G e5 3 (fun _ => 0), zi G qs 32 (fun _ => 0)] t.heap ∧ gK G t ∧ va_D A [zo3 h0 qc qe qs 0 0, zr G qc 6 fc, zi G c0 160 (fun _ => 0), zi G c1 160 (fun _ => 0), zi G c2 160 (fun _ => 0), zi G c3 160 (fun _ => 0), zi G c4 160 (fun _ => 0), zi G c5 160 (fun _ => 0), zr G qe 6 fe, zi G e0 3 (fun _ => 0), zi G e1 3 (fun _ => 0), zi G e2 3 (fun _ => 0), zi G e3 3 (fun _ => 0), zi G e4 3 (fun _ => 0), zi G e5 3 (fun _ => 0), zi G qs 32 (fun _ => 0)]) A
set_option maxHeartbeats 4000000 in
set_option maxRecDepth 100000 in
theorem c_X3_init_g (l : Launch) (G : gG) (E : gS) (h0 : Nat) (sz : Nat) : Met l yX3_init wsX3_init ({ frames := 1, cells := 15, slots := 1022, locals := 20 }) (gPreE G E [.ref h0] [zo3q1 h0 0 0] sz) (q_X3_init_g G E h0 (va_A [zo3q1 h0 0 0] sz)) 15 1022 (va_A [zo3q1 h0 0 0] sz) := by
  refine Met.ofW (cc := cX3_init) (maxL := 1) (ret := none) (by decide +kernel) rfl ?_
  intro p e s m args below meth c s₁ B hml hv
  obtain ⟨rfl, hsz, hP, hK, hD0, hE⟩ := hv
  have hx := B.exec
  have hb := B.bytes
  have hr := B.returns
  have hts := atoms_spec (ws := wsX3_init) B.pre
  have hown : s.vm.findClass RX3 = some m.cls := findClass_of_methodNamed B.named
  have hlocks := B.notSynchronized
  have hin : meth.name = "<init>" := (name_of_methodNamed B.named B.method).1
  subst hsz
  have hD := hD0.self (sz := s.heap.size)
  generalize hAe : va_A [zo3q1 h0 0 0] s.heap.size = A at hD hE ⊢
  have hA : ∀ q : Nat, s.heap.size ≤ q → A q := fun q h => by rw [← hAe]; exact Or.inr h
  have hS : va_S A s.heap s.heap [] := va_S.rf
  have hz9 : gPD G A [zo3q1 h0 0 0] s.heap := ⟨hP, hD⟩
  have hP := hz9.1
  have hD := hz9.2
  have hl := lv_entry ([.ref h0]) (n := 1) (Nat.le_of_ble_eq_true rfl)
  rw [lg_entry_eq]
  generalize (lg_sl ([.ref h0]) ++ List.replicate (1 - (lg_sl ([.ref h0])).length) Slot.unset).toArray = ls at hl ⊢
  have hl : lv_has ls 1 [zR 0 h0] := hl
  have kf11 := hts (.fieldLink RX3 11 "PebbleInShoe$Texts" "codes" "[[I") (by decide +kernel)
  have hiX3 := (by decide +kernel : ∀ w ∈ wsX30, w ∈ wsX3_init)
  have kf16 := hts (.fieldLink RX3 16 "PebbleInShoe$Texts" "ends" "[[I") (by decide +kernel)
  have kf19 := hts (.fieldLink RX3 19 "PebbleInShoe$Texts" "stack" "[I") (by decide +kernel)
  refine lv_aload_n hx hb dX3_init_0 rfl (lv_at hl 0 rfl) ?_
  refine W.objInit hx hb hown (hts (.methodLink RX3 3 objectInit) (by decide +kernel)) (hts (.instanceMethod objectInit) (by decide +kernel)) (hts (.code objectInit ⟨#[0xb1]⟩ 1 none) (by decide +kernel)) rfl (by rw [hml]; exact hl.1) rfl dX3_init_1 (Nat.le_of_ble_eq_true rfl) (Nat.le_of_ble_eq_true rfl) ?_
  refine W.eq (g2 := F0 m 4 ls []) rfl ?_
  refine lv_aload_n hx hb dX3_init_4 rfl (lv_at hl 0 rfl) ?_
  refine lv_bipush (v := 6) hx hb dX3_init_5 (by decide +kernel) ?_
  refine lv_sipush (v := 160) hx hb dX3_init_7 (by decide +kernel) ?_
  refine g_newG hx hb hown (hts (.classLink RX3 9 "[[I") (by decide +kernel)) hE.2.2.2.2.2.2.2 (hts (.arrayClass .int) (by decide +kernel)) hK hP hD hS hA (n := 6) (k := 160) (N' := 6) (K' := 160) (by decide +kernel) (by decide +kernel) (by decide +kernel) (by decide +kernel) (Nat.le_of_ble_eq_true rfl) (Nat.le_of_ble_eq_true rfl) (Nat.le_of_ble_eq_true rfl) (Nat.le_of_ble_eq_true rfl) (Nat.le_of_ble_eq_true rfl) dX3_init_10 (fun q_1 rr_2 H hP hD hS => ?_)
  obtain ⟨fx_3, hffx_3⟩ : ∃ g : Nat → Option Nat, g = fun i => if i < 6 then some (rr_2 i) else none := ⟨_, rfl⟩
  rw [← hffx_3] at hP hD
  obtain ⟨x_4, hx_4⟩ : ∃ z, z = rr_2 0 := ⟨_, rfl⟩
  have hox_4 : fx_3 0 = some x_4 := by rw [hffx_3, hx_4]; rfl
  obtain ⟨x_5, hx_5⟩ : ∃ z, z = rr_2 1 := ⟨_, rfl⟩
  have hox_5 : fx_3 1 = some x_5 := by rw [hffx_3, hx_5]; rfl
  obtain ⟨x_6, hx_6⟩ : ∃ z, z = rr_2 2 := ⟨_, rfl⟩
  have hox_6 : fx_3 2 = some x_6 := by rw [hffx_3, hx_6]; rfl
  obtain ⟨x_7, hx_7⟩ : ∃ z, z = rr_2 3 := ⟨_, rfl⟩
  have hox_7 : fx_3 3 = some x_7 := by rw [hffx_3, hx_7]; rfl
  obtain ⟨x_8, hx_8⟩ : ∃ z, z = rr_2 4 := ⟨_, rfl⟩
  have hox_8 : fx_3 4 = some x_8 := by rw [hffx_3, hx_8]; rfl
  obtain ⟨x_9, hx_9⟩ : ∃ z, z = rr_2 5 := ⟨_, rfl⟩
  have hox_9 : fx_3 5 = some x_9 := by rw [hffx_3, hx_9]; rfl
  have hz9 : gPD G A [zo3q1 h0 0 0, zr G q_1 6 fx_3, zi G x_4 160 (fun _ => 0), zi G x_5 160 (fun _ => 0), zi G x_6 160 (fun _ => 0), zi G x_7 160 (fun _ => 0), zi G x_8 160 (fun _ => 0), zi G x_9 160 (fun _ => 0)] H := ⟨by rw [hx_4, hx_5, hx_6, hx_7, hx_8, hx_9]; exact hP, by rw [hx_4, hx_5, hx_6, hx_7, hx_8, hx_9]; exact hD⟩
  have hP := hz9.1
  have hD := hz9.2
  refine va_putF (D := G.1) (ci := 3) (v := .ref q_1) (ty := .array (.array .int)) (C := RX3) (T := TX3) (N := 5) hx hb hts hiX3 tyX3 tyX3_ok nmX3 hown hK hP hD hS 0 rfl rfl 0 (by decide +kernel) kf11 (fun _ h9 => h9) rfl hin rfl (by decide +kernel) rfl rfl (Nat.le_of_ble_eq_true rfl) dX3_init_14 (fun H locs hP hD hS => ?_)
  have hz9 : gPD G A [zo3q2 h0 q_1 0 0, zr G q_1 6 fx_3, zi G x_4 160 (fun _ => 0), zi G x_5 160 (fun _ => 0), zi G x_6 160 (fun _ => 0), zi G x_7 160 (fun _ => 0), zi G x_8 160 (fun _ => 0), zi G x_9 160 (fun _ => 0)] H := ⟨hP, hD⟩
  have hP := hz9.1
  have hD := hz9.2
  refine lv_aload_n hx hb dX3_init_17 rfl (lv_at hl 0 rfl) ?_
  refine lv_bipush (v := 6) hx hb dX3_init_18 (by decide +kernel) ?_
  refine lv_iconst (v := 3) hx hb dX3_init_20 (by decide +kernel) ?_
  refine g_newG hx hb hown (hts (.classLink RX3 9 "[[I") (by decide +kernel)) hE.2.2.2.2.2.2.2 (hts (.arrayClass .int) (by decide +kernel)) hK hP hD hS hA (n := 6) (k := 3) (N' := 6) (K' := 3) (by decide +kernel) (by decide +kernel) (by decide +kernel) (by decide +kernel) (Nat.le_of_ble_eq_true rfl) (Nat.le_of_ble_eq_true rfl) (Nat.le_of_ble_eq_true rfl) (Nat.le_of_ble_eq_true rfl) (Nat.le_of_ble_eq_true rfl) dX3_init_21 (fun q_10 rr_11 H hP hD hS => ?_)
  obtain ⟨fx_12, hffx_12⟩ : ∃ g : Nat → Option Nat, g = fun i => if i < 6 then some (rr_11 i) else none := ⟨_, rfl⟩
  rw [← hffx_12] at hP hD
  obtain ⟨x_13, hx_13⟩ : ∃ z, z = rr_11 0 := ⟨_, rfl⟩
  have hox_13 : fx_12 0 = some x_13 := by rw [hffx_12, hx_13]; rfl
  obtain ⟨x_14, hx_14⟩ : ∃ z, z = rr_11 1 := ⟨_, rfl⟩
  have hox_14 : fx_12 1 = some x_14 := by rw [hffx_12, hx_14]; rfl
  obtain ⟨x_15, hx_15⟩ : ∃ z, z = rr_11 2 := ⟨_, rfl⟩
  have hox_15 : fx_12 2 = some x_15 := by rw [hffx_12, hx_15]; rfl
  obtain ⟨x_16, hx_16⟩ : ∃ z, z = rr_11 3 := ⟨_, rfl⟩
  have hox_16 : fx_12 3 = some x_16 := by rw [hffx_12, hx_16]; rfl
  obtain ⟨x_17, hx_17⟩ : ∃ z, z = rr_11 4 := ⟨_, rfl⟩
  have hox_17 : fx_12 4 = some x_17 := by rw [hffx_12, hx_17]; rfl
  obtain ⟨x_18, hx_18⟩ : ∃ z, z = rr_11 5 := ⟨_, rfl⟩
  have hox_18 : fx_12 5 = some x_18 := by rw [hffx_12, hx_18]; rfl
  have hz9 : gPD G A [zo3q2 h0 q_1 0 0, zr G q_1 6 fx_3, zi G x_4 160 (fun _ => 0), zi G x_5 160 (fun _ => 0), zi G x_6 160 (fun _ => 0), zi G x_7 160 (fun _ => 0), zi G x_8 160 (fun _ => 0), zi G x_9 160 (fun _ => 0), zr G q_10 6 fx_12, zi G x_13 3 (fun _ => 0), zi G x_14 3 (fun _ => 0), zi G x_15 3 (fun _ => 0), zi G x_16 3 (fun _ => 0), zi G x_17 3 (fun _ => 0), zi G x_18 3 (fun _ => 0)] H := ⟨by rw [hx_13, hx_14, hx_15, hx_16, hx_17, hx_18]; exact hP, by rw [hx_13, hx_14, hx_15, hx_16, hx_17, hx_18]; exact hD⟩
  have hP := hz9.1
  have hD := hz9.2
  refine va_putF (D := G.1) (ci := 3) (v := .ref q_10) (ty := .array (.array .int)) (C := RX3) (T := TX3) (N := 5) hx hb hts hiX3 tyX3 tyX3_ok nmX3 hown hK hP hD hS 0 rfl rfl 1 (by decide +kernel) kf16 (fun _ h9 => h9) rfl hin rfl (by decide +kernel) rfl rfl (Nat.le_of_ble_eq_true rfl) dX3_init_25 (fun H locs hP hD hS => ?_)
  have hz9 : gPD G A [zo3q3 h0 q_1 q_10 0 0, zr G q_1 6 fx_3, zi G x_4 160 (fun _ => 0), zi G x_5 160 (fun _ => 0), zi G x_6 160 (fun _ => 0), zi G x_7 160 (fun _ => 0), zi G x_8 160 (fun _ => 0), zi G x_9 160 (fun _ => 0), zr G q_10 6 fx_12, zi G x_13 3 (fun _ => 0), zi G x_14 3 (fun _ => 0), zi G x_15 3 (fun _ => 0), zi G x_16 3 (fun _ => 0), zi G x_17 3 (fun _ => 0), zi G x_18 3 (fun _ => 0)] H := ⟨hP, hD⟩
  have hP := hz9.1
  have hD := hz9.2
  refine lv_aload_n hx hb dX3_init_28 rfl (lv_at hl 0 rfl) ?_
  refine lv_bipush (v := 32) hx hb dX3_init_29 (by decide +kernel) ?_
  refine g_newI hx hb (hts (.arrayClass .int) (by decide +kernel)) hK hP hD hS hA (n := 32) (N' := 32) (by decide +kernel) (by decide +kernel) (Nat.le_of_ble_eq_true rfl) (Nat.le_of_ble_eq_true rfl) (Nat.le_of_ble_eq_true rfl) dX3_init_31 (fun q_19 H hP hD hS => ?_)
  have hz9 : gPD G A [zo3q3 h0 q_1 q_10 0 0, zr G q_1 6 fx_3, zi G x_4 160 (fun _ => 0), zi G x_5 160 (fun _ => 0), zi G x_6 160 (fun _ => 0), zi G x_7 160 (fun _ => 0), zi G x_8 160 (fun _ => 0), zi G x_9 160 (fun _ => 0), zr G q_10 6 fx_12, zi G x_13 3 (fun _ => 0), zi G x_14 3 (fun _ => 0), zi G x_15 3 (fun _ => 0), zi G x_16 3 (fun _ => 0), zi G x_17 3 (fun _ => 0), zi G x_18 3 (fun _ => 0), zi G q_19 32 (fun _ => 0)] H := ⟨hP, hD⟩
  have hP := hz9.1
  have hD := hz9.2
  refine va_putF (D := G.1) (ci := 3) (v := .ref q_19) (ty := .array .int) (C := RX3) (T := TX3) (N := 5) hx hb hts hiX3 tyX3 tyX3_ok nmX3 hown hK hP hD hS 0 rfl rfl 2 (by decide +kernel) kf19 (fun _ h9 => h9) rfl hin rfl (by decide +kernel) rfl rfl (Nat.le_of_ble_eq_true rfl) dX3_init_33 (fun H locs hP hD hS => ?_)
  have hz9 : gPD G A [zo3 h0 q_1 q_10 q_19 0 0, zr G q_1 6 fx_3, zi G x_4 160 (fun _ => 0), zi G x_5 160 (fun _ => 0), zi G x_6 160 (fun _ => 0), zi G x_7 160 (fun _ => 0), zi G x_8 160 (fun _ => 0), zi G x_9 160 (fun _ => 0), zr G q_10 6 fx_12, zi G x_13 3 (fun _ => 0), zi G x_14 3 (fun _ => 0), zi G x_15 3 (fun _ => 0), zi G x_16 3 (fun _ => 0), zi G x_17 3 (fun _ => 0), zi G x_18 3 (fun _ => 0), zi G q_19 32 (fun _ => 0)] H := ⟨hP, hD⟩
  have hP := hz9.1
  have hD := hz9.2
  refine W.widen (k := 15) (n := 1022) (by omega) (by omega) ?_
  have hP9 := hP.sub (ws' := [zo3 h0 q_1 q_10 q_19 0 0, zr G q_1 6 fx_3, zi G x_4 160 (fun _ => 0), zi G x_5 160 (fun _ => 0), zi G x_6 160 (fun _ => 0), zi G x_7 160 (fun _ => 0), zi G x_8 160 (fun _ => 0), zi G x_9 160 (fun _ => 0), zr G q_10 6 fx_12, zi G x_13 3 (fun _ => 0), zi G x_14 3 (fun _ => 0), zi G x_15 3 (fun _ => 0), zi G x_16 3 (fun _ => 0), zi G x_17 3 (fun _ => 0), zi G x_18 3 (fun _ => 0), zi G q_19 32 (fun _ => 0)]) [0, 1, 2, 3, 4, 5, 6, 7, 8, 9, 10, 11, 12, 13, 14, 15] rfl
  have hD9 := hD.sub (ws' := [zo3 h0 q_1 q_10 q_19 0 0, zr G q_1 6 fx_3, zi G x_4 160 (fun _ => 0), zi G x_5 160 (fun _ => 0), zi G x_6 160 (fun _ => 0), zi G x_7 160 (fun _ => 0), zi G x_8 160 (fun _ => 0), zi G x_9 160 (fun _ => 0), zr G q_10 6 fx_12, zi G x_13 3 (fun _ => 0), zi G x_14 3 (fun _ => 0), zi G x_15 3 (fun _ => 0), zi G x_16 3 (fun _ => 0), zi G x_17 3 (fun _ => 0), zi G x_18 3 (fun _ => 0), zi G q_19 32 (fun _ => 0)]) [0, 1, 2, 3, 4, 5, 6, 7, 8, 9, 10, 11, 12, 13, 14, 15] (by decide +kernel) rfl
  have hpost : (fun (u : Nat × Nat × Nat × (Nat → Option Nat) × (Nat → Option Nat) × Nat × Nat × Nat × Nat × Nat × Nat × Nat × Nat × Nat × Nat × Nat × Nat) => match u with | (qc, qe, qs, fc, fe, c0, c1, c2, c3, c4, c5, e0, e1, e2, e3, e4, e5) => fc 0 = some c0 ∧ fc 1 = some c1 ∧ fc 2 = some c2 ∧ fc 3 = some c3 ∧ fc 4 = some c4 ∧ fc 5 = some c5 ∧ fe 0 = some e0 ∧ fe 1 = some e1 ∧ fe 2 = some e2 ∧ fe 3 = some e3 ∧ fe 4 = some e4 ∧ fe 5 = some e5) (q_1, q_10, q_19, fx_3, fx_12, x_4, x_5, x_6, x_7, x_8, x_9, x_13, x_14, x_15, x_16, x_17, x_18) := ⟨by assumption, by assumption, by assumption, by assumption, by assumption, by assumption, by assumption, by assumption, by assumption, by assumption, by assumption, by assumption⟩
  exact W.vret hx hb hr (fun t ht hW => ⟨⟨(q_1, q_10, q_19, fx_3, fx_12, x_4, x_5, x_6, x_7, x_8, x_9, x_13, x_14, x_15, x_16, x_17, x_18), rfl, hpost, by rw [ht]; exact hP9, va_K.moved hW.alike hK, hD9⟩, hS.F ht⟩) hS.2.2 dX3_init_36
abbrev q_X4_init_g (G : gG) (E : gS) (h0 : Nat) (A : Nat → Prop) : Array Value → State → Outcome → State → Prop := va_Qv (fun (u : Nat × Nat × (Nat → Option Nat) × Nat × Nat × Nat × Nat × Nat × Nat) => match u with | (qw, qr, fw, w0, w1, w2, w3, w4, w5) => fw 0 = some w0 ∧ fw 1 = some w1 ∧ fw 2 = some w2 ∧ fw 3 = some w3 ∧ fw 4 = some w4 ∧ fw 5 = some w5) (fun (u : Nat × Nat × (Nat → Option Nat) × Nat × Nat × Nat × Nat × Nat × Nat) t => match u with | (qw, qr, fw, w0, w1, w2, w3, w4, w5) => va_P G.1 vwCl [zo4 h0 qw qr, zr G qw 6 fw, zi G w0 6 (fun _ => 0), zi G w1 6 (fun _ => 0), zi G w2 6 (fun _ => 0), zi G w3 6 (fun _ => 0), zi G w4 6 (fun _ => 0), zi G w5 6 (fun _ => 0), zi G qr 64 (fun _ => 0)] t.heap ∧ gK G t ∧ va_D A [zo4 h0 qw qr, zr G qw 6 fw, zi G w0 6 (fun _ => 0), zi G w1 6 (fun _ => 0), zi G w2 6 (fun _ => 0), zi G w3 6 (fun _ => 0), zi G w4 6 (fun _ => 0), zi G w5 6 (fun _ => 0), zi G qr 64 (fun _ => 0)]) A
set_option maxHeartbeats 4000000 in
set_option maxRecDepth 100000 in
theorem c_X4_init_g (l : Launch) (G : gG) (E : gS) (h0 : Nat) (sz : Nat) : Met l yX4_init wsX4_init ({ frames := 1, cells := 8, slots := 106, locals := 20 }) (gPreE G E [.ref h0] [zo4q1 h0] sz) (q_X4_init_g G E h0 (va_A [zo4q1 h0] sz)) 8 106 (va_A [zo4q1 h0] sz) := by
  refine Met.ofW (cc := cX4_init) (maxL := 1) (ret := none) (by decide +kernel) rfl ?_
  intro p e s m args below meth c s₁ B hml hv
  obtain ⟨rfl, hsz, hP, hK, hD0, hE⟩ := hv
  have hx := B.exec
  have hb := B.bytes
  have hr := B.returns
  have hts := atoms_spec (ws := wsX4_init) B.pre
  have hown : s.vm.findClass RX4 = some m.cls := findClass_of_methodNamed B.named
  have hlocks := B.notSynchronized
  have hin : meth.name = "<init>" := (name_of_methodNamed B.named B.method).1
  subst hsz
  have hD := hD0.self (sz := s.heap.size)
  generalize hAe : va_A [zo4q1 h0] s.heap.size = A at hD hE ⊢
  have hA : ∀ q : Nat, s.heap.size ≤ q → A q := fun q h => by rw [← hAe]; exact Or.inr h
  have hS : va_S A s.heap s.heap [] := va_S.rf
  have hz9 : gPD G A [zo4q1 h0] s.heap := ⟨hP, hD⟩
  have hP := hz9.1
  have hD := hz9.2
  have hl := lv_entry ([.ref h0]) (n := 1) (Nat.le_of_ble_eq_true rfl)
  rw [lg_entry_eq]
  generalize (lg_sl ([.ref h0]) ++ List.replicate (1 - (lg_sl ([.ref h0])).length) Slot.unset).toArray = ls at hl ⊢
  have hl : lv_has ls 1 [zR 0 h0] := hl
  have kf11 := hts (.fieldLink RX4 11 "PebbleInShoe$Turns" "weights" "[[I") (by decide +kernel)
  have hiX4 := (by decide +kernel : ∀ w ∈ wsX40, w ∈ wsX4_init)
  have kf16 := hts (.fieldLink RX4 16 "PebbleInShoe$Turns" "rest" "[I") (by decide +kernel)
  refine lv_aload_n hx hb dX4_init_0 rfl (lv_at hl 0 rfl) ?_
  refine W.objInit hx hb hown (hts (.methodLink RX4 3 objectInit) (by decide +kernel)) (hts (.instanceMethod objectInit) (by decide +kernel)) (hts (.code objectInit ⟨#[0xb1]⟩ 1 none) (by decide +kernel)) rfl (by rw [hml]; exact hl.1) rfl dX4_init_1 (Nat.le_of_ble_eq_true rfl) (Nat.le_of_ble_eq_true rfl) ?_
  refine W.eq (g2 := F0 m 4 ls []) rfl ?_
  refine lv_aload_n hx hb dX4_init_4 rfl (lv_at hl 0 rfl) ?_
  refine lv_bipush (v := 6) hx hb dX4_init_5 (by decide +kernel) ?_
  refine lv_bipush (v := 6) hx hb dX4_init_7 (by decide +kernel) ?_
  refine g_newG hx hb hown (hts (.classLink RX4 9 "[[I") (by decide +kernel)) hE.2.2.2.2.2.2.2 (hts (.arrayClass .int) (by decide +kernel)) hK hP hD hS hA (n := 6) (k := 6) (N' := 6) (K' := 6) (by decide +kernel) (by decide +kernel) (by decide +kernel) (by decide +kernel) (Nat.le_of_ble_eq_true rfl) (Nat.le_of_ble_eq_true rfl) (Nat.le_of_ble_eq_true rfl) (Nat.le_of_ble_eq_true rfl) (Nat.le_of_ble_eq_true rfl) dX4_init_9 (fun q_1 rr_2 H hP hD hS => ?_)
  obtain ⟨fx_3, hffx_3⟩ : ∃ g : Nat → Option Nat, g = fun i => if i < 6 then some (rr_2 i) else none := ⟨_, rfl⟩
  rw [← hffx_3] at hP hD
  obtain ⟨x_4, hx_4⟩ : ∃ z, z = rr_2 0 := ⟨_, rfl⟩
  have hox_4 : fx_3 0 = some x_4 := by rw [hffx_3, hx_4]; rfl
  obtain ⟨x_5, hx_5⟩ : ∃ z, z = rr_2 1 := ⟨_, rfl⟩
  have hox_5 : fx_3 1 = some x_5 := by rw [hffx_3, hx_5]; rfl
  obtain ⟨x_6, hx_6⟩ : ∃ z, z = rr_2 2 := ⟨_, rfl⟩
  have hox_6 : fx_3 2 = some x_6 := by rw [hffx_3, hx_6]; rfl
  obtain ⟨x_7, hx_7⟩ : ∃ z, z = rr_2 3 := ⟨_, rfl⟩
  have hox_7 : fx_3 3 = some x_7 := by rw [hffx_3, hx_7]; rfl
  obtain ⟨x_8, hx_8⟩ : ∃ z, z = rr_2 4 := ⟨_, rfl⟩
  have hox_8 : fx_3 4 = some x_8 := by rw [hffx_3, hx_8]; rfl
  obtain ⟨x_9, hx_9⟩ : ∃ z, z = rr_2 5 := ⟨_, rfl⟩
  have hox_9 : fx_3 5 = some x_9 := by rw [hffx_3, hx_9]; rfl
  have hz9 : gPD G A [zo4q1 h0, zr G q_1 6 fx_3, zi G x_4 6 (fun _ => 0), zi G x_5 6 (fun _ => 0), zi G x_6 6 (fun _ => 0), zi G x_7 6 (fun _ => 0), zi G x_8 6 (fun _ => 0), zi G x_9 6 (fun _ => 0)] H := ⟨by rw [hx_4, hx_5, hx_6, hx_7, hx_8, hx_9]; exact hP, by rw [hx_4, hx_5, hx_6, hx_7, hx_8, hx_9]; exact hD⟩
  have hP := hz9.1
  have hD := hz9.2
  refine va_putF (D := G.1) (ci := 4) (v := .ref q_1) (ty := .array (.array .int)) (C := RX4) (T := TX4) (N := 2) hx hb hts hiX4 tyX4 tyX4_ok nmX4 hown hK hP hD hS 0 rfl rfl 0 (by decide +kernel) kf11 (fun _ h9 => h9) rfl hin rfl (by decide +kernel) rfl rfl (Nat.le_of_ble_eq_true rfl) dX4_init_13 (fun H locs hP hD hS => ?_)
  have hz9 : gPD G A [zo4q2 h0 q_1, zr G q_1 6 fx_3, zi G x_4 6 (fun _ => 0), zi G x_5 6 (fun _ => 0), zi G x_6 6 (fun _ => 0), zi G x_7 6 (fun _ => 0), zi G x_8 6 (fun _ => 0), zi G x_9 6 (fun _ => 0)] H := ⟨hP, hD⟩
  have hP := hz9.1
  have hD := hz9.2
  refine lv_aload_n hx hb dX4_init_16 rfl (lv_at hl 0 rfl) ?_
  refine lv_bipush (v := 64) hx hb dX4_init_17 (by decide +kernel) ?_
  refine g_newI hx hb (hts (.arrayClass .int) (by decide +kernel)) hK hP hD hS hA (n := 64) (N' := 64) (by decide +kernel) (by decide +kernel) (Nat.le_of_ble_eq_true rfl) (Nat.le_of_ble_eq_true rfl) (Nat.le_of_ble_eq_true rfl) dX4_init_19 (fun q_10 H hP hD hS => ?_)
  have hz9 : gPD G A [zo4q2 h0 q_1, zr G q_1 6 fx_3, zi G x_4 6 (fun _ => 0), zi G x_5 6 (fun _ => 0), zi G x_6 6 (fun _ => 0), zi G x_7 6 (fun _ => 0), zi G x_8 6 (fun _ => 0), zi G x_9 6 (fun _ => 0), zi G q_10 64 (fun _ => 0)] H := ⟨hP, hD⟩
  have hP := hz9.1
  have hD := hz9.2
  refine va_putF (D := G.1) (ci := 4) (v := .ref q_10) (ty := .array .int) (C := RX4) (T := TX4) (N := 2) hx hb hts hiX4 tyX4 tyX4_ok nmX4 hown hK hP hD hS 0 rfl rfl 1 (by decide +kernel) kf16 (fun _ h9 => h9) rfl hin rfl (by decide +kernel) rfl rfl (Nat.le_of_ble_eq_true rfl) dX4_init_21 (fun H locs hP hD hS => ?_)
  have hz9 : gPD G A [zo4 h0 q_1 q_10, zr G q_1 6 fx_3, zi G x_4 6 (fun _ => 0), zi G x_5 6 (fun _ => 0), zi G x_6 6 (fun _ => 0), zi G x_7 6 (fun _ => 0), zi G x_8 6 (fun _ => 0), zi G x_9 6 (fun _ => 0), zi G q_10 64 (fun _ => 0)] H := ⟨hP, hD⟩
  have hP := hz9.1
  have hD := hz9.2
  refine W.widen (k := 8) (n := 106) (by omega) (by omega) ?_
  have hP9 := hP.sub (ws' := [zo4 h0 q_1 q_10, zr G q_1 6 fx_3, zi G x_4 6 (fun _ => 0), zi G x_5 6 (fun _ => 0), zi G x_6 6 (fun _ => 0), zi G x_7 6 (fun _ => 0), zi G x_8 6 (fun _ => 0), zi G x_9 6 (fun _ => 0), zi G q_10 64 (fun _ => 0)]) [0, 1, 2, 3, 4, 5, 6, 7, 8] rfl
  have hD9 := hD.sub (ws' := [zo4 h0 q_1 q_10, zr G q_1 6 fx_3, zi G x_4 6 (fun _ => 0), zi G x_5 6 (fun _ => 0), zi G x_6 6 (fun _ => 0), zi G x_7 6 (fun _ => 0), zi G x_8 6 (fun _ => 0), zi G x_9 6 (fun _ => 0), zi G q_10 64 (fun _ => 0)]) [0, 1, 2, 3, 4, 5, 6, 7, 8] (by decide +kernel) rfl
  have hpost : (fun (u : Nat × Nat × (Nat → Option Nat) × Nat × Nat × Nat × Nat × Nat × Nat) => match u with | (qw, qr, fw, w0, w1, w2, w3, w4, w5) => fw 0 = some w0 ∧ fw 1 = some w1 ∧ fw 2 = some w2 ∧ fw 3 = some w3 ∧ fw 4 = some w4 ∧ fw 5 = some w5) (q_1, q_10, fx_3, x_4, x_5, x_6, x_7, x_8, x_9) := ⟨by assumption, by assumption, by assumption, by assumption, by assumption, by assumption⟩
  exact W.vret hx hb hr (fun t ht hW => ⟨⟨(q_1, q_10, fx_3, x_4, x_5, x_6, x_7, x_8, x_9), rfl, hpost, by rw [ht]; exact hP9, va_K.moved hW.alike hK, hD9⟩, hS.F ht⟩) hS.2.2 dX4_init_24
abbrev q_X5_init_g (G : gG) (E : gS) (h0 : Nat) (A : Nat → Prop) : Array Value → State → Outcome → State → Prop := va_Qv (fun (u : Nat × Nat × Nat × Nat × Nat × Nat × Nat × Nat × Nat × Nat × Nat × Nat × Nat × Nat × Nat × Nat × Nat × Nat × Nat × Nat × Nat × Nat × Nat × Nat × Nat × Nat × Nat × Nat × Nat × Nat × Nat × Nat × Nat × Nat × Nat × Nat × Nat × Nat × Nat × Nat × Nat × Nat × Nat × Nat × Nat × Nat × Nat × Nat × Nat × Nat × Nat × Nat × Nat × Nat × Nat × Nat × Nat × Nat × Nat × Nat × Nat × Nat × (Nat → Option Nat) × (Nat → Option Nat) × (Nat → Option Nat) × (Nat → Option Nat) × Nat × Int32 × Nat × Int32 × Nat × (Nat → Int32) × (Nat → Nat) × Nat) => match u with | (tt, rd, nw, th, kp, sh, tu, b0, co, en, sk, n1, n2, n3, n4, n5, n6, n7, n8, t1, t2, t3, t4, t5, t6, t7, t8, k1, k2, k3, k4, k5, k6, k7, k8, qn, qo, ql, tw, tr, r0, r1, r2, r3, c0, c1, c2, c3, c4, c5, e0, e1, e2, e3, e4, e5, w0, w1, w2, w3, w4, w5, fc, fe, fn, fw, za, zt, zp, zm, zw, yct, yet, ztx) => fn 0 = some r0 ∧ fn 1 = some r1 ∧ fn 2 = some r2 ∧ fn 3 = some r3 ∧ fc 0 = some c0 ∧ fc 1 = some c1 ∧ fc 2 = some c2 ∧ fc 3 = some c3 ∧ fc 4 = some c4 ∧ fc 5 = some c5 ∧ fe 0 = some e0 ∧ fe 1 = some e1 ∧ fe 2 = some e2 ∧ fe 3 = some e3 ∧ fe 4 = some e4 ∧ fe 5 = some e5 ∧ fw 0 = some w0 ∧ fw 1 = some w1 ∧ fw 2 = some w2 ∧ fw 3 = some w3 ∧ fw 4 = some w4 ∧ fw 5 = some w5 ∧ ∃ r9, gRead (gPf tB 40) 40 0 ((0, 0, 0, 0, 0, fun _ => 0), fun _ => 0) r9 ztx ((za, zt, zp, zm, zw, yct), yet)) (fun (u : Nat × Nat × Nat × Nat × Nat × Nat × Nat × Nat × Nat × Nat × Nat × Nat × Nat × Nat × Nat × Nat × Nat × Nat × Nat × Nat × Nat × Nat × Nat × Nat × Nat × Nat × Nat × Nat × Nat × Nat × Nat × Nat × Nat × Nat × Nat × Nat × Nat × Nat × Nat × Nat × Nat × Nat × Nat × Nat × Nat × Nat × Nat × Nat × Nat × Nat × Nat × Nat × Nat × Nat × Nat × Nat × Nat × Nat × Nat × Nat × Nat × Nat × (Nat → Option Nat) × (Nat → Option Nat) × (Nat → Option Nat) × (Nat → Option Nat) × Nat × Int32 × Nat × Int32 × Nat × (Nat → Int32) × (Nat → Nat) × Nat) t => match u with | (tt, rd, nw, th, kp, sh, tu, b0, co, en, sk, n1, n2, n3, n4, n5, n6, n7, n8, t1, t2, t3, t4, t5, t6, t7, t8, k1, k2, k3, k4, k5, k6, k7, k8, qn, qo, ql, tw, tr, r0, r1, r2, r3, c0, c1, c2, c3, c4, c5, e0, e1, e2, e3, e4, e5, w0, w1, w2, w3, w4, w5, fc, fe, fn, fw, za, zt, zp, zm, zw, yct, yet, ztx) => va_P G.1 vwCl [zo5 h0 tt rd nw th kp sh tu 0, zo1 rd tt b0 (nI za) zt (nI zp) zm 0, zi G b0 160 (gPf tB 40), zo3 tt co en sk (nI zw) (nI ztx), zr G co 6 fc, zi G c0 160 yct, zi G c1 160 (fun _ => 0), zi G c2 160 (fun _ => 0), zi G c3 160 (fun _ => 0), zi G c4 160 (fun _ => 0), zi G c5 160 (fun _ => 0), zr G en 6 fe, zi G e0 3 (nF yet), zi G e1 3 (fun _ => 0), zi G e2 3 (fun _ => 0), zi G e3 3 (fun _ => 0), zi G e4 3 (fun _ => 0), zi G e5 3 (fun _ => 0), zi G sk 32 (fun _ => 0), zo0 nw tt n1 n2 n3 n4 n5 n6 n7 n8 0 0 0, zi G n1 6 (fun _ => 0), zi G n2 4 (fun _ => 0), zi G n3 4 (fun _ => 0), zi G n4 4 (fun _ => 0), zi G n5 6 (fun _ => 0), zi G n6 6 (fun _ => 0), zi G n7 6 (fun _ => 0), zi G n8 6 (fun _ => 0), zo0 th tt t1 t2 t3 t4 t5 t6 t7 t8 0 0 0, zi G t1 6 (fun _ => 0), zi G t2 4 (fun _ => 0), zi G t3 4 (fun _ => 0), zi G t4 4 (fun _ => 0), zi G t5 6 (fun _ => 0), zi G t6 6 (fun _ => 0), zi G t7 6 (fun _ => 0), zi G t8 6 (fun _ => 0), zo0 kp tt k1 k2 k3 k4 k5 k6 k7 k8 0 0 0, zi G k1 6 (fun _ => 0), zi G k2 4 (fun _ => 0), zi G k3 4 (fun _ => 0), zi G k4 4 (fun _ => 0), zi G k5 6 (fun _ => 0), zi G k6 6 (fun _ => 0), zi G k7 6 (fun _ => 0), zi G k8 6 (fun _ => 0), zo2 sh qn qo ql, zr G qn 4 fn, zi G r0 40 (fun _ => 0), zi G r1 40 (fun _ => 0), zi G r2 40 (fun _ => 0), zi G r3 40 (fun _ => 0), zi G qo 4 (gFl (-1) (fun _ => 0) 4), zi G ql 4 (fun _ => 0), zo4 tu tw tr, zr G tw 6 fw, zi G w0 6 (fun _ => 0), zi G w1 6 (fun _ => 0), zi G w2 6 (fun _ => 0), zi G w3 6 (fun _ => 0), zi G w4 6 (fun _ => 0), zi G w5 6 (fun _ => 0), zi G tr 64 (fun _ => 0)] t.heap ∧ gK G t ∧ va_D A [zo5 h0 tt rd nw th kp sh tu 0, zo1 rd tt b0 (nI za) zt (nI zp) zm 0, zi G b0 160 (gPf tB 40), zo3 tt co en sk (nI zw) (nI ztx), zr G co 6 fc, zi G c0 160 yct, zi G c1 160 (fun _ => 0), zi G c2 160 (fun _ => 0), zi G c3 160 (fun _ => 0), zi G c4 160 (fun _ => 0), zi G c5 160 (fun _ => 0), zr G en 6 fe, zi G e0 3 (nF yet), zi G e1 3 (fun _ => 0), zi G e2 3 (fun _ => 0), zi G e3 3 (fun _ => 0), zi G e4 3 (fun _ => 0), zi G e5 3 (fun _ => 0), zi G sk 32 (fun _ => 0), zo0 nw tt n1 n2 n3 n4 n5 n6 n7 n8 0 0 0, zi G n1 6 (fun _ => 0), zi G n2 4 (fun _ => 0), zi G n3 4 (fun _ => 0), zi G n4 4 (fun _ => 0), zi G n5 6 (fun _ => 0), zi G n6 6 (fun _ => 0), zi G n7 6 (fun _ => 0), zi G n8 6 (fun _ => 0), zo0 th tt t1 t2 t3 t4 t5 t6 t7 t8 0 0 0, zi G t1 6 (fun _ => 0), zi G t2 4 (fun _ => 0), zi G t3 4 (fun _ => 0), zi G t4 4 (fun _ => 0), zi G t5 6 (fun _ => 0), zi G t6 6 (fun _ => 0), zi G t7 6 (fun _ => 0), zi G t8 6 (fun _ => 0), zo0 kp tt k1 k2 k3 k4 k5 k6 k7 k8 0 0 0, zi G k1 6 (fun _ => 0), zi G k2 4 (fun _ => 0), zi G k3 4 (fun _ => 0), zi G k4 4 (fun _ => 0), zi G k5 6 (fun _ => 0), zi G k6 6 (fun _ => 0), zi G k7 6 (fun _ => 0), zi G k8 6 (fun _ => 0), zo2 sh qn qo ql, zr G qn 4 fn, zi G r0 40 (fun _ => 0), zi G r1 40 (fun _ => 0), zi G r2 40 (fun _ => 0), zi G r3 40 (fun _ => 0), zi G qo 4 (gFl (-1) (fun _ => 0) 4), zi G ql 4 (fun _ => 0), zo4 tu tw tr, zr G tw 6 fw, zi G w0 6 (fun _ => 0), zi G w1 6 (fun _ => 0), zi G w2 6 (fun _ => 0), zi G w3 6 (fun _ => 0), zi G w4 6 (fun _ => 0), zi G w5 6 (fun _ => 0), zi G tr 64 (fun _ => 0)]) A
set_option maxHeartbeats 4000000 in
set_option maxRecDepth 100000 in
theorem c_X5_init_g (l : Launch) (G : gG) (E : gS) (h0 : Nat) (sz : Nat) : Met l yX5_init wsX5_init ({ frames := 45, cells := 62, slots := 1639, locals := 982 }) (gPreE G E [.ref h0] [zo5q1 h0 0] sz) (q_X5_init_g G E h0 (va_A [zo5q1 h0 0] sz)) 62 1639 (va_A [zo5q1 h0 0] sz) := by
  refine Met.ofW (cc := cX5_init) (maxL := 2) (ret := none) (by decide +kernel) rfl ?_
  intro p e s m args below meth c s₁ B hml hv
  obtain ⟨rfl, hsz, hP, hK, hD0, hE⟩ := hv
  have hx := B.exec
  have hb := B.bytes
  have hr := B.returns
  have hts := atoms_spec (ws := wsX5_init) B.pre
  have hown : s.vm.findClass RX5 = some m.cls := findClass_of_methodNamed B.named
  have hlocks := B.notSynchronized
  have hin : meth.name = "<init>" := (name_of_methodNamed B.named B.method).1
  subst hsz
  have hD := hD0.self (sz := s.heap.size)
  generalize hAe : va_A [zo5q1 h0 0] s.heap.size = A at hD hE ⊢
  have hA : ∀ q : Nat, s.heap.size ≤ q → A q := fun q h => by rw [← hAe]; exact Or.inr h
  have hS : va_S A s.heap s.heap [] := va_S.rf
  have hz9 : gPD G A [zo5q1 h0 0] s.heap := ⟨hP, hD⟩
  have hP := hz9.1
  have hD := hz9.2
  have hl := lv_entry ([.ref h0]) (n := 2) (Nat.le_of_ble_eq_true rfl)
  rw [lg_entry_eq]
  generalize (lg_sl ([.ref h0]) ++ List.replicate (2 - (lg_sl ([.ref h0])).length) Slot.unset).toArray = ls at hl ⊢
  have hl : lv_has ls 2 [zR 0 h0] := hl
  have hiX3 := (by decide +kernel : ∀ w ∈ wsX30, w ∈ wsX5_init)
  have kf10 := hts (.fieldLink RX5 10 "PebbleInShoe" "texts" "LPebbleInShoe$Texts;") (by decide +kernel)
  have hiX5 := (by decide +kernel : ∀ w ∈ wsX50, w ∈ wsX5_init)
  have hiX1 := (by decide +kernel : ∀ w ∈ wsX10, w ∈ wsX5_init)
  have kf21 := hts (.fieldLink RX5 21 "PebbleInShoe" "tape" "LPebbleInShoe$Reader;") (by decide +kernel)
  have hiX0 := (by decide +kernel : ∀ w ∈ wsX00, w ∈ wsX5_init)
  have kf28 := hts (.fieldLink RX5 28 "PebbleInShoe" "now" "LPebbleInShoe$Court;") (by decide +kernel)
  have kf32 := hts (.fieldLink RX5 32 "PebbleInShoe" "thought" "LPebbleInShoe$Court;") (by decide +kernel)
  have kf35 := hts (.fieldLink RX5 35 "PebbleInShoe" "kept" "LPebbleInShoe$Court;") (by decide +kernel)
  have hiX2 := (by decide +kernel : ∀ w ∈ wsX20, w ∈ wsX5_init)
  have kf41 := hts (.fieldLink RX5 41 "PebbleInShoe" "rows" "LPebbleInShoe$Sheets;") (by decide +kernel)
  have hiX4 := (by decide +kernel : ∀ w ∈ wsX40, w ∈ wsX5_init)
  have kf48 := hts (.fieldLink RX5 48 "PebbleInShoe" "turns" "LPebbleInShoe$Turns;") (by decide +kernel)
  refine lv_aload_n hx hb dX5_init_0 rfl (lv_at hl 0 rfl) ?_
  refine W.objInit hx hb hown (hts (.methodLink RX5 1 objectInit) (by decide +kernel)) (hts (.instanceMethod objectInit) (by decide +kernel)) (hts (.code objectInit ⟨#[0xb1]⟩ 1 none) (by decide +kernel)) rfl (by rw [hml]; exact hl.1) rfl dX5_init_1 (Nat.le_of_ble_eq_true rfl) (Nat.le_of_ble_eq_true rfl) ?_
  refine W.eq (g2 := F0 m 4 ls []) rfl ?_
  refine lv_aload_n hx hb dX5_init_4 rfl (lv_at hl 0 rfl) ?_
  refine va_new (D := G.1) (ci := 3) (fs := [.null, .null, .null, .int 0, .int 0]) (C := RX3) (T := TX3) (N := 5) hx hb hts hiX3 tyX3 tyX3_ok hown (hts (.classLink RX5 7 RX3) (by decide +kernel)) (hts (.instantiable RX3 5) (by decide +kernel)) (hts (.initialized RX3) (by decide +kernel)) hK hP hD hS hA rfl (by decide +kernel) (Nat.le_of_ble_eq_true rfl) (Nat.le_of_ble_eq_true rfl) dX5_init_5 (fun q_1 H hP hD hS => ?_)
  have hz9 : gPD G A [zo5q1 h0 0, zo3q1 q_1 0 0] H := ⟨hP, hD⟩
  have hP := hz9.1
  have hD := hz9.2
  refine lv_dup hx hb dX5_init_8 rfl ?_
  have hz9 : gPD G A [zo3q1 q_1 0 0] H := ⟨hP.sub [1] rfl, hD.sub [1] (by decide +kernel) rfl⟩
  have hPc := hz9.1
  have hDc := hz9.2
  have hFc := gFree hPc hD hS hA [1] rfl
  refine va_callv (va_runIN (As := []) (rest := [.ref q_1, .ref h0]) ⟨hx, hb, hml, hown, hts⟩ (c_X3_init_g l G E q_1 H.size) ⟨va_cnB 0 hts gX5_init_X3_init_n9 rfl rfl rfl hE.2.2.2.2.2.1 (hts (.initialized RX3) (by decide +kernel)) (by decide +kernel) ⟨Nat.le_of_ble_eq_true rfl, Nat.le_of_ble_eq_true rfl⟩, rfl, hts (.instanceMethod yX3_init) (by decide +kernel)⟩ ⟨gPreE_blind, fun U hU hW => gPreE_of hU hW hK hPc hDc hE hS hFc⟩ rfl rfl hl.1 rfl (lv_room (Nat.le_of_ble_eq_true rfl)) dX5_init_9 ⟨Nat.le_of_ble_eq_true rfl, Nat.le_of_ble_eq_true rfl⟩) hS (fun q _ h => hFc q h) hFc (fun u t H locs ht hvm w_3 hB hz1 hk1 hS => ?_)
  obtain ⟨qc_4, qe_5, qs_6, fc_7, fe_8, c0_9, c1_10, c2_11, c3_12, c4_13, c5_14, e0_15, e1_16, e2_17, e3_18, e4_19, e5_20⟩ := u
  obtain ⟨hP1, hK1, hD1⟩ := hB
  rw [ht] at hP1
  have hz9 : gPD G (va_A _ _) [zo3 q_1 qc_4 qe_5 qs_6 0 0, zr G qc_4 6 fc_7, zi G c0_9 160 (fun _ => 0), zi G c1_10 160 (fun _ => 0), zi G c2_11 160 (fun _ => 0), zi G c3_12 160 (fun _ => 0), zi G c4_13 160 (fun _ => 0), zi G c5_14 160 (fun _ => 0), zr G qe_5 6 fe_8, zi G e0_15 3 (fun _ => 0), zi G e1_16 3 (fun _ => 0), zi G e2_17 3 (fun _ => 0), zi G e3_18 3 (fun _ => 0), zi G e4_19 3 (fun _ => 0), zi G e5_20 3 (fun _ => 0), zi G qs_6 32 (fun _ => 0)] H := ⟨hP1, hD1⟩
  have hP1 := hz9.1
  have hD1 := hz9.2
  have w_3 : fc_7 0 = some c0_9 ∧ fc_7 1 = some c1_10 ∧ fc_7 2 = some c2_11 ∧ fc_7 3 = some c3_12 ∧ fc_7 4 = some c4_13 ∧ fc_7 5 = some c5_14 ∧ fe_8 0 = some e0_15 ∧ fe_8 1 = some e1_16 ∧ fe_8 2 = some e2_17 ∧ fe_8 3 = some e3_18 ∧ fe_8 4 = some e4_19 ∧ fe_8 5 = some e5_20 := w_3
  have hz9 : gPD G A [zo5q1 h0 0, zo3 q_1 qc_4 qe_5 qs_6 0 0, zr G qc_4 6 fc_7, zi G c0_9 160 (fun _ => 0), zi G c1_10 160 (fun _ => 0), zi G c2_11 160 (fun _ => 0), zi G c3_12 160 (fun _ => 0), zi G c4_13 160 (fun _ => 0), zi G c5_14 160 (fun _ => 0), zr G qe_5 6 fe_8, zi G e0_15 3 (fun _ => 0), zi G e1_16 3 (fun _ => 0), zi G e2_17 3 (fun _ => 0), zi G e3_18 3 (fun _ => 0), zi G e4_19 3 (fun _ => 0), zi G e5_20 3 (fun _ => 0), zi G qs_6 32 (fun _ => 0)] H := gJoin hP hD hk1 hFc hP1 hD1 [1] [0] rfl rfl rfl (by decide +kernel) (by decide +kernel)
  have hP := hz9.1
  have hD := hz9.2
  obtain ⟨hc0, hc1, hc2, hc3, hc4, hc5, he0, he1, he2, he3, he4, he5⟩ := w_3
  refine va_putF (D := G.1) (ci := 5) (v := .ref q_1) (ty := .object "PebbleInShoe$Texts") (C := RX5) (T := TX5) (N := 8) hx hb hts hiX5 tyX5 tyX5_ok nmX5 hown hK hP hD hS 0 rfl rfl 0 (by decide +kernel) kf10 (fun _ h9 => h9) rfl hin rfl (by decide +kernel) rfl rfl (Nat.le_of_ble_eq_true rfl) dX5_init_12 (fun H locs hP hD hS => ?_)
  have hz9 : gPD G A [zo5q2 h0 q_1 0, zo3 q_1 qc_4 qe_5 qs_6 0 0, zr G qc_4 6 fc_7, zi G c0_9 160 (fun _ => 0), zi G c1_10 160 (fun _ => 0), zi G c2_11 160 (fun _ => 0), zi G c3_12 160 (fun _ => 0), zi G c4_13 160 (fun _ => 0), zi G c5_14 160 (fun _ => 0), zr G qe_5 6 fe_8, zi G e0_15 3 (fun _ => 0), zi G e1_16 3 (fun _ => 0), zi G e2_17 3 (fun _ => 0), zi G e3_18 3 (fun _ => 0), zi G e4_19 3 (fun _ => 0), zi G e5_20 3 (fun _ => 0), zi G qs_6 32 (fun _ => 0)] H := ⟨hP, hD⟩
  have hP := hz9.1
  have hD := hz9.2
  refine lv_aload_n hx hb dX5_init_15 rfl (lv_at hl 0 rfl) ?_
  refine va_new (D := G.1) (ci := 1) (fs := [.null, .null, .int 0, .int 0, .int 0, .int 0, .int 0]) (C := RX1) (T := TX1) (N := 7) hx hb hts hiX1 tyX1 tyX1_ok hown (hts (.classLink RX5 16 RX1) (by decide +kernel)) (hts (.instantiable RX1 7) (by decide +kernel)) (hts (.initialized RX1) (by decide +kernel)) hK hP hD hS hA rfl (by decide +kernel) (Nat.le_of_ble_eq_true rfl) (Nat.le_of_ble_eq_true rfl) dX5_init_16 (fun q_21 H hP hD hS => ?_)
  have hz9 : gPD G A [zo5q2 h0 q_1 0, zo3 q_1 qc_4 qe_5 qs_6 0 0, zr G qc_4 6 fc_7, zi G c0_9 160 (fun _ => 0), zi G c1_10 160 (fun _ => 0), zi G c2_11 160 (fun _ => 0), zi G c3_12 160 (fun _ => 0), zi G c4_13 160 (fun _ => 0), zi G c5_14 160 (fun _ => 0), zr G qe_5 6 fe_8, zi G e0_15 3 (fun _ => 0), zi G e1_16 3 (fun _ => 0), zi G e2_17 3 (fun _ => 0), zi G e3_18 3 (fun _ => 0), zi G e4_19 3 (fun _ => 0), zi G e5_20 3 (fun _ => 0), zi G qs_6 32 (fun _ => 0), zo1q1 q_21 0 0 0 0 0] H := ⟨hP, hD⟩
  have hP := hz9.1
  have hD := hz9.2
  refine lv_dup hx hb dX5_init_19 rfl ?_
  refine lv_aload_n hx hb dX5_init_20 rfl (lv_at hl 0 rfl) ?_
  refine va_get (D := G.1) (ci := 5) (v := .ref q_1) (C := RX5) (T := TX5) (N := 8) hx hb hts hiX5 hown hK hP 0 rfl rfl 0 (by decide +kernel) kf10 (fun _ h9 => h9) rfl dX5_init_21 ?_
  have hz9 : gPD G A [zo1q1 q_21 0 0 0 0 0] H := ⟨hP.sub [17] rfl, hD.sub [17] (by decide +kernel) rfl⟩
  have hPc := hz9.1
  have hDc := hz9.2
  have hFc := gFree hPc hD hS hA [17] rfl
  refine va_callv (va_runI (As := [.ref q_1]) (rest := [.ref q_21, .ref h0]) ⟨hx, hb, hml, hown, hts⟩ (c_X1_init l G E q_21 q_1 H.size) (cwI 1 hts gX5_init_X1_init rfl rfl rfl (hts (.initialized RX1) (by decide +kernel)) (hts (.methodLink RX5 18 yX1_init) (by decide +kernel)) (hts (.instanceMethod yX1_init) (by decide +kernel)) rfl (by decide +kernel) ⟨Nat.le_of_ble_eq_true rfl, Nat.le_of_ble_eq_true rfl⟩) ⟨gPreE_blind, fun U hU hW => gPreE_of hU hW hK hPc hDc hE hS hFc⟩ rfl rfl hl.1 rfl (lv_room (Nat.le_of_ble_eq_true rfl)) dX5_init_24 ⟨Nat.le_of_ble_eq_true rfl, Nat.le_of_ble_eq_true rfl⟩) hS (fun q _ h => hFc q h) hFc (fun u t H locs ht hvm w_23 hB hz1 hk1 hS => ?_)
  obtain ⟨q1_24, rfl⟩ : ∃ z, z = u := ⟨_, rfl⟩
  obtain ⟨hP1, hK1, hD1⟩ := hB
  rw [ht] at hP1
  have hz9 : gPD G (va_A _ _) [zo1 q_21 q_1 q1_24 0 0 0 0 0, zi G q1_24 160 (fun _ => 0)] H := ⟨hP1, hD1⟩
  have hP1 := hz9.1
  have hD1 := hz9.2
  have hz9 : gPD G A [zo5q2 h0 q_1 0, zo3 q_1 qc_4 qe_5 qs_6 0 0, zr G qc_4 6 fc_7, zi G c0_9 160 (fun _ => 0), zi G c1_10 160 (fun _ => 0), zi G c2_11 160 (fun _ => 0), zi G c3_12 160 (fun _ => 0), zi G c4_13 160 (fun _ => 0), zi G c5_14 160 (fun _ => 0), zr G qe_5 6 fe_8, zi G e0_15 3 (fun _ => 0), zi G e1_16 3 (fun _ => 0), zi G e2_17 3 (fun _ => 0), zi G e3_18 3 (fun _ => 0), zi G e4_19 3 (fun _ => 0), zi G e5_20 3 (fun _ => 0), zi G qs_6 32 (fun _ => 0), zo1 q_21 q_1 q1_24 0 0 0 0 0, zi G q1_24 160 (fun _ => 0)] H := gJoin hP hD hk1 hFc hP1 hD1 [17] [0, 1, 2, 3, 4, 5, 6, 7, 8, 9, 10, 11, 12, 13, 14, 15, 16] rfl rfl rfl (by decide +kernel) (by decide +kernel)
  have hP := hz9.1
  have hD := hz9.2
  refine va_putF (D := G.1) (ci := 5) (v := .ref q_21) (ty := .object "PebbleInShoe$Reader") (C := RX5) (T := TX5) (N := 8) hx hb hts hiX5 tyX5 tyX5_ok nmX5 hown hK hP hD hS 0 rfl rfl 1 (by decide +kernel) kf21 (fun _ h9 => h9) rfl hin rfl (by decide +kernel) rfl rfl (Nat.le_of_ble_eq_true rfl) dX5_init_27 (fun H locs hP hD hS => ?_)
  have hz9 : gPD G A [zo5q3 h0 q_1 q_21 0, zo3 q_1 qc_4 qe_5 qs_6 0 0, zr G qc_4 6 fc_7, zi G c0_9 160 (fun _ => 0), zi G c1_10 160 (fun _ => 0), zi G c2_11 160 (fun _ => 0), zi G c3_12 160 (fun _ => 0), zi G c4_13 160 (fun _ => 0), zi G c5_14 160 (fun _ => 0), zr G qe_5 6 fe_8, zi G e0_15 3 (fun _ => 0), zi G e1_16 3 (fun _ => 0), zi G e2_17 3 (fun _ => 0), zi G e3_18 3 (fun _ => 0), zi G e4_19 3 (fun _ => 0), zi G e5_20 3 (fun _ => 0), zi G qs_6 32 (fun _ => 0), zo1 q_21 q_1 q1_24 0 0 0 0 0, zi G q1_24 160 (fun _ => 0)] H := ⟨hP, hD⟩
  have hP := hz9.1
  have hD := hz9.2
  refine lv_aload_n hx hb dX5_init_30 rfl (lv_at hl 0 rfl) ?_
  refine va_new (D := G.1) (ci := 0) (fs := [.null, .null, .null, .null, .null, .null, .null, .null, .null, .int 0, .int 0, .int 0]) (C := RX0) (T := TX0) (N := 12) hx hb hts hiX0 tyX0 tyX0_ok hown (hts (.classLink RX5 25 RX0) (by decide +kernel)) (hts (.instantiable RX0 12) (by decide +kernel)) (hts (.initialized RX0) (by decide +kernel)) hK hP hD hS hA rfl (by decide +kernel) (Nat.le_of_ble_eq_true rfl) (Nat.le_of_ble_eq_true rfl) dX5_init_31 (fun q_25 H hP hD hS => ?_)
  have hz9 : gPD G A [zo5q3 h0 q_1 q_21 0, zo3 q_1 qc_4 qe_5 qs_6 0 0, zr G qc_4 6 fc_7, zi G c0_9 160 (fun _ => 0), zi G c1_10 160 (fun _ => 0), zi G c2_11 160 (fun _ => 0), zi G c3_12 160 (fun _ => 0), zi G c4_13 160 (fun _ => 0), zi G c5_14 160 (fun _ => 0), zr G qe_5 6 fe_8, zi G e0_15 3 (fun _ => 0), zi G e1_16 3 (fun _ => 0), zi G e2_17 3 (fun _ => 0), zi G e3_18 3 (fun _ => 0), zi G e4_19 3 (fun _ => 0), zi G e5_20 3 (fun _ => 0), zi G qs_6 32 (fun _ => 0), zo1 q_21 q_1 q1_24 0 0 0 0 0, zi G q1_24 160 (fun _ => 0), zo0q1 q_25 0 0 0] H := ⟨hP, hD⟩
  have hP := hz9.1
  have hD := hz9.2
  refine lv_dup hx hb dX5_init_34 rfl ?_
  refine lv_aload_n hx hb dX5_init_35 rfl (lv_at hl 0 rfl) ?_
  refine va_get (D := G.1) (ci := 5) (v := .ref q_1) (C := RX5) (T := TX5) (N := 8) hx hb hts hiX5 hown hK hP 0 rfl rfl 0 (by decide +kernel) kf10 (fun _ h9 => h9) rfl dX5_init_36 ?_
  have hz9 : gPD G A [zo0q1 q_25 0 0 0] H := ⟨hP.sub [19] rfl, hD.sub [19] (by decide +kernel) rfl⟩
  have hPc := hz9.1
  have hDc := hz9.2
  have hFc := gFree hPc hD hS hA [19] rfl
  refine va_callv (va_runI (As := [.ref q_1]) (rest := [.ref q_25, .ref h0]) ⟨hx, hb, hml, hown, hts⟩ (c_X0_init l G E q_25 q_1 H.size) (cwI 1 hts gX5_init_X0_init rfl rfl rfl (hts (.initialized RX0) (by decide +kernel)) (hts (.methodLink RX5 27 yX0_init) (by decide +kernel)) (hts (.instanceMethod yX0_init) (by decide +kernel)) rfl (by decide +kernel) ⟨Nat.le_of_ble_eq_true rfl, Nat.le_of_ble_eq_true rfl⟩) ⟨gPreE_blind, fun U hU hW => gPreE_of hU hW hK hPc hDc hE hS hFc⟩ rfl rfl hl.1 rfl (lv_room (Nat.le_of_ble_eq_true rfl)) dX5_init_39 ⟨Nat.le_of_ble_eq_true rfl, Nat.le_of_ble_eq_true rfl⟩) hS (fun q _ h => hFc q h) hFc (fun u t H locs ht hvm w_27 hB hz1 hk1 hS => ?_)
  obtain ⟨q1_28, q2_29, q3_30, q4_31, q5_32, q6_33, q7_34, q8_35⟩ := u
  obtain ⟨hP1, hK1, hD1⟩ := hB
  rw [ht] at hP1
  have hz9 : gPD G (va_A _ _) [zo0 q_25 q_1 q1_28 q2_29 q3_30 q4_31 q5_32 q6_33 q7_34 q8_35 0 0 0, zi G q1_28 6 (fun _ => 0), zi G q2_29 4 (fun _ => 0), zi G q3_30 4 (fun _ => 0), zi G q4_31 4 (fun _ => 0), zi G q5_32 6 (fun _ => 0), zi G q6_33 6 (fun _ => 0), zi G q7_34 6 (fun _ => 0), zi G q8_35 6 (fun _ => 0)] H := ⟨hP1, hD1⟩
  have hP1 := hz9.1
  have hD1 := hz9.2
  have hz9 : gPD G A [zo5q3 h0 q_1 q_21 0, zo3 q_1 qc_4 qe_5 qs_6 0 0, zr G qc_4 6 fc_7, zi G c0_9 160 (fun _ => 0), zi G c1_10 160 (fun _ => 0), zi G c2_11 160 (fun _ => 0), zi G c3_12 160 (fun _ => 0), zi G c4_13 160 (fun _ => 0), zi G c5_14 160 (fun _ => 0), zr G qe_5 6 fe_8, zi G e0_15 3 (fun _ => 0), zi G e1_16 3 (fun _ => 0), zi G e2_17 3 (fun _ => 0), zi G e3_18 3 (fun _ => 0), zi G e4_19 3 (fun _ => 0), zi G e5_20 3 (fun _ => 0), zi G qs_6 32 (fun _ => 0), zo1 q_21 q_1 q1_24 0 0 0 0 0, zi G q1_24 160 (fun _ => 0), zo0 q_25 q_1 q1_28 q2_29 q3_30 q4_31 q5_32 q6_33 q7_34 q8_35 0 0 0, zi G q1_28 6 (fun _ => 0), zi G q2_29 4 (fun _ => 0), zi G q3_30 4 (fun _ => 0), zi G q4_31 4 (fun _ => 0), zi G q5_32 6 (fun _ => 0), zi G q6_33 6 (fun _ => 0), zi G q7_34 6 (fun _ => 0), zi G q8_35 6 (fun _ => 0)] H := gJoin hP hD hk1 hFc hP1 hD1 [19] [0, 1, 2, 3, 4, 5, 6, 7, 8, 9, 10, 11, 12, 13, 14, 15, 16, 17, 18] rfl rfl rfl (by decide +kernel) (by decide +kernel)
  have hP := hz9.1
  have hD := hz9.2
  refine va_putF (D := G.1) (ci := 5) (v := .ref q_25) (ty := .object "PebbleInShoe$Court") (C := RX5) (T := TX5) (N := 8) hx hb hts hiX5 tyX5 tyX5_ok nmX5 hown hK hP hD hS 0 rfl rfl 2 (by decide +kernel) kf28 (fun _ h9 => h9) rfl hin rfl (by decide +kernel) rfl rfl (Nat.le_of_ble_eq_true rfl) dX5_init_42 (fun H locs hP hD hS => ?_)
  have hz9 : gPD G A [zo5q4 h0 q_1 q_21 q_25 0, zo3 q_1 qc_4 qe_5 qs_6 0 0, zr G qc_4 6 fc_7, zi G c0_9 160 (fun _ => 0), zi G c1_10 160 (fun _ => 0), zi G c2_11 160 (fun _ => 0), zi G c3_12 160 (fun _ => 0), zi G c4_13 160 (fun _ => 0), zi G c5_14 160 (fun _ => 0), zr G qe_5 6 fe_8, zi G e0_15 3 (fun _ => 0), zi G e1_16 3 (fun _ => 0), zi G e2_17 3 (fun _ => 0), zi G e3_18 3 (fun _ => 0), zi G e4_19 3 (fun _ => 0), zi G e5_20 3 (fun _ => 0), zi G qs_6 32 (fun _ => 0), zo1 q_21 q_1 q1_24 0 0 0 0 0, zi G q1_24 160 (fun _ => 0), zo0 q_25 q_1 q1_28 q2_29 q3_30 q4_31 q5_32 q6_33 q7_34 q8_35 0 0 0, zi G q1_28 6 (fun _ => 0), zi G q2_29 4 (fun _ => 0), zi G q3_30 4 (fun _ => 0), zi G q4_31 4 (fun _ => 0), zi G q5_32 6 (fun _ => 0), zi G q6_33 6 (fun _ => 0), zi G q7_34 6 (fun _ => 0), zi G q8_35 6 (fun _ => 0)] H := ⟨hP, hD⟩
  have hP := hz9.1
  have hD := hz9.2
  refine lv_aload_n hx hb dX5_init_45 rfl (lv_at hl 0 rfl) ?_
  refine va_new (D := G.1) (ci := 0) (fs := [.null, .null, .null, .null, .null, .null, .null, .null, .null, .int 0, .int 0, .int 0]) (C := RX0) (T := TX0) (N := 12) hx hb hts hiX0 tyX0 tyX0_ok hown (hts (.classLink RX5 25 RX0) (by decide +kernel)) (hts (.instantiable RX0 12) (by decide +kernel)) (hts (.initialized RX0) (by decide +kernel)) hK hP hD hS hA rfl (by decide +kernel) (Nat.le_of_ble_eq_true rfl) (Nat.le_of_ble_eq_true rfl) dX5_init_46 (fun q_36 H hP hD hS => ?_)
  have hz9 : gPD G A [zo5q4 h0 q_1 q_21 q_25 0, zo3 q_1 qc_4 qe_5 qs_6 0 0, zr G qc_4 6 fc_7, zi G c0_9 160 (fun _ => 0), zi G c1_10 160 (fun _ => 0), zi G c2_11 160 (fun _ => 0), zi G c3_12 160 (fun _ => 0), zi G c4_13 160 (fun _ => 0), zi G c5_14 160 (fun _ => 0), zr G qe_5 6 fe_8, zi G e0_15 3 (fun _ => 0), zi G e1_16 3 (fun _ => 0), zi G e2_17 3 (fun _ => 0), zi G e3_18 3 (fun _ => 0), zi G e4_19 3 (fun _ => 0), zi G e5_20 3 (fun _ => 0), zi G qs_6 32 (fun _ => 0), zo1 q_21 q_1 q1_24 0 0 0 0 0, zi G q1_24 160 (fun _ => 0), zo0 q_25 q_1 q1_28 q2_29 q3_30 q4_31 q5_32 q6_33 q7_34 q8_35 0 0 0, zi G q1_28 6 (fun _ => 0), zi G q2_29 4 (fun _ => 0), zi G q3_30 4 (fun _ => 0), zi G q4_31 4 (fun _ => 0), zi G q5_32 6 (fun _ => 0), zi G q6_33 6 (fun _ => 0), zi G q7_34 6 (fun _ => 0), zi G q8_35 6 (fun _ => 0), zo0q1 q_36 0 0 0] H := ⟨hP, hD⟩
  have hP := hz9.1
  have hD := hz9.2
  refine lv_dup hx hb dX5_init_49 rfl ?_
  refine lv_aload_n hx hb dX5_init_50 rfl (lv_at hl 0 rfl) ?_
  refine va_get (D := G.1) (ci := 5) (v := .ref q_1) (C := RX5) (T := TX5) (N := 8) hx hb hts hiX5 hown hK hP 0 rfl rfl 0 (by decide +kernel) kf10 (fun _ h9 => h9) rfl dX5_init_51 ?_
  have hz9 : gPD G A [zo0q1 q_36 0 0 0] H := ⟨hP.sub [28] rfl, hD.sub [28] (by decide +kernel) rfl⟩
  have hPc := hz9.1
  have hDc := hz9.2
  have hFc := gFree hPc hD hS hA [28] rfl
  refine va_callv (va_runI (As := [.ref q_1]) (rest := [.ref q_36, .ref h0]) ⟨hx, hb, hml, hown, hts⟩ (c_X0_init l G E q_36 q_1 H.size) (cwI 1 hts gX5_init_X0_init rfl rfl rfl (hts (.initialized RX0) (by decide +kernel)) (hts (.methodLink RX5 27 yX0_init) (by decide +kernel)) (hts (.instanceMethod yX0_init) (by decide +kernel)) rfl (by decide +kernel) ⟨Nat.le_of_ble_eq_true rfl, Nat.le_of_ble_eq_true rfl⟩) ⟨gPreE_blind, fun U hU hW => gPreE_of hU hW hK hPc hDc hE hS hFc⟩ rfl rfl hl.1 rfl (lv_room (Nat.le_of_ble_eq_true rfl)) dX5_init_54 ⟨Nat.le_of_ble_eq_true rfl, Nat.le_of_ble_eq_true rfl⟩) hS (fun q _ h => hFc q h) hFc (fun u t H locs ht hvm w_38 hB hz1 hk1 hS => ?_)
  obtain ⟨q1_39, q2_40, q3_41, q4_42, q5_43, q6_44, q7_45, q8_46⟩ := u
  obtain ⟨hP1, hK1, hD1⟩ := hB
  rw [ht] at hP1
  have hz9 : gPD G (va_A _ _) [zo0 q_36 q_1 q1_39 q2_40 q3_41 q4_42 q5_43 q6_44 q7_45 q8_46 0 0 0, zi G q1_39 6 (fun _ => 0), zi G q2_40 4 (fun _ => 0), zi G q3_41 4 (fun _ => 0), zi G q4_42 4 (fun _ => 0), zi G q5_43 6 (fun _ => 0), zi G q6_44 6 (fun _ => 0), zi G q7_45 6 (fun _ => 0), zi G q8_46 6 (fun _ => 0)] H := ⟨hP1, hD1⟩
  have hP1 := hz9.1
  have hD1 := hz9.2
  have hz9 : gPD G A [zo5q4 h0 q_1 q_21 q_25 0, zo3 q_1 qc_4 qe_5 qs_6 0 0, zr G qc_4 6 fc_7, zi G c0_9 160 (fun _ => 0), zi G c1_10 160 (fun _ => 0), zi G c2_11 160 (fun _ => 0), zi G c3_12 160 (fun _ => 0), zi G c4_13 160 (fun _ => 0), zi G c5_14 160 (fun _ => 0), zr G qe_5 6 fe_8, zi G e0_15 3 (fun _ => 0), zi G e1_16 3 (fun _ => 0), zi G e2_17 3 (fun _ => 0), zi G e3_18 3 (fun _ => 0), zi G e4_19 3 (fun _ => 0), zi G e5_20 3 (fun _ => 0), zi G qs_6 32 (fun _ => 0), zo1 q_21 q_1 q1_24 0 0 0 0 0, zi G q1_24 160 (fun _ => 0), zo0 q_25 q_1 q1_28 q2_29 q3_30 q4_31 q5_32 q6_33 q7_34 q8_35 0 0 0, zi G q1_28 6 (fun _ => 0), zi G q2_29 4 (fun _ => 0), zi G q3_30 4 (fun _ => 0), zi G q4_31 4 (fun _ => 0), zi G q5_32 6 (fun _ => 0), zi G q6_33 6 (fun _ => 0), zi G q7_34 6 (fun _ => 0), zi G q8_35 6 (fun _ => 0), zo0 q_36 q_1 q1_39 q2_40 q3_41 q4_42 q5_43 q6_44 q7_45 q8_46 0 0 0, zi G q1_39 6 (fun _ => 0), zi G q2_40 4 (fun _ => 0), zi G q3_41 4 (fun _ => 0), zi G q4_42 4 (fun _ => 0), zi G q5_43 6 (fun _ => 0), zi G q6_44 6 (fun _ => 0), zi G q7_45 6 (fun _ => 0), zi G q8_46 6 (fun _ => 0)] H := gJoin hP hD hk1 hFc hP1 hD1 [28] [0, 1, 2, 3, 4, 5, 6, 7, 8, 9, 10, 11, 12, 13, 14, 15, 16, 17, 18, 19, 20, 21, 22, 23, 24, 25, 26, 27] rfl rfl rfl (by decide +kernel) (by decide +kernel)
  have hP := hz9.1
  have hD := hz9.2
  refine va_putF (D := G.1) (ci := 5) (v := .ref q_36) (ty := .object "PebbleInShoe$Court") (C := RX5) (T := TX5) (N := 8) hx hb hts hiX5 tyX5 tyX5_ok nmX5 hown hK hP hD hS 0 rfl rfl 3 (by decide +kernel) kf32 (fun _ h9 => h9) rfl hin rfl (by decide +kernel) rfl rfl (Nat.le_of_ble_eq_true rfl) dX5_init_57 (fun H locs hP hD hS => ?_)
  have hz9 : gPD G A [zo5q5 h0 q_1 q_21 q_25 q_36 0, zo3 q_1 qc_4 qe_5 qs_6 0 0, zr G qc_4 6 fc_7, zi G c0_9 160 (fun _ => 0), zi G c1_10 160 (fun _ => 0), zi G c2_11 160 (fun _ => 0), zi G c3_12 160 (fun _ => 0), zi G c4_13 160 (fun _ => 0), zi G c5_14 160 (fun _ => 0), zr G qe_5 6 fe_8, zi G e0_15 3 (fun _ => 0), zi G e1_16 3 (fun _ => 0), zi G e2_17 3 (fun _ => 0), zi G e3_18 3 (fun _ => 0), zi G e4_19 3 (fun _ => 0), zi G e5_20 3 (fun _ => 0), zi G qs_6 32 (fun _ => 0), zo1 q_21 q_1 q1_24 0 0 0 0 0, zi G q1_24 160 (fun _ => 0), zo0 q_25 q_1 q1_28 q2_29 q3_30 q4_31 q5_32 q6_33 q7_34 q8_35 0 0 0, zi G q1_28 6 (fun _ => 0), zi G q2_29 4 (fun _ => 0), zi G q3_30 4 (fun _ => 0), zi G q4_31 4 (fun _ => 0), zi G q5_32 6 (fun _ => 0), zi G q6_33 6 (fun _ => 0), zi G q7_34 6 (fun _ => 0), zi G q8_35 6 (fun _ => 0), zo0 q_36 q_1 q1_39 q2_40 q3_41 q4_42 q5_43 q6_44 q7_45 q8_46 0 0 0, zi G q1_39 6 (fun _ => 0), zi G q2_40 4 (fun _ => 0), zi G q3_41 4 (fun _ => 0), zi G q4_42 4 (fun _ => 0), zi G q5_43 6 (fun _ => 0), zi G q6_44 6 (fun _ => 0), zi G q7_45 6 (fun _ => 0), zi G q8_46 6 (fun _ => 0)] H := ⟨hP, hD⟩
  have hP := hz9.1
  have hD := hz9.2
  refine lv_aload_n hx hb dX5_init_60 rfl (lv_at hl 0 rfl) ?_
  refine va_new (D := G.1) (ci := 0) (fs := [.null, .null, .null, .null, .null, .null, .null, .null, .null, .int 0, .int 0, .int 0]) (C := RX0) (T := TX0) (N := 12) hx hb hts hiX0 tyX0 tyX0_ok hown (hts (.classLink RX5 25 RX0) (by decide +kernel)) (hts (.instantiable RX0 12) (by decide +kernel)) (hts (.initialized RX0) (by decide +kernel)) hK hP hD hS hA rfl (by decide +kernel) (Nat.le_of_ble_eq_true rfl) (Nat.le_of_ble_eq_true rfl) dX5_init_61 (fun q_47 H hP hD hS => ?_)
  have hz9 : gPD G A [zo5q5 h0 q_1 q_21 q_25 q_36 0, zo3 q_1 qc_4 qe_5 qs_6 0 0, zr G qc_4 6 fc_7, zi G c0_9 160 (fun _ => 0), zi G c1_10 160 (fun _ => 0), zi G c2_11 160 (fun _ => 0), zi G c3_12 160 (fun _ => 0), zi G c4_13 160 (fun _ => 0), zi G c5_14 160 (fun _ => 0), zr G qe_5 6 fe_8, zi G e0_15 3 (fun _ => 0), zi G e1_16 3 (fun _ => 0), zi G e2_17 3 (fun _ => 0), zi G e3_18 3 (fun _ => 0), zi G e4_19 3 (fun _ => 0), zi G e5_20 3 (fun _ => 0), zi G qs_6 32 (fun _ => 0), zo1 q_21 q_1 q1_24 0 0 0 0 0, zi G q1_24 160 (fun _ => 0), zo0 q_25 q_1 q1_28 q2_29 q3_30 q4_31 q5_32 q6_33 q7_34 q8_35 0 0 0, zi G q1_28 6 (fun _ => 0), zi G q2_29 4 (fun _ => 0), zi G q3_30 4 (fun _ => 0), zi G q4_31 4 (fun _ => 0), zi G q5_32 6 (fun _ => 0), zi G q6_33 6 (fun _ => 0), zi G q7_34 6 (fun _ => 0), zi G q8_35 6 (fun _ => 0), zo0 q_36 q_1 q1_39 q2_40 q3_41 q4_42 q5_43 q6_44 q7_45 q8_46 0 0 0, zi G q1_39 6 (fun _ => 0), zi G q2_40 4 (fun _ => 0), zi G q3_41 4 (fun _ => 0), zi G q4_42 4 (fun _ => 0), zi G q5_43 6 (fun _ => 0), zi G q6_44 6 (fun _ => 0), zi G q7_45 6 (fun _ => 0), zi G q8_46 6 (fun _ => 0), zo0q1 q_47 0 0 0] H := ⟨hP, hD⟩
  have hP := hz9.1
  have hD := hz9.2
  refine lv_dup hx hb dX5_init_64 rfl ?_
  refine lv_aload_n hx hb dX5_init_65 rfl (lv_at hl 0 rfl) ?_
  refine va_get (D := G.1) (ci := 5) (v := .ref q_1) (C := RX5) (T := TX5) (N := 8) hx hb hts hiX5 hown hK hP 0 rfl rfl 0 (by decide +kernel) kf10 (fun _ h9 => h9) rfl dX5_init_66 ?_
  have hz9 : gPD G A [zo0q1 q_47 0 0 0] H := ⟨hP.sub [37] rfl, hD.sub [37] (by decide +kernel) rfl⟩
  have hPc := hz9.1
  have hDc := hz9.2
  have hFc := gFree hPc hD hS hA [37] rfl
  refine va_callv (va_runI (As := [.ref q_1]) (rest := [.ref q_47, .ref h0]) ⟨hx, hb, hml, hown, hts⟩ (c_X0_init l G E q_47 q_1 H.size) (cwI 1 hts gX5_init_X0_init rfl rfl rfl (hts (.initialized RX0) (by decide +kernel)) (hts (.methodLink RX5 27 yX0_init) (by decide +kernel)) (hts (.instanceMethod yX0_init) (by decide +kernel)) rfl (by decide +kernel) ⟨Nat.le_of_ble_eq_true rfl, Nat.le_of_ble_eq_true rfl⟩) ⟨gPreE_blind, fun U hU hW => gPreE_of hU hW hK hPc hDc hE hS hFc⟩ rfl rfl hl.1 rfl (lv_room (Nat.le_of_ble_eq_true rfl)) dX5_init_69 ⟨Nat.le_of_ble_eq_true rfl, Nat.le_of_ble_eq_true rfl⟩) hS (fun q _ h => hFc q h) hFc (fun u t H locs ht hvm w_49 hB hz1 hk1 hS => ?_)
  obtain ⟨q1_50, q2_51, q3_52, q4_53, q5_54, q6_55, q7_56, q8_57⟩ := u
  obtain ⟨hP1, hK1, hD1⟩ := hB
  rw [ht] at hP1
  have hz9 : gPD G (va_A _ _) [zo0 q_47 q_1 q1_50 q2_51 q3_52 q4_53 q5_54 q6_55 q7_56 q8_57 0 0 0, zi G q1_50 6 (fun _ => 0), zi G q2_51 4 (fun _ => 0), zi G q3_52 4 (fun _ => 0), zi G q4_53 4 (fun _ => 0), zi G q5_54 6 (fun _ => 0), zi G q6_55 6 (fun _ => 0), zi G q7_56 6 (fun _ => 0), zi G q8_57 6 (fun _ => 0)] H := ⟨hP1, hD1⟩
  have hP1 := hz9.1
  have hD1 := hz9.2
  have hz9 : gPD G A [zo5q5 h0 q_1 q_21 q_25 q_36 0, zo3 q_1 qc_4 qe_5 qs_6 0 0, zr G qc_4 6 fc_7, zi G c0_9 160 (fun _ => 0), zi G c1_10 160 (fun _ => 0), zi G c2_11 160 (fun _ => 0), zi G c3_12 160 (fun _ => 0), zi G c4_13 160 (fun _ => 0), zi G c5_14 160 (fun _ => 0), zr G qe_5 6 fe_8, zi G e0_15 3 (fun _ => 0), zi G e1_16 3 (fun _ => 0), zi G e2_17 3 (fun _ => 0), zi G e3_18 3 (fun _ => 0), zi G e4_19 3 (fun _ => 0), zi G e5_20 3 (fun _ => 0), zi G qs_6 32 (fun _ => 0), zo1 q_21 q_1 q1_24 0 0 0 0 0, zi G q1_24 160 (fun _ => 0), zo0 q_25 q_1 q1_28 q2_29 q3_30 q4_31 q5_32 q6_33 q7_34 q8_35 0 0 0, zi G q1_28 6 (fun _ => 0), zi G q2_29 4 (fun _ => 0), zi G q3_30 4 (fun _ => 0), zi G q4_31 4 (fun _ => 0), zi G q5_32 6 (fun _ => 0), zi G q6_33 6 (fun _ => 0), zi G q7_34 6 (fun _ => 0), zi G q8_35 6 (fun _ => 0), zo0 q_36 q_1 q1_39 q2_40 q3_41 q4_42 q5_43 q6_44 q7_45 q8_46 0 0 0, zi G q1_39 6 (fun _ => 0), zi G q2_40 4 (fun _ => 0), zi G q3_41 4 (fun _ => 0), zi G q4_42 4 (fun _ => 0), zi G q5_43 6 (fun _ => 0), zi G q6_44 6 (fun _ => 0), zi G q7_45 6 (fun _ => 0), zi G q8_46 6 (fun _ => 0), zo0 q_47 q_1 q1_50 q2_51 q3_52 q4_53 q5_54 q6_55 q7_56 q8_57 0 0 0, zi G q1_50 6 (fun _ => 0), zi G q2_51 4 (fun _ => 0), zi G q3_52 4 (fun _ => 0), zi G q4_53 4 (fun _ => 0), zi G q5_54 6 (fun _ => 0), zi G q6_55 6 (fun _ => 0), zi G q7_56 6 (fun _ => 0), zi G q8_57 6 (fun _ => 0)] H := gJoin hP hD hk1 hFc hP1 hD1 [37] [0, 1, 2, 3, 4, 5, 6, 7, 8, 9, 10, 11, 12, 13, 14, 15, 16, 17, 18, 19, 20, 21, 22, 23, 24, 25, 26, 27, 28, 29, 30, 31, 32, 33, 34, 35, 36] rfl rfl rfl (by decide +kernel) (by decide +kernel)
  have hP := hz9.1
  have hD := hz9.2
  refine va_putF (D := G.1) (ci := 5) (v := .ref q_47) (ty := .object "PebbleInShoe$Court") (C := RX5) (T := TX5) (N := 8) hx hb hts hiX5 tyX5 tyX5_ok nmX5 hown hK hP hD hS 0 rfl rfl 4 (by decide +kernel) kf35 (fun _ h9 => h9) rfl hin rfl (by decide +kernel) rfl rfl (Nat.le_of_ble_eq_true rfl) dX5_init_72 (fun H locs hP hD hS => ?_)
  have hz9 : gPD G A [zo5q6 h0 q_1 q_21 q_25 q_36 q_47 0, zo3 q_1 qc_4 qe_5 qs_6 0 0, zr G qc_4 6 fc_7, zi G c0_9 160 (fun _ => 0), zi G c1_10 160 (fun _ => 0), zi G c2_11 160 (fun _ => 0), zi G c3_12 160 (fun _ => 0), zi G c4_13 160 (fun _ => 0), zi G c5_14 160 (fun _ => 0), zr G qe_5 6 fe_8, zi G e0_15 3 (fun _ => 0), zi G e1_16 3 (fun _ => 0), zi G e2_17 3 (fun _ => 0), zi G e3_18 3 (fun _ => 0), zi G e4_19 3 (fun _ => 0), zi G e5_20 3 (fun _ => 0), zi G qs_6 32 (fun _ => 0), zo1 q_21 q_1 q1_24 0 0 0 0 0, zi G q1_24 160 (fun _ => 0), zo0 q_25 q_1 q1_28 q2_29 q3_30 q4_31 q5_32 q6_33 q7_34 q8_35 0 0 0, zi G q1_28 6 (fun _ => 0), zi G q2_29 4 (fun _ => 0), zi G q3_30 4 (fun _ => 0), zi G q4_31 4 (fun _ => 0), zi G q5_32 6 (fun _ => 0), zi G q6_33 6 (fun _ => 0), zi G q7_34 6 (fun _ => 0), zi G q8_35 6 (fun _ => 0), zo0 q_36 q_1 q1_39 q2_40 q3_41 q4_42 q5_43 q6_44 q7_45 q8_46 0 0 0, zi G q1_39 6 (fun _ => 0), zi G q2_40 4 (fun _ => 0), zi G q3_41 4 (fun _ => 0), zi G q4_42 4 (fun _ => 0), zi G q5_43 6 (fun _ => 0), zi G q6_44 6 (fun _ => 0), zi G q7_45 6 (fun _ => 0), zi G q8_46 6 (fun _ => 0), zo0 q_47 q_1 q1_50 q2_51 q3_52 q4_53 q5_54 q6_55 q7_56 q8_57 0 0 0, zi G q1_50 6 (fun _ => 0), zi G q2_51 4 (fun _ => 0), zi G q3_52 4 (fun _ => 0), zi G q4_53 4 (fun _ => 0), zi G q5_54 6 (fun _ => 0), zi G q6_55 6 (fun _ => 0), zi G q7_56 6 (fun _ => 0), zi G q8_57 6 (fun _ => 0)] H := ⟨hP, hD⟩
  have hP := hz9.1
  have hD := hz9.2
  refine lv_aload_n hx hb dX5_init_75 rfl (lv_at hl 0 rfl) ?_
  refine va_new (D := G.1) (ci := 2) (fs := [.null, .null, .null]) (C := RX2) (T := TX2) (N := 3) hx hb hts hiX2 tyX2 tyX2_ok hown (hts (.classLink RX5 38 RX2) (by decide +kernel)) (hts (.instantiable RX2 3) (by decide +kernel)) (hts (.initialized RX2) (by decide +kernel)) hK hP hD hS hA rfl (by decide +kernel) (Nat.le_of_ble_eq_true rfl) (Nat.le_of_ble_eq_true rfl) dX5_init_76 (fun q_58 H hP hD hS => ?_)
  have hz9 : gPD G A [zo5q6 h0 q_1 q_21 q_25 q_36 q_47 0, zo3 q_1 qc_4 qe_5 qs_6 0 0, zr G qc_4 6 fc_7, zi G c0_9 160 (fun _ => 0), zi G c1_10 160 (fun _ => 0), zi G c2_11 160 (fun _ => 0), zi G c3_12 160 (fun _ => 0), zi G c4_13 160 (fun _ => 0), zi G c5_14 160 (fun _ => 0), zr G qe_5 6 fe_8, zi G e0_15 3 (fun _ => 0), zi G e1_16 3 (fun _ => 0), zi G e2_17 3 (fun _ => 0), zi G e3_18 3 (fun _ => 0), zi G e4_19 3 (fun _ => 0), zi G e5_20 3 (fun _ => 0), zi G qs_6 32 (fun _ => 0), zo1 q_21 q_1 q1_24 0 0 0 0 0, zi G q1_24 160 (fun _ => 0), zo0 q_25 q_1 q1_28 q2_29 q3_30 q4_31 q5_32 q6_33 q7_34 q8_35 0 0 0, zi G q1_28 6 (fun _ => 0), zi G q2_29 4 (fun _ => 0), zi G q3_30 4 (fun _ => 0), zi G q4_31 4 (fun _ => 0), zi G q5_32 6 (fun _ => 0), zi G q6_33 6 (fun _ => 0), zi G q7_34 6 (fun _ => 0), zi G q8_35 6 (fun _ => 0), zo0 q_36 q_1 q1_39 q2_40 q3_41 q4_42 q5_43 q6_44 q7_45 q8_46 0 0 0, zi G q1_39 6 (fun _ => 0), zi G q2_40 4 (fun _ => 0), zi G q3_41 4 (fun _ => 0), zi G q4_42 4 (fun _ => 0), zi G q5_43 6 (fun _ => 0), zi G q6_44 6 (fun _ => 0), zi G q7_45 6 (fun _ => 0), zi G q8_46 6 (fun _ => 0), zo0 q_47 q_1 q1_50 q2_51 q3_52 q4_53 q5_54 q6_55 q7_56 q8_57 0 0 0, zi G q1_50 6 (fun _ => 0), zi G q2_51 4 (fun _ => 0), zi G q3_52 4 (fun _ => 0), zi G q4_53 4 (fun _ => 0), zi G q5_54 6 (fun _ => 0), zi G q6_55 6 (fun _ => 0), zi G q7_56 6 (fun _ => 0), zi G q8_57 6 (fun _ => 0), zo2q1 q_58] H := ⟨hP, hD⟩
  have hP := hz9.1
  have hD := hz9.2
  refine lv_dup hx hb dX5_init_79 rfl ?_
  have hz9 : gPD G A [zo2q1 q_58] H := ⟨hP.sub [46] rfl, hD.sub [46] (by decide +kernel) rfl⟩
  have hPc := hz9.1
  have hDc := hz9.2
  have hFc := gFree hPc hD hS hA [46] rfl
  refine va_callv (va_runI (As := []) (rest := [.ref q_58, .ref h0]) ⟨hx, hb, hml, hown, hts⟩ (c_X2_init l G E q_58 H.size) (cwI 0 hts gX5_init_X2_init rfl rfl rfl (hts (.initialized RX2) (by decide +kernel)) (hts (.methodLink RX5 40 yX2_init) (by decide +kernel)) (hts (.instanceMethod yX2_init) (by decide +kernel)) rfl (by decide +kernel) ⟨Nat.le_of_ble_eq_true rfl, Nat.le_of_ble_eq_true rfl⟩) ⟨gPreE_blind, fun U hU hW => gPreE_of hU hW hK hPc hDc hE hS hFc⟩ rfl rfl hl.1 rfl (lv_room (Nat.le_of_ble_eq_true rfl)) dX5_init_80 ⟨Nat.le_of_ble_eq_true rfl, Nat.le_of_ble_eq_true rfl⟩) hS (fun q _ h => hFc q h) hFc (fun u t H locs ht hvm w_60 hB hz1 hk1 hS => ?_)
  obtain ⟨qn_61, qo_62, ql_63, fn_64, r0_65, r1_66, r2_67, r3_68⟩ := u
  obtain ⟨hP1, hK1, hD1⟩ := hB
  rw [ht] at hP1
  have hz9 : gPD G (va_A _ _) [zo2 q_58 qn_61 qo_62 ql_63, zr G qn_61 4 fn_64, zi G r0_65 40 (fun _ => 0), zi G r1_66 40 (fun _ => 0), zi G r2_67 40 (fun _ => 0), zi G r3_68 40 (fun _ => 0), zi G qo_62 4 (gFl (-1) (fun _ => 0) 4), zi G ql_63 4 (fun _ => 0)] H := ⟨hP1, hD1⟩
  have hP1 := hz9.1
  have hD1 := hz9.2
  have w_60 : fn_64 0 = some r0_65 ∧ fn_64 1 = some r1_66 ∧ fn_64 2 = some r2_67 ∧ fn_64 3 = some r3_68 := w_60
  have hz9 : gPD G A [zo5q6 h0 q_1 q_21 q_25 q_36 q_47 0, zo3 q_1 qc_4 qe_5 qs_6 0 0, zr G qc_4 6 fc_7, zi G c0_9 160 (fun _ => 0), zi G c1_10 160 (fun _ => 0), zi G c2_11 160 (fun _ => 0), zi G c3_12 160 (fun _ => 0), zi G c4_13 160 (fun _ => 0), zi G c5_14 160 (fun _ => 0), zr G qe_5 6 fe_8, zi G e0_15 3 (fun _ => 0), zi G e1_16 3 (fun _ => 0), zi G e2_17 3 (fun _ => 0), zi G e3_18 3 (fun _ => 0), zi G e4_19 3 (fun _ => 0), zi G e5_20 3 (fun _ => 0), zi G qs_6 32 (fun _ => 0), zo1 q_21 q_1 q1_24 0 0 0 0 0, zi G q1_24 160 (fun _ => 0), zo0 q_25 q_1 q1_28 q2_29 q3_30 q4_31 q5_32 q6_33 q7_34 q8_35 0 0 0, zi G q1_28 6 (fun _ => 0), zi G q2_29 4 (fun _ => 0), zi G q3_30 4 (fun _ => 0), zi G q4_31 4 (fun _ => 0), zi G q5_32 6 (fun _ => 0), zi G q6_33 6 (fun _ => 0), zi G q7_34 6 (fun _ => 0), zi G q8_35 6 (fun _ => 0), zo0 q_36 q_1 q1_39 q2_40 q3_41 q4_42 q5_43 q6_44 q7_45 q8_46 0 0 0, zi G q1_39 6 (fun _ => 0), zi G q2_40 4 (fun _ => 0), zi G q3_41 4 (fun _ => 0), zi G q4_42 4 (fun _ => 0), zi G q5_43 6 (fun _ => 0), zi G q6_44 6 (fun _ => 0), zi G q7_45 6 (fun _ => 0), zi G q8_46 6 (fun _ => 0), zo0 q_47 q_1 q1_50 q2_51 q3_52 q4_53 q5_54 q6_55 q7_56 q8_57 0 0 0, zi G q1_50 6 (fun _ => 0), zi G q2_51 4 (fun _ => 0), zi G q3_52 4 (fun _ => 0), zi G q4_53 4 (fun _ => 0), zi G q5_54 6 (fun _ => 0), zi G q6_55 6 (fun _ => 0), zi G q7_56 6 (fun _ => 0), zi G q8_57 6 (fun _ => 0), zo2 q_58 qn_61 qo_62 ql_63, zr G qn_61 4 fn_64, zi G r0_65 40 (fun _ => 0), zi G r1_66 40 (fun _ => 0), zi G r2_67 40 (fun _ => 0), zi G r3_68 40 (fun _ => 0), zi G qo_62 4 (gFl (-1) (fun _ => 0) 4), zi G ql_63 4 (fun _ => 0)] H := gJoin hP hD hk1 hFc hP1 hD1 [46] [0, 1, 2, 3, 4, 5, 6, 7, 8, 9, 10, 11, 12, 13, 14, 15, 16, 17, 18, 19, 20, 21, 22, 23, 24, 25, 26, 27, 28, 29, 30, 31, 32, 33, 34, 35, 36, 37, 38, 39, 40, 41, 42, 43, 44, 45] rfl rfl rfl (by decide +kernel) (by decide +kernel)
  have hP := hz9.1
  have hD := hz9.2
  obtain ⟨hr0, hr1, hr2, hr3⟩ := w_60
  refine va_putF (D := G.1) (ci := 5) (v := .ref q_58) (ty := .object "PebbleInShoe$Sheets") (C := RX5) (T := TX5) (N := 8) hx hb hts hiX5 tyX5 tyX5_ok nmX5 hown hK hP hD hS 0 rfl rfl 5 (by decide +kernel) kf41 (fun _ h9 => h9) rfl hin rfl (by decide +kernel) rfl rfl (Nat.le_of_ble_eq_true rfl) dX5_init_83 (fun H locs hP hD hS => ?_)
  have hz9 : gPD G A [zo5q7 h0 q_1 q_21 q_25 q_36 q_47 q_58 0, zo3 q_1 qc_4 qe_5 qs_6 0 0, zr G qc_4 6 fc_7, zi G c0_9 160 (fun _ => 0), zi G c1_10 160 (fun _ => 0), zi G c2_11 160 (fun _ => 0), zi G c3_12 160 (fun _ => 0), zi G c4_13 160 (fun _ => 0), zi G c5_14 160 (fun _ => 0), zr G qe_5 6 fe_8, zi G e0_15 3 (fun _ => 0), zi G e1_16 3 (fun _ => 0), zi G e2_17 3 (fun _ => 0), zi G e3_18 3 (fun _ => 0), zi G e4_19 3 (fun _ => 0), zi G e5_20 3 (fun _ => 0), zi G qs_6 32 (fun _ => 0), zo1 q_21 q_1 q1_24 0 0 0 0 0, zi G q1_24 160 (fun _ => 0), zo0 q_25 q_1 q1_28 q2_29 q3_30 q4_31 q5_32 q6_33 q7_34 q8_35 0 0 0, zi G q1_28 6 (fun _ => 0), zi G q2_29 4 (fun _ => 0), zi G q3_30 4 (fun _ => 0), zi G q4_31 4 (fun _ => 0), zi G q5_32 6 (fun _ => 0), zi G q6_33 6 (fun _ => 0), zi G q7_34 6 (fun _ => 0), zi G q8_35 6 (fun _ => 0), zo0 q_36 q_1 q1_39 q2_40 q3_41 q4_42 q5_43 q6_44 q7_45 q8_46 0 0 0, zi G q1_39 6 (fun _ => 0), zi G q2_40 4 (fun _ => 0), zi G q3_41 4 (fun _ => 0), zi G q4_42 4 (fun _ => 0), zi G q5_43 6 (fun _ => 0), zi G q6_44 6 (fun _ => 0), zi G q7_45 6 (fun _ => 0), zi G q8_46 6 (fun _ => 0), zo0 q_47 q_1 q1_50 q2_51 q3_52 q4_53 q5_54 q6_55 q7_56 q8_57 0 0 0, zi G q1_50 6 (fun _ => 0), zi G q2_51 4 (fun _ => 0), zi G q3_52 4 (fun _ => 0), zi G q4_53 4 (fun _ => 0), zi G q5_54 6 (fun _ => 0), zi G q6_55 6 (fun _ => 0), zi G q7_56 6 (fun _ => 0), zi G q8_57 6 (fun _ => 0), zo2 q_58 qn_61 qo_62 ql_63, zr G qn_61 4 fn_64, zi G r0_65 40 (fun _ => 0), zi G r1_66 40 (fun _ => 0), zi G r2_67 40 (fun _ => 0), zi G r3_68 40 (fun _ => 0), zi G qo_62 4 (gFl (-1) (fun _ => 0) 4), zi G ql_63 4 (fun _ => 0)] H := ⟨hP, hD⟩
  have hP := hz9.1
  have hD := hz9.2
  refine lv_aload_n hx hb dX5_init_86 rfl (lv_at hl 0 rfl) ?_
  refine va_new (D := G.1) (ci := 4) (fs := [.null, .null]) (C := RX4) (T := TX4) (N := 2) hx hb hts hiX4 tyX4 tyX4_ok hown (hts (.classLink RX5 45 RX4) (by decide +kernel)) (hts (.instantiable RX4 2) (by decide +kernel)) (hts (.initialized RX4) (by decide +kernel)) hK hP hD hS hA rfl (by decide +kernel) (Nat.le_of_ble_eq_true rfl) (Nat.le_of_ble_eq_true rfl) dX5_init_87 (fun q_69 H hP hD hS => ?_)
  have hz9 : gPD G A [zo5q7 h0 q_1 q_21 q_25 q_36 q_47 q_58 0, zo3 q_1 qc_4 qe_5 qs_6 0 0, zr G qc_4 6 fc_7, zi G c0_9 160 (fun _ => 0), zi G c1_10 160 (fun _ => 0), zi G c2_11 160 (fun _ => 0), zi G c3_12 160 (fun _ => 0), zi G c4_13 160 (fun _ => 0), zi G c5_14 160 (fun _ => 0), zr G qe_5 6 fe_8, zi G e0_15 3 (fun _ => 0), zi G e1_16 3 (fun _ => 0), zi G e2_17 3 (fun _ => 0), zi G e3_18 3 (fun _ => 0), zi G e4_19 3 (fun _ => 0), zi G e5_20 3 (fun _ => 0), zi G qs_6 32 (fun _ => 0), zo1 q_21 q_1 q1_24 0 0 0 0 0, zi G q1_24 160 (fun _ => 0), zo0 q_25 q_1 q1_28 q2_29 q3_30 q4_31 q5_32 q6_33 q7_34 q8_35 0 0 0, zi G q1_28 6 (fun _ => 0), zi G q2_29 4 (fun _ => 0), zi G q3_30 4 (fun _ => 0), zi G q4_31 4 (fun _ => 0), zi G q5_32 6 (fun _ => 0), zi G q6_33 6 (fun _ => 0), zi G q7_34 6 (fun _ => 0), zi G q8_35 6 (fun _ => 0), zo0 q_36 q_1 q1_39 q2_40 q3_41 q4_42 q5_43 q6_44 q7_45 q8_46 0 0 0, zi G q1_39 6 (fun _ => 0), zi G q2_40 4 (fun _ => 0), zi G q3_41 4 (fun _ => 0), zi G q4_42 4 (fun _ => 0), zi G q5_43 6 (fun _ => 0), zi G q6_44 6 (fun _ => 0), zi G q7_45 6 (fun _ => 0), zi G q8_46 6 (fun _ => 0), zo0 q_47 q_1 q1_50 q2_51 q3_52 q4_53 q5_54 q6_55 q7_56 q8_57 0 0 0, zi G q1_50 6 (fun _ => 0), zi G q2_51 4 (fun _ => 0), zi G q3_52 4 (fun _ => 0), zi G q4_53 4 (fun _ => 0), zi G q5_54 6 (fun _ => 0), zi G q6_55 6 (fun _ => 0), zi G q7_56 6 (fun _ => 0), zi G q8_57 6 (fun _ => 0), zo2 q_58 qn_61 qo_62 ql_63, zr G qn_61 4 fn_64, zi G r0_65 40 (fun _ => 0), zi G r1_66 40 (fun _ => 0), zi G r2_67 40 (fun _ => 0), zi G r3_68 40 (fun _ => 0), zi G qo_62 4 (gFl (-1) (fun _ => 0) 4), zi G ql_63 4 (fun _ => 0), zo4q1 q_69] H := ⟨hP, hD⟩
  have hP := hz9.1
  have hD := hz9.2
  refine lv_dup hx hb dX5_init_90 rfl ?_
  have hz9 : gPD G A [zo4q1 q_69] H := ⟨hP.sub [54] rfl, hD.sub [54] (by decide +kernel) rfl⟩
  have hPc := hz9.1
  have hDc := hz9.2
  have hFc := gFree hPc hD hS hA [54] rfl
  refine va_callv (va_runIN (As := []) (rest := [.ref q_69, .ref h0]) ⟨hx, hb, hml, hown, hts⟩ (c_X4_init_g l G E q_69 H.size) ⟨va_cnB 0 hts gX5_init_X4_init_n47 rfl rfl rfl hE.2.2.2.2.2.2.1 (hts (.initialized RX4) (by decide +kernel)) (by decide +kernel) ⟨Nat.le_of_ble_eq_true rfl, Nat.le_of_ble_eq_true rfl⟩, rfl, hts (.instanceMethod yX4_init) (by decide +kernel)⟩ ⟨gPreE_blind, fun U hU hW => gPreE_of hU hW hK hPc hDc hE hS hFc⟩ rfl rfl hl.1 rfl (lv_room (Nat.le_of_ble_eq_true rfl)) dX5_init_91 ⟨Nat.le_of_ble_eq_true rfl, Nat.le_of_ble_eq_true rfl⟩) hS (fun q _ h => hFc q h) hFc (fun u t H locs ht hvm w_71 hB hz1 hk1 hS => ?_)
  obtain ⟨qw_72, qr_73, fw_74, w0_75, w1_76, w2_77, w3_78, w4_79, w5_80⟩ := u
  obtain ⟨hP1, hK1, hD1⟩ := hB
  rw [ht] at hP1
  have hz9 : gPD G (va_A _ _) [zo4 q_69 qw_72 qr_73, zr G qw_72 6 fw_74, zi G w0_75 6 (fun _ => 0), zi G w1_76 6 (fun _ => 0), zi G w2_77 6 (fun _ => 0), zi G w3_78 6 (fun _ => 0), zi G w4_79 6 (fun _ => 0), zi G w5_80 6 (fun _ => 0), zi G qr_73 64 (fun _ => 0)] H := ⟨hP1, hD1⟩
  have hP1 := hz9.1
  have hD1 := hz9.2
  have w_71 : fw_74 0 = some w0_75 ∧ fw_74 1 = some w1_76 ∧ fw_74 2 = some w2_77 ∧ fw_74 3 = some w3_78 ∧ fw_74 4 = some w4_79 ∧ fw_74 5 = some w5_80 := w_71
  have hz9 : gPD G A [zo5q7 h0 q_1 q_21 q_25 q_36 q_47 q_58 0, zo3 q_1 qc_4 qe_5 qs_6 0 0, zr G qc_4 6 fc_7, zi G c0_9 160 (fun _ => 0), zi G c1_10 160 (fun _ => 0), zi G c2_11 160 (fun _ => 0), zi G c3_12 160 (fun _ => 0), zi G c4_13 160 (fun _ => 0), zi G c5_14 160 (fun _ => 0), zr G qe_5 6 fe_8, zi G e0_15 3 (fun _ => 0), zi G e1_16 3 (fun _ => 0), zi G e2_17 3 (fun _ => 0), zi G e3_18 3 (fun _ => 0), zi G e4_19 3 (fun _ => 0), zi G e5_20 3 (fun _ => 0), zi G qs_6 32 (fun _ => 0), zo1 q_21 q_1 q1_24 0 0 0 0 0, zi G q1_24 160 (fun _ => 0), zo0 q_25 q_1 q1_28 q2_29 q3_30 q4_31 q5_32 q6_33 q7_34 q8_35 0 0 0, zi G q1_28 6 (fun _ => 0), zi G q2_29 4 (fun _ => 0), zi G q3_30 4 (fun _ => 0), zi G q4_31 4 (fun _ => 0), zi G q5_32 6 (fun _ => 0), zi G q6_33 6 (fun _ => 0), zi G q7_34 6 (fun _ => 0), zi G q8_35 6 (fun _ => 0), zo0 q_36 q_1 q1_39 q2_40 q3_41 q4_42 q5_43 q6_44 q7_45 q8_46 0 0 0, zi G q1_39 6 (fun _ => 0), zi G q2_40 4 (fun _ => 0), zi G q3_41 4 (fun _ => 0), zi G q4_42 4 (fun _ => 0), zi G q5_43 6 (fun _ => 0), zi G q6_44 6 (fun _ => 0), zi G q7_45 6 (fun _ => 0), zi G q8_46 6 (fun _ => 0), zo0 q_47 q_1 q1_50 q2_51 q3_52 q4_53 q5_54 q6_55 q7_56 q8_57 0 0 0, zi G q1_50 6 (fun _ => 0), zi G q2_51 4 (fun _ => 0), zi G q3_52 4 (fun _ => 0), zi G q4_53 4 (fun _ => 0), zi G q5_54 6 (fun _ => 0), zi G q6_55 6 (fun _ => 0), zi G q7_56 6 (fun _ => 0), zi G q8_57 6 (fun _ => 0), zo2 q_58 qn_61 qo_62 ql_63, zr G qn_61 4 fn_64, zi G r0_65 40 (fun _ => 0), zi G r1_66 40 (fun _ => 0), zi G r2_67 40 (fun _ => 0), zi G r3_68 40 (fun _ => 0), zi G qo_62 4 (gFl (-1) (fun _ => 0) 4), zi G ql_63 4 (fun _ => 0), zo4 q_69 qw_72 qr_73, zr G qw_72 6 fw_74, zi G w0_75 6 (fun _ => 0), zi G w1_76 6 (fun _ => 0), zi G w2_77 6 (fun _ => 0), zi G w3_78 6 (fun _ => 0), zi G w4_79 6 (fun _ => 0), zi G w5_80 6 (fun _ => 0), zi G qr_73 64 (fun _ => 0)] H := gJoin hP hD hk1 hFc hP1 hD1 [54] [0, 1, 2, 3, 4, 5, 6, 7, 8, 9, 10, 11, 12, 13, 14, 15, 16, 17, 18, 19, 20, 21, 22, 23, 24, 25, 26, 27, 28, 29, 30, 31, 32, 33, 34, 35, 36, 37, 38, 39, 40, 41, 42, 43, 44, 45, 46, 47, 48, 49, 50, 51, 52, 53] rfl rfl rfl (by decide +kernel) (by decide +kernel)
  have hP := hz9.1
  have hD := hz9.2
  obtain ⟨hw0, hw1, hw2, hw3, hw4, hw5⟩ := w_71
  refine va_putF (D := G.1) (ci := 5) (v := .ref q_69) (ty := .object "PebbleInShoe$Turns") (C := RX5) (T := TX5) (N := 8) hx hb hts hiX5 tyX5 tyX5_ok nmX5 hown hK hP hD hS 0 rfl rfl 6 (by decide +kernel) kf48 (fun _ h9 => h9) rfl hin rfl (by decide +kernel) rfl rfl (Nat.le_of_ble_eq_true rfl) dX5_init_94 (fun H locs hP hD hS => ?_)
  have hz9 : gPD G A [zo5 h0 q_1 q_21 q_25 q_36 q_47 q_58 q_69 0, zo3 q_1 qc_4 qe_5 qs_6 0 0, zr G qc_4 6 fc_7, zi G c0_9 160 (fun _ => 0), zi G c1_10 160 (fun _ => 0), zi G c2_11 160 (fun _ => 0), zi G c3_12 160 (fun _ => 0), zi G c4_13 160 (fun _ => 0), zi G c5_14 160 (fun _ => 0), zr G qe_5 6 fe_8, zi G e0_15 3 (fun _ => 0), zi G e1_16 3 (fun _ => 0), zi G e2_17 3 (fun _ => 0), zi G e3_18 3 (fun _ => 0), zi G e4_19 3 (fun _ => 0), zi G e5_20 3 (fun _ => 0), zi G qs_6 32 (fun _ => 0), zo1 q_21 q_1 q1_24 0 0 0 0 0, zi G q1_24 160 (fun _ => 0), zo0 q_25 q_1 q1_28 q2_29 q3_30 q4_31 q5_32 q6_33 q7_34 q8_35 0 0 0, zi G q1_28 6 (fun _ => 0), zi G q2_29 4 (fun _ => 0), zi G q3_30 4 (fun _ => 0), zi G q4_31 4 (fun _ => 0), zi G q5_32 6 (fun _ => 0), zi G q6_33 6 (fun _ => 0), zi G q7_34 6 (fun _ => 0), zi G q8_35 6 (fun _ => 0), zo0 q_36 q_1 q1_39 q2_40 q3_41 q4_42 q5_43 q6_44 q7_45 q8_46 0 0 0, zi G q1_39 6 (fun _ => 0), zi G q2_40 4 (fun _ => 0), zi G q3_41 4 (fun _ => 0), zi G q4_42 4 (fun _ => 0), zi G q5_43 6 (fun _ => 0), zi G q6_44 6 (fun _ => 0), zi G q7_45 6 (fun _ => 0), zi G q8_46 6 (fun _ => 0), zo0 q_47 q_1 q1_50 q2_51 q3_52 q4_53 q5_54 q6_55 q7_56 q8_57 0 0 0, zi G q1_50 6 (fun _ => 0), zi G q2_51 4 (fun _ => 0), zi G q3_52 4 (fun _ => 0), zi G q4_53 4 (fun _ => 0), zi G q5_54 6 (fun _ => 0), zi G q6_55 6 (fun _ => 0), zi G q7_56 6 (fun _ => 0), zi G q8_57 6 (fun _ => 0), zo2 q_58 qn_61 qo_62 ql_63, zr G qn_61 4 fn_64, zi G r0_65 40 (fun _ => 0), zi G r1_66 40 (fun _ => 0), zi G r2_67 40 (fun _ => 0), zi G r3_68 40 (fun _ => 0), zi G qo_62 4 (gFl (-1) (fun _ => 0) 4), zi G ql_63 4 (fun _ => 0), zo4 q_69 qw_72 qr_73, zr G qw_72 6 fw_74, zi G w0_75 6 (fun _ => 0), zi G w1_76 6 (fun _ => 0), zi G w2_77 6 (fun _ => 0), zi G w3_78 6 (fun _ => 0), zi G w4_79 6 (fun _ => 0), zi G w5_80 6 (fun _ => 0), zi G qr_73 64 (fun _ => 0)] H := ⟨hP, hD⟩
  have hP := hz9.1
  have hD := hz9.2
  refine lv_iconst (v := 0) hx hb dX5_init_97 (by decide +kernel) ?_
  refine lv_istore_n (lv' := [zI 1 0, zR 0 h0]) hx hb dX5_init_98 rfl hl (by decide +kernel) rfl (fun ls hl => ?_)
  have loop_99 : ∀ (n9 : Nat) (i : Nat), (i ≤ 40) → (40 - i) < n9 → ∀ (H : Heap) (locs : List Loc), va_P G.1 vwCl [zo5 h0 q_1 q_21 q_25 q_36 q_47 q_58 q_69 0, zo3 q_1 qc_4 qe_5 qs_6 0 0, zr G qc_4 6 fc_7, zi G c0_9 160 (fun _ => 0), zi G c1_10 160 (fun _ => 0), zi G c2_11 160 (fun _ => 0), zi G c3_12 160 (fun _ => 0), zi G c4_13 160 (fun _ => 0), zi G c5_14 160 (fun _ => 0), zr G qe_5 6 fe_8, zi G e0_15 3 (fun _ => 0), zi G e1_16 3 (fun _ => 0), zi G e2_17 3 (fun _ => 0), zi G e3_18 3 (fun _ => 0), zi G e4_19 3 (fun _ => 0), zi G e5_20 3 (fun _ => 0), zi G qs_6 32 (fun _ => 0), zo1 q_21 q_1 q1_24 0 0 0 0 (nI i), zi G q1_24 160 (gPf tB i), zo0 q_25 q_1 q1_28 q2_29 q3_30 q4_31 q5_32 q6_33 q7_34 q8_35 0 0 0, zi G q1_28 6 (fun _ => 0), zi G q2_29 4 (fun _ => 0), zi G q3_30 4 (fun _ => 0), zi G q4_31 4 (fun _ => 0), zi G q5_32 6 (fun _ => 0), zi G q6_33 6 (fun _ => 0), zi G q7_34 6 (fun _ => 0), zi G q8_35 6 (fun _ => 0), zo0 q_36 q_1 q1_39 q2_40 q3_41 q4_42 q5_43 q6_44 q7_45 q8_46 0 0 0, zi G q1_39 6 (fun _ => 0), zi G q2_40 4 (fun _ => 0), zi G q3_41 4 (fun _ => 0), zi G q4_42 4 (fun _ => 0), zi G q5_43 6 (fun _ => 0), zi G q6_44 6 (fun _ => 0), zi G q7_45 6 (fun _ => 0), zi G q8_46 6 (fun _ => 0), zo0 q_47 q_1 q1_50 q2_51 q3_52 q4_53 q5_54 q6_55 q7_56 q8_57 0 0 0, zi G q1_50 6 (fun _ => 0), zi G q2_51 4 (fun _ => 0), zi G q3_52 4 (fun _ => 0), zi G q4_53 4 (fun _ => 0), zi G q5_54 6 (fun _ => 0), zi G q6_55 6 (fun _ => 0), zi G q7_56 6 (fun _ => 0), zi G q8_57 6 (fun _ => 0), zo2 q_58 qn_61 qo_62 ql_63, zr G qn_61 4 fn_64, zi G r0_65 40 (fun _ => 0), zi G r1_66 40 (fun _ => 0), zi G r2_67 40 (fun _ => 0), zi G r3_68 40 (fun _ => 0), zi G qo_62 4 (gFl (-1) (fun _ => 0) 4), zi G ql_63 4 (fun _ => 0), zo4 q_69 qw_72 qr_73, zr G qw_72 6 fw_74, zi G w0_75 6 (fun _ => 0), zi G w1_76 6 (fun _ => 0), zi G w2_77 6 (fun _ => 0), zi G w3_78 6 (fun _ => 0), zi G w4_79 6 (fun _ => 0), zi G w5_80 6 (fun _ => 0), zi G qr_73 64 (fun _ => 0)] H → va_D A [zo5 h0 q_1 q_21 q_25 q_36 q_47 q_58 q_69 0, zo3 q_1 qc_4 qe_5 qs_6 0 0, zr G qc_4 6 fc_7, zi G c0_9 160 (fun _ => 0), zi G c1_10 160 (fun _ => 0), zi G c2_11 160 (fun _ => 0), zi G c3_12 160 (fun _ => 0), zi G c4_13 160 (fun _ => 0), zi G c5_14 160 (fun _ => 0), zr G qe_5 6 fe_8, zi G e0_15 3 (fun _ => 0), zi G e1_16 3 (fun _ => 0), zi G e2_17 3 (fun _ => 0), zi G e3_18 3 (fun _ => 0), zi G e4_19 3 (fun _ => 0), zi G e5_20 3 (fun _ => 0), zi G qs_6 32 (fun _ => 0), zo1 q_21 q_1 q1_24 0 0 0 0 (nI i), zi G q1_24 160 (gPf tB i), zo0 q_25 q_1 q1_28 q2_29 q3_30 q4_31 q5_32 q6_33 q7_34 q8_35 0 0 0, zi G q1_28 6 (fun _ => 0), zi G q2_29 4 (fun _ => 0), zi G q3_30 4 (fun _ => 0), zi G q4_31 4 (fun _ => 0), zi G q5_32 6 (fun _ => 0), zi G q6_33 6 (fun _ => 0), zi G q7_34 6 (fun _ => 0), zi G q8_35 6 (fun _ => 0), zo0 q_36 q_1 q1_39 q2_40 q3_41 q4_42 q5_43 q6_44 q7_45 q8_46 0 0 0, zi G q1_39 6 (fun _ => 0), zi G q2_40 4 (fun _ => 0), zi G q3_41 4 (fun _ => 0), zi G q4_42 4 (fun _ => 0), zi G q5_43 6 (fun _ => 0), zi G q6_44 6 (fun _ => 0), zi G q7_45 6 (fun _ => 0), zi G q8_46 6 (fun _ => 0), zo0 q_47 q_1 q1_50 q2_51 q3_52 q4_53 q5_54 q6_55 q7_56 q8_57 0 0 0, zi G q1_50 6 (fun _ => 0), zi G q2_51 4 (fun _ => 0), zi G q3_52 4 (fun _ => 0), zi G q4_53 4 (fun _ => 0), zi G q5_54 6 (fun _ => 0), zi G q6_55 6 (fun _ => 0), zi G q7_56 6 (fun _ => 0), zi G q8_57 6 (fun _ => 0), zo2 q_58 qn_61 qo_62 ql_63, zr G qn_61 4 fn_64, zi G r0_65 40 (fun _ => 0), zi G r1_66 40 (fun _ => 0), zi G r2_67 40 (fun _ => 0), zi G r3_68 40 (fun _ => 0), zi G qo_62 4 (gFl (-1) (fun _ => 0) 4), zi G ql_63 4 (fun _ => 0), zo4 q_69 qw_72 qr_73, zr G qw_72 6 fw_74, zi G w0_75 6 (fun _ => 0), zi G w1_76 6 (fun _ => 0), zi G w2_77 6 (fun _ => 0), zi G w3_78 6 (fun _ => 0), zi G w4_79 6 (fun _ => 0), zi G w5_80 6 (fun _ => 0), zi G qr_73 64 (fun _ => 0)] → va_S A s.heap H locs → ∀ ls : Array Slot, lv_has ls 2 [zI 1 (nI i), zR 0 h0] → W p l e (headSpec wsX5_init ({ frames := 45, cells := 62, slots := 1639, locals := 982 })).room s m ([.ref h0] : List Value).toArray below meth c H locs 62 1639 (MQ below (q_X5_init_g G E h0 A) ([.ref h0] : List Value).toArray s 62 1639 A) (F0 m 99 ls []) := by
    intro n9
    induction n9 with
    | zero => intro i hi hm9; exact absurd hm9 (Nat.not_lt_zero _)
    | succ n9 ih9 =>
      intro i hi hm9 H locs hP hD hS ls hl
      refine lv_iload_n hx hb dX5_init_99 rfl (lv_at hl 0 rfl) ?_
      refine va_ldcS hx hb hown (hE.2.1 13 (RX5, 52, "feels size - round ; wears 1 ; bars 30 ;") rfl) dX5_init_100 ?_
      have hz9 : gPD G A [] H := ⟨hP.sub [] rfl, hD.sub [] (by decide +kernel) rfl⟩
      have hPc := hz9.1
      have hDc := hz9.2
      have hFc := gFree hPc hD hS hA [] rfl
      refine va_calli (va_runV (As := []) (rest := [.int (nI i)]) ⟨hx, hb, hml, hown, hts⟩ (c_J0_length_8abf5 l G E 13 H.size (by decide +kernel)) (cwV 0 hts gX5_init_J0_length_8abf5 rfl rfl rfl (by decide +kernel) ⟨Nat.le_of_ble_eq_true rfl, Nat.le_of_ble_eq_true rfl⟩) ⟨gPreE_blind, vk_recv hE.1 (by decide +kernel) hS, fun U hU hW => gPreE_of hU hW hK hPc hDc hE hS hFc⟩ rfl rfl hl.1 rfl (lv_room (Nat.le_of_ble_eq_true rfl)) dX5_init_102 ⟨Nat.le_of_ble_eq_true rfl, Nat.le_of_ble_eq_true rfl⟩) hS (fun q _ h => hFc q h) hFc (fun r_81 u t H locs ht hvm w_82 hB hz1 hk1 hS => ?_)
      obtain ⟨hP1, hK1, hD1⟩ := hB
      rw [ht] at hP1
      have hz9 : gPD G (va_A _ _) [] H := ⟨hP1, hD1⟩
      have hP1 := hz9.1
      have hD1 := hz9.2
      have w_82 : r_81 = nI (gLen.getD 13 0) := w_82
      have hz9 : gPD G A [zo5 h0 q_1 q_21 q_25 q_36 q_47 q_58 q_69 0, zo3 q_1 qc_4 qe_5 qs_6 0 0, zr G qc_4 6 fc_7, zi G c0_9 160 (fun _ => 0), zi G c1_10 160 (fun _ => 0), zi G c2_11 160 (fun _ => 0), zi G c3_12 160 (fun _ => 0), zi G c4_13 160 (fun _ => 0), zi G c5_14 160 (fun _ => 0), zr G qe_5 6 fe_8, zi G e0_15 3 (fun _ => 0), zi G e1_16 3 (fun _ => 0), zi G e2_17 3 (fun _ => 0), zi G e3_18 3 (fun _ => 0), zi G e4_19 3 (fun _ => 0), zi G e5_20 3 (fun _ => 0), zi G qs_6 32 (fun _ => 0), zo1 q_21 q_1 q1_24 0 0 0 0 (nI i), zi G q1_24 160 (gPf tB i), zo0 q_25 q_1 q1_28 q2_29 q3_30 q4_31 q5_32 q6_33 q7_34 q8_35 0 0 0, zi G q1_28 6 (fun _ => 0), zi G q2_29 4 (fun _ => 0), zi G q3_30 4 (fun _ => 0), zi G q4_31 4 (fun _ => 0), zi G q5_32 6 (fun _ => 0), zi G q6_33 6 (fun _ => 0), zi G q7_34 6 (fun _ => 0), zi G q8_35 6 (fun _ => 0), zo0 q_36 q_1 q1_39 q2_40 q3_41 q4_42 q5_43 q6_44 q7_45 q8_46 0 0 0, zi G q1_39 6 (fun _ => 0), zi G q2_40 4 (fun _ => 0), zi G q3_41 4 (fun _ => 0), zi G q4_42 4 (fun _ => 0), zi G q5_43 6 (fun _ => 0), zi G q6_44 6 (fun _ => 0), zi G q7_45 6 (fun _ => 0), zi G q8_46 6 (fun _ => 0), zo0 q_47 q_1 q1_50 q2_51 q3_52 q4_53 q5_54 q6_55 q7_56 q8_57 0 0 0, zi G q1_50 6 (fun _ => 0), zi G q2_51 4 (fun _ => 0), zi G q3_52 4 (fun _ => 0), zi G q4_53 4 (fun _ => 0), zi G q5_54 6 (fun _ => 0), zi G q6_55 6 (fun _ => 0), zi G q7_56 6 (fun _ => 0), zi G q8_57 6 (fun _ => 0), zo2 q_58 qn_61 qo_62 ql_63, zr G qn_61 4 fn_64, zi G r0_65 40 (fun _ => 0), zi G r1_66 40 (fun _ => 0), zi G r2_67 40 (fun _ => 0), zi G r3_68 40 (fun _ => 0), zi G qo_62 4 (gFl (-1) (fun _ => 0) 4), zi G ql_63 4 (fun _ => 0), zo4 q_69 qw_72 qr_73, zr G qw_72 6 fw_74, zi G w0_75 6 (fun _ => 0), zi G w1_76 6 (fun _ => 0), zi G w2_77 6 (fun _ => 0), zi G w3_78 6 (fun _ => 0), zi G w4_79 6 (fun _ => 0), zi G w5_80 6 (fun _ => 0), zi G qr_73 64 (fun _ => 0)] H := gJoin hP hD hk1 hFc hP1 hD1 [] [0, 1, 2, 3, 4, 5, 6, 7, 8, 9, 10, 11, 12, 13, 14, 15, 16, 17, 18, 19, 20, 21, 22, 23, 24, 25, 26, 27, 28, 29, 30, 31, 32, 33, 34, 35, 36, 37, 38, 39, 40, 41, 42, 43, 44, 45, 46, 47, 48, 49, 50, 51, 52, 53, 54, 55, 56, 57, 58, 59, 60, 61, 62] rfl rfl rfl (by decide +kernel) (by decide +kernel)
      have hP := hz9.1
      have hD := hz9.2
      have w_82 : r_81 = 40 := w_82.trans (by decide +kernel)
      subst w_82
      refine lv_icmp_ge (tgt := 127) hx hb dX5_init_105 (by decide +kernel) (fun c_83 => ?_) (fun c_83 => ?_)
      · skip
        have hie : i = 40 := by have := (nI_leI (a := 40) (by omega) (by omega)).mp c_83; omega
        rw [hie] at hP hD
        have hz9 : gPD G A [zo5 h0 q_1 q_21 q_25 q_36 q_47 q_58 q_69 0, zo3 q_1 qc_4 qe_5 qs_6 0 0, zr G qc_4 6 fc_7, zi G c0_9 160 (fun _ => 0), zi G c1_10 160 (fun _ => 0), zi G c2_11 160 (fun _ => 0), zi G c3_12 160 (fun _ => 0), zi G c4_13 160 (fun _ => 0), zi G c5_14 160 (fun _ => 0), zr G qe_5 6 fe_8, zi G e0_15 3 (fun _ => 0), zi G e1_16 3 (fun _ => 0), zi G e2_17 3 (fun _ => 0), zi G e3_18 3 (fun _ => 0), zi G e4_19 3 (fun _ => 0), zi G e5_20 3 (fun _ => 0), zi G qs_6 32 (fun _ => 0), zo1 q_21 q_1 q1_24 0 0 0 0 40, zi G q1_24 160 (gPf tB 40), zo0 q_25 q_1 q1_28 q2_29 q3_30 q4_31 q5_32 q6_33 q7_34 q8_35 0 0 0, zi G q1_28 6 (fun _ => 0), zi G q2_29 4 (fun _ => 0), zi G q3_30 4 (fun _ => 0), zi G q4_31 4 (fun _ => 0), zi G q5_32 6 (fun _ => 0), zi G q6_33 6 (fun _ => 0), zi G q7_34 6 (fun _ => 0), zi G q8_35 6 (fun _ => 0), zo0 q_36 q_1 q1_39 q2_40 q3_41 q4_42 q5_43 q6_44 q7_45 q8_46 0 0 0, zi G q1_39 6 (fun _ => 0), zi G q2_40 4 (fun _ => 0), zi G q3_41 4 (fun _ => 0), zi G q4_42 4 (fun _ => 0), zi G q5_43 6 (fun _ => 0), zi G q6_44 6 (fun _ => 0), zi G q7_45 6 (fun _ => 0), zi G q8_46 6 (fun _ => 0), zo0 q_47 q_1 q1_50 q2_51 q3_52 q4_53 q5_54 q6_55 q7_56 q8_57 0 0 0, zi G q1_50 6 (fun _ => 0), zi G q2_51 4 (fun _ => 0), zi G q3_52 4 (fun _ => 0), zi G q4_53 4 (fun _ => 0), zi G q5_54 6 (fun _ => 0), zi G q6_55 6 (fun _ => 0), zi G q7_56 6 (fun _ => 0), zi G q8_57 6 (fun _ => 0), zo2 q_58 qn_61 qo_62 ql_63, zr G qn_61 4 fn_64, zi G r0_65 40 (fun _ => 0), zi G r1_66 40 (fun _ => 0), zi G r2_67 40 (fun _ => 0), zi G r3_68 40 (fun _ => 0), zi G qo_62 4 (gFl (-1) (fun _ => 0) 4), zi G ql_63 4 (fun _ => 0), zo4 q_69 qw_72 qr_73, zr G qw_72 6 fw_74, zi G w0_75 6 (fun _ => 0), zi G w1_76 6 (fun _ => 0), zi G w2_77 6 (fun _ => 0), zi G w3_78 6 (fun _ => 0), zi G w4_79 6 (fun _ => 0), zi G w5_80 6 (fun _ => 0), zi G qr_73 64 (fun _ => 0)] H := ⟨hP, hD⟩
        have hP := hz9.1
        have hD := hz9.2
        refine lv_aload_n hx hb dX5_init_127 rfl (lv_at hl 1 rfl) ?_
        refine va_get (D := G.1) (ci := 5) (v := .ref q_21) (C := RX5) (T := TX5) (N := 8) hx hb hts hiX5 hown hK hP 0 rfl rfl 1 (by decide +kernel) kf21 (fun _ h9 => h9) rfl dX5_init_128 ?_
        have hz9 : gPD G A [zo5 h0 q_1 q_21 q_25 q_36 q_47 q_58 q_69 0, zo3 q_1 qc_4 qe_5 qs_6 0 0, zr G qc_4 6 fc_7, zi G c0_9 160 (fun _ => 0), zi G c1_10 160 (fun _ => 0), zi G c2_11 160 (fun _ => 0), zi G c3_12 160 (fun _ => 0), zi G c4_13 160 (fun _ => 0), zi G c5_14 160 (fun _ => 0), zr G qe_5 6 fe_8, zi G e0_15 3 (nF (fun _ => 0)), zi G e1_16 3 (fun _ => 0), zi G e2_17 3 (fun _ => 0), zi G e3_18 3 (fun _ => 0), zi G e4_19 3 (fun _ => 0), zi G e5_20 3 (fun _ => 0), zi G qs_6 32 (fun _ => 0), zo1 q_21 q_1 q1_24 0 0 0 0 40, zi G q1_24 160 (gPf tB 40), zo0 q_25 q_1 q1_28 q2_29 q3_30 q4_31 q5_32 q6_33 q7_34 q8_35 0 0 0, zi G q1_28 6 (fun _ => 0), zi G q2_29 4 (fun _ => 0), zi G q3_30 4 (fun _ => 0), zi G q4_31 4 (fun _ => 0), zi G q5_32 6 (fun _ => 0), zi G q6_33 6 (fun _ => 0), zi G q7_34 6 (fun _ => 0), zi G q8_35 6 (fun _ => 0), zo0 q_36 q_1 q1_39 q2_40 q3_41 q4_42 q5_43 q6_44 q7_45 q8_46 0 0 0, zi G q1_39 6 (fun _ => 0), zi G q2_40 4 (fun _ => 0), zi G q3_41 4 (fun _ => 0), zi G q4_42 4 (fun _ => 0), zi G q5_43 6 (fun _ => 0), zi G q6_44 6 (fun _ => 0), zi G q7_45 6 (fun _ => 0), zi G q8_46 6 (fun _ => 0), zo0 q_47 q_1 q1_50 q2_51 q3_52 q4_53 q5_54 q6_55 q7_56 q8_57 0 0 0, zi G q1_50 6 (fun _ => 0), zi G q2_51 4 (fun _ => 0), zi G q3_52 4 (fun _ => 0), zi G q4_53 4 (fun _ => 0), zi G q5_54 6 (fun _ => 0), zi G q6_55 6 (fun _ => 0), zi G q7_56 6 (fun _ => 0), zi G q8_57 6 (fun _ => 0), zo2 q_58 qn_61 qo_62 ql_63, zr G qn_61 4 fn_64, zi G r0_65 40 (fun _ => 0), zi G r1_66 40 (fun _ => 0), zi G r2_67 40 (fun _ => 0), zi G r3_68 40 (fun _ => 0), zi G qo_62 4 (gFl (-1) (fun _ => 0) 4), zi G ql_63 4 (fun _ => 0), zo4 q_69 qw_72 qr_73, zr G qw_72 6 fw_74, zi G w0_75 6 (fun _ => 0), zi G w1_76 6 (fun _ => 0), zi G w2_77 6 (fun _ => 0), zi G w3_78 6 (fun _ => 0), zi G w4_79 6 (fun _ => 0), zi G w5_80 6 (fun _ => 0), zi G qr_73 64 (fun _ => 0)] H := ⟨g_ext hP 10 rfl (fun i h9 => nI_0.symm), g_extD hD 10 rfl⟩
        have hP := hz9.1
        have hD := hz9.2
        have hz9 : gPD G A [zo1 q_21 q_1 q1_24 0 0 0 0 (nI 40), zi G q1_24 160 (gPf tB 40), zo3 q_1 qc_4 qe_5 qs_6 0 (nI 0), zr G qc_4 6 fc_7, zi G c0_9 160 (fun _ => 0), zr G qe_5 6 fe_8, zi G e0_15 3 (nF (fun _ => 0))] H := ⟨hP.sub [17, 18, 1, 2, 3, 9, 10] rfl, hD.sub [17, 18, 1, 2, 3, 9, 10] (by decide +kernel) rfl⟩
        have hPc := hz9.1
        have hDc := hz9.2
        have hFc := gFree hPc hD hS hA [17, 18, 1, 2, 3, 9, 10] rfl
        refine va_calli (va_runV (As := []) (rest := []) ⟨hx, hb, hml, hown, hts⟩ (c_X1_read_g l G E q_21 q_1 q1_24 qc_4 qe_5 qs_6 c0_9 e0_15 (gPf tB 40) fc_7 (fun _ => 0) fe_8 (fun _ => 0) 0 0 0 0 0 40 0 H.size (by decide +kernel) (by decide +kernel) (hc0) (he0)) (cwV 0 hts gX5_init_X1_read rfl rfl rfl (by decide +kernel) ⟨Nat.le_of_ble_eq_true rfl, Nat.le_of_ble_eq_true rfl⟩) ⟨gPreE_blind, va_recv hK hPc (ci := 1) (q0 := 0) rfl rfl, fun U hU hW => gPreE_of hU hW hK hPc hDc hE hS hFc⟩ rfl rfl hl.1 rfl (lv_room (Nat.le_of_ble_eq_true rfl)) dX5_init_131 ⟨Nat.le_of_ble_eq_true rfl, Nat.le_of_ble_eq_true rfl⟩) hS (fun q _ h => hFc q h) hFc (fun r_84 u t H locs ht hvm w_85 hB hz1 hk1 hS => ?_)
        obtain ⟨za_86, zt_87, zp_88, zm_89, zw_90, yct_91, yet_92, ztx_93⟩ := u
        obtain ⟨hP1, hK1, hD1⟩ := hB
        rw [ht] at hP1
        have hz9 : gPD G (va_A _ _) [zo1 q_21 q_1 q1_24 (nI za_86) zt_87 (nI zp_88) zm_89 0, zi G q1_24 160 (gPf tB 40), zo3 q_1 qc_4 qe_5 qs_6 (nI zw_90) (nI ztx_93), zr G qc_4 6 fc_7, zi G c0_9 160 yct_91, zr G qe_5 6 fe_8, zi G e0_15 3 (nF yet_92)] H := ⟨hP1, hD1⟩
        have hP1 := hz9.1
        have hD1 := hz9.2
        have w_85 : zw_90 ≤ 160 ∧ gRead (gPf tB 40) 40 0 ((0, 0, 0, 0, 0, (fun _ => 0)), (fun _ => 0)) r_84 ztx_93 ((za_86, zt_87, zp_88, zm_89, zw_90, yct_91), yet_92) := w_85
        have hz9 : gPD G A [zo5 h0 q_1 q_21 q_25 q_36 q_47 q_58 q_69 0, zi G c1_10 160 (fun _ => 0), zi G c2_11 160 (fun _ => 0), zi G c3_12 160 (fun _ => 0), zi G c4_13 160 (fun _ => 0), zi G c5_14 160 (fun _ => 0), zi G e1_16 3 (fun _ => 0), zi G e2_17 3 (fun _ => 0), zi G e3_18 3 (fun _ => 0), zi G e4_19 3 (fun _ => 0), zi G e5_20 3 (fun _ => 0), zi G qs_6 32 (fun _ => 0), zo0 q_25 q_1 q1_28 q2_29 q3_30 q4_31 q5_32 q6_33 q7_34 q8_35 0 0 0, zi G q1_28 6 (fun _ => 0), zi G q2_29 4 (fun _ => 0), zi G q3_30 4 (fun _ => 0), zi G q4_31 4 (fun _ => 0), zi G q5_32 6 (fun _ => 0), zi G q6_33 6 (fun _ => 0), zi G q7_34 6 (fun _ => 0), zi G q8_35 6 (fun _ => 0), zo0 q_36 q_1 q1_39 q2_40 q3_41 q4_42 q5_43 q6_44 q7_45 q8_46 0 0 0, zi G q1_39 6 (fun _ => 0), zi G q2_40 4 (fun _ => 0), zi G q3_41 4 (fun _ => 0), zi G q4_42 4 (fun _ => 0), zi G q5_43 6 (fun _ => 0), zi G q6_44 6 (fun _ => 0), zi G q7_45 6 (fun _ => 0), zi G q8_46 6 (fun _ => 0), zo0 q_47 q_1 q1_50 q2_51 q3_52 q4_53 q5_54 q6_55 q7_56 q8_57 0 0 0, zi G q1_50 6 (fun _ => 0), zi G q2_51 4 (fun _ => 0), zi G q3_52 4 (fun _ => 0), zi G q4_53 4 (fun _ => 0), zi G q5_54 6 (fun _ => 0), zi G q6_55 6 (fun _ => 0), zi G q7_56 6 (fun _ => 0), zi G q8_57 6 (fun _ => 0), zo2 q_58 qn_61 qo_62 ql_63, zr G qn_61 4 fn_64, zi G r0_65 40 (fun _ => 0), zi G r1_66 40 (fun _ => 0), zi G r2_67 40 (fun _ => 0), zi G r3_68 40 (fun _ => 0), zi G qo_62 4 (gFl (-1) (fun _ => 0) 4), zi G ql_63 4 (fun _ => 0), zo4 q_69 qw_72 qr_73, zr G qw_72 6 fw_74, zi G w0_75 6 (fun _ => 0), zi G w1_76 6 (fun _ => 0), zi G w2_77 6 (fun _ => 0), zi G w3_78 6 (fun _ => 0), zi G w4_79 6 (fun _ => 0), zi G w5_80 6 (fun _ => 0), zi G qr_73 64 (fun _ => 0), zo1 q_21 q_1 q1_24 (nI za_86) zt_87 (nI zp_88) zm_89 0, zi G q1_24 160 (gPf tB 40), zo3 q_1 qc_4 qe_5 qs_6 (nI zw_90) (nI ztx_93), zr G qc_4 6 fc_7, zi G c0_9 160 yct_91, zr G qe_5 6 fe_8, zi G e0_15 3 (nF yet_92)] H := gJoin hP hD hk1 hFc hP1 hD1 [17, 18, 1, 2, 3, 9, 10] [0, 4, 5, 6, 7, 8, 11, 12, 13, 14, 15, 16, 19, 20, 21, 22, 23, 24, 25, 26, 27, 28, 29, 30, 31, 32, 33, 34, 35, 36, 37, 38, 39, 40, 41, 42, 43, 44, 45, 46, 47, 48, 49, 50, 51, 52, 53, 54, 55, 56, 57, 58, 59, 60, 61, 62] rfl rfl rfl (by decide +kernel) (by decide +kernel)
        have hP := hz9.1
        have hD := hz9.2
        have hrd := w_85
        refine lv_pop hx hb dX5_init_134 rfl ?_
        refine W.widen (k := 62) (n := 1639) (by omega) (by omega) ?_
        have hP9 := hP.sub (ws' := [zo5 h0 q_1 q_21 q_25 q_36 q_47 q_58 q_69 0, zo1 q_21 q_1 q1_24 (nI za_86) zt_87 (nI zp_88) zm_89 0, zi G q1_24 160 (gPf tB 40), zo3 q_1 qc_4 qe_5 qs_6 (nI zw_90) (nI ztx_93), zr G qc_4 6 fc_7, zi G c0_9 160 yct_91, zi G c1_10 160 (fun _ => 0), zi G c2_11 160 (fun _ => 0), zi G c3_12 160 (fun _ => 0), zi G c4_13 160 (fun _ => 0), zi G c5_14 160 (fun _ => 0), zr G qe_5 6 fe_8, zi G e0_15 3 (nF yet_92), zi G e1_16 3 (fun _ => 0), zi G e2_17 3 (fun _ => 0), zi G e3_18 3 (fun _ => 0), zi G e4_19 3 (fun _ => 0), zi G e5_20 3 (fun _ => 0), zi G qs_6 32 (fun _ => 0), zo0 q_25 q_1 q1_28 q2_29 q3_30 q4_31 q5_32 q6_33 q7_34 q8_35 0 0 0, zi G q1_28 6 (fun _ => 0), zi G q2_29 4 (fun _ => 0), zi G q3_30 4 (fun _ => 0), zi G q4_31 4 (fun _ => 0), zi G q5_32 6 (fun _ => 0), zi G q6_33 6 (fun _ => 0), zi G q7_34 6 (fun _ => 0), zi G q8_35 6 (fun _ => 0), zo0 q_36 q_1 q1_39 q2_40 q3_41 q4_42 q5_43 q6_44 q7_45 q8_46 0 0 0, zi G q1_39 6 (fun _ => 0), zi G q2_40 4 (fun _ => 0), zi G q3_41 4 (fun _ => 0), zi G q4_42 4 (fun _ => 0), zi G q5_43 6 (fun _ => 0), zi G q6_44 6 (fun _ => 0), zi G q7_45 6 (fun _ => 0), zi G q8_46 6 (fun _ => 0), zo0 q_47 q_1 q1_50 q2_51 q3_52 q4_53 q5_54 q6_55 q7_56 q8_57 0 0 0, zi G q1_50 6 (fun _ => 0), zi G q2_51 4 (fun _ => 0), zi G q3_52 4 (fun _ => 0), zi G q4_53 4 (fun _ => 0), zi G q5_54 6 (fun _ => 0), zi G q6_55 6 (fun _ => 0), zi G q7_56 6 (fun _ => 0), zi G q8_57 6 (fun _ => 0), zo2 q_58 qn_61 qo_62 ql_63, zr G qn_61 4 fn_64, zi G r0_65 40 (fun _ => 0), zi G r1_66 40 (fun _ => 0), zi G r2_67 40 (fun _ => 0), zi G r3_68 40 (fun _ => 0), zi G qo_62 4 (gFl (-1) (fun _ => 0) 4), zi G ql_63 4 (fun _ => 0), zo4 q_69 qw_72 qr_73, zr G qw_72 6 fw_74, zi G w0_75 6 (fun _ => 0), zi G w1_76 6 (fun _ => 0), zi G w2_77 6 (fun _ => 0), zi G w3_78 6 (fun _ => 0), zi G w4_79 6 (fun _ => 0), zi G w5_80 6 (fun _ => 0), zi G qr_73 64 (fun _ => 0)]) [0, 56, 57, 58, 59, 60, 1, 2, 3, 4, 5, 61, 62, 6, 7, 8, 9, 10, 11, 12, 13, 14, 15, 16, 17, 18, 19, 20, 21, 22, 23, 24, 25, 26, 27, 28, 29, 30, 31, 32, 33, 34, 35, 36, 37, 38, 39, 40, 41, 42, 43, 44, 45, 46, 47, 48, 49, 50, 51, 52, 53, 54, 55] rfl
        have hD9 := hD.sub (ws' := [zo5 h0 q_1 q_21 q_25 q_36 q_47 q_58 q_69 0, zo1 q_21 q_1 q1_24 (nI za_86) zt_87 (nI zp_88) zm_89 0, zi G q1_24 160 (gPf tB 40), zo3 q_1 qc_4 qe_5 qs_6 (nI zw_90) (nI ztx_93), zr G qc_4 6 fc_7, zi G c0_9 160 yct_91, zi G c1_10 160 (fun _ => 0), zi G c2_11 160 (fun _ => 0), zi G c3_12 160 (fun _ => 0), zi G c4_13 160 (fun _ => 0), zi G c5_14 160 (fun _ => 0), zr G qe_5 6 fe_8, zi G e0_15 3 (nF yet_92), zi G e1_16 3 (fun _ => 0), zi G e2_17 3 (fun _ => 0), zi G e3_18 3 (fun _ => 0), zi G e4_19 3 (fun _ => 0), zi G e5_20 3 (fun _ => 0), zi G qs_6 32 (fun _ => 0), zo0 q_25 q_1 q1_28 q2_29 q3_30 q4_31 q5_32 q6_33 q7_34 q8_35 0 0 0, zi G q1_28 6 (fun _ => 0), zi G q2_29 4 (fun _ => 0), zi G q3_30 4 (fun _ => 0), zi G q4_31 4 (fun _ => 0), zi G q5_32 6 (fun _ => 0), zi G q6_33 6 (fun _ => 0), zi G q7_34 6 (fun _ => 0), zi G q8_35 6 (fun _ => 0), zo0 q_36 q_1 q1_39 q2_40 q3_41 q4_42 q5_43 q6_44 q7_45 q8_46 0 0 0, zi G q1_39 6 (fun _ => 0), zi G q2_40 4 (fun _ => 0), zi G q3_41 4 (fun _ => 0), zi G q4_42 4 (fun _ => 0), zi G q5_43 6 (fun _ => 0), zi G q6_44 6 (fun _ => 0), zi G q7_45 6 (fun _ => 0), zi G q8_46 6 (fun _ => 0), zo0 q_47 q_1 q1_50 q2_51 q3_52 q4_53 q5_54 q6_55 q7_56 q8_57 0 0 0, zi G q1_50 6 (fun _ => 0), zi G q2_51 4 (fun _ => 0), zi G q3_52 4 (fun _ => 0), zi G q4_53 4 (fun _ => 0), zi G q5_54 6 (fun _ => 0), zi G q6_55 6 (fun _ => 0), zi G q7_56 6 (fun _ => 0), zi G q8_57 6 (fun _ => 0), zo2 q_58 qn_61 qo_62 ql_63, zr G qn_61 4 fn_64, zi G r0_65 40 (fun _ => 0), zi G r1_66 40 (fun _ => 0), zi G r2_67 40 (fun _ => 0), zi G r3_68 40 (fun _ => 0), zi G qo_62 4 (gFl (-1) (fun _ => 0) 4), zi G ql_63 4 (fun _ => 0), zo4 q_69 qw_72 qr_73, zr G qw_72 6 fw_74, zi G w0_75 6 (fun _ => 0), zi G w1_76 6 (fun _ => 0), zi G w2_77 6 (fun _ => 0), zi G w3_78 6 (fun _ => 0), zi G w4_79 6 (fun _ => 0), zi G w5_80 6 (fun _ => 0), zi G qr_73 64 (fun _ => 0)]) [0, 56, 57, 58, 59, 60, 1, 2, 3, 4, 5, 61, 62, 6, 7, 8, 9, 10, 11, 12, 13, 14, 15, 16, 17, 18, 19, 20, 21, 22, 23, 24, 25, 26, 27, 28, 29, 30, 31, 32, 33, 34, 35, 36, 37, 38, 39, 40, 41, 42, 43, 44, 45, 46, 47, 48, 49, 50, 51, 52, 53, 54, 55] (by decide +kernel) rfl
        have hpost : (fun (u : Nat × Nat × Nat × Nat × Nat × Nat × Nat × Nat × Nat × Nat × Nat × Nat × Nat × Nat × Nat × Nat × Nat × Nat × Nat × Nat × Nat × Nat × Nat × Nat × Nat × Nat × Nat × Nat × Nat × Nat × Nat × Nat × Nat × Nat × Nat × Nat × Nat × Nat × Nat × Nat × Nat × Nat × Nat × Nat × Nat × Nat × Nat × Nat × Nat × Nat × Nat × Nat × Nat × Nat × Nat × Nat × Nat × Nat × Nat × Nat × Nat × Nat × (Nat → Option Nat) × (Nat → Option Nat) × (Nat → Option Nat) × (Nat → Option Nat) × Nat × Int32 × Nat × Int32 × Nat × (Nat → Int32) × (Nat → Nat) × Nat) => match u with | (tt, rd, nw, th, kp, sh, tu, b0, co, en, sk, n1, n2, n3, n4, n5, n6, n7, n8, t1, t2, t3, t4, t5, t6, t7, t8, k1, k2, k3, k4, k5, k6, k7, k8, qn, qo, ql, tw, tr, r0, r1, r2, r3, c0, c1, c2, c3, c4, c5, e0, e1, e2, e3, e4, e5, w0, w1, w2, w3, w4, w5, fc, fe, fn, fw, za, zt, zp, zm, zw, yct, yet, ztx) => fn 0 = some r0 ∧ fn 1 = some r1 ∧ fn 2 = some r2 ∧ fn 3 = some r3 ∧ fc 0 = some c0 ∧ fc 1 = some c1 ∧ fc 2 = some c2 ∧ fc 3 = some c3 ∧ fc 4 = some c4 ∧ fc 5 = some c5 ∧ fe 0 = some e0 ∧ fe 1 = some e1 ∧ fe 2 = some e2 ∧ fe 3 = some e3 ∧ fe 4 = some e4 ∧ fe 5 = some e5 ∧ fw 0 = some w0 ∧ fw 1 = some w1 ∧ fw 2 = some w2 ∧ fw 3 = some w3 ∧ fw 4 = some w4 ∧ fw 5 = some w5 ∧ ∃ r9, gRead (gPf tB 40) 40 0 ((0, 0, 0, 0, 0, fun _ => 0), fun _ => 0) r9 ztx ((za, zt, zp, zm, zw, yct), yet)) (q_1, q_21, q_25, q_36, q_47, q_58, q_69, q1_24, qc_4, qe_5, qs_6, q1_28, q2_29, q3_30, q4_31, q5_32, q6_33, q7_34, q8_35, q1_39, q2_40, q3_41, q4_42, q5_43, q6_44, q7_45, q8_46, q1_50, q2_51, q3_52, q4_53, q5_54, q6_55, q7_56, q8_57, qn_61, qo_62, ql_63, qw_72, qr_73, r0_65, r1_66, r2_67, r3_68, c0_9, c1_10, c2_11, c3_12, c4_13, c5_14, e0_15, e1_16, e2_17, e3_18, e4_19, e5_20, w0_75, w1_76, w2_77, w3_78, w4_79, w5_80, fc_7, fe_8, fn_64, fw_74, za_86, zt_87, zp_88, zm_89, zw_90, yct_91, yet_92, ztx_93) := ⟨hr0, hr1, hr2, hr3, hc0, hc1, hc2, hc3, hc4, hc5, he0, he1, he2, he3, he4, he5, hw0, hw1, hw2, hw3, hw4, hw5, _, hrd.2⟩
        exact W.vret hx hb hr (fun t ht hW => ⟨⟨(q_1, q_21, q_25, q_36, q_47, q_58, q_69, q1_24, qc_4, qe_5, qs_6, q1_28, q2_29, q3_30, q4_31, q5_32, q6_33, q7_34, q8_35, q1_39, q2_40, q3_41, q4_42, q5_43, q6_44, q7_45, q8_46, q1_50, q2_51, q3_52, q4_53, q5_54, q6_55, q7_56, q8_57, qn_61, qo_62, ql_63, qw_72, qr_73, r0_65, r1_66, r2_67, r3_68, c0_9, c1_10, c2_11, c3_12, c4_13, c5_14, e0_15, e1_16, e2_17, e3_18, e4_19, e5_20, w0_75, w1_76, w2_77, w3_78, w4_79, w5_80, fc_7, fe_8, fn_64, fw_74, za_86, zt_87, zp_88, zm_89, zw_90, yct_91, yet_92, ztx_93), rfl, hpost, by rw [ht]; exact hP9, va_K.moved hW.alike hK, hD9⟩, hS.F ht⟩) hS.2.2 dX5_init_135
      · skip
        have hi2 : i < 40 := by
          rcases Nat.lt_or_ge i 40 with z | z
          · exact z
          · exact absurd (nI_le (a := 40) z (by omega)) c_83
        refine lv_aload_n hx hb dX5_init_108 rfl (lv_at hl 1 rfl) ?_
        refine va_get (D := G.1) (ci := 5) (v := .ref q_21) (C := RX5) (T := TX5) (N := 8) hx hb hts hiX5 hown hK hP 0 rfl rfl 1 (by decide +kernel) kf21 (fun _ h9 => h9) rfl dX5_init_109 ?_
        refine va_ldcS hx hb hown (hE.2.1 13 (RX5, 52, "feels size - round ; wears 1 ; bars 30 ;") rfl) dX5_init_112 ?_
        refine lv_iload_n hx hb dX5_init_114 rfl (lv_at hl 0 rfl) ?_
        have hz9 : gPD G A [] H := ⟨hP.sub [] rfl, hD.sub [] (by decide +kernel) rfl⟩
        have hPc := hz9.1
        have hDc := hz9.2
        have hFc := gFree hPc hD hS hA [] rfl
        refine va_calli (va_runV (As := [.int (nI i)]) (rest := [.ref q_21]) ⟨hx, hb, hml, hown, hts⟩ (c_J0_charAt_5068e l G E 13 i H.size (by decide +kernel) (hi2)) (cwV 1 hts gX5_init_J0_charAt_5068e rfl rfl rfl (by decide +kernel) ⟨Nat.le_of_ble_eq_true rfl, Nat.le_of_ble_eq_true rfl⟩) ⟨gPreE_blind, vk_recv hE.1 (by decide +kernel) hS, fun U hU hW => gPreE_of hU hW hK hPc hDc hE hS hFc⟩ rfl rfl hl.1 rfl (lv_room (Nat.le_of_ble_eq_true rfl)) dX5_init_115 ⟨Nat.le_of_ble_eq_true rfl, Nat.le_of_ble_eq_true rfl⟩) hS (fun q _ h => hFc q h) hFc (fun r_94 u t H locs ht hvm w_95 hB hz1 hk1 hS => ?_)
        obtain ⟨hP1, hK1, hD1⟩ := hB
        rw [ht] at hP1
        have hz9 : gPD G (va_A _ _) [] H := ⟨hP1, hD1⟩
        have hP1 := hz9.1
        have hD1 := hz9.2
        have w_95 : r_94 = gCh 13 i := w_95
        have hz9 : gPD G A [zo5 h0 q_1 q_21 q_25 q_36 q_47 q_58 q_69 0, zo3 q_1 qc_4 qe_5 qs_6 0 0, zr G qc_4 6 fc_7, zi G c0_9 160 (fun _ => 0), zi G c1_10 160 (fun _ => 0), zi G c2_11 160 (fun _ => 0), zi G c3_12 160 (fun _ => 0), zi G c4_13 160 (fun _ => 0), zi G c5_14 160 (fun _ => 0), zr G qe_5 6 fe_8, zi G e0_15 3 (fun _ => 0), zi G e1_16 3 (fun _ => 0), zi G e2_17 3 (fun _ => 0), zi G e3_18 3 (fun _ => 0), zi G e4_19 3 (fun _ => 0), zi G e5_20 3 (fun _ => 0), zi G qs_6 32 (fun _ => 0), zo1 q_21 q_1 q1_24 0 0 0 0 (nI i), zi G q1_24 160 (gPf tB i), zo0 q_25 q_1 q1_28 q2_29 q3_30 q4_31 q5_32 q6_33 q7_34 q8_35 0 0 0, zi G q1_28 6 (fun _ => 0), zi G q2_29 4 (fun _ => 0), zi G q3_30 4 (fun _ => 0), zi G q4_31 4 (fun _ => 0), zi G q5_32 6 (fun _ => 0), zi G q6_33 6 (fun _ => 0), zi G q7_34 6 (fun _ => 0), zi G q8_35 6 (fun _ => 0), zo0 q_36 q_1 q1_39 q2_40 q3_41 q4_42 q5_43 q6_44 q7_45 q8_46 0 0 0, zi G q1_39 6 (fun _ => 0), zi G q2_40 4 (fun _ => 0), zi G q3_41 4 (fun _ => 0), zi G q4_42 4 (fun _ => 0), zi G q5_43 6 (fun _ => 0), zi G q6_44 6 (fun _ => 0), zi G q7_45 6 (fun _ => 0), zi G q8_46 6 (fun _ => 0), zo0 q_47 q_1 q1_50 q2_51 q3_52 q4_53 q5_54 q6_55 q7_56 q8_57 0 0 0, zi G q1_50 6 (fun _ => 0), zi G q2_51 4 (fun _ => 0), zi G q3_52 4 (fun _ => 0), zi G q4_53 4 (fun _ => 0), zi G q5_54 6 (fun _ => 0), zi G q6_55 6 (fun _ => 0), zi G q7_56 6 (fun _ => 0), zi G q8_57 6 (fun _ => 0), zo2 q_58 qn_61 qo_62 ql_63, zr G qn_61 4 fn_64, zi G r0_65 40 (fun _ => 0), zi G r1_66 40 (fun _ => 0), zi G r2_67 40 (fun _ => 0), zi G r3_68 40 (fun _ => 0), zi G qo_62 4 (gFl (-1) (fun _ => 0) 4), zi G ql_63 4 (fun _ => 0), zo4 q_69 qw_72 qr_73, zr G qw_72 6 fw_74, zi G w0_75 6 (fun _ => 0), zi G w1_76 6 (fun _ => 0), zi G w2_77 6 (fun _ => 0), zi G w3_78 6 (fun _ => 0), zi G w4_79 6 (fun _ => 0), zi G w5_80 6 (fun _ => 0), zi G qr_73 64 (fun _ => 0)] H := gJoin hP hD hk1 hFc hP1 hD1 [] [0, 1, 2, 3, 4, 5, 6, 7, 8, 9, 10, 11, 12, 13, 14, 15, 16, 17, 18, 19, 20, 21, 22, 23, 24, 25, 26, 27, 28, 29, 30, 31, 32, 33, 34, 35, 36, 37, 38, 39, 40, 41, 42, 43, 44, 45, 46, 47, 48, 49, 50, 51, 52, 53, 54, 55, 56, 57, 58, 59, 60, 61, 62] rfl rfl rfl (by decide +kernel) (by decide +kernel)
        have hP := hz9.1
        have hD := hz9.2
        have w_95 : r_94 = gCh 13 i := w_95
        subst w_95
        have hz9 : gPD G A [zo1 q_21 q_1 q1_24 0 0 0 0 (nI i), zi G q1_24 160 (gPf tB i)] H := ⟨hP.sub [17, 18] rfl, hD.sub [17, 18] (by decide +kernel) rfl⟩
        have hPc := hz9.1
        have hDc := hz9.2
        have hFc := gFree hPc hD hS hA [17, 18] rfl
        refine va_callv (va_runV (As := [.int (gCh 13 i)]) (rest := []) ⟨hx, hb, hml, hown, hts⟩ (c_X1_add l G q_21 q_1 q1_24 (gPf tB i) 0 0 0 0 i (gCh 13 i) H.size (by omega)) (cwV 1 hts gX5_init_X1_add rfl rfl rfl (by decide +kernel) ⟨Nat.le_of_ble_eq_true rfl, Nat.le_of_ble_eq_true rfl⟩) ⟨gPre_blind, va_recv hK hPc (ci := 1) (q0 := 0) rfl rfl, fun U hU hW => gPre_of hU hW hK hPc hDc⟩ rfl rfl hl.1 rfl (lv_room (Nat.le_of_ble_eq_true rfl)) dX5_init_118 ⟨Nat.le_of_ble_eq_true rfl, Nat.le_of_ble_eq_true rfl⟩) hS (fun q _ h => hFc q h) hFc (fun u t H locs ht hvm w_97 hB hz1 hk1 hS => ?_)
        obtain ⟨hP1, hK1, hD1⟩ := hB
        rw [ht] at hP1
        have hz9 : gPD G (va_A _ _) [zo1 q_21 q_1 q1_24 0 0 0 0 (nI (i + 1)), zi G q1_24 160 (upd (gPf tB i) i (gCh 13 i))] H := ⟨hP1, hD1⟩
        have hP1 := hz9.1
        have hD1 := hz9.2
        have hz9 : gPD G A [zo5 h0 q_1 q_21 q_25 q_36 q_47 q_58 q_69 0, zo3 q_1 qc_4 qe_5 qs_6 0 0, zr G qc_4 6 fc_7, zi G c0_9 160 (fun _ => 0), zi G c1_10 160 (fun _ => 0), zi G c2_11 160 (fun _ => 0), zi G c3_12 160 (fun _ => 0), zi G c4_13 160 (fun _ => 0), zi G c5_14 160 (fun _ => 0), zr G qe_5 6 fe_8, zi G e0_15 3 (fun _ => 0), zi G e1_16 3 (fun _ => 0), zi G e2_17 3 (fun _ => 0), zi G e3_18 3 (fun _ => 0), zi G e4_19 3 (fun _ => 0), zi G e5_20 3 (fun _ => 0), zi G qs_6 32 (fun _ => 0), zo0 q_25 q_1 q1_28 q2_29 q3_30 q4_31 q5_32 q6_33 q7_34 q8_35 0 0 0, zi G q1_28 6 (fun _ => 0), zi G q2_29 4 (fun _ => 0), zi G q3_30 4 (fun _ => 0), zi G q4_31 4 (fun _ => 0), zi G q5_32 6 (fun _ => 0), zi G q6_33 6 (fun _ => 0), zi G q7_34 6 (fun _ => 0), zi G q8_35 6 (fun _ => 0), zo0 q_36 q_1 q1_39 q2_40 q3_41 q4_42 q5_43 q6_44 q7_45 q8_46 0 0 0, zi G q1_39 6 (fun _ => 0), zi G q2_40 4 (fun _ => 0), zi G q3_41 4 (fun _ => 0), zi G q4_42 4 (fun _ => 0), zi G q5_43 6 (fun _ => 0), zi G q6_44 6 (fun _ => 0), zi G q7_45 6 (fun _ => 0), zi G q8_46 6 (fun _ => 0), zo0 q_47 q_1 q1_50 q2_51 q3_52 q4_53 q5_54 q6_55 q7_56 q8_57 0 0 0, zi G q1_50 6 (fun _ => 0), zi G q2_51 4 (fun _ => 0), zi G q3_52 4 (fun _ => 0), zi G q4_53 4 (fun _ => 0), zi G q5_54 6 (fun _ => 0), zi G q6_55 6 (fun _ => 0), zi G q7_56 6 (fun _ => 0), zi G q8_57 6 (fun _ => 0), zo2 q_58 qn_61 qo_62 ql_63, zr G qn_61 4 fn_64, zi G r0_65 40 (fun _ => 0), zi G r1_66 40 (fun _ => 0), zi G r2_67 40 (fun _ => 0), zi G r3_68 40 (fun _ => 0), zi G qo_62 4 (gFl (-1) (fun _ => 0) 4), zi G ql_63 4 (fun _ => 0), zo4 q_69 qw_72 qr_73, zr G qw_72 6 fw_74, zi G w0_75 6 (fun _ => 0), zi G w1_76 6 (fun _ => 0), zi G w2_77 6 (fun _ => 0), zi G w3_78 6 (fun _ => 0), zi G w4_79 6 (fun _ => 0), zi G w5_80 6 (fun _ => 0), zi G qr_73 64 (fun _ => 0), zo1 q_21 q_1 q1_24 0 0 0 0 (nI (i + 1)), zi G q1_24 160 (upd (gPf tB i) i (gCh 13 i))] H := gJoin hP hD hk1 hFc hP1 hD1 [17, 18] [0, 1, 2, 3, 4, 5, 6, 7, 8, 9, 10, 11, 12, 13, 14, 15, 16, 19, 20, 21, 22, 23, 24, 25, 26, 27, 28, 29, 30, 31, 32, 33, 34, 35, 36, 37, 38, 39, 40, 41, 42, 43, 44, 45, 46, 47, 48, 49, 50, 51, 52, 53, 54, 55, 56, 57, 58, 59, 60, 61, 62] rfl rfl rfl (by decide +kernel) (by decide +kernel)
        have hP := hz9.1
        have hD := hz9.2
        have hz9 : gPD G A [zo5 h0 q_1 q_21 q_25 q_36 q_47 q_58 q_69 0, zo3 q_1 qc_4 qe_5 qs_6 0 0, zr G qc_4 6 fc_7, zi G c0_9 160 (fun _ => 0), zi G c1_10 160 (fun _ => 0), zi G c2_11 160 (fun _ => 0), zi G c3_12 160 (fun _ => 0), zi G c4_13 160 (fun _ => 0), zi G c5_14 160 (fun _ => 0), zr G qe_5 6 fe_8, zi G e0_15 3 (fun _ => 0), zi G e1_16 3 (fun _ => 0), zi G e2_17 3 (fun _ => 0), zi G e3_18 3 (fun _ => 0), zi G e4_19 3 (fun _ => 0), zi G e5_20 3 (fun _ => 0), zi G qs_6 32 (fun _ => 0), zo0 q_25 q_1 q1_28 q2_29 q3_30 q4_31 q5_32 q6_33 q7_34 q8_35 0 0 0, zi G q1_28 6 (fun _ => 0), zi G q2_29 4 (fun _ => 0), zi G q3_30 4 (fun _ => 0), zi G q4_31 4 (fun _ => 0), zi G q5_32 6 (fun _ => 0), zi G q6_33 6 (fun _ => 0), zi G q7_34 6 (fun _ => 0), zi G q8_35 6 (fun _ => 0), zo0 q_36 q_1 q1_39 q2_40 q3_41 q4_42 q5_43 q6_44 q7_45 q8_46 0 0 0, zi G q1_39 6 (fun _ => 0), zi G q2_40 4 (fun _ => 0), zi G q3_41 4 (fun _ => 0), zi G q4_42 4 (fun _ => 0), zi G q5_43 6 (fun _ => 0), zi G q6_44 6 (fun _ => 0), zi G q7_45 6 (fun _ => 0), zi G q8_46 6 (fun _ => 0), zo0 q_47 q_1 q1_50 q2_51 q3_52 q4_53 q5_54 q6_55 q7_56 q8_57 0 0 0, zi G q1_50 6 (fun _ => 0), zi G q2_51 4 (fun _ => 0), zi G q3_52 4 (fun _ => 0), zi G q4_53 4 (fun _ => 0), zi G q5_54 6 (fun _ => 0), zi G q6_55 6 (fun _ => 0), zi G q7_56 6 (fun _ => 0), zi G q8_57 6 (fun _ => 0), zo2 q_58 qn_61 qo_62 ql_63, zr G qn_61 4 fn_64, zi G r0_65 40 (fun _ => 0), zi G r1_66 40 (fun _ => 0), zi G r2_67 40 (fun _ => 0), zi G r3_68 40 (fun _ => 0), zi G qo_62 4 (gFl (-1) (fun _ => 0) 4), zi G ql_63 4 (fun _ => 0), zo4 q_69 qw_72 qr_73, zr G qw_72 6 fw_74, zi G w0_75 6 (fun _ => 0), zi G w1_76 6 (fun _ => 0), zi G w2_77 6 (fun _ => 0), zi G w3_78 6 (fun _ => 0), zi G w4_79 6 (fun _ => 0), zi G w5_80 6 (fun _ => 0), zi G qr_73 64 (fun _ => 0), zo1 q_21 q_1 q1_24 0 0 0 0 (nI (i + 1)), zi G q1_24 160 (gPf tB (i + 1))] H := ⟨by rw [gPf_step (t := tB) (k := i) (x := gCh 13 i) rfl] at hP; exact hP, by rw [gPf_step (t := tB) (k := i) (x := gCh 13 i) rfl] at hD; exact hD⟩
        have hP := hz9.1
        have hD := hz9.2
        refine lv_iinc (v := nI (i + 1)) (lv' := [zI 1 (nI (i + 1)), zR 0 h0]) hx hb dX5_init_121 hl (k := 0) rfl (nI_1 i) (by decide +kernel) rfl (fun ls hl => ?_)
        refine lv_goto (tgt := 99) hx hb dX5_init_124 (by decide +kernel) ?_
        exact ih9 (i + 1) (hi2) (by omega) _ _ (hP.sub [0, 1, 2, 3, 4, 5, 6, 7, 8, 9, 10, 11, 12, 13, 14, 15, 16, 61, 62, 17, 18, 19, 20, 21, 22, 23, 24, 25, 26, 27, 28, 29, 30, 31, 32, 33, 34, 35, 36, 37, 38, 39, 40, 41, 42, 43, 44, 45, 46, 47, 48, 49, 50, 51, 52, 53, 54, 55, 56, 57, 58, 59, 60] rfl) (hD.sub [0, 1, 2, 3, 4, 5, 6, 7, 8, 9, 10, 11, 12, 13, 14, 15, 16, 61, 62, 17, 18, 19, 20, 21, 22, 23, 24, 25, 26, 27, 28, 29, 30, 31, 32, 33, 34, 35, 36, 37, 38, 39, 40, 41, 42, 43, 44, 45, 46, 47, 48, 49, 50, 51, 52, 53, 54, 55, 56, 57, 58, 59, 60] (by decide +kernel) rfl) hS ls (lv_sub hl [0, 1] rfl)
  exact loop_99 (41) 0 (Nat.zero_le _) (by omega) _ _ (hP.sub [0, 1, 2, 3, 4, 5, 6, 7, 8, 9, 10, 11, 12, 13, 14, 15, 16, 17, 18, 19, 20, 21, 22, 23, 24, 25, 26, 27, 28, 29, 30, 31, 32, 33, 34, 35, 36, 37, 38, 39, 40, 41, 42, 43, 44, 45, 46, 47, 48, 49, 50, 51, 52, 53, 54, 55, 56, 57, 58, 59, 60, 61, 62] rfl) (hD.sub [0, 1, 2, 3, 4, 5, 6, 7, 8, 9, 10, 11, 12, 13, 14, 15, 16, 17, 18, 19, 20, 21, 22, 23, 24, 25, 26, 27, 28, 29, 30, 31, 32, 33, 34, 35, 36, 37, 38, 39, 40, 41, 42, 43, 44, 45, 46, 47, 48, 49, 50, 51, 52, 53, 54, 55, 56, 57, 58, 59, 60, 61, 62] (by decide +kernel) rfl) hS ls (lv_sub hl [0, 1] rfl)
