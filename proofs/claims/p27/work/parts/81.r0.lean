abbrev q_X1_readOne_o5 (G : gG) (E : gS) (h0 t0 b0 co en sk ct : Nat) (f : Nat → Int32) (fc : Nat → Option Nat) (fct : Nat → Int32) (x3 : Int32) (x5 : Int32) (n : Nat) (a : Nat) (pl : Nat) (w0 : Nat) (tx : Nat) (A : Nat → Prop) : Array Value → State → Outcome → State → Prop := va_Qi (fun (r : Int32) (u : Nat × Int32 × Nat × Int32 × Nat × (Nat → Int32)) => match u with | (za, zt, zp, zm, zw, yct) => (za ≤ n ∧ zw ≤ 160) ∧ gRes r (za, zt, zp, zm, zw, yct) (gOneB f n (gLv f n 0) (a, x3, pl, x5, w0, fct))) (fun (u : Nat × Int32 × Nat × Int32 × Nat × (Nat → Int32)) t => match u with | (za, zt, zp, zm, zw, yct) => va_P G.1 vwCl [zo1 h0 t0 b0 (nI za) zt (nI zp) zm (nI n), zi G b0 160 f, zo3 t0 co en sk (nI zw) (nI tx), zr G co 6 fc, zi G ct 160 yct] t.heap ∧ gK G t ∧ va_D A [zo1 h0 t0 b0 (nI za) zt (nI zp) zm (nI n), zi G b0 160 f, zo3 t0 co en sk (nI zw) (nI tx), zr G co 6 fc, zi G ct 160 yct]) A
set_option maxHeartbeats 4000000 in
set_option maxRecDepth 100000 in
theorem c_X1_readOne_o5 (l : Launch) (G : gG) (E : gS) (h0 t0 b0 co en sk ct : Nat) (f : Nat → Int32) (fc : Nat → Option Nat) (fct : Nat → Int32) (x3 : Int32) (x5 : Int32) (n : Nat) (a : Nat) (pl : Nat) (w0 : Nat) (tx : Nat) (sz : Nat) (hn : n ≤ 160) (ha : a ≤ n) (hw0 : w0 ≤ 160) (htx : tx < 6) (hc : fc tx = some ct) : Met l yX1_readOne wsX1_readOne ({ frames := 7, cells := 0, slots := 0, locals := 148 }) (gPreE G E [.ref h0, .int 5] [zo1 h0 t0 b0 (nI a) x3 (nI pl) x5 (nI n), zi G b0 160 f, zo3 t0 co en sk (nI w0) (nI tx), zr G co 6 fc, zi G ct 160 fct] sz) (q_X1_readOne_o5 G E h0 t0 b0 co en sk ct f fc fct x3 x5 n a pl w0 tx (va_A [zo1 h0 t0 b0 (nI a) x3 (nI pl) x5 (nI n), zi G b0 160 f, zo3 t0 co en sk (nI w0) (nI tx), zr G co 6 fc, zi G ct 160 fct] sz)) 0 0 (va_A [zo1 h0 t0 b0 (nI a) x3 (nI pl) x5 (nI n), zi G b0 160 f, zo3 t0 co en sk (nI w0) (nI tx), zr G co 6 fc, zi G ct 160 fct] sz) := by
  refine Met.ofW (cc := cX1_readOne) (maxL := 2) (ret := (some .boolean)) (by decide +kernel) rfl ?_
  intro p e s m args below meth c s₁ B hml hv
  obtain ⟨rfl, hsz, hP, hK, hD0, hE⟩ := hv
  have hx := B.exec
  have hb := B.bytes
  have hr := B.returns
  have hts := atoms_spec (ws := wsX1_readOne) B.pre
  have hown : s.vm.findClass RX1 = some m.cls := findClass_of_methodNamed B.named
  have hlocks := B.notSynchronized
  subst hsz
  have hD := hD0.self (sz := s.heap.size)
  generalize hAe : va_A [zo1 h0 t0 b0 (nI a) x3 (nI pl) x5 (nI n), zi G b0 160 f, zo3 t0 co en sk (nI w0) (nI tx), zr G co 6 fc, zi G ct 160 fct] s.heap.size = A at hD hE ⊢
  have hA : ∀ q : Nat, s.heap.size ≤ q → A q := fun q h => by rw [← hAe]; exact Or.inr h
  have hS : va_S A s.heap s.heap [] := va_S.rf
  have hz9 : gPD G A [zo1 h0 t0 b0 (nI a) x3 (nI pl) x5 (nI n), zi G b0 160 f, zo3 t0 co en sk (nI w0) (nI tx), zr G co 6 fc, zi G ct 160 fct] s.heap := ⟨hP, hD⟩
  have hP := hz9.1
  have hD := hz9.2
  have hl := lv_entry ([.ref h0, .int 5]) (n := 2) (Nat.le_of_ble_eq_true rfl)
  rw [lg_entry_eq]
  generalize (lg_sl ([.ref h0, .int 5]) ++ List.replicate (2 - (lg_sl ([.ref h0, .int 5])).length) Slot.unset).toArray = ls at hl ⊢
  have hl : lv_has ls 2 [zR 0 h0, zI 1 5] := hl
  have kf45 := hts (.fieldLink RX1 45 "PebbleInShoe$Reader" "token" "I") (by decide +kernel)
  have hiX1 := (by decide +kernel : ∀ w ∈ wsX10, w ∈ wsX1_readOne)
  have kf15 := hts (.fieldLink RX1 15 "PebbleInShoe$Reader" "texts" "LPebbleInShoe$Texts;") (by decide +kernel)
  have kf74 := hts (.fieldLink RX1 74 "PebbleInShoe$Reader" "meaning" "I") (by decide +kernel)
  refine g_aget (D := G.1) (ci := 1) (v := .int x3) (C := RX1) (T := TX1) (N := 7) hx hb dX1_readOne_0 rfl (lv_at hl 0 rfl) hts hiX1 hown hK hP 0 rfl rfl 3 (by decide +kernel) kf45 (fun _ h9 => h9) rfl dX1_readOne_1 ?_
  refine lv_iconst (v := 2) hx hb dX1_readOne_4 (by decide +kernel) ?_
  refine lv_icmp_eq (tgt := 16) hx hb dX1_readOne_5 (by decide +kernel) (fun c_1 => ?_) (fun c_1 => ?_)
  · skip
    refine g_aget (D := G.1) (ci := 1) (v := .ref t0) (C := RX1) (T := TX1) (N := 7) hx hb dX1_readOne_16 rfl (lv_at hl 0 rfl) hts hiX1 hown hK hP 0 rfl rfl 0 (by decide +kernel) kf15 (fun _ h9 => h9) rfl dX1_readOne_17 ?_
    refine g_aget (D := G.1) (ci := 1) (v := .int x3) (C := RX1) (T := TX1) (N := 7) hx hb dX1_readOne_20 rfl (lv_at hl 0 rfl) hts hiX1 hown hK hP 0 rfl rfl 3 (by decide +kernel) kf45 (fun _ h9 => h9) rfl dX1_readOne_21 ?_
    refine lv_iconst (v := 2) hx hb dX1_readOne_24 (by decide +kernel) ?_
    refine lv_icmp_ne (tgt := 35) hx hb dX1_readOne_25 (by decide +kernel) (fun c_2 => ?_) (fun c_2 => ?_)
    · exact absurd (c_1) c_2
    refine g_aget (D := G.1) (ci := 1) (v := .int x5) (C := RX1) (T := TX1) (N := 7) hx hb dX1_readOne_28 rfl (lv_at hl 0 rfl) hts hiX1 hown hK hP 0 rfl rfl 5 (by decide +kernel) kf74 (fun _ h9 => h9) rfl dX1_readOne_29 ?_
    refine lv_goto (tgt := 43) hx hb dX1_readOne_32 (by decide +kernel) ?_
    refine z_callv [2, 3, 4] (va_runV (As := [.int x5]) (rest := []) ⟨hx, hb, hml, hown, hts⟩ (c_X3_write_g l G t0 co en sk ct fc fct w0 tx x5 s.heap.size (by first | exact hw0 | assumption | omega) (by first | exact htx | assumption | omega) (by first | exact hc | assumption | omega)) (cwV 1 hts gX1_readOne_X3_write rfl rfl rfl (by decide +kernel) ⟨Nat.le_of_ble_eq_true rfl, Nat.le_of_ble_eq_true rfl⟩) ⟨gPre_blind, va_recv (q := (RX3, TX3, 5)) hK hP (ci := 3) (q0 := 2) rfl rfl, fun U hU hW => gPre_ofF [2, 3, 4] hU hW hK hP hD (by decide +kernel) rfl⟩ rfl rfl hl.1 rfl (lv_room (Nat.le_of_ble_eq_true rfl)) dX1_readOne_43 ⟨Nat.le_of_ble_eq_true rfl, Nat.le_of_ble_eq_true rfl⟩) hS hD hA rfl (fun u t H locs ht hvm w_4 hB hz1 hk1 hFq hAq hS => ?_)
    obtain ⟨zw_5, yct_6⟩ := u
    obtain ⟨hP1, hK1, hD1⟩ := hB
    have w_4 : (zw_5, yct_6) = gWc x5 w0 fct ∧ zw_5 ≤ 160 := w_4
    have hz9 : gPD G A [zo1 h0 t0 b0 (nI a) x3 (nI pl) x5 (nI n), zi G b0 160 f, zo3 t0 co en sk (nI zw_5) (nI tx), zr G co 6 fc, zi G ct 160 yct_6] H := zFill hP hD [2, 3, 4] [0, 0, 1, 2, 3] hAq hk1 hFq ht hP1 hD1 rfl (by decide +kernel)
    have hP := hz9.1
    have hD := hz9.2
    have hwr : gWr x5 (a, x3, pl, x5, w0, fct) = (a, x3, pl, x5, zw_5, yct_6) := gWr_of w_4.1
    have hwl := w_4.2
    refine lv_aload_n hx hb dX1_readOne_46 rfl (lv_at hl 0 rfl) ?_
    refine z_callv [0, 1] (va_runV (As := []) (rest := []) ⟨hx, hb, hml, hown, hts⟩ (c_X1_next l G E h0 t0 b0 f x3 (nI pl) x5 n a H.size (by first | exact hn | assumption | omega) (by first | exact ha | assumption | omega)) (cwV 0 hts gX1_readOne_X1_next rfl rfl rfl (by decide +kernel) ⟨Nat.le_of_ble_eq_true rfl, Nat.le_of_ble_eq_true rfl⟩) ⟨gPreE_blind, va_recv (q := (RX1, TX1, 7)) hK hP (ci := 1) (q0 := 0) rfl rfl, fun U hU hW => gPreE_ofF [0, 1] hU hW hK hP hD (by decide +kernel) rfl hE hS hA⟩ rfl rfl hl.1 rfl (lv_room (Nat.le_of_ble_eq_true rfl)) dX1_readOne_47 ⟨Nat.le_of_ble_eq_true rfl, Nat.le_of_ble_eq_true rfl⟩) hS hD hA rfl (fun u t H locs ht hvm w_8 hB hz1 hk1 hFq hAq hS => ?_)
    obtain ⟨zb_9, zt_10, zp_11, zm_12⟩ := u
    obtain ⟨hP1, hK1, hD1⟩ := hB
    have w_8 : (zb_9, zt_10, zp_11, zm_12) = mNext f n a x5 := w_8
    have hz9 : gPD G A [zo1 h0 t0 b0 (nI zb_9) zt_10 (nI zp_11) zm_12 (nI n), zi G b0 160 f, zo3 t0 co en sk (nI zw_5) (nI tx), zr G co 6 fc, zi G ct 160 yct_6] H := zFill hP hD [0, 1] [1, 2] hAq hk1 hFq ht hP1 hD1 rfl (by decide +kernel)
    have hP := hz9.1
    have hD := hz9.2
    have hnx : gNx f n (a, x3, pl, x5, zw_5, yct_6) = (zb_9, zt_10, zp_11, zm_12, zw_5, yct_6) := gNx_of w_8
    have hle := nx_le9 w_8 (by omega)
    refine lv_iconst (v := 1) hx hb dX1_readOne_50 (by decide +kernel) ?_
    have hpost : (fun (r : Int32) (u : Nat × Int32 × Nat × Int32 × Nat × (Nat → Int32)) => match u with | (za, zt, zp, zm, zw, yct) => (za ≤ n ∧ zw ≤ 160) ∧ gRes r (za, zt, zp, zm, zw, yct) (gOneB f n (gLv f n 0) (a, x3, pl, x5, w0, fct))) 1 (zb_9, zt_10, zp_11, zm_12, zw_5, yct_6) := by exact ⟨⟨by omega, by omega⟩, Or.inl ⟨gOne_num c_1 hwr hnx, rfl⟩⟩
    exact W.zret (v := 1) hx hb hr (rfl) (fun t ht hW => ⟨⟨1, (zb_9, zt_10, zp_11, zm_12, zw_5, yct_6), rfl, hpost, by rw [ht]; exact hP, va_K.moved hW.alike hK, hD⟩, hS.F ht⟩) hS.2.2 dX1_readOne_51
  · skip
    refine g_aget (D := G.1) (ci := 1) (v := .int x3) (C := RX1) (T := TX1) (N := 7) hx hb dX1_readOne_8 rfl (lv_at hl 0 rfl) hts hiX1 hown hK hP 0 rfl rfl 3 (by decide +kernel) kf45 (fun _ h9 => h9) rfl dX1_readOne_9 ?_
    refine lv_iconst (v := 3) hx hb dX1_readOne_12 (by decide +kernel) ?_
    refine lv_icmp_ne (tgt := 52) hx hb dX1_readOne_13 (by decide +kernel) (fun c_13 => ?_) (fun c_13 => ?_)
    · skip
      refine g_aget (D := G.1) (ci := 1) (v := .int x3) (C := RX1) (T := TX1) (N := 7) hx hb dX1_readOne_52 rfl (lv_at hl 0 rfl) hts hiX1 hown hK hP 0 rfl rfl 3 (by decide +kernel) kf45 (fun _ h9 => h9) rfl dX1_readOne_53 ?_
      refine lv_bipush (v := 45) hx hb dX1_readOne_56 (by decide +kernel) ?_
      refine lv_icmp_eq (tgt := 70) hx hb dX1_readOne_58 (by decide +kernel) (fun c_14 => ?_) (fun c_14 => ?_)
      · skip
        refine lv_iload_n hx hb dX1_readOne_70 rfl (lv_at hl 1 rfl) ?_
        refine lv_iconst (v := 5) hx hb dX1_readOne_71 (by decide +kernel) ?_
        refine lv_icmp_lt (tgt := 77) hx hb dX1_readOne_72 (by decide +kernel) (fun c_15 => ?_) (fun c_15 => ?_)
        · exact absurd c_15 (by decide +kernel)
        refine lv_iconst (v := 0) hx hb dX1_readOne_75 (by decide +kernel) ?_
        have hpost : (fun (r : Int32) (u : Nat × Int32 × Nat × Int32 × Nat × (Nat → Int32)) => match u with | (za, zt, zp, zm, zw, yct) => (za ≤ n ∧ zw ≤ 160) ∧ gRes r (za, zt, zp, zm, zw, yct) (gOneB f n (gLv f n 0) (a, x3, pl, x5, w0, fct))) 0 (a, x3, pl, x5, w0, fct) := by exact ⟨⟨by omega, by omega⟩, Or.inr ⟨gOne_none c_1 c_13, rfl⟩⟩
        exact W.zret (v := 0) hx hb hr (rfl) (fun t ht hW => ⟨⟨0, (a, x3, pl, x5, w0, fct), rfl, hpost, by rw [ht]; exact hP, va_K.moved hW.alike hK, hD⟩, hS.F ht⟩) hS.2.2 dX1_readOne_76
      · skip
        refine g_aget (D := G.1) (ci := 1) (v := .int x3) (C := RX1) (T := TX1) (N := 7) hx hb dX1_readOne_61 rfl (lv_at hl 0 rfl) hts hiX1 hown hK hP 0 rfl rfl 3 (by decide +kernel) kf45 (fun _ h9 => h9) rfl dX1_readOne_62 ?_
        refine lv_bipush (v := 40) hx hb dX1_readOne_65 (by decide +kernel) ?_
        refine lv_icmp_ne (tgt := 75) hx hb dX1_readOne_67 (by decide +kernel) (fun c_16 => ?_) (fun c_16 => ?_)
        · skip
          refine lv_iconst (v := 0) hx hb dX1_readOne_75 (by decide +kernel) ?_
          have hpost : (fun (r : Int32) (u : Nat × Int32 × Nat × Int32 × Nat × (Nat → Int32)) => match u with | (za, zt, zp, zm, zw, yct) => (za ≤ n ∧ zw ≤ 160) ∧ gRes r (za, zt, zp, zm, zw, yct) (gOneB f n (gLv f n 0) (a, x3, pl, x5, w0, fct))) 0 (a, x3, pl, x5, w0, fct) := by exact ⟨⟨by omega, by omega⟩, Or.inr ⟨gOne_none c_1 c_13, rfl⟩⟩
          exact W.zret (v := 0) hx hb hr (rfl) (fun t ht hW => ⟨⟨0, (a, x3, pl, x5, w0, fct), rfl, hpost, by rw [ht]; exact hP, va_K.moved hW.alike hK, hD⟩, hS.F ht⟩) hS.2.2 dX1_readOne_76
        · skip
          refine lv_iload_n hx hb dX1_readOne_70 rfl (lv_at hl 1 rfl) ?_
          refine lv_iconst (v := 5) hx hb dX1_readOne_71 (by decide +kernel) ?_
          refine lv_icmp_lt (tgt := 77) hx hb dX1_readOne_72 (by decide +kernel) (fun c_17 => ?_) (fun c_17 => ?_)
          · exact absurd c_17 (by decide +kernel)
          refine lv_iconst (v := 0) hx hb dX1_readOne_75 (by decide +kernel) ?_
          have hpost : (fun (r : Int32) (u : Nat × Int32 × Nat × Int32 × Nat × (Nat → Int32)) => match u with | (za, zt, zp, zm, zw, yct) => (za ≤ n ∧ zw ≤ 160) ∧ gRes r (za, zt, zp, zm, zw, yct) (gOneB f n (gLv f n 0) (a, x3, pl, x5, w0, fct))) 0 (a, x3, pl, x5, w0, fct) := by exact ⟨⟨by omega, by omega⟩, Or.inr ⟨gOne_none c_1 c_13, rfl⟩⟩
          exact W.zret (v := 0) hx hb hr (rfl) (fun t ht hW => ⟨⟨0, (a, x3, pl, x5, w0, fct), rfl, hpost, by rw [ht]; exact hP, va_K.moved hW.alike hK, hD⟩, hS.F ht⟩) hS.2.2 dX1_readOne_76
    · skip
      refine g_aget (D := G.1) (ci := 1) (v := .ref t0) (C := RX1) (T := TX1) (N := 7) hx hb dX1_readOne_16 rfl (lv_at hl 0 rfl) hts hiX1 hown hK hP 0 rfl rfl 0 (by decide +kernel) kf15 (fun _ h9 => h9) rfl dX1_readOne_17 ?_
      refine g_aget (D := G.1) (ci := 1) (v := .int x3) (C := RX1) (T := TX1) (N := 7) hx hb dX1_readOne_20 rfl (lv_at hl 0 rfl) hts hiX1 hown hK hP 0 rfl rfl 3 (by decide +kernel) kf45 (fun _ h9 => h9) rfl dX1_readOne_21 ?_
      refine lv_iconst (v := 2) hx hb dX1_readOne_24 (by decide +kernel) ?_
      refine lv_icmp_ne (tgt := 35) hx hb dX1_readOne_25 (by decide +kernel) (fun c_18 => ?_) (fun c_18 => ?_)
      rotate_left
      · exact absurd c_18 (c_1)
      refine lv_sipush (v := 10000) hx hb dX1_readOne_35 (by decide +kernel) ?_
      refine g_aget (D := G.1) (ci := 1) (v := .int x5) (C := RX1) (T := TX1) (N := 7) hx hb dX1_readOne_38 rfl (lv_at hl 0 rfl) hts hiX1 hown hK hP 0 rfl rfl 5 (by decide +kernel) kf74 (fun _ h9 => h9) rfl dX1_readOne_39 ?_
      refine lv_iadd hx hb dX1_readOne_42 ?_
      refine z_callv [2, 3, 4] (va_runV (As := [.int (10000 + x5)]) (rest := []) ⟨hx, hb, hml, hown, hts⟩ (c_X3_write_g l G t0 co en sk ct fc fct w0 tx (10000 + x5) s.heap.size (by first | exact hw0 | assumption | omega) (by first | exact htx | assumption | omega) (by first | exact hc | assumption | omega)) (cwV 1 hts gX1_readOne_X3_write rfl rfl rfl (by decide +kernel) ⟨Nat.le_of_ble_eq_true rfl, Nat.le_of_ble_eq_true rfl⟩) ⟨gPre_blind, va_recv (q := (RX3, TX3, 5)) hK hP (ci := 3) (q0 := 2) rfl rfl, fun U hU hW => gPre_ofF [2, 3, 4] hU hW hK hP hD (by decide +kernel) rfl⟩ rfl rfl hl.1 rfl (lv_room (Nat.le_of_ble_eq_true rfl)) dX1_readOne_43 ⟨Nat.le_of_ble_eq_true rfl, Nat.le_of_ble_eq_true rfl⟩) hS hD hA rfl (fun u t H locs ht hvm w_20 hB hz1 hk1 hFq hAq hS => ?_)
      obtain ⟨zw_21, yct_22⟩ := u
      obtain ⟨hP1, hK1, hD1⟩ := hB
      have w_20 : (zw_21, yct_22) = gWc (10000 + x5) w0 fct ∧ zw_21 ≤ 160 := w_20
      have hz9 : gPD G A [zo1 h0 t0 b0 (nI a) x3 (nI pl) x5 (nI n), zi G b0 160 f, zo3 t0 co en sk (nI zw_21) (nI tx), zr G co 6 fc, zi G ct 160 yct_22] H := zFill hP hD [2, 3, 4] [0, 0, 1, 2, 3] hAq hk1 hFq ht hP1 hD1 rfl (by decide +kernel)
      have hP := hz9.1
      have hD := hz9.2
      have hwr : gWr (10000 + x5) (a, x3, pl, x5, w0, fct) = (a, x3, pl, x5, zw_21, yct_22) := gWr_of w_20.1
      have hwl := w_20.2
      refine lv_aload_n hx hb dX1_readOne_46 rfl (lv_at hl 0 rfl) ?_
      refine z_callv [0, 1] (va_runV (As := []) (rest := []) ⟨hx, hb, hml, hown, hts⟩ (c_X1_next l G E h0 t0 b0 f x3 (nI pl) x5 n a H.size (by first | exact hn | assumption | omega) (by first | exact ha | assumption | omega)) (cwV 0 hts gX1_readOne_X1_next rfl rfl rfl (by decide +kernel) ⟨Nat.le_of_ble_eq_true rfl, Nat.le_of_ble_eq_true rfl⟩) ⟨gPreE_blind, va_recv (q := (RX1, TX1, 7)) hK hP (ci := 1) (q0 := 0) rfl rfl, fun U hU hW => gPreE_ofF [0, 1] hU hW hK hP hD (by decide +kernel) rfl hE hS hA⟩ rfl rfl hl.1 rfl (lv_room (Nat.le_of_ble_eq_true rfl)) dX1_readOne_47 ⟨Nat.le_of_ble_eq_true rfl, Nat.le_of_ble_eq_true rfl⟩) hS hD hA rfl (fun u t H locs ht hvm w_24 hB hz1 hk1 hFq hAq hS => ?_)
      obtain ⟨zb_25, zt_26, zp_27, zm_28⟩ := u
      obtain ⟨hP1, hK1, hD1⟩ := hB
      have w_24 : (zb_25, zt_26, zp_27, zm_28) = mNext f n a x5 := w_24
      have hz9 : gPD G A [zo1 h0 t0 b0 (nI zb_25) zt_26 (nI zp_27) zm_28 (nI n), zi G b0 160 f, zo3 t0 co en sk (nI zw_21) (nI tx), zr G co 6 fc, zi G ct 160 yct_22] H := zFill hP hD [0, 1] [1, 2] hAq hk1 hFq ht hP1 hD1 rfl (by decide +kernel)
      have hP := hz9.1
      have hD := hz9.2
      have hnx : gNx f n (a, x3, pl, x5, zw_21, yct_22) = (zb_25, zt_26, zp_27, zm_28, zw_21, yct_22) := gNx_of w_24
      have hle := nx_le9 w_24 (by omega)
      refine lv_iconst (v := 1) hx hb dX1_readOne_50 (by decide +kernel) ?_
      have hpost : (fun (r : Int32) (u : Nat × Int32 × Nat × Int32 × Nat × (Nat → Int32)) => match u with | (za, zt, zp, zm, zw, yct) => (za ≤ n ∧ zw ≤ 160) ∧ gRes r (za, zt, zp, zm, zw, yct) (gOneB f n (gLv f n 0) (a, x3, pl, x5, w0, fct))) 1 (zb_25, zt_26, zp_27, zm_28, zw_21, yct_22) := by exact ⟨⟨by omega, by omega⟩, Or.inl ⟨gOne_nam c_1 c_13 hwr hnx, rfl⟩⟩
      exact W.zret (v := 1) hx hb hr (rfl) (fun t ht hW => ⟨⟨1, (zb_25, zt_26, zp_27, zm_28, zw_21, yct_22), rfl, hpost, by rw [ht]; exact hP, va_K.moved hW.alike hK, hD⟩, hS.F ht⟩) hS.2.2 dX1_readOne_51
abbrev q_X1_readTerm_o5 (G : gG) (E : gS) (h0 t0 b0 co en sk ct : Nat) (f : Nat → Int32) (fc : Nat → Option Nat) (fct : Nat → Int32) (x3 : Int32) (x5 : Int32) (n : Nat) (a : Nat) (pl : Nat) (w0 : Nat) (tx : Nat) (A : Nat → Prop) : Array Value → State → Outcome → State → Prop := va_Qi (fun (r : Int32) (u : Nat × Int32 × Nat × Int32 × Nat × (Nat → Int32)) => match u with | (za, zt, zp, zm, zw, yct) => (za ≤ n ∧ zw ≤ 160) ∧ gRes r (za, zt, zp, zm, zw, yct) (gTermB f n (gLv f n 0) (a, x3, pl, x5, w0, fct))) (fun (u : Nat × Int32 × Nat × Int32 × Nat × (Nat → Int32)) t => match u with | (za, zt, zp, zm, zw, yct) => va_P G.1 vwCl [zo1 h0 t0 b0 (nI za) zt (nI zp) zm (nI n), zi G b0 160 f, zo3 t0 co en sk (nI zw) (nI tx), zr G co 6 fc, zi G ct 160 yct] t.heap ∧ gK G t ∧ va_D A [zo1 h0 t0 b0 (nI za) zt (nI zp) zm (nI n), zi G b0 160 f, zo3 t0 co en sk (nI zw) (nI tx), zr G co 6 fc, zi G ct 160 yct]) A
set_option maxHeartbeats 4000000 in
set_option maxRecDepth 100000 in
theorem c_X1_readTerm_o5 (l : Launch) (G : gG) (E : gS) (h0 t0 b0 co en sk ct : Nat) (f : Nat → Int32) (fc : Nat → Option Nat) (fct : Nat → Int32) (x3 : Int32) (x5 : Int32) (n : Nat) (a : Nat) (pl : Nat) (w0 : Nat) (tx : Nat) (sz : Nat) (hn : n ≤ 160) (ha : a ≤ n) (hw0 : w0 ≤ 160) (htx : tx < 6) (hc : fc tx = some ct) : Met l yX1_readTerm wsX1_readTerm ({ frames := 8, cells := 0, slots := 0, locals := 169 }) (gPreE G E [.ref h0, .int 5] [zo1 h0 t0 b0 (nI a) x3 (nI pl) x5 (nI n), zi G b0 160 f, zo3 t0 co en sk (nI w0) (nI tx), zr G co 6 fc, zi G ct 160 fct] sz) (q_X1_readTerm_o5 G E h0 t0 b0 co en sk ct f fc fct x3 x5 n a pl w0 tx (va_A [zo1 h0 t0 b0 (nI a) x3 (nI pl) x5 (nI n), zi G b0 160 f, zo3 t0 co en sk (nI w0) (nI tx), zr G co 6 fc, zi G ct 160 fct] sz)) 0 0 (va_A [zo1 h0 t0 b0 (nI a) x3 (nI pl) x5 (nI n), zi G b0 160 f, zo3 t0 co en sk (nI w0) (nI tx), zr G co 6 fc, zi G ct 160 fct] sz) := by
  refine Met.ofW (cc := cX1_readTerm) (maxL := 3) (ret := (some .boolean)) (by decide +kernel) rfl ?_
  intro p e s m args below meth c s₁ B hml hv
  obtain ⟨rfl, hsz, hP, hK, hD0, hE⟩ := hv
  have hx := B.exec
  have hb := B.bytes
  have hr := B.returns
  have hts := atoms_spec (ws := wsX1_readTerm) B.pre
  have hown : s.vm.findClass RX1 = some m.cls := findClass_of_methodNamed B.named
  have hlocks := B.notSynchronized
  subst hsz
  have hD := hD0.self (sz := s.heap.size)
  generalize hAe : va_A [zo1 h0 t0 b0 (nI a) x3 (nI pl) x5 (nI n), zi G b0 160 f, zo3 t0 co en sk (nI w0) (nI tx), zr G co 6 fc, zi G ct 160 fct] s.heap.size = A at hD hE ⊢
  have hA : ∀ q : Nat, s.heap.size ≤ q → A q := fun q h => by rw [← hAe]; exact Or.inr h
  have hS : va_S A s.heap s.heap [] := va_S.rf
  have hz9 : gPD G A [zo1 h0 t0 b0 (nI a) x3 (nI pl) x5 (nI n), zi G b0 160 f, zo3 t0 co en sk (nI w0) (nI tx), zr G co 6 fc, zi G ct 160 fct] s.heap := ⟨hP, hD⟩
  have hP := hz9.1
  have hD := hz9.2
  have hl := lv_entry ([.ref h0, .int 5]) (n := 3) (Nat.le_of_ble_eq_true rfl)
  rw [lg_entry_eq]
  generalize (lg_sl ([.ref h0, .int 5]) ++ List.replicate (3 - (lg_sl ([.ref h0, .int 5])).length) Slot.unset).toArray = ls at hl ⊢
  have hl : lv_has ls 3 [zR 0 h0, zI 1 5] := hl
  have kf45 := hts (.fieldLink RX1 45 "PebbleInShoe$Reader" "token" "I") (by decide +kernel)
  have hiX1 := (by decide +kernel : ∀ w ∈ wsX10, w ∈ wsX1_readTerm)
  have kf15 := hts (.fieldLink RX1 15 "PebbleInShoe$Reader" "texts" "LPebbleInShoe$Texts;") (by decide +kernel)
  refine lv_aload_n hx hb dX1_readTerm_0 rfl (lv_at hl 0 rfl) ?_
  refine lv_iload_n hx hb dX1_readTerm_1 rfl (lv_at hl 1 rfl) ?_
  refine z_callp [0, 1, 2, 3, 4] (va_runV (As := [.int 5]) (rest := []) ⟨hx, hb, hml, hown, hts⟩ (c_X1_readOne_o5 l G E h0 t0 b0 co en sk ct f fc fct x3 x5 n a pl w0 tx s.heap.size (by first | exact hn | assumption | omega) (by first | exact ha | assumption | omega) (by first | exact hw0 | assumption | omega) (by first | exact htx | assumption | omega) (by first | exact hc | assumption | omega)) (cwV 1 hts gX1_readTerm_X1_readOne rfl rfl rfl (by decide +kernel) ⟨Nat.le_of_ble_eq_true rfl, Nat.le_of_ble_eq_true rfl⟩) ⟨gPreE_blind, va_recv (q := (RX1, TX1, 7)) hK hP (ci := 1) (q0 := 0) rfl rfl, fun U hU hW => gPreE_of hU hW hK hP hD hE hS (gFree2 hD hS hA [0, 1, 2, 3, 4])⟩ rfl rfl hl.1 rfl (lv_room (Nat.le_of_ble_eq_true rfl)) dX1_readTerm_2 ⟨Nat.le_of_ble_eq_true rfl, Nat.le_of_ble_eq_true rfl⟩) hS hD hA rfl (fun r_1 u t H locs ht hvm w_2 hB hz1 hk1 hFq hAq hS => ?_)
  obtain ⟨za_3, zt_4, zp_5, zm_6, zw_7, yct_8⟩ := u
  obtain ⟨hP1, hK1, hD1⟩ := hB
  have w_2 : (za_3 ≤ n ∧ zw_7 ≤ 160) ∧ gRes r_1 (za_3, zt_4, zp_5, zm_6, zw_7, yct_8) (gOneB f n (gLv f n 0) (a, x3, pl, x5, w0, fct)) := w_2
  have hz9 : gPD G A [zo1 h0 t0 b0 (nI za_3) zt_4 (nI zp_5) zm_6 (nI n), zi G b0 160 f, zo3 t0 co en sk (nI zw_7) (nI tx), zr G co 6 fc, zi G ct 160 yct_8] H := zFill hP hD [0, 1, 2, 3, 4] [1, 2, 3, 4, 5] hAq hk1 hFq ht hP1 hD1 rfl (by decide +kernel)
  have hP := hz9.1
  have hD := hz9.2
  obtain ⟨hbd, hg⟩ := w_2
  refine lv_if_ne (tgt := 10) hx hb dX1_readTerm_5 (by decide +kernel) (fun c_9 => ?_) (fun c_9 => ?_)
  · skip
    have hR := gRes_t hg c_9
    refine lv_iconst (v := 0) hx hb dX1_readTerm_10 (by decide +kernel) ?_
    refine lv_istore_n (lv' := [zI 2 0, zR 0 h0, zI 1 5]) hx hb dX1_readTerm_11 rfl hl (by decide +kernel) rfl (fun ls hl => ?_)
    have loop_12 : ∀ (n9 : Nat) (i9 : Nat) (za9 : Nat) (zt9 : Int32) (zp9 : Nat) (zm9 : Int32) (zw9 : Nat) (ct9 : Nat → Int32), (i9 ≤ 160) → (za9 ≤ n ∧ zw9 ≤ 160) → (gLp f n (fun t => decide (t = 42)) (gOneB f n (gLv f n 0)) (160 - i9) (za9, zt9, zp9, zm9, zw9, ct9) = gTermB f n (gLv f n 0) (a, x3, pl, x5, w0, fct)) → (160 - i9) < n9 → ∀ (H : Heap) (locs : List Loc), va_P G.1 vwCl [zo1 h0 t0 b0 (nI za9) zt9 (nI zp9) zm9 (nI n), zi G b0 160 f, zo3 t0 co en sk (nI zw9) (nI tx), zr G co 6 fc, zi G ct 160 ct9] H → va_D A [zo1 h0 t0 b0 (nI za9) zt9 (nI zp9) zm9 (nI n), zi G b0 160 f, zo3 t0 co en sk (nI zw9) (nI tx), zr G co 6 fc, zi G ct 160 ct9] → va_S A s.heap H locs → ∀ ls : Array Slot, lv_has ls 3 [zI 2 (nI i9), zR 0 h0, zI 1 5] → W p l e (headSpec wsX1_readTerm ({ frames := 8, cells := 0, slots := 0, locals := 169 })).room s m ([.ref h0, .int 5] : List Value).toArray below meth c H locs 0 0 (MQ below (q_X1_readTerm_o5 G E h0 t0 b0 co en sk ct f fc fct x3 x5 n a pl w0 tx A) ([.ref h0, .int 5] : List Value).toArray s 0 0 A) (F0 m 12 ls []) := by
      intro n9
      induction n9 with
      | zero => intro i9 za9 zt9 zp9 zm9 zw9 ct9 hi9 hb9 hI hm9; exact absurd hm9 (Nat.not_lt_zero _)
      | succ n9 ih9 =>
        intro i9 za9 zt9 zp9 zm9 zw9 ct9 hi9 hb9 hI hm9 H locs hP hD hS ls hl
        refine lv_iload_n hx hb dX1_readTerm_12 rfl (lv_at hl 0 rfl) ?_
        refine lv_sipush (v := 160) hx hb dX1_readTerm_13 (by decide +kernel) ?_
        refine lv_icmp_ge (tgt := 58) hx hb dX1_readTerm_16 (by decide +kernel) (fun c_10 => ?_) (fun c_10 => ?_)
        · skip
          have c_10N : 160 ≤ i9 := nI_le1 (a := 160) (b := i9) (by omega) (by omega) c_10
          refine lv_iconst (v := 1) hx hb dX1_readTerm_58 (by decide +kernel) ?_
          have hpost : (fun (r : Int32) (u : Nat × Int32 × Nat × Int32 × Nat × (Nat → Int32)) => match u with | (za, zt, zp, zm, zw, yct) => (za ≤ n ∧ zw ≤ 160) ∧ gRes r (za, zt, zp, zm, zw, yct) (gTermB f n (gLv f n 0) (a, x3, pl, x5, w0, fct))) 1 (za9, zt9, zp9, zm9, zw9, ct9) := by refine ⟨⟨by omega, by omega⟩, Or.inl ⟨?_, rfl⟩⟩; rw [← hI, show 160 - i9 = 0 by omega]; rfl
          exact W.zret (v := 1) hx hb hr (rfl) (fun t ht hW => ⟨⟨1, (za9, zt9, zp9, zm9, zw9, ct9), rfl, hpost, by rw [ht]; exact hP, va_K.moved hW.alike hK, hD⟩, hS.F ht⟩) hS.2.2 dX1_readTerm_59
        · skip
          have c_10N : i9 < 160 := nI_le0 (a := 160) (b := i9) (by omega) (by omega) c_10
          refine g_aget (D := G.1) (ci := 1) (v := .int zt9) (C := RX1) (T := TX1) (N := 7) hx hb dX1_readTerm_19 rfl (lv_at hl 1 rfl) hts hiX1 hown hK hP 0 rfl rfl 3 (by decide +kernel) kf45 (fun _ h9 => h9) rfl dX1_readTerm_20 ?_
          refine lv_bipush (v := 42) hx hb dX1_readTerm_23 (by decide +kernel) ?_
          refine lv_icmp_ne (tgt := 58) hx hb dX1_readTerm_25 (by decide +kernel) (fun c_11 => ?_) (fun c_11 => ?_)
          · skip
            refine lv_iconst (v := 1) hx hb dX1_readTerm_58 (by decide +kernel) ?_
            have hpost : (fun (r : Int32) (u : Nat × Int32 × Nat × Int32 × Nat × (Nat → Int32)) => match u with | (za, zt, zp, zm, zw, yct) => (za ≤ n ∧ zw ≤ 160) ∧ gRes r (za, zt, zp, zm, zw, yct) (gTermB f n (gLv f n 0) (a, x3, pl, x5, w0, fct))) 1 (za9, zt9, zp9, zm9, zw9, ct9) := by refine ⟨⟨by omega, by omega⟩, Or.inl ⟨?_, rfl⟩⟩; rw [← hI]; exact gLp_stop (decide_eq_false (c_11))
            exact W.zret (v := 1) hx hb hr (rfl) (fun t ht hW => ⟨⟨1, (za9, zt9, zp9, zm9, zw9, ct9), rfl, hpost, by rw [ht]; exact hP, va_K.moved hW.alike hK, hD⟩, hS.F ht⟩) hS.2.2 dX1_readTerm_59
          · skip
            refine lv_aload_n hx hb dX1_readTerm_28 rfl (lv_at hl 1 rfl) ?_
            refine z_callv [0, 1] (va_runV (As := []) (rest := []) ⟨hx, hb, hml, hown, hts⟩ (c_X1_next l G E h0 t0 b0 f zt9 (nI zp9) zm9 n za9 H.size (by first | exact hn | assumption | omega) (by first | exact ha | assumption | omega)) (cwV 0 hts gX1_readTerm_X1_next rfl rfl rfl (by decide +kernel) ⟨Nat.le_of_ble_eq_true rfl, Nat.le_of_ble_eq_true rfl⟩) ⟨gPreE_blind, va_recv (q := (RX1, TX1, 7)) hK hP (ci := 1) (q0 := 0) rfl rfl, fun U hU hW => gPreE_ofF [0, 1] hU hW hK hP hD (by decide +kernel) rfl hE hS hA⟩ rfl rfl hl.1 rfl (lv_room (Nat.le_of_ble_eq_true rfl)) dX1_readTerm_29 ⟨Nat.le_of_ble_eq_true rfl, Nat.le_of_ble_eq_true rfl⟩) hS hD hA rfl (fun u t H locs ht hvm w_13 hB hz1 hk1 hFq hAq hS => ?_)
            obtain ⟨zb_14, zt_15, zp_16, zm_17⟩ := u
            obtain ⟨hP1, hK1, hD1⟩ := hB
            have w_13 : (zb_14, zt_15, zp_16, zm_17) = mNext f n za9 zm9 := w_13
            have hz9 : gPD G A [zo1 h0 t0 b0 (nI zb_14) zt_15 (nI zp_16) zm_17 (nI n), zi G b0 160 f, zo3 t0 co en sk (nI zw9) (nI tx), zr G co 6 fc, zi G ct 160 ct9] H := zFill hP hD [0, 1] [1, 2] hAq hk1 hFq ht hP1 hD1 rfl (by decide +kernel)
            have hP := hz9.1
            have hD := hz9.2
            have hnx : gNx f n (za9, zt9, zp9, zm9, zw9, ct9) = (zb_14, zt_15, zp_16, zm_17, zw9, ct9) := gNx_of w_13
            have hle := nx_le9 w_13 (by omega)
            refine lv_aload_n hx hb dX1_readTerm_32 rfl (lv_at hl 1 rfl) ?_
            refine lv_iload_n hx hb dX1_readTerm_33 rfl (lv_at hl 2 rfl) ?_
            refine z_callp [0, 1, 2, 3, 4] (va_runV (As := [.int 5]) (rest := []) ⟨hx, hb, hml, hown, hts⟩ (c_X1_readOne_o5 l G E h0 t0 b0 co en sk ct f fc ct9 zt_15 zm_17 n zb_14 zp_16 zw9 tx H.size (by first | exact hn | assumption | omega) (by first | exact ha | assumption | omega) (by first | exact hw0 | assumption | omega) (by first | exact htx | assumption | omega) (by first | exact hc | assumption | omega)) (cwV 1 hts gX1_readTerm_X1_readOne rfl rfl rfl (by decide +kernel) ⟨Nat.le_of_ble_eq_true rfl, Nat.le_of_ble_eq_true rfl⟩) ⟨gPreE_blind, va_recv (q := (RX1, TX1, 7)) hK hP (ci := 1) (q0 := 0) rfl rfl, fun U hU hW => gPreE_of hU hW hK hP hD hE hS (gFree2 hD hS hA [0, 1, 2, 3, 4])⟩ rfl rfl hl.1 rfl (lv_room (Nat.le_of_ble_eq_true rfl)) dX1_readTerm_34 ⟨Nat.le_of_ble_eq_true rfl, Nat.le_of_ble_eq_true rfl⟩) hS hD hA rfl (fun r_18 u t H locs ht hvm w_19 hB hz1 hk1 hFq hAq hS => ?_)
            obtain ⟨za_20, zt_21, zp_22, zm_23, zw_24, yct_25⟩ := u
            obtain ⟨hP1, hK1, hD1⟩ := hB
            have w_19 : (za_20 ≤ n ∧ zw_24 ≤ 160) ∧ gRes r_18 (za_20, zt_21, zp_22, zm_23, zw_24, yct_25) (gOneB f n (gLv f n 0) (zb_14, zt_15, zp_16, zm_17, zw9, ct9)) := w_19
            have hz9 : gPD G A [zo1 h0 t0 b0 (nI za_20) zt_21 (nI zp_22) zm_23 (nI n), zi G b0 160 f, zo3 t0 co en sk (nI zw_24) (nI tx), zr G co 6 fc, zi G ct 160 yct_25] H := zFill hP hD [0, 1, 2, 3, 4] [1, 2, 3, 4, 5] hAq hk1 hFq ht hP1 hD1 rfl (by decide +kernel)
            have hP := hz9.1
            have hD := hz9.2
            obtain ⟨hbd2, hg2⟩ := w_19
            refine lv_if_ne (tgt := 42) hx hb dX1_readTerm_37 (by decide +kernel) (fun c_26 => ?_) (fun c_26 => ?_)
            · skip
              have hR2 := gRes_t hg2 c_26
              refine g_aget (D := G.1) (ci := 1) (v := .ref t0) (C := RX1) (T := TX1) (N := 7) hx hb dX1_readTerm_42 rfl (lv_at hl 1 rfl) hts hiX1 hown hK hP 0 rfl rfl 0 (by decide +kernel) kf15 (fun _ h9 => h9) rfl dX1_readTerm_43 ?_
              refine lv_sipush (v := 20042) hx hb dX1_readTerm_46 (by decide +kernel) ?_
              refine z_callv [2, 3, 4] (va_runV (As := [.int 20042]) (rest := []) ⟨hx, hb, hml, hown, hts⟩ (c_X3_write_g l G t0 co en sk ct fc yct_25 zw_24 tx 20042 H.size (by first | exact hw0 | assumption | omega) (by first | exact htx | assumption | omega) (by first | exact hc | assumption | omega)) (cwV 1 hts gX1_readTerm_X3_write rfl rfl rfl (by decide +kernel) ⟨Nat.le_of_ble_eq_true rfl, Nat.le_of_ble_eq_true rfl⟩) ⟨gPre_blind, va_recv (q := (RX3, TX3, 5)) hK hP (ci := 3) (q0 := 2) rfl rfl, fun U hU hW => gPre_ofF [2, 3, 4] hU hW hK hP hD (by decide +kernel) rfl⟩ rfl rfl hl.1 rfl (lv_room (Nat.le_of_ble_eq_true rfl)) dX1_readTerm_49 ⟨Nat.le_of_ble_eq_true rfl, Nat.le_of_ble_eq_true rfl⟩) hS hD hA rfl (fun u t H locs ht hvm w_28 hB hz1 hk1 hFq hAq hS => ?_)
              obtain ⟨zw_29, yct_30⟩ := u
              obtain ⟨hP1, hK1, hD1⟩ := hB
              have w_28 : (zw_29, yct_30) = gWc 20042 zw_24 yct_25 ∧ zw_29 ≤ 160 := w_28
              have hz9 : gPD G A [zo1 h0 t0 b0 (nI za_20) zt_21 (nI zp_22) zm_23 (nI n), zi G b0 160 f, zo3 t0 co en sk (nI zw_29) (nI tx), zr G co 6 fc, zi G ct 160 yct_30] H := zFill hP hD [2, 3, 4] [0, 0, 1, 2, 3] hAq hk1 hFq ht hP1 hD1 rfl (by decide +kernel)
              have hP := hz9.1
              have hD := hz9.2
              have hwr : gWr 20042 (za_20, zt_21, zp_22, zm_23, zw_24, yct_25) = (za_20, zt_21, zp_22, zm_23, zw_29, yct_30) := gWr_of w_28.1
              have hwl := w_28.2
              refine lv_iinc (v := nI (i9 + 1)) (lv' := [zI 2 (nI (i9 + 1)), zR 0 h0, zI 1 5]) hx hb dX1_readTerm_52 hl (k := 0) rfl (nI_add i9 1) (by decide +kernel) rfl (fun ls hl => ?_)
              refine lv_goto (tgt := 12) hx hb dX1_readTerm_55 (by decide +kernel) ?_
              exact ih9 (i9 + 1) za_20 zt_21 zp_22 zm_23 zw_29 yct_30 (by omega) (by omega) (by rw [← hI, show 160 - i9 = (160 - (i9 + 1)) + 1 by omega]; exact (gLp_go (decide_eq_true (c_11)) (by rw [hnx]; exact hR2) (by rw [c_11]; rfl) hwr).symm) (by omega) _ _ hP hD hS ls hl
            · skip
              have hR2 := gRes_f hg2 c_26
              refine lv_iconst (v := 0) hx hb dX1_readTerm_40 (by decide +kernel) ?_
              have hpost : (fun (r : Int32) (u : Nat × Int32 × Nat × Int32 × Nat × (Nat → Int32)) => match u with | (za, zt, zp, zm, zw, yct) => (za ≤ n ∧ zw ≤ 160) ∧ gRes r (za, zt, zp, zm, zw, yct) (gTermB f n (gLv f n 0) (a, x3, pl, x5, w0, fct))) 0 (za_20, zt_21, zp_22, zm_23, zw_24, yct_25) := by refine ⟨⟨by omega, by omega⟩, Or.inr ⟨?_, rfl⟩⟩; rw [← hI, show 160 - i9 = (160 - (i9 + 1)) + 1 by omega]; exact gLp_fail (decide_eq_true (c_11)) (by rw [hnx]; exact hR2)
              exact W.zret (v := 0) hx hb hr (rfl) (fun t ht hW => ⟨⟨0, (za_20, zt_21, zp_22, zm_23, zw_24, yct_25), rfl, hpost, by rw [ht]; exact hP, va_K.moved hW.alike hK, hD⟩, hS.F ht⟩) hS.2.2 dX1_readTerm_41
    exact loop_12 (161) 0 za_3 zt_4 zp_5 zm_6 zw_7 yct_8 (Nat.zero_le _) (by omega) ((gBind_t hR).symm) (by omega) _ _ hP hD hS ls hl
  · skip
    have hR := gRes_f hg c_9
    refine lv_iconst (v := 0) hx hb dX1_readTerm_8 (by decide +kernel) ?_
    have hpost : (fun (r : Int32) (u : Nat × Int32 × Nat × Int32 × Nat × (Nat → Int32)) => match u with | (za, zt, zp, zm, zw, yct) => (za ≤ n ∧ zw ≤ 160) ∧ gRes r (za, zt, zp, zm, zw, yct) (gTermB f n (gLv f n 0) (a, x3, pl, x5, w0, fct))) 0 (za_3, zt_4, zp_5, zm_6, zw_7, yct_8) := by exact ⟨hbd, Or.inr ⟨gBind_f hR, rfl⟩⟩
    exact W.zret (v := 0) hx hb hr (rfl) (fun t ht hW => ⟨⟨0, (za_3, zt_4, zp_5, zm_6, zw_7, yct_8), rfl, hpost, by rw [ht]; exact hP, va_K.moved hW.alike hK, hD⟩, hS.F ht⟩) hS.2.2 dX1_readTerm_9
abbrev q_X1_readSum_o5 (G : gG) (E : gS) (h0 t0 b0 co en sk ct : Nat) (f : Nat → Int32) (fc : Nat → Option Nat) (fct : Nat → Int32) (x3 : Int32) (x5 : Int32) (n : Nat) (a : Nat) (pl : Nat) (w0 : Nat) (tx : Nat) (A : Nat → Prop) : Array Value → State → Outcome → State → Prop := va_Qi (fun (r : Int32) (u : Nat × Int32 × Nat × Int32 × Nat × (Nat → Int32)) => match u with | (za, zt, zp, zm, zw, yct) => (za ≤ n ∧ zw ≤ 160) ∧ gRes r (za, zt, zp, zm, zw, yct) (gSumB f n (gLv f n 0) (a, x3, pl, x5, w0, fct))) (fun (u : Nat × Int32 × Nat × Int32 × Nat × (Nat → Int32)) t => match u with | (za, zt, zp, zm, zw, yct) => va_P G.1 vwCl [zo1 h0 t0 b0 (nI za) zt (nI zp) zm (nI n), zi G b0 160 f, zo3 t0 co en sk (nI zw) (nI tx), zr G co 6 fc, zi G ct 160 yct] t.heap ∧ gK G t ∧ va_D A [zo1 h0 t0 b0 (nI za) zt (nI zp) zm (nI n), zi G b0 160 f, zo3 t0 co en sk (nI zw) (nI tx), zr G co 6 fc, zi G ct 160 yct]) A
set_option maxHeartbeats 4000000 in
set_option maxRecDepth 100000 in
theorem c_X1_readSum_o5 (l : Launch) (G : gG) (E : gS) (h0 t0 b0 co en sk ct : Nat) (f : Nat → Int32) (fc : Nat → Option Nat) (fct : Nat → Int32) (x3 : Int32) (x5 : Int32) (n : Nat) (a : Nat) (pl : Nat) (w0 : Nat) (tx : Nat) (sz : Nat) (hn : n ≤ 160) (ha : a ≤ n) (hw0 : w0 ≤ 160) (htx : tx < 6) (hc : fc tx = some ct) : Met l yX1_readSum wsX1_readSum ({ frames := 9, cells := 0, slots := 0, locals := 191 }) (gPreE G E [.ref h0, .int 5] [zo1 h0 t0 b0 (nI a) x3 (nI pl) x5 (nI n), zi G b0 160 f, zo3 t0 co en sk (nI w0) (nI tx), zr G co 6 fc, zi G ct 160 fct] sz) (q_X1_readSum_o5 G E h0 t0 b0 co en sk ct f fc fct x3 x5 n a pl w0 tx (va_A [zo1 h0 t0 b0 (nI a) x3 (nI pl) x5 (nI n), zi G b0 160 f, zo3 t0 co en sk (nI w0) (nI tx), zr G co 6 fc, zi G ct 160 fct] sz)) 0 0 (va_A [zo1 h0 t0 b0 (nI a) x3 (nI pl) x5 (nI n), zi G b0 160 f, zo3 t0 co en sk (nI w0) (nI tx), zr G co 6 fc, zi G ct 160 fct] sz) := by
  refine Met.ofW (cc := cX1_readSum) (maxL := 4) (ret := (some .boolean)) (by decide +kernel) rfl ?_
  intro p e s m args below meth c s₁ B hml hv
  obtain ⟨rfl, hsz, hP, hK, hD0, hE⟩ := hv
  have hx := B.exec
  have hb := B.bytes
  have hr := B.returns
  have hts := atoms_spec (ws := wsX1_readSum) B.pre
  have hown : s.vm.findClass RX1 = some m.cls := findClass_of_methodNamed B.named
  have hlocks := B.notSynchronized
  subst hsz
  have hD := hD0.self (sz := s.heap.size)
  generalize hAe : va_A [zo1 h0 t0 b0 (nI a) x3 (nI pl) x5 (nI n), zi G b0 160 f, zo3 t0 co en sk (nI w0) (nI tx), zr G co 6 fc, zi G ct 160 fct] s.heap.size = A at hD hE ⊢
  have hA : ∀ q : Nat, s.heap.size ≤ q → A q := fun q h => by rw [← hAe]; exact Or.inr h
  have hS : va_S A s.heap s.heap [] := va_S.rf
  have hz9 : gPD G A [zo1 h0 t0 b0 (nI a) x3 (nI pl) x5 (nI n), zi G b0 160 f, zo3 t0 co en sk (nI w0) (nI tx), zr G co 6 fc, zi G ct 160 fct] s.heap := ⟨hP, hD⟩
  have hP := hz9.1
  have hD := hz9.2
  have hl := lv_entry ([.ref h0, .int 5]) (n := 4) (Nat.le_of_ble_eq_true rfl)
  rw [lg_entry_eq]
  generalize (lg_sl ([.ref h0, .int 5]) ++ List.replicate (4 - (lg_sl ([.ref h0, .int 5])).length) Slot.unset).toArray = ls at hl ⊢
  have hl : lv_has ls 4 [zR 0 h0, zI 1 5] := hl
  have kf45 := hts (.fieldLink RX1 45 "PebbleInShoe$Reader" "token" "I") (by decide +kernel)
  have hiX1 := (by decide +kernel : ∀ w ∈ wsX10, w ∈ wsX1_readSum)
  have kf15 := hts (.fieldLink RX1 15 "PebbleInShoe$Reader" "texts" "LPebbleInShoe$Texts;") (by decide +kernel)
  refine lv_aload_n hx hb dX1_readSum_0 rfl (lv_at hl 0 rfl) ?_
  refine lv_iload_n hx hb dX1_readSum_1 rfl (lv_at hl 1 rfl) ?_
  refine z_callp [0, 1, 2, 3, 4] (va_runV (As := [.int 5]) (rest := []) ⟨hx, hb, hml, hown, hts⟩ (c_X1_readTerm_o5 l G E h0 t0 b0 co en sk ct f fc fct x3 x5 n a pl w0 tx s.heap.size (by first | exact hn | assumption | omega) (by first | exact ha | assumption | omega) (by first | exact hw0 | assumption | omega) (by first | exact htx | assumption | omega) (by first | exact hc | assumption | omega)) (cwV 1 hts gX1_readSum_X1_readTerm rfl rfl rfl (by decide +kernel) ⟨Nat.le_of_ble_eq_true rfl, Nat.le_of_ble_eq_true rfl⟩) ⟨gPreE_blind, va_recv (q := (RX1, TX1, 7)) hK hP (ci := 1) (q0 := 0) rfl rfl, fun U hU hW => gPreE_of hU hW hK hP hD hE hS (gFree2 hD hS hA [0, 1, 2, 3, 4])⟩ rfl rfl hl.1 rfl (lv_room (Nat.le_of_ble_eq_true rfl)) dX1_readSum_2 ⟨Nat.le_of_ble_eq_true rfl, Nat.le_of_ble_eq_true rfl⟩) hS hD hA rfl (fun r_1 u t H locs ht hvm w_2 hB hz1 hk1 hFq hAq hS => ?_)
  obtain ⟨za_3, zt_4, zp_5, zm_6, zw_7, yct_8⟩ := u
  obtain ⟨hP1, hK1, hD1⟩ := hB
  have w_2 : (za_3 ≤ n ∧ zw_7 ≤ 160) ∧ gRes r_1 (za_3, zt_4, zp_5, zm_6, zw_7, yct_8) (gTermB f n (gLv f n 0) (a, x3, pl, x5, w0, fct)) := w_2
  have hz9 : gPD G A [zo1 h0 t0 b0 (nI za_3) zt_4 (nI zp_5) zm_6 (nI n), zi G b0 160 f, zo3 t0 co en sk (nI zw_7) (nI tx), zr G co 6 fc, zi G ct 160 yct_8] H := zFill hP hD [0, 1, 2, 3, 4] [1, 2, 3, 4, 5] hAq hk1 hFq ht hP1 hD1 rfl (by decide +kernel)
  have hP := hz9.1
  have hD := hz9.2
  obtain ⟨hbd, hg⟩ := w_2
  refine lv_if_ne (tgt := 10) hx hb dX1_readSum_5 (by decide +kernel) (fun c_9 => ?_) (fun c_9 => ?_)
  · skip
    have hR := gRes_t hg c_9
    refine lv_iconst (v := 0) hx hb dX1_readSum_10 (by decide +kernel) ?_
    refine lv_istore_n (lv' := [zI 2 0, zR 0 h0, zI 1 5]) hx hb dX1_readSum_11 rfl hl (by decide +kernel) rfl (fun ls hl => ?_)
    have loop_12 : ∀ (n9 : Nat) (i9 : Nat) (za9 : Nat) (zt9 : Int32) (zp9 : Nat) (zm9 : Int32) (zw9 : Nat) (ct9 : Nat → Int32), (i9 ≤ 160) → (za9 ≤ n ∧ zw9 ≤ 160) → (gLp f n (fun t => decide (t = 43 ∨ t = 45)) (gTermB f n (gLv f n 0)) (160 - i9) (za9, zt9, zp9, zm9, zw9, ct9) = gSumB f n (gLv f n 0) (a, x3, pl, x5, w0, fct)) → (160 - i9) < n9 → ∀ (H : Heap) (locs : List Loc), va_P G.1 vwCl [zo1 h0 t0 b0 (nI za9) zt9 (nI zp9) zm9 (nI n), zi G b0 160 f, zo3 t0 co en sk (nI zw9) (nI tx), zr G co 6 fc, zi G ct 160 ct9] H → va_D A [zo1 h0 t0 b0 (nI za9) zt9 (nI zp9) zm9 (nI n), zi G b0 160 f, zo3 t0 co en sk (nI zw9) (nI tx), zr G co 6 fc, zi G ct 160 ct9] → va_S A s.heap H locs → ∀ ls : Array Slot, lv_has ls 4 [zI 2 (nI i9), zR 0 h0, zI 1 5] → W p l e (headSpec wsX1_readSum ({ frames := 9, cells := 0, slots := 0, locals := 191 })).room s m ([.ref h0, .int 5] : List Value).toArray below meth c H locs 0 0 (MQ below (q_X1_readSum_o5 G E h0 t0 b0 co en sk ct f fc fct x3 x5 n a pl w0 tx A) ([.ref h0, .int 5] : List Value).toArray s 0 0 A) (F0 m 12 ls []) := by
      intro n9
      induction n9 with
      | zero => intro i9 za9 zt9 zp9 zm9 zw9 ct9 hi9 hb9 hI hm9; exact absurd hm9 (Nat.not_lt_zero _)
      | succ n9 ih9 =>
        intro i9 za9 zt9 zp9 zm9 zw9 ct9 hi9 hb9 hI hm9 H locs hP hD hS ls hl
        refine lv_iload_n hx hb dX1_readSum_12 rfl (lv_at hl 0 rfl) ?_
        refine lv_sipush (v := 160) hx hb dX1_readSum_13 (by decide +kernel) ?_
        refine lv_icmp_ge (tgt := 74) hx hb dX1_readSum_16 (by decide +kernel) (fun c_10 => ?_) (fun c_10 => ?_)
        · skip
          have c_10N : 160 ≤ i9 := nI_le1 (a := 160) (b := i9) (by omega) (by omega) c_10
          refine lv_iconst (v := 1) hx hb dX1_readSum_74 (by decide +kernel) ?_
          have hpost : (fun (r : Int32) (u : Nat × Int32 × Nat × Int32 × Nat × (Nat → Int32)) => match u with | (za, zt, zp, zm, zw, yct) => (za ≤ n ∧ zw ≤ 160) ∧ gRes r (za, zt, zp, zm, zw, yct) (gSumB f n (gLv f n 0) (a, x3, pl, x5, w0, fct))) 1 (za9, zt9, zp9, zm9, zw9, ct9) := by refine ⟨⟨by omega, by omega⟩, Or.inl ⟨?_, rfl⟩⟩; rw [← hI, show 160 - i9 = 0 by omega]; rfl
          exact W.zret (v := 1) hx hb hr (rfl) (fun t ht hW => ⟨⟨1, (za9, zt9, zp9, zm9, zw9, ct9), rfl, hpost, by rw [ht]; exact hP, va_K.moved hW.alike hK, hD⟩, hS.F ht⟩) hS.2.2 dX1_readSum_75
        · skip
          have c_10N : i9 < 160 := nI_le0 (a := 160) (b := i9) (by omega) (by omega) c_10
          refine g_aget (D := G.1) (ci := 1) (v := .int zt9) (C := RX1) (T := TX1) (N := 7) hx hb dX1_readSum_19 rfl (lv_at hl 1 rfl) hts hiX1 hown hK hP 0 rfl rfl 3 (by decide +kernel) kf45 (fun _ h9 => h9) rfl dX1_readSum_20 ?_
          refine lv_bipush (v := 43) hx hb dX1_readSum_23 (by decide +kernel) ?_
          refine lv_icmp_eq (tgt := 37) hx hb dX1_readSum_25 (by decide +kernel) (fun c_11 => ?_) (fun c_11 => ?_)
          · skip
            refine g_aget (D := G.1) (ci := 1) (v := .int zt9) (C := RX1) (T := TX1) (N := 7) hx hb dX1_readSum_37 rfl (lv_at hl 1 rfl) hts hiX1 hown hK hP 0 rfl rfl 3 (by decide +kernel) kf45 (fun _ h9 => h9) rfl dX1_readSum_38 ?_
            refine lv_istore_n (lv' := [zI 3 zt9, zI 2 (nI i9), zR 0 h0, zI 1 5]) hx hb dX1_readSum_41 rfl hl (by decide +kernel) rfl (fun ls hl => ?_)
            refine lv_aload_n hx hb dX1_readSum_42 rfl (lv_at hl 2 rfl) ?_
            refine z_callv [0, 1] (va_runV (As := []) (rest := []) ⟨hx, hb, hml, hown, hts⟩ (c_X1_next l G E h0 t0 b0 f zt9 (nI zp9) zm9 n za9 H.size (by first | exact hn | assumption | omega) (by first | exact ha | assumption | omega)) (cwV 0 hts gX1_readSum_X1_next rfl rfl rfl (by decide +kernel) ⟨Nat.le_of_ble_eq_true rfl, Nat.le_of_ble_eq_true rfl⟩) ⟨gPreE_blind, va_recv (q := (RX1, TX1, 7)) hK hP (ci := 1) (q0 := 0) rfl rfl, fun U hU hW => gPreE_ofF [0, 1] hU hW hK hP hD (by decide +kernel) rfl hE hS hA⟩ rfl rfl hl.1 rfl (lv_room (Nat.le_of_ble_eq_true rfl)) dX1_readSum_43 ⟨Nat.le_of_ble_eq_true rfl, Nat.le_of_ble_eq_true rfl⟩) hS hD hA rfl (fun u t H locs ht hvm w_13 hB hz1 hk1 hFq hAq hS => ?_)
            obtain ⟨zb_14, zt_15, zp_16, zm_17⟩ := u
            obtain ⟨hP1, hK1, hD1⟩ := hB
            have w_13 : (zb_14, zt_15, zp_16, zm_17) = mNext f n za9 zm9 := w_13
            have hz9 : gPD G A [zo1 h0 t0 b0 (nI zb_14) zt_15 (nI zp_16) zm_17 (nI n), zi G b0 160 f, zo3 t0 co en sk (nI zw9) (nI tx), zr G co 6 fc, zi G ct 160 ct9] H := zFill hP hD [0, 1] [1, 2] hAq hk1 hFq ht hP1 hD1 rfl (by decide +kernel)
            have hP := hz9.1
            have hD := hz9.2
            have hnx : gNx f n (za9, zt9, zp9, zm9, zw9, ct9) = (zb_14, zt_15, zp_16, zm_17, zw9, ct9) := gNx_of w_13
            have hle := nx_le9 w_13 (by omega)
            refine lv_aload_n hx hb dX1_readSum_46 rfl (lv_at hl 2 rfl) ?_
            refine lv_iload_n hx hb dX1_readSum_47 rfl (lv_at hl 3 rfl) ?_
            refine z_callp [0, 1, 2, 3, 4] (va_runV (As := [.int 5]) (rest := []) ⟨hx, hb, hml, hown, hts⟩ (c_X1_readTerm_o5 l G E h0 t0 b0 co en sk ct f fc ct9 zt_15 zm_17 n zb_14 zp_16 zw9 tx H.size (by first | exact hn | assumption | omega) (by first | exact ha | assumption | omega) (by first | exact hw0 | assumption | omega) (by first | exact htx | assumption | omega) (by first | exact hc | assumption | omega)) (cwV 1 hts gX1_readSum_X1_readTerm rfl rfl rfl (by decide +kernel) ⟨Nat.le_of_ble_eq_true rfl, Nat.le_of_ble_eq_true rfl⟩) ⟨gPreE_blind, va_recv (q := (RX1, TX1, 7)) hK hP (ci := 1) (q0 := 0) rfl rfl, fun U hU hW => gPreE_of hU hW hK hP hD hE hS (gFree2 hD hS hA [0, 1, 2, 3, 4])⟩ rfl rfl hl.1 rfl (lv_room (Nat.le_of_ble_eq_true rfl)) dX1_readSum_48 ⟨Nat.le_of_ble_eq_true rfl, Nat.le_of_ble_eq_true rfl⟩) hS hD hA rfl (fun r_18 u t H locs ht hvm w_19 hB hz1 hk1 hFq hAq hS => ?_)
            obtain ⟨za_20, zt_21, zp_22, zm_23, zw_24, yct_25⟩ := u
            obtain ⟨hP1, hK1, hD1⟩ := hB
            have w_19 : (za_20 ≤ n ∧ zw_24 ≤ 160) ∧ gRes r_18 (za_20, zt_21, zp_22, zm_23, zw_24, yct_25) (gTermB f n (gLv f n 0) (zb_14, zt_15, zp_16, zm_17, zw9, ct9)) := w_19
            have hz9 : gPD G A [zo1 h0 t0 b0 (nI za_20) zt_21 (nI zp_22) zm_23 (nI n), zi G b0 160 f, zo3 t0 co en sk (nI zw_24) (nI tx), zr G co 6 fc, zi G ct 160 yct_25] H := zFill hP hD [0, 1, 2, 3, 4] [1, 2, 3, 4, 5] hAq hk1 hFq ht hP1 hD1 rfl (by decide +kernel)
            have hP := hz9.1
            have hD := hz9.2
            obtain ⟨hbd2, hg2⟩ := w_19
            refine lv_if_ne (tgt := 56) hx hb dX1_readSum_51 (by decide +kernel) (fun c_26 => ?_) (fun c_26 => ?_)
            · skip
              have hR2 := gRes_t hg2 c_26
              refine g_aget (D := G.1) (ci := 1) (v := .ref t0) (C := RX1) (T := TX1) (N := 7) hx hb dX1_readSum_56 rfl (lv_at hl 2 rfl) hts hiX1 hown hK hP 0 rfl rfl 0 (by decide +kernel) kf15 (fun _ h9 => h9) rfl dX1_readSum_57 ?_
              refine lv_sipush (v := 20000) hx hb dX1_readSum_60 (by decide +kernel) ?_
              refine lv_iload_n hx hb dX1_readSum_63 rfl (lv_at hl 0 rfl) ?_
              refine lv_iadd hx hb dX1_readSum_64 ?_
              refine z_callv [2, 3, 4] (va_runV (As := [.int (20000 + zt9)]) (rest := []) ⟨hx, hb, hml, hown, hts⟩ (c_X3_write_g l G t0 co en sk ct fc yct_25 zw_24 tx (20000 + zt9) H.size (by first | exact hw0 | assumption | omega) (by first | exact htx | assumption | omega) (by first | exact hc | assumption | omega)) (cwV 1 hts gX1_readSum_X3_write rfl rfl rfl (by decide +kernel) ⟨Nat.le_of_ble_eq_true rfl, Nat.le_of_ble_eq_true rfl⟩) ⟨gPre_blind, va_recv (q := (RX3, TX3, 5)) hK hP (ci := 3) (q0 := 2) rfl rfl, fun U hU hW => gPre_ofF [2, 3, 4] hU hW hK hP hD (by decide +kernel) rfl⟩ rfl rfl hl.1 rfl (lv_room (Nat.le_of_ble_eq_true rfl)) dX1_readSum_65 ⟨Nat.le_of_ble_eq_true rfl, Nat.le_of_ble_eq_true rfl⟩) hS hD hA rfl (fun u t H locs ht hvm w_28 hB hz1 hk1 hFq hAq hS => ?_)
              obtain ⟨zw_29, yct_30⟩ := u
              obtain ⟨hP1, hK1, hD1⟩ := hB
              have w_28 : (zw_29, yct_30) = gWc (20000 + zt9) zw_24 yct_25 ∧ zw_29 ≤ 160 := w_28
              have hz9 : gPD G A [zo1 h0 t0 b0 (nI za_20) zt_21 (nI zp_22) zm_23 (nI n), zi G b0 160 f, zo3 t0 co en sk (nI zw_29) (nI tx), zr G co 6 fc, zi G ct 160 yct_30] H := zFill hP hD [2, 3, 4] [0, 0, 1, 2, 3] hAq hk1 hFq ht hP1 hD1 rfl (by decide +kernel)
              have hP := hz9.1
              have hD := hz9.2
              have hwr : gWr (20000 + zt9) (za_20, zt_21, zp_22, zm_23, zw_24, yct_25) = (za_20, zt_21, zp_22, zm_23, zw_29, yct_30) := gWr_of w_28.1
              have hwl := w_28.2
              refine lv_iinc (v := nI (i9 + 1)) (lv' := [zI 2 (nI (i9 + 1)), zI 3 zt9, zR 0 h0, zI 1 5]) hx hb dX1_readSum_68 hl (k := 1) rfl (nI_add i9 1) (by decide +kernel) rfl (fun ls hl => ?_)
              refine lv_goto (tgt := 12) hx hb dX1_readSum_71 (by decide +kernel) ?_
              exact ih9 (i9 + 1) za_20 zt_21 zp_22 zm_23 zw_29 yct_30 (by omega) (by omega) (by rw [← hI, show 160 - i9 = (160 - (i9 + 1)) + 1 by omega]; exact (gLp_go (decide_eq_true (Or.inl c_11)) (by rw [hnx]; exact hR2) (rfl) hwr).symm) (by omega) _ _ hP hD hS ls (lv_sub hl [0, 2, 3] rfl)
            · skip
              have hR2 := gRes_f hg2 c_26
              refine lv_iconst (v := 0) hx hb dX1_readSum_54 (by decide +kernel) ?_
              have hpost : (fun (r : Int32) (u : Nat × Int32 × Nat × Int32 × Nat × (Nat → Int32)) => match u with | (za, zt, zp, zm, zw, yct) => (za ≤ n ∧ zw ≤ 160) ∧ gRes r (za, zt, zp, zm, zw, yct) (gSumB f n (gLv f n 0) (a, x3, pl, x5, w0, fct))) 0 (za_20, zt_21, zp_22, zm_23, zw_24, yct_25) := by refine ⟨⟨by omega, by omega⟩, Or.inr ⟨?_, rfl⟩⟩; rw [← hI, show 160 - i9 = (160 - (i9 + 1)) + 1 by omega]; exact gLp_fail (decide_eq_true (Or.inl c_11)) (by rw [hnx]; exact hR2)
              exact W.zret (v := 0) hx hb hr (rfl) (fun t ht hW => ⟨⟨0, (za_20, zt_21, zp_22, zm_23, zw_24, yct_25), rfl, hpost, by rw [ht]; exact hP, va_K.moved hW.alike hK, hD⟩, hS.F ht⟩) hS.2.2 dX1_readSum_55
          · skip
            refine g_aget (D := G.1) (ci := 1) (v := .int zt9) (C := RX1) (T := TX1) (N := 7) hx hb dX1_readSum_28 rfl (lv_at hl 1 rfl) hts hiX1 hown hK hP 0 rfl rfl 3 (by decide +kernel) kf45 (fun _ h9 => h9) rfl dX1_readSum_29 ?_
            refine lv_bipush (v := 45) hx hb dX1_readSum_32 (by decide +kernel) ?_
            refine lv_icmp_ne (tgt := 74) hx hb dX1_readSum_34 (by decide +kernel) (fun c_31 => ?_) (fun c_31 => ?_)
            · skip
              refine lv_iconst (v := 1) hx hb dX1_readSum_74 (by decide +kernel) ?_
              have hpost : (fun (r : Int32) (u : Nat × Int32 × Nat × Int32 × Nat × (Nat → Int32)) => match u with | (za, zt, zp, zm, zw, yct) => (za ≤ n ∧ zw ≤ 160) ∧ gRes r (za, zt, zp, zm, zw, yct) (gSumB f n (gLv f n 0) (a, x3, pl, x5, w0, fct))) 1 (za9, zt9, zp9, zm9, zw9, ct9) := by refine ⟨⟨by omega, by omega⟩, Or.inl ⟨?_, rfl⟩⟩; rw [← hI]; exact gLp_stop (decide_eq_false (fun z => z.elim c_11 c_31))
              exact W.zret (v := 1) hx hb hr (rfl) (fun t ht hW => ⟨⟨1, (za9, zt9, zp9, zm9, zw9, ct9), rfl, hpost, by rw [ht]; exact hP, va_K.moved hW.alike hK, hD⟩, hS.F ht⟩) hS.2.2 dX1_readSum_75
            · skip
              refine g_aget (D := G.1) (ci := 1) (v := .int zt9) (C := RX1) (T := TX1) (N := 7) hx hb dX1_readSum_37 rfl (lv_at hl 1 rfl) hts hiX1 hown hK hP 0 rfl rfl 3 (by decide +kernel) kf45 (fun _ h9 => h9) rfl dX1_readSum_38 ?_
              refine lv_istore_n (lv' := [zI 3 zt9, zI 2 (nI i9), zR 0 h0, zI 1 5]) hx hb dX1_readSum_41 rfl hl (by decide +kernel) rfl (fun ls hl => ?_)
              refine lv_aload_n hx hb dX1_readSum_42 rfl (lv_at hl 2 rfl) ?_
              refine z_callv [0, 1] (va_runV (As := []) (rest := []) ⟨hx, hb, hml, hown, hts⟩ (c_X1_next l G E h0 t0 b0 f zt9 (nI zp9) zm9 n za9 H.size (by first | exact hn | assumption | omega) (by first | exact ha | assumption | omega)) (cwV 0 hts gX1_readSum_X1_next rfl rfl rfl (by decide +kernel) ⟨Nat.le_of_ble_eq_true rfl, Nat.le_of_ble_eq_true rfl⟩) ⟨gPreE_blind, va_recv (q := (RX1, TX1, 7)) hK hP (ci := 1) (q0 := 0) rfl rfl, fun U hU hW => gPreE_ofF [0, 1] hU hW hK hP hD (by decide +kernel) rfl hE hS hA⟩ rfl rfl hl.1 rfl (lv_room (Nat.le_of_ble_eq_true rfl)) dX1_readSum_43 ⟨Nat.le_of_ble_eq_true rfl, Nat.le_of_ble_eq_true rfl⟩) hS hD hA rfl (fun u t H locs ht hvm w_33 hB hz1 hk1 hFq hAq hS => ?_)
              obtain ⟨zb_34, zt_35, zp_36, zm_37⟩ := u
              obtain ⟨hP1, hK1, hD1⟩ := hB
              have w_33 : (zb_34, zt_35, zp_36, zm_37) = mNext f n za9 zm9 := w_33
              have hz9 : gPD G A [zo1 h0 t0 b0 (nI zb_34) zt_35 (nI zp_36) zm_37 (nI n), zi G b0 160 f, zo3 t0 co en sk (nI zw9) (nI tx), zr G co 6 fc, zi G ct 160 ct9] H := zFill hP hD [0, 1] [1, 2] hAq hk1 hFq ht hP1 hD1 rfl (by decide +kernel)
              have hP := hz9.1
              have hD := hz9.2
              have hnx : gNx f n (za9, zt9, zp9, zm9, zw9, ct9) = (zb_34, zt_35, zp_36, zm_37, zw9, ct9) := gNx_of w_33
              have hle := nx_le9 w_33 (by omega)
              refine lv_aload_n hx hb dX1_readSum_46 rfl (lv_at hl 2 rfl) ?_
              refine lv_iload_n hx hb dX1_readSum_47 rfl (lv_at hl 3 rfl) ?_
              refine z_callp [0, 1, 2, 3, 4] (va_runV (As := [.int 5]) (rest := []) ⟨hx, hb, hml, hown, hts⟩ (c_X1_readTerm_o5 l G E h0 t0 b0 co en sk ct f fc ct9 zt_35 zm_37 n zb_34 zp_36 zw9 tx H.size (by first | exact hn | assumption | omega) (by first | exact ha | assumption | omega) (by first | exact hw0 | assumption | omega) (by first | exact htx | assumption | omega) (by first | exact hc | assumption | omega)) (cwV 1 hts gX1_readSum_X1_readTerm rfl rfl rfl (by decide +kernel) ⟨Nat.le_of_ble_eq_true rfl, Nat.le_of_ble_eq_true rfl⟩) ⟨gPreE_blind, va_recv (q := (RX1, TX1, 7)) hK hP (ci := 1) (q0 := 0) rfl rfl, fun U hU hW => gPreE_of hU hW hK hP hD hE hS (gFree2 hD hS hA [0, 1, 2, 3, 4])⟩ rfl rfl hl.1 rfl (lv_room (Nat.le_of_ble_eq_true rfl)) dX1_readSum_48 ⟨Nat.le_of_ble_eq_true rfl, Nat.le_of_ble_eq_true rfl⟩) hS hD hA rfl (fun r_38 u t H locs ht hvm w_39 hB hz1 hk1 hFq hAq hS => ?_)
              obtain ⟨za_40, zt_41, zp_42, zm_43, zw_44, yct_45⟩ := u
              obtain ⟨hP1, hK1, hD1⟩ := hB
              have w_39 : (za_40 ≤ n ∧ zw_44 ≤ 160) ∧ gRes r_38 (za_40, zt_41, zp_42, zm_43, zw_44, yct_45) (gTermB f n (gLv f n 0) (zb_34, zt_35, zp_36, zm_37, zw9, ct9)) := w_39
              have hz9 : gPD G A [zo1 h0 t0 b0 (nI za_40) zt_41 (nI zp_42) zm_43 (nI n), zi G b0 160 f, zo3 t0 co en sk (nI zw_44) (nI tx), zr G co 6 fc, zi G ct 160 yct_45] H := zFill hP hD [0, 1, 2, 3, 4] [1, 2, 3, 4, 5] hAq hk1 hFq ht hP1 hD1 rfl (by decide +kernel)
              have hP := hz9.1
              have hD := hz9.2
              obtain ⟨hbd2, hg2⟩ := w_39
              refine lv_if_ne (tgt := 56) hx hb dX1_readSum_51 (by decide +kernel) (fun c_46 => ?_) (fun c_46 => ?_)
              · skip
                have hR2 := gRes_t hg2 c_46
                refine g_aget (D := G.1) (ci := 1) (v := .ref t0) (C := RX1) (T := TX1) (N := 7) hx hb dX1_readSum_56 rfl (lv_at hl 2 rfl) hts hiX1 hown hK hP 0 rfl rfl 0 (by decide +kernel) kf15 (fun _ h9 => h9) rfl dX1_readSum_57 ?_
                refine lv_sipush (v := 20000) hx hb dX1_readSum_60 (by decide +kernel) ?_
                refine lv_iload_n hx hb dX1_readSum_63 rfl (lv_at hl 0 rfl) ?_
                refine lv_iadd hx hb dX1_readSum_64 ?_
                refine z_callv [2, 3, 4] (va_runV (As := [.int (20000 + zt9)]) (rest := []) ⟨hx, hb, hml, hown, hts⟩ (c_X3_write_g l G t0 co en sk ct fc yct_45 zw_44 tx (20000 + zt9) H.size (by first | exact hw0 | assumption | omega) (by first | exact htx | assumption | omega) (by first | exact hc | assumption | omega)) (cwV 1 hts gX1_readSum_X3_write rfl rfl rfl (by decide +kernel) ⟨Nat.le_of_ble_eq_true rfl, Nat.le_of_ble_eq_true rfl⟩) ⟨gPre_blind, va_recv (q := (RX3, TX3, 5)) hK hP (ci := 3) (q0 := 2) rfl rfl, fun U hU hW => gPre_ofF [2, 3, 4] hU hW hK hP hD (by decide +kernel) rfl⟩ rfl rfl hl.1 rfl (lv_room (Nat.le_of_ble_eq_true rfl)) dX1_readSum_65 ⟨Nat.le_of_ble_eq_true rfl, Nat.le_of_ble_eq_true rfl⟩) hS hD hA rfl (fun u t H locs ht hvm w_48 hB hz1 hk1 hFq hAq hS => ?_)
                obtain ⟨zw_49, yct_50⟩ := u
                obtain ⟨hP1, hK1, hD1⟩ := hB
                have w_48 : (zw_49, yct_50) = gWc (20000 + zt9) zw_44 yct_45 ∧ zw_49 ≤ 160 := w_48
                have hz9 : gPD G A [zo1 h0 t0 b0 (nI za_40) zt_41 (nI zp_42) zm_43 (nI n), zi G b0 160 f, zo3 t0 co en sk (nI zw_49) (nI tx), zr G co 6 fc, zi G ct 160 yct_50] H := zFill hP hD [2, 3, 4] [0, 0, 1, 2, 3] hAq hk1 hFq ht hP1 hD1 rfl (by decide +kernel)
                have hP := hz9.1
                have hD := hz9.2
                have hwr : gWr (20000 + zt9) (za_40, zt_41, zp_42, zm_43, zw_44, yct_45) = (za_40, zt_41, zp_42, zm_43, zw_49, yct_50) := gWr_of w_48.1
                have hwl := w_48.2
                refine lv_iinc (v := nI (i9 + 1)) (lv' := [zI 2 (nI (i9 + 1)), zI 3 zt9, zR 0 h0, zI 1 5]) hx hb dX1_readSum_68 hl (k := 1) rfl (nI_add i9 1) (by decide +kernel) rfl (fun ls hl => ?_)
                refine lv_goto (tgt := 12) hx hb dX1_readSum_71 (by decide +kernel) ?_
                exact ih9 (i9 + 1) za_40 zt_41 zp_42 zm_43 zw_49 yct_50 (by omega) (by omega) (by rw [← hI, show 160 - i9 = (160 - (i9 + 1)) + 1 by omega]; exact (gLp_go (decide_eq_true (Or.inr c_31)) (by rw [hnx]; exact hR2) (rfl) hwr).symm) (by omega) _ _ hP hD hS ls (lv_sub hl [0, 2, 3] rfl)
              · skip
                have hR2 := gRes_f hg2 c_46
                refine lv_iconst (v := 0) hx hb dX1_readSum_54 (by decide +kernel) ?_
                have hpost : (fun (r : Int32) (u : Nat × Int32 × Nat × Int32 × Nat × (Nat → Int32)) => match u with | (za, zt, zp, zm, zw, yct) => (za ≤ n ∧ zw ≤ 160) ∧ gRes r (za, zt, zp, zm, zw, yct) (gSumB f n (gLv f n 0) (a, x3, pl, x5, w0, fct))) 0 (za_40, zt_41, zp_42, zm_43, zw_44, yct_45) := by refine ⟨⟨by omega, by omega⟩, Or.inr ⟨?_, rfl⟩⟩; rw [← hI, show 160 - i9 = (160 - (i9 + 1)) + 1 by omega]; exact gLp_fail (decide_eq_true (Or.inr c_31)) (by rw [hnx]; exact hR2)
                exact W.zret (v := 0) hx hb hr (rfl) (fun t ht hW => ⟨⟨0, (za_40, zt_41, zp_42, zm_43, zw_44, yct_45), rfl, hpost, by rw [ht]; exact hP, va_K.moved hW.alike hK, hD⟩, hS.F ht⟩) hS.2.2 dX1_readSum_55
    exact loop_12 (161) 0 za_3 zt_4 zp_5 zm_6 zw_7 yct_8 (Nat.zero_le _) (by omega) ((gBind_t hR).symm) (by omega) _ _ hP hD hS ls hl
  · skip
    have hR := gRes_f hg c_9
    refine lv_iconst (v := 0) hx hb dX1_readSum_8 (by decide +kernel) ?_
    have hpost : (fun (r : Int32) (u : Nat × Int32 × Nat × Int32 × Nat × (Nat → Int32)) => match u with | (za, zt, zp, zm, zw, yct) => (za ≤ n ∧ zw ≤ 160) ∧ gRes r (za, zt, zp, zm, zw, yct) (gSumB f n (gLv f n 0) (a, x3, pl, x5, w0, fct))) 0 (za_3, zt_4, zp_5, zm_6, zw_7, yct_8) := by exact ⟨hbd, Or.inr ⟨gBind_f hR, rfl⟩⟩
    exact W.zret (v := 0) hx hb hr (rfl) (fun t ht hW => ⟨⟨0, (za_3, zt_4, zp_5, zm_6, zw_7, yct_8), rfl, hpost, by rw [ht]; exact hP, va_K.moved hW.alike hK, hD⟩, hS.F ht⟩) hS.2.2 dX1_readSum_9
abbrev q_X1_readNot_o5 (G : gG) (E : gS) (h0 t0 b0 co en sk ct : Nat) (f : Nat → Int32) (fc : Nat → Option Nat) (fct : Nat → Int32) (x3 : Int32) (x5 : Int32) (n : Nat) (a : Nat) (pl : Nat) (w0 : Nat) (tx : Nat) (A : Nat → Prop) : Array Value → State → Outcome → State → Prop := va_Qi (fun (r : Int32) (u : Nat × Int32 × Nat × Int32 × Nat × (Nat → Int32)) => match u with | (za, zt, zp, zm, zw, yct) => (za ≤ n ∧ zw ≤ 160) ∧ gRes r (za, zt, zp, zm, zw, yct) (gNotB f n (gLv f n 0) (a, x3, pl, x5, w0, fct))) (fun (u : Nat × Int32 × Nat × Int32 × Nat × (Nat → Int32)) t => match u with | (za, zt, zp, zm, zw, yct) => va_P G.1 vwCl [zo1 h0 t0 b0 (nI za) zt (nI zp) zm (nI n), zi G b0 160 f, zo3 t0 co en sk (nI zw) (nI tx), zr G co 6 fc, zi G ct 160 yct] t.heap ∧ gK G t ∧ va_D A [zo1 h0 t0 b0 (nI za) zt (nI zp) zm (nI n), zi G b0 160 f, zo3 t0 co en sk (nI zw) (nI tx), zr G co 6 fc, zi G ct 160 yct]) A
set_option maxHeartbeats 4000000 in
set_option maxRecDepth 100000 in
theorem c_X1_readNot_o5 (l : Launch) (G : gG) (E : gS) (h0 t0 b0 co en sk ct : Nat) (f : Nat → Int32) (fc : Nat → Option Nat) (fct : Nat → Int32) (x3 : Int32) (x5 : Int32) (n : Nat) (a : Nat) (pl : Nat) (w0 : Nat) (tx : Nat) (sz : Nat) (hn : n ≤ 160) (ha : a ≤ n) (hw0 : w0 ≤ 160) (htx : tx < 6) (hc : fc tx = some ct) : Met l yX1_readNot wsX1_readNot ({ frames := 10, cells := 0, slots := 0, locals := 214 }) (gPreE G E [.ref h0, .int 5] [zo1 h0 t0 b0 (nI a) x3 (nI pl) x5 (nI n), zi G b0 160 f, zo3 t0 co en sk (nI w0) (nI tx), zr G co 6 fc, zi G ct 160 fct] sz) (q_X1_readNot_o5 G E h0 t0 b0 co en sk ct f fc fct x3 x5 n a pl w0 tx (va_A [zo1 h0 t0 b0 (nI a) x3 (nI pl) x5 (nI n), zi G b0 160 f, zo3 t0 co en sk (nI w0) (nI tx), zr G co 6 fc, zi G ct 160 fct] sz)) 0 0 (va_A [zo1 h0 t0 b0 (nI a) x3 (nI pl) x5 (nI n), zi G b0 160 f, zo3 t0 co en sk (nI w0) (nI tx), zr G co 6 fc, zi G ct 160 fct] sz) := by
  refine Met.ofW (cc := cX1_readNot) (maxL := 3) (ret := (some .boolean)) (by decide +kernel) rfl ?_
  intro p e s m args below meth c s₁ B hml hv
  obtain ⟨rfl, hsz, hP, hK, hD0, hE⟩ := hv
  have hx := B.exec
  have hb := B.bytes
  have hr := B.returns
  have hts := atoms_spec (ws := wsX1_readNot) B.pre
  have hown : s.vm.findClass RX1 = some m.cls := findClass_of_methodNamed B.named
  have hlocks := B.notSynchronized
  subst hsz
  have hD := hD0.self (sz := s.heap.size)
  generalize hAe : va_A [zo1 h0 t0 b0 (nI a) x3 (nI pl) x5 (nI n), zi G b0 160 f, zo3 t0 co en sk (nI w0) (nI tx), zr G co 6 fc, zi G ct 160 fct] s.heap.size = A at hD hE ⊢
  have hA : ∀ q : Nat, s.heap.size ≤ q → A q := fun q h => by rw [← hAe]; exact Or.inr h
  have hS : va_S A s.heap s.heap [] := va_S.rf
  have hz9 : gPD G A [zo1 h0 t0 b0 (nI a) x3 (nI pl) x5 (nI n), zi G b0 160 f, zo3 t0 co en sk (nI w0) (nI tx), zr G co 6 fc, zi G ct 160 fct] s.heap := ⟨hP, hD⟩
  have hP := hz9.1
  have hD := hz9.2
  have hl := lv_entry ([.ref h0, .int 5]) (n := 3) (Nat.le_of_ble_eq_true rfl)
  rw [lg_entry_eq]
  generalize (lg_sl ([.ref h0, .int 5]) ++ List.replicate (3 - (lg_sl ([.ref h0, .int 5])).length) Slot.unset).toArray = ls at hl ⊢
  have hl : lv_has ls 3 [zR 0 h0, zI 1 5] := hl
  have kf45 := hts (.fieldLink RX1 45 "PebbleInShoe$Reader" "token" "I") (by decide +kernel)
  have hiX1 := (by decide +kernel : ∀ w ∈ wsX10, w ∈ wsX1_readNot)
  have kf15 := hts (.fieldLink RX1 15 "PebbleInShoe$Reader" "texts" "LPebbleInShoe$Texts;") (by decide +kernel)
  refine g_aget (D := G.1) (ci := 1) (v := .int x3) (C := RX1) (T := TX1) (N := 7) hx hb dX1_readNot_0 rfl (lv_at hl 0 rfl) hts hiX1 hown hK hP 0 rfl rfl 3 (by decide +kernel) kf45 (fun _ h9 => h9) rfl dX1_readNot_1 ?_
  refine lv_bipush (v := 105) hx hb dX1_readNot_4 (by decide +kernel) ?_
  refine lv_icmp_ne (tgt := 44) hx hb dX1_readNot_6 (by decide +kernel) (fun c_1 => ?_) (fun c_1 => ?_)
  · skip
    refine lv_aload_n hx hb dX1_readNot_44 rfl (lv_at hl 0 rfl) ?_
    refine lv_iload_n hx hb dX1_readNot_45 rfl (lv_at hl 1 rfl) ?_
    refine z_callp [0, 1, 2, 3, 4] (va_runV (As := [.int 5]) (rest := []) ⟨hx, hb, hml, hown, hts⟩ (c_X1_readSum_o5 l G E h0 t0 b0 co en sk ct f fc fct x3 x5 n a pl w0 tx s.heap.size (by first | exact hn | assumption | omega) (by first | exact ha | assumption | omega) (by first | exact hw0 | assumption | omega) (by first | exact htx | assumption | omega) (by first | exact hc | assumption | omega)) (cwV 1 hts gX1_readNot_X1_readSum rfl rfl rfl (by decide +kernel) ⟨Nat.le_of_ble_eq_true rfl, Nat.le_of_ble_eq_true rfl⟩) ⟨gPreE_blind, va_recv (q := (RX1, TX1, 7)) hK hP (ci := 1) (q0 := 0) rfl rfl, fun U hU hW => gPreE_of hU hW hK hP hD hE hS (gFree2 hD hS hA [0, 1, 2, 3, 4])⟩ rfl rfl hl.1 rfl (lv_room (Nat.le_of_ble_eq_true rfl)) dX1_readNot_46 ⟨Nat.le_of_ble_eq_true rfl, Nat.le_of_ble_eq_true rfl⟩) hS hD hA rfl (fun r_2 u t H locs ht hvm w_3 hB hz1 hk1 hFq hAq hS => ?_)
    obtain ⟨za_4, zt_5, zp_6, zm_7, zw_8, yct_9⟩ := u
    obtain ⟨hP1, hK1, hD1⟩ := hB
    have w_3 : (za_4 ≤ n ∧ zw_8 ≤ 160) ∧ gRes r_2 (za_4, zt_5, zp_6, zm_7, zw_8, yct_9) (gSumB f n (gLv f n 0) (a, x3, pl, x5, w0, fct)) := w_3
    have hz9 : gPD G A [zo1 h0 t0 b0 (nI za_4) zt_5 (nI zp_6) zm_7 (nI n), zi G b0 160 f, zo3 t0 co en sk (nI zw_8) (nI tx), zr G co 6 fc, zi G ct 160 yct_9] H := zFill hP hD [0, 1, 2, 3, 4] [1, 2, 3, 4, 5] hAq hk1 hFq ht hP1 hD1 rfl (by decide +kernel)
    have hP := hz9.1
    have hD := hz9.2
    obtain ⟨hbd, hg⟩ := w_3
    refine lv_if_ne (tgt := 54) hx hb dX1_readNot_49 (by decide +kernel) (fun c_10 => ?_) (fun c_10 => ?_)
    · skip
      have hR := gRes_t hg c_10
      refine g_aget (D := G.1) (ci := 1) (v := .int zt_5) (C := RX1) (T := TX1) (N := 7) hx hb dX1_readNot_54 rfl (lv_at hl 0 rfl) hts hiX1 hown hK hP 0 rfl rfl 3 (by decide +kernel) kf45 (fun _ h9 => h9) rfl dX1_readNot_55 ?_
      refine lv_bipush (v := 60) hx hb dX1_readNot_58 (by decide +kernel) ?_
      refine lv_icmp_eq (tgt := 74) hx hb dX1_readNot_60 (by decide +kernel) (fun c_11 => ?_) (fun c_11 => ?_)
      · skip
        refine g_aget (D := G.1) (ci := 1) (v := .int zt_5) (C := RX1) (T := TX1) (N := 7) hx hb dX1_readNot_74 rfl (lv_at hl 0 rfl) hts hiX1 hown hK hP 0 rfl rfl 3 (by decide +kernel) kf45 (fun _ h9 => h9) rfl dX1_readNot_75 ?_
        refine lv_istore_n (lv' := [zI 2 zt_5, zR 0 h0, zI 1 5]) hx hb dX1_readNot_78 rfl hl (by decide +kernel) rfl (fun ls hl => ?_)
        refine lv_aload_n hx hb dX1_readNot_79 rfl (lv_at hl 1 rfl) ?_
        refine z_callv [0, 1] (va_runV (As := []) (rest := []) ⟨hx, hb, hml, hown, hts⟩ (c_X1_next l G E h0 t0 b0 f zt_5 (nI zp_6) zm_7 n za_4 H.size (by first | exact hn | assumption | omega) (by first | exact ha | assumption | omega)) (cwV 0 hts gX1_readNot_X1_next rfl rfl rfl (by decide +kernel) ⟨Nat.le_of_ble_eq_true rfl, Nat.le_of_ble_eq_true rfl⟩) ⟨gPreE_blind, va_recv (q := (RX1, TX1, 7)) hK hP (ci := 1) (q0 := 0) rfl rfl, fun U hU hW => gPreE_ofF [0, 1] hU hW hK hP hD (by decide +kernel) rfl hE hS hA⟩ rfl rfl hl.1 rfl (lv_room (Nat.le_of_ble_eq_true rfl)) dX1_readNot_80 ⟨Nat.le_of_ble_eq_true rfl, Nat.le_of_ble_eq_true rfl⟩) hS hD hA rfl (fun u t H locs ht hvm w_13 hB hz1 hk1 hFq hAq hS => ?_)
        obtain ⟨zb_14, zt_15, zp_16, zm_17⟩ := u
        obtain ⟨hP1, hK1, hD1⟩ := hB
        have w_13 : (zb_14, zt_15, zp_16, zm_17) = mNext f n za_4 zm_7 := w_13
        have hz9 : gPD G A [zo1 h0 t0 b0 (nI zb_14) zt_15 (nI zp_16) zm_17 (nI n), zi G b0 160 f, zo3 t0 co en sk (nI zw_8) (nI tx), zr G co 6 fc, zi G ct 160 yct_9] H := zFill hP hD [0, 1] [1, 2] hAq hk1 hFq ht hP1 hD1 rfl (by decide +kernel)
        have hP := hz9.1
        have hD := hz9.2
        have hnx : gNx f n (za_4, zt_5, zp_6, zm_7, zw_8, yct_9) = (zb_14, zt_15, zp_16, zm_17, zw_8, yct_9) := gNx_of w_13
        have hle := nx_le9 w_13 (by omega)
        refine lv_aload_n hx hb dX1_readNot_83 rfl (lv_at hl 1 rfl) ?_
        refine lv_iload_n hx hb dX1_readNot_84 rfl (lv_at hl 2 rfl) ?_
        refine z_callp [0, 1, 2, 3, 4] (va_runV (As := [.int 5]) (rest := []) ⟨hx, hb, hml, hown, hts⟩ (c_X1_readSum_o5 l G E h0 t0 b0 co en sk ct f fc yct_9 zt_15 zm_17 n zb_14 zp_16 zw_8 tx H.size (by first | exact hn | assumption | omega) (by first | exact ha | assumption | omega) (by first | exact hw0 | assumption | omega) (by first | exact htx | assumption | omega) (by first | exact hc | assumption | omega)) (cwV 1 hts gX1_readNot_X1_readSum rfl rfl rfl (by decide +kernel) ⟨Nat.le_of_ble_eq_true rfl, Nat.le_of_ble_eq_true rfl⟩) ⟨gPreE_blind, va_recv (q := (RX1, TX1, 7)) hK hP (ci := 1) (q0 := 0) rfl rfl, fun U hU hW => gPreE_of hU hW hK hP hD hE hS (gFree2 hD hS hA [0, 1, 2, 3, 4])⟩ rfl rfl hl.1 rfl (lv_room (Nat.le_of_ble_eq_true rfl)) dX1_readNot_85 ⟨Nat.le_of_ble_eq_true rfl, Nat.le_of_ble_eq_true rfl⟩) hS hD hA rfl (fun r_18 u t H locs ht hvm w_19 hB hz1 hk1 hFq hAq hS => ?_)
        obtain ⟨za_20, zt_21, zp_22, zm_23, zw_24, yct_25⟩ := u
        obtain ⟨hP1, hK1, hD1⟩ := hB
        have w_19 : (za_20 ≤ n ∧ zw_24 ≤ 160) ∧ gRes r_18 (za_20, zt_21, zp_22, zm_23, zw_24, yct_25) (gSumB f n (gLv f n 0) (zb_14, zt_15, zp_16, zm_17, zw_8, yct_9)) := w_19
        have hz9 : gPD G A [zo1 h0 t0 b0 (nI za_20) zt_21 (nI zp_22) zm_23 (nI n), zi G b0 160 f, zo3 t0 co en sk (nI zw_24) (nI tx), zr G co 6 fc, zi G ct 160 yct_25] H := zFill hP hD [0, 1, 2, 3, 4] [1, 2, 3, 4, 5] hAq hk1 hFq ht hP1 hD1 rfl (by decide +kernel)
        have hP := hz9.1
        have hD := hz9.2
        obtain ⟨hbd2, hg2⟩ := w_19
        refine lv_if_ne (tgt := 93) hx hb dX1_readNot_88 (by decide +kernel) (fun c_26 => ?_) (fun c_26 => ?_)
        · skip
          have hR2 := gRes_t hg2 c_26
          refine g_aget (D := G.1) (ci := 1) (v := .ref t0) (C := RX1) (T := TX1) (N := 7) hx hb dX1_readNot_93 rfl (lv_at hl 1 rfl) hts hiX1 hown hK hP 0 rfl rfl 0 (by decide +kernel) kf15 (fun _ h9 => h9) rfl dX1_readNot_94 ?_
          refine lv_sipush (v := 20000) hx hb dX1_readNot_97 (by decide +kernel) ?_
          refine lv_iload_n hx hb dX1_readNot_100 rfl (lv_at hl 0 rfl) ?_
          refine lv_iadd hx hb dX1_readNot_101 ?_
          refine z_callv [2, 3, 4] (va_runV (As := [.int (20000 + zt_5)]) (rest := []) ⟨hx, hb, hml, hown, hts⟩ (c_X3_write_g l G t0 co en sk ct fc yct_25 zw_24 tx (20000 + zt_5) H.size (by first | exact hw0 | assumption | omega) (by first | exact htx | assumption | omega) (by first | exact hc | assumption | omega)) (cwV 1 hts gX1_readNot_X3_write rfl rfl rfl (by decide +kernel) ⟨Nat.le_of_ble_eq_true rfl, Nat.le_of_ble_eq_true rfl⟩) ⟨gPre_blind, va_recv (q := (RX3, TX3, 5)) hK hP (ci := 3) (q0 := 2) rfl rfl, fun U hU hW => gPre_ofF [2, 3, 4] hU hW hK hP hD (by decide +kernel) rfl⟩ rfl rfl hl.1 rfl (lv_room (Nat.le_of_ble_eq_true rfl)) dX1_readNot_102 ⟨Nat.le_of_ble_eq_true rfl, Nat.le_of_ble_eq_true rfl⟩) hS hD hA rfl (fun u t H locs ht hvm w_28 hB hz1 hk1 hFq hAq hS => ?_)
          obtain ⟨zw_29, yct_30⟩ := u
          obtain ⟨hP1, hK1, hD1⟩ := hB
          have w_28 : (zw_29, yct_30) = gWc (20000 + zt_5) zw_24 yct_25 ∧ zw_29 ≤ 160 := w_28
          have hz9 : gPD G A [zo1 h0 t0 b0 (nI za_20) zt_21 (nI zp_22) zm_23 (nI n), zi G b0 160 f, zo3 t0 co en sk (nI zw_29) (nI tx), zr G co 6 fc, zi G ct 160 yct_30] H := zFill hP hD [2, 3, 4] [0, 0, 1, 2, 3] hAq hk1 hFq ht hP1 hD1 rfl (by decide +kernel)
          have hP := hz9.1
          have hD := hz9.2
          have hwr : gWr (20000 + zt_5) (za_20, zt_21, zp_22, zm_23, zw_24, yct_25) = (za_20, zt_21, zp_22, zm_23, zw_29, yct_30) := gWr_of w_28.1
          have hwl := w_28.2
          refine lv_iconst (v := 1) hx hb dX1_readNot_105 (by decide +kernel) ?_
          have hpost : (fun (r : Int32) (u : Nat × Int32 × Nat × Int32 × Nat × (Nat → Int32)) => match u with | (za, zt, zp, zm, zw, yct) => (za ≤ n ∧ zw ≤ 160) ∧ gRes r (za, zt, zp, zm, zw, yct) (gNotB f n (gLv f n 0) (a, x3, pl, x5, w0, fct))) 1 (za_20, zt_21, zp_22, zm_23, zw_29, yct_30) := by exact ⟨⟨by omega, by omega⟩, Or.inl ⟨gNot_2 c_1 hR (Or.inl c_11) (by rw [hnx]; exact hR2) hwr, rfl⟩⟩
          exact W.zret (v := 1) hx hb hr (rfl) (fun t ht hW => ⟨⟨1, (za_20, zt_21, zp_22, zm_23, zw_29, yct_30), rfl, hpost, by rw [ht]; exact hP, va_K.moved hW.alike hK, hD⟩, hS.F ht⟩) hS.2.2 dX1_readNot_106
        · skip
          have hR2 := gRes_f hg2 c_26
          refine lv_iconst (v := 0) hx hb dX1_readNot_91 (by decide +kernel) ?_
          have hpost : (fun (r : Int32) (u : Nat × Int32 × Nat × Int32 × Nat × (Nat → Int32)) => match u with | (za, zt, zp, zm, zw, yct) => (za ≤ n ∧ zw ≤ 160) ∧ gRes r (za, zt, zp, zm, zw, yct) (gNotB f n (gLv f n 0) (a, x3, pl, x5, w0, fct))) 0 (za_20, zt_21, zp_22, zm_23, zw_24, yct_25) := by exact ⟨⟨by omega, by omega⟩, Or.inr ⟨gNot_2f c_1 hR (Or.inl c_11) (by rw [hnx]; exact hR2), rfl⟩⟩
          exact W.zret (v := 0) hx hb hr (rfl) (fun t ht hW => ⟨⟨0, (za_20, zt_21, zp_22, zm_23, zw_24, yct_25), rfl, hpost, by rw [ht]; exact hP, va_K.moved hW.alike hK, hD⟩, hS.F ht⟩) hS.2.2 dX1_readNot_92
      · skip
        refine g_aget (D := G.1) (ci := 1) (v := .int zt_5) (C := RX1) (T := TX1) (N := 7) hx hb dX1_readNot_63 rfl (lv_at hl 0 rfl) hts hiX1 hown hK hP 0 rfl rfl 3 (by decide +kernel) kf45 (fun _ h9 => h9) rfl dX1_readNot_64 ?_
        refine lv_bipush (v := 61) hx hb dX1_readNot_67 (by decide +kernel) ?_
        refine lv_icmp_eq (tgt := 74) hx hb dX1_readNot_69 (by decide +kernel) (fun c_31 => ?_) (fun c_31 => ?_)
        · skip
          refine g_aget (D := G.1) (ci := 1) (v := .int zt_5) (C := RX1) (T := TX1) (N := 7) hx hb dX1_readNot_74 rfl (lv_at hl 0 rfl) hts hiX1 hown hK hP 0 rfl rfl 3 (by decide +kernel) kf45 (fun _ h9 => h9) rfl dX1_readNot_75 ?_
          refine lv_istore_n (lv' := [zI 2 zt_5, zR 0 h0, zI 1 5]) hx hb dX1_readNot_78 rfl hl (by decide +kernel) rfl (fun ls hl => ?_)
          refine lv_aload_n hx hb dX1_readNot_79 rfl (lv_at hl 1 rfl) ?_
          refine z_callv [0, 1] (va_runV (As := []) (rest := []) ⟨hx, hb, hml, hown, hts⟩ (c_X1_next l G E h0 t0 b0 f zt_5 (nI zp_6) zm_7 n za_4 H.size (by first | exact hn | assumption | omega) (by first | exact ha | assumption | omega)) (cwV 0 hts gX1_readNot_X1_next rfl rfl rfl (by decide +kernel) ⟨Nat.le_of_ble_eq_true rfl, Nat.le_of_ble_eq_true rfl⟩) ⟨gPreE_blind, va_recv (q := (RX1, TX1, 7)) hK hP (ci := 1) (q0 := 0) rfl rfl, fun U hU hW => gPreE_ofF [0, 1] hU hW hK hP hD (by decide +kernel) rfl hE hS hA⟩ rfl rfl hl.1 rfl (lv_room (Nat.le_of_ble_eq_true rfl)) dX1_readNot_80 ⟨Nat.le_of_ble_eq_true rfl, Nat.le_of_ble_eq_true rfl⟩) hS hD hA rfl (fun u t H locs ht hvm w_33 hB hz1 hk1 hFq hAq hS => ?_)
          obtain ⟨zb_34, zt_35, zp_36, zm_37⟩ := u
          obtain ⟨hP1, hK1, hD1⟩ := hB
          have w_33 : (zb_34, zt_35, zp_36, zm_37) = mNext f n za_4 zm_7 := w_33
          have hz9 : gPD G A [zo1 h0 t0 b0 (nI zb_34) zt_35 (nI zp_36) zm_37 (nI n), zi G b0 160 f, zo3 t0 co en sk (nI zw_8) (nI tx), zr G co 6 fc, zi G ct 160 yct_9] H := zFill hP hD [0, 1] [1, 2] hAq hk1 hFq ht hP1 hD1 rfl (by decide +kernel)
          have hP := hz9.1
          have hD := hz9.2
          have hnx : gNx f n (za_4, zt_5, zp_6, zm_7, zw_8, yct_9) = (zb_34, zt_35, zp_36, zm_37, zw_8, yct_9) := gNx_of w_33
          have hle := nx_le9 w_33 (by omega)
          refine lv_aload_n hx hb dX1_readNot_83 rfl (lv_at hl 1 rfl) ?_
          refine lv_iload_n hx hb dX1_readNot_84 rfl (lv_at hl 2 rfl) ?_
          refine z_callp [0, 1, 2, 3, 4] (va_runV (As := [.int 5]) (rest := []) ⟨hx, hb, hml, hown, hts⟩ (c_X1_readSum_o5 l G E h0 t0 b0 co en sk ct f fc yct_9 zt_35 zm_37 n zb_34 zp_36 zw_8 tx H.size (by first | exact hn | assumption | omega) (by first | exact ha | assumption | omega) (by first | exact hw0 | assumption | omega) (by first | exact htx | assumption | omega) (by first | exact hc | assumption | omega)) (cwV 1 hts gX1_readNot_X1_readSum rfl rfl rfl (by decide +kernel) ⟨Nat.le_of_ble_eq_true rfl, Nat.le_of_ble_eq_true rfl⟩) ⟨gPreE_blind, va_recv (q := (RX1, TX1, 7)) hK hP (ci := 1) (q0 := 0) rfl rfl, fun U hU hW => gPreE_of hU hW hK hP hD hE hS (gFree2 hD hS hA [0, 1, 2, 3, 4])⟩ rfl rfl hl.1 rfl (lv_room (Nat.le_of_ble_eq_true rfl)) dX1_readNot_85 ⟨Nat.le_of_ble_eq_true rfl, Nat.le_of_ble_eq_true rfl⟩) hS hD hA rfl (fun r_38 u t H locs ht hvm w_39 hB hz1 hk1 hFq hAq hS => ?_)
          obtain ⟨za_40, zt_41, zp_42, zm_43, zw_44, yct_45⟩ := u
          obtain ⟨hP1, hK1, hD1⟩ := hB
          have w_39 : (za_40 ≤ n ∧ zw_44 ≤ 160) ∧ gRes r_38 (za_40, zt_41, zp_42, zm_43, zw_44, yct_45) (gSumB f n (gLv f n 0) (zb_34, zt_35, zp_36, zm_37, zw_8, yct_9)) := w_39
          have hz9 : gPD G A [zo1 h0 t0 b0 (nI za_40) zt_41 (nI zp_42) zm_43 (nI n), zi G b0 160 f, zo3 t0 co en sk (nI zw_44) (nI tx), zr G co 6 fc, zi G ct 160 yct_45] H := zFill hP hD [0, 1, 2, 3, 4] [1, 2, 3, 4, 5] hAq hk1 hFq ht hP1 hD1 rfl (by decide +kernel)
          have hP := hz9.1
          have hD := hz9.2
          obtain ⟨hbd2, hg2⟩ := w_39
          refine lv_if_ne (tgt := 93) hx hb dX1_readNot_88 (by decide +kernel) (fun c_46 => ?_) (fun c_46 => ?_)
          · skip
            have hR2 := gRes_t hg2 c_46
            refine g_aget (D := G.1) (ci := 1) (v := .ref t0) (C := RX1) (T := TX1) (N := 7) hx hb dX1_readNot_93 rfl (lv_at hl 1 rfl) hts hiX1 hown hK hP 0 rfl rfl 0 (by decide +kernel) kf15 (fun _ h9 => h9) rfl dX1_readNot_94 ?_
            refine lv_sipush (v := 20000) hx hb dX1_readNot_97 (by decide +kernel) ?_
            refine lv_iload_n hx hb dX1_readNot_100 rfl (lv_at hl 0 rfl) ?_
            refine lv_iadd hx hb dX1_readNot_101 ?_
            refine z_callv [2, 3, 4] (va_runV (As := [.int (20000 + zt_5)]) (rest := []) ⟨hx, hb, hml, hown, hts⟩ (c_X3_write_g l G t0 co en sk ct fc yct_45 zw_44 tx (20000 + zt_5) H.size (by first | exact hw0 | assumption | omega) (by first | exact htx | assumption | omega) (by first | exact hc | assumption | omega)) (cwV 1 hts gX1_readNot_X3_write rfl rfl rfl (by decide +kernel) ⟨Nat.le_of_ble_eq_true rfl, Nat.le_of_ble_eq_true rfl⟩) ⟨gPre_blind, va_recv (q := (RX3, TX3, 5)) hK hP (ci := 3) (q0 := 2) rfl rfl, fun U hU hW => gPre_ofF [2, 3, 4] hU hW hK hP hD (by decide +kernel) rfl⟩ rfl rfl hl.1 rfl (lv_room (Nat.le_of_ble_eq_true rfl)) dX1_readNot_102 ⟨Nat.le_of_ble_eq_true rfl, Nat.le_of_ble_eq_true rfl⟩) hS hD hA rfl (fun u t H locs ht hvm w_48 hB hz1 hk1 hFq hAq hS => ?_)
            obtain ⟨zw_49, yct_50⟩ := u
            obtain ⟨hP1, hK1, hD1⟩ := hB
            have w_48 : (zw_49, yct_50) = gWc (20000 + zt_5) zw_44 yct_45 ∧ zw_49 ≤ 160 := w_48
            have hz9 : gPD G A [zo1 h0 t0 b0 (nI za_40) zt_41 (nI zp_42) zm_43 (nI n), zi G b0 160 f, zo3 t0 co en sk (nI zw_49) (nI tx), zr G co 6 fc, zi G ct 160 yct_50] H := zFill hP hD [2, 3, 4] [0, 0, 1, 2, 3] hAq hk1 hFq ht hP1 hD1 rfl (by decide +kernel)
            have hP := hz9.1
            have hD := hz9.2
            have hwr : gWr (20000 + zt_5) (za_40, zt_41, zp_42, zm_43, zw_44, yct_45) = (za_40, zt_41, zp_42, zm_43, zw_49, yct_50) := gWr_of w_48.1
            have hwl := w_48.2
            refine lv_iconst (v := 1) hx hb dX1_readNot_105 (by decide +kernel) ?_
            have hpost : (fun (r : Int32) (u : Nat × Int32 × Nat × Int32 × Nat × (Nat → Int32)) => match u with | (za, zt, zp, zm, zw, yct) => (za ≤ n ∧ zw ≤ 160) ∧ gRes r (za, zt, zp, zm, zw, yct) (gNotB f n (gLv f n 0) (a, x3, pl, x5, w0, fct))) 1 (za_40, zt_41, zp_42, zm_43, zw_49, yct_50) := by exact ⟨⟨by omega, by omega⟩, Or.inl ⟨gNot_2 c_1 hR (Or.inr c_31) (by rw [hnx]; exact hR2) hwr, rfl⟩⟩
            exact W.zret (v := 1) hx hb hr (rfl) (fun t ht hW => ⟨⟨1, (za_40, zt_41, zp_42, zm_43, zw_49, yct_50), rfl, hpost, by rw [ht]; exact hP, va_K.moved hW.alike hK, hD⟩, hS.F ht⟩) hS.2.2 dX1_readNot_106
          · skip
            have hR2 := gRes_f hg2 c_46
            refine lv_iconst (v := 0) hx hb dX1_readNot_91 (by decide +kernel) ?_
            have hpost : (fun (r : Int32) (u : Nat × Int32 × Nat × Int32 × Nat × (Nat → Int32)) => match u with | (za, zt, zp, zm, zw, yct) => (za ≤ n ∧ zw ≤ 160) ∧ gRes r (za, zt, zp, zm, zw, yct) (gNotB f n (gLv f n 0) (a, x3, pl, x5, w0, fct))) 0 (za_40, zt_41, zp_42, zm_43, zw_44, yct_45) := by exact ⟨⟨by omega, by omega⟩, Or.inr ⟨gNot_2f c_1 hR (Or.inr c_31) (by rw [hnx]; exact hR2), rfl⟩⟩
            exact W.zret (v := 0) hx hb hr (rfl) (fun t ht hW => ⟨⟨0, (za_40, zt_41, zp_42, zm_43, zw_44, yct_45), rfl, hpost, by rw [ht]; exact hP, va_K.moved hW.alike hK, hD⟩, hS.F ht⟩) hS.2.2 dX1_readNot_92
        · skip
          refine lv_iconst (v := 1) hx hb dX1_readNot_72 (by decide +kernel) ?_
          have hpost : (fun (r : Int32) (u : Nat × Int32 × Nat × Int32 × Nat × (Nat → Int32)) => match u with | (za, zt, zp, zm, zw, yct) => (za ≤ n ∧ zw ≤ 160) ∧ gRes r (za, zt, zp, zm, zw, yct) (gNotB f n (gLv f n 0) (a, x3, pl, x5, w0, fct))) 1 (za_4, zt_5, zp_6, zm_7, zw_8, yct_9) := by exact ⟨⟨by omega, by omega⟩, Or.inl ⟨gNot_1 c_1 hR c_11 c_31, rfl⟩⟩
          exact W.zret (v := 1) hx hb hr (rfl) (fun t ht hW => ⟨⟨1, (za_4, zt_5, zp_6, zm_7, zw_8, yct_9), rfl, hpost, by rw [ht]; exact hP, va_K.moved hW.alike hK, hD⟩, hS.F ht⟩) hS.2.2 dX1_readNot_73
    · skip
      have hR := gRes_f hg c_10
      refine lv_iconst (v := 0) hx hb dX1_readNot_52 (by decide +kernel) ?_
      have hpost : (fun (r : Int32) (u : Nat × Int32 × Nat × Int32 × Nat × (Nat → Int32)) => match u with | (za, zt, zp, zm, zw, yct) => (za ≤ n ∧ zw ≤ 160) ∧ gRes r (za, zt, zp, zm, zw, yct) (gNotB f n (gLv f n 0) (a, x3, pl, x5, w0, fct))) 0 (za_4, zt_5, zp_6, zm_7, zw_8, yct_9) := by exact ⟨⟨by omega, by omega⟩, Or.inr ⟨gNot_s c_1 hR, rfl⟩⟩
      exact W.zret (v := 0) hx hb hr (rfl) (fun t ht hW => ⟨⟨0, (za_4, zt_5, zp_6, zm_7, zw_8, yct_9), rfl, hpost, by rw [ht]; exact hP, va_K.moved hW.alike hK, hD⟩, hS.F ht⟩) hS.2.2 dX1_readNot_53
  · skip
    refine lv_iload_n hx hb dX1_readNot_9 rfl (lv_at hl 1 rfl) ?_
    refine lv_iconst (v := 5) hx hb dX1_readNot_10 (by decide +kernel) ?_
    refine lv_icmp_lt (tgt := 16) hx hb dX1_readNot_11 (by decide +kernel) (fun c_51 => ?_) (fun c_51 => ?_)
    · exact absurd c_51 (by decide +kernel)
    refine lv_iconst (v := 0) hx hb dX1_readNot_14 (by decide +kernel) ?_
    have hpost : (fun (r : Int32) (u : Nat × Int32 × Nat × Int32 × Nat × (Nat → Int32)) => match u with | (za, zt, zp, zm, zw, yct) => (za ≤ n ∧ zw ≤ 160) ∧ gRes r (za, zt, zp, zm, zw, yct) (gNotB f n (gLv f n 0) (a, x3, pl, x5, w0, fct))) 0 (a, x3, pl, x5, w0, fct) := by exact ⟨⟨by omega, by omega⟩, Or.inr ⟨gNot_none c_1, rfl⟩⟩
    exact W.zret (v := 0) hx hb hr (rfl) (fun t ht hW => ⟨⟨0, (a, x3, pl, x5, w0, fct), rfl, hpost, by rw [ht]; exact hP, va_K.moved hW.alike hK, hD⟩, hS.F ht⟩) hS.2.2 dX1_readNot_15
abbrev q_X1_readAnd_o5 (G : gG) (E : gS) (h0 t0 b0 co en sk ct : Nat) (f : Nat → Int32) (fc : Nat → Option Nat) (fct : Nat → Int32) (x3 : Int32) (x5 : Int32) (n : Nat) (a : Nat) (pl : Nat) (w0 : Nat) (tx : Nat) (A : Nat → Prop) : Array Value → State → Outcome → State → Prop := va_Qi (fun (r : Int32) (u : Nat × Int32 × Nat × Int32 × Nat × (Nat → Int32)) => match u with | (za, zt, zp, zm, zw, yct) => (za ≤ n ∧ zw ≤ 160) ∧ gRes r (za, zt, zp, zm, zw, yct) (gAndB f n (gLv f n 0) (a, x3, pl, x5, w0, fct))) (fun (u : Nat × Int32 × Nat × Int32 × Nat × (Nat → Int32)) t => match u with | (za, zt, zp, zm, zw, yct) => va_P G.1 vwCl [zo1 h0 t0 b0 (nI za) zt (nI zp) zm (nI n), zi G b0 160 f, zo3 t0 co en sk (nI zw) (nI tx), zr G co 6 fc, zi G ct 160 yct] t.heap ∧ gK G t ∧ va_D A [zo1 h0 t0 b0 (nI za) zt (nI zp) zm (nI n), zi G b0 160 f, zo3 t0 co en sk (nI zw) (nI tx), zr G co 6 fc, zi G ct 160 yct]) A
set_option maxHeartbeats 4000000 in
set_option maxRecDepth 100000 in
theorem c_X1_readAnd_o5 (l : Launch) (G : gG) (E : gS) (h0 t0 b0 co en sk ct : Nat) (f : Nat → Int32) (fc : Nat → Option Nat) (fct : Nat → Int32) (x3 : Int32) (x5 : Int32) (n : Nat) (a : Nat) (pl : Nat) (w0 : Nat) (tx : Nat) (sz : Nat) (hn : n ≤ 160) (ha : a ≤ n) (hw0 : w0 ≤ 160) (htx : tx < 6) (hc : fc tx = some ct) : Met l yX1_readAnd wsX1_readAnd ({ frames := 11, cells := 0, slots := 0, locals := 236 }) (gPreE G E [.ref h0, .int 5] [zo1 h0 t0 b0 (nI a) x3 (nI pl) x5 (nI n), zi G b0 160 f, zo3 t0 co en sk (nI w0) (nI tx), zr G co 6 fc, zi G ct 160 fct] sz) (q_X1_readAnd_o5 G E h0 t0 b0 co en sk ct f fc fct x3 x5 n a pl w0 tx (va_A [zo1 h0 t0 b0 (nI a) x3 (nI pl) x5 (nI n), zi G b0 160 f, zo3 t0 co en sk (nI w0) (nI tx), zr G co 6 fc, zi G ct 160 fct] sz)) 0 0 (va_A [zo1 h0 t0 b0 (nI a) x3 (nI pl) x5 (nI n), zi G b0 160 f, zo3 t0 co en sk (nI w0) (nI tx), zr G co 6 fc, zi G ct 160 fct] sz) := by
  refine Met.ofW (cc := cX1_readAnd) (maxL := 3) (ret := (some .boolean)) (by decide +kernel) rfl ?_
  intro p e s m args below meth c s₁ B hml hv
  obtain ⟨rfl, hsz, hP, hK, hD0, hE⟩ := hv
  have hx := B.exec
  have hb := B.bytes
  have hr := B.returns
  have hts := atoms_spec (ws := wsX1_readAnd) B.pre
  have hown : s.vm.findClass RX1 = some m.cls := findClass_of_methodNamed B.named
  have hlocks := B.notSynchronized
  subst hsz
  have hD := hD0.self (sz := s.heap.size)
  generalize hAe : va_A [zo1 h0 t0 b0 (nI a) x3 (nI pl) x5 (nI n), zi G b0 160 f, zo3 t0 co en sk (nI w0) (nI tx), zr G co 6 fc, zi G ct 160 fct] s.heap.size = A at hD hE ⊢
  have hA : ∀ q : Nat, s.heap.size ≤ q → A q := fun q h => by rw [← hAe]; exact Or.inr h
  have hS : va_S A s.heap s.heap [] := va_S.rf
  have hz9 : gPD G A [zo1 h0 t0 b0 (nI a) x3 (nI pl) x5 (nI n), zi G b0 160 f, zo3 t0 co en sk (nI w0) (nI tx), zr G co 6 fc, zi G ct 160 fct] s.heap := ⟨hP, hD⟩
  have hP := hz9.1
  have hD := hz9.2
  have hl := lv_entry ([.ref h0, .int 5]) (n := 3) (Nat.le_of_ble_eq_true rfl)
  rw [lg_entry_eq]
  generalize (lg_sl ([.ref h0, .int 5]) ++ List.replicate (3 - (lg_sl ([.ref h0, .int 5])).length) Slot.unset).toArray = ls at hl ⊢
  have hl : lv_has ls 3 [zR 0 h0, zI 1 5] := hl
  have kf45 := hts (.fieldLink RX1 45 "PebbleInShoe$Reader" "token" "I") (by decide +kernel)
  have hiX1 := (by decide +kernel : ∀ w ∈ wsX10, w ∈ wsX1_readAnd)
  have kf15 := hts (.fieldLink RX1 15 "PebbleInShoe$Reader" "texts" "LPebbleInShoe$Texts;") (by decide +kernel)
  refine lv_aload_n hx hb dX1_readAnd_0 rfl (lv_at hl 0 rfl) ?_
  refine lv_iload_n hx hb dX1_readAnd_1 rfl (lv_at hl 1 rfl) ?_
  refine z_callp [0, 1, 2, 3, 4] (va_runV (As := [.int 5]) (rest := []) ⟨hx, hb, hml, hown, hts⟩ (c_X1_readNot_o5 l G E h0 t0 b0 co en sk ct f fc fct x3 x5 n a pl w0 tx s.heap.size (by first | exact hn | assumption | omega) (by first | exact ha | assumption | omega) (by first | exact hw0 | assumption | omega) (by first | exact htx | assumption | omega) (by first | exact hc | assumption | omega)) (cwV 1 hts gX1_readAnd_X1_readNot rfl rfl rfl (by decide +kernel) ⟨Nat.le_of_ble_eq_true rfl, Nat.le_of_ble_eq_true rfl⟩) ⟨gPreE_blind, va_recv (q := (RX1, TX1, 7)) hK hP (ci := 1) (q0 := 0) rfl rfl, fun U hU hW => gPreE_of hU hW hK hP hD hE hS (gFree2 hD hS hA [0, 1, 2, 3, 4])⟩ rfl rfl hl.1 rfl (lv_room (Nat.le_of_ble_eq_true rfl)) dX1_readAnd_2 ⟨Nat.le_of_ble_eq_true rfl, Nat.le_of_ble_eq_true rfl⟩) hS hD hA rfl (fun r_1 u t H locs ht hvm w_2 hB hz1 hk1 hFq hAq hS => ?_)
  obtain ⟨za_3, zt_4, zp_5, zm_6, zw_7, yct_8⟩ := u
  obtain ⟨hP1, hK1, hD1⟩ := hB
  have w_2 : (za_3 ≤ n ∧ zw_7 ≤ 160) ∧ gRes r_1 (za_3, zt_4, zp_5, zm_6, zw_7, yct_8) (gNotB f n (gLv f n 0) (a, x3, pl, x5, w0, fct)) := w_2
  have hz9 : gPD G A [zo1 h0 t0 b0 (nI za_3) zt_4 (nI zp_5) zm_6 (nI n), zi G b0 160 f, zo3 t0 co en sk (nI zw_7) (nI tx), zr G co 6 fc, zi G ct 160 yct_8] H := zFill hP hD [0, 1, 2, 3, 4] [1, 2, 3, 4, 5] hAq hk1 hFq ht hP1 hD1 rfl (by decide +kernel)
  have hP := hz9.1
  have hD := hz9.2
  obtain ⟨hbd, hg⟩ := w_2
  refine lv_if_ne (tgt := 10) hx hb dX1_readAnd_5 (by decide +kernel) (fun c_9 => ?_) (fun c_9 => ?_)
  · skip
    have hR := gRes_t hg c_9
    refine lv_iconst (v := 0) hx hb dX1_readAnd_10 (by decide +kernel) ?_
    refine lv_istore_n (lv' := [zI 2 0, zR 0 h0, zI 1 5]) hx hb dX1_readAnd_11 rfl hl (by decide +kernel) rfl (fun ls hl => ?_)
    have loop_12 : ∀ (n9 : Nat) (i9 : Nat) (za9 : Nat) (zt9 : Int32) (zp9 : Nat) (zm9 : Int32) (zw9 : Nat) (ct9 : Nat → Int32), (i9 ≤ 160) → (za9 ≤ n ∧ zw9 ≤ 160) → (gLp f n (fun t => decide (t = 104)) (gNotB f n (gLv f n 0)) (160 - i9) (za9, zt9, zp9, zm9, zw9, ct9) = gAndB f n (gLv f n 0) (a, x3, pl, x5, w0, fct)) → (160 - i9) < n9 → ∀ (H : Heap) (locs : List Loc), va_P G.1 vwCl [zo1 h0 t0 b0 (nI za9) zt9 (nI zp9) zm9 (nI n), zi G b0 160 f, zo3 t0 co en sk (nI zw9) (nI tx), zr G co 6 fc, zi G ct 160 ct9] H → va_D A [zo1 h0 t0 b0 (nI za9) zt9 (nI zp9) zm9 (nI n), zi G b0 160 f, zo3 t0 co en sk (nI zw9) (nI tx), zr G co 6 fc, zi G ct 160 ct9] → va_S A s.heap H locs → ∀ ls : Array Slot, lv_has ls 3 [zI 2 (nI i9), zR 0 h0, zI 1 5] → W p l e (headSpec wsX1_readAnd ({ frames := 11, cells := 0, slots := 0, locals := 236 })).room s m ([.ref h0, .int 5] : List Value).toArray below meth c H locs 0 0 (MQ below (q_X1_readAnd_o5 G E h0 t0 b0 co en sk ct f fc fct x3 x5 n a pl w0 tx A) ([.ref h0, .int 5] : List Value).toArray s 0 0 A) (F0 m 12 ls []) := by
      intro n9
      induction n9 with
      | zero => intro i9 za9 zt9 zp9 zm9 zw9 ct9 hi9 hb9 hI hm9; exact absurd hm9 (Nat.not_lt_zero _)
      | succ n9 ih9 =>
        intro i9 za9 zt9 zp9 zm9 zw9 ct9 hi9 hb9 hI hm9 H locs hP hD hS ls hl
        refine lv_iload_n hx hb dX1_readAnd_12 rfl (lv_at hl 0 rfl) ?_
        refine lv_sipush (v := 160) hx hb dX1_readAnd_13 (by decide +kernel) ?_
        refine lv_icmp_ge (tgt := 58) hx hb dX1_readAnd_16 (by decide +kernel) (fun c_10 => ?_) (fun c_10 => ?_)
        · skip
          have c_10N : 160 ≤ i9 := nI_le1 (a := 160) (b := i9) (by omega) (by omega) c_10
          refine lv_iconst (v := 1) hx hb dX1_readAnd_58 (by decide +kernel) ?_
          have hpost : (fun (r : Int32) (u : Nat × Int32 × Nat × Int32 × Nat × (Nat → Int32)) => match u with | (za, zt, zp, zm, zw, yct) => (za ≤ n ∧ zw ≤ 160) ∧ gRes r (za, zt, zp, zm, zw, yct) (gAndB f n (gLv f n 0) (a, x3, pl, x5, w0, fct))) 1 (za9, zt9, zp9, zm9, zw9, ct9) := by refine ⟨⟨by omega, by omega⟩, Or.inl ⟨?_, rfl⟩⟩; rw [← hI, show 160 - i9 = 0 by omega]; rfl
          exact W.zret (v := 1) hx hb hr (rfl) (fun t ht hW => ⟨⟨1, (za9, zt9, zp9, zm9, zw9, ct9), rfl, hpost, by rw [ht]; exact hP, va_K.moved hW.alike hK, hD⟩, hS.F ht⟩) hS.2.2 dX1_readAnd_59
        · skip
          have c_10N : i9 < 160 := nI_le0 (a := 160) (b := i9) (by omega) (by omega) c_10
          refine g_aget (D := G.1) (ci := 1) (v := .int zt9) (C := RX1) (T := TX1) (N := 7) hx hb dX1_readAnd_19 rfl (lv_at hl 1 rfl) hts hiX1 hown hK hP 0 rfl rfl 3 (by decide +kernel) kf45 (fun _ h9 => h9) rfl dX1_readAnd_20 ?_
          refine lv_bipush (v := 104) hx hb dX1_readAnd_23 (by decide +kernel) ?_
          refine lv_icmp_ne (tgt := 58) hx hb dX1_readAnd_25 (by decide +kernel) (fun c_11 => ?_) (fun c_11 => ?_)
          · skip
            refine lv_iconst (v := 1) hx hb dX1_readAnd_58 (by decide +kernel) ?_
            have hpost : (fun (r : Int32) (u : Nat × Int32 × Nat × Int32 × Nat × (Nat → Int32)) => match u with | (za, zt, zp, zm, zw, yct) => (za ≤ n ∧ zw ≤ 160) ∧ gRes r (za, zt, zp, zm, zw, yct) (gAndB f n (gLv f n 0) (a, x3, pl, x5, w0, fct))) 1 (za9, zt9, zp9, zm9, zw9, ct9) := by refine ⟨⟨by omega, by omega⟩, Or.inl ⟨?_, rfl⟩⟩; rw [← hI]; exact gLp_stop (decide_eq_false (c_11))
            exact W.zret (v := 1) hx hb hr (rfl) (fun t ht hW => ⟨⟨1, (za9, zt9, zp9, zm9, zw9, ct9), rfl, hpost, by rw [ht]; exact hP, va_K.moved hW.alike hK, hD⟩, hS.F ht⟩) hS.2.2 dX1_readAnd_59
          · skip
            refine lv_aload_n hx hb dX1_readAnd_28 rfl (lv_at hl 1 rfl) ?_
            refine z_callv [0, 1] (va_runV (As := []) (rest := []) ⟨hx, hb, hml, hown, hts⟩ (c_X1_next l G E h0 t0 b0 f zt9 (nI zp9) zm9 n za9 H.size (by first | exact hn | assumption | omega) (by first | exact ha | assumption | omega)) (cwV 0 hts gX1_readAnd_X1_next rfl rfl rfl (by decide +kernel) ⟨Nat.le_of_ble_eq_true rfl, Nat.le_of_ble_eq_true rfl⟩) ⟨gPreE_blind, va_recv (q := (RX1, TX1, 7)) hK hP (ci := 1) (q0 := 0) rfl rfl, fun U hU hW => gPreE_ofF [0, 1] hU hW hK hP hD (by decide +kernel) rfl hE hS hA⟩ rfl rfl hl.1 rfl (lv_room (Nat.le_of_ble_eq_true rfl)) dX1_readAnd_29 ⟨Nat.le_of_ble_eq_true rfl, Nat.le_of_ble_eq_true rfl⟩) hS hD hA rfl (fun u t H locs ht hvm w_13 hB hz1 hk1 hFq hAq hS => ?_)
            obtain ⟨zb_14, zt_15, zp_16, zm_17⟩ := u
            obtain ⟨hP1, hK1, hD1⟩ := hB
            have w_13 : (zb_14, zt_15, zp_16, zm_17) = mNext f n za9 zm9 := w_13
            have hz9 : gPD G A [zo1 h0 t0 b0 (nI zb_14) zt_15 (nI zp_16) zm_17 (nI n), zi G b0 160 f, zo3 t0 co en sk (nI zw9) (nI tx), zr G co 6 fc, zi G ct 160 ct9] H := zFill hP hD [0, 1] [1, 2] hAq hk1 hFq ht hP1 hD1 rfl (by decide +kernel)
            have hP := hz9.1
            have hD := hz9.2
            have hnx : gNx f n (za9, zt9, zp9, zm9, zw9, ct9) = (zb_14, zt_15, zp_16, zm_17, zw9, ct9) := gNx_of w_13
            have hle := nx_le9 w_13 (by omega)
            refine lv_aload_n hx hb dX1_readAnd_32 rfl (lv_at hl 1 rfl) ?_
            refine lv_iload_n hx hb dX1_readAnd_33 rfl (lv_at hl 2 rfl) ?_
            refine z_callp [0, 1, 2, 3, 4] (va_runV (As := [.int 5]) (rest := []) ⟨hx, hb, hml, hown, hts⟩ (c_X1_readNot_o5 l G E h0 t0 b0 co en sk ct f fc ct9 zt_15 zm_17 n zb_14 zp_16 zw9 tx H.size (by first | exact hn | assumption | omega) (by first | exact ha | assumption | omega) (by first | exact hw0 | assumption | omega) (by first | exact htx | assumption | omega) (by first | exact hc | assumption | omega)) (cwV 1 hts gX1_readAnd_X1_readNot rfl rfl rfl (by decide +kernel) ⟨Nat.le_of_ble_eq_true rfl, Nat.le_of_ble_eq_true rfl⟩) ⟨gPreE_blind, va_recv (q := (RX1, TX1, 7)) hK hP (ci := 1) (q0 := 0) rfl rfl, fun U hU hW => gPreE_of hU hW hK hP hD hE hS (gFree2 hD hS hA [0, 1, 2, 3, 4])⟩ rfl rfl hl.1 rfl (lv_room (Nat.le_of_ble_eq_true rfl)) dX1_readAnd_34 ⟨Nat.le_of_ble_eq_true rfl, Nat.le_of_ble_eq_true rfl⟩) hS hD hA rfl (fun r_18 u t H locs ht hvm w_19 hB hz1 hk1 hFq hAq hS => ?_)
            obtain ⟨za_20, zt_21, zp_22, zm_23, zw_24, yct_25⟩ := u
            obtain ⟨hP1, hK1, hD1⟩ := hB
            have w_19 : (za_20 ≤ n ∧ zw_24 ≤ 160) ∧ gRes r_18 (za_20, zt_21, zp_22, zm_23, zw_24, yct_25) (gNotB f n (gLv f n 0) (zb_14, zt_15, zp_16, zm_17, zw9, ct9)) := w_19
            have hz9 : gPD G A [zo1 h0 t0 b0 (nI za_20) zt_21 (nI zp_22) zm_23 (nI n), zi G b0 160 f, zo3 t0 co en sk (nI zw_24) (nI tx), zr G co 6 fc, zi G ct 160 yct_25] H := zFill hP hD [0, 1, 2, 3, 4] [1, 2, 3, 4, 5] hAq hk1 hFq ht hP1 hD1 rfl (by decide +kernel)
            have hP := hz9.1
            have hD := hz9.2
            obtain ⟨hbd2, hg2⟩ := w_19
            refine lv_if_ne (tgt := 42) hx hb dX1_readAnd_37 (by decide +kernel) (fun c_26 => ?_) (fun c_26 => ?_)
            · skip
              have hR2 := gRes_t hg2 c_26
              refine g_aget (D := G.1) (ci := 1) (v := .ref t0) (C := RX1) (T := TX1) (N := 7) hx hb dX1_readAnd_42 rfl (lv_at hl 1 rfl) hts hiX1 hown hK hP 0 rfl rfl 0 (by decide +kernel) kf15 (fun _ h9 => h9) rfl dX1_readAnd_43 ?_
              refine lv_sipush (v := 20104) hx hb dX1_readAnd_46 (by decide +kernel) ?_
              refine z_callv [2, 3, 4] (va_runV (As := [.int 20104]) (rest := []) ⟨hx, hb, hml, hown, hts⟩ (c_X3_write_g l G t0 co en sk ct fc yct_25 zw_24 tx 20104 H.size (by first | exact hw0 | assumption | omega) (by first | exact htx | assumption | omega) (by first | exact hc | assumption | omega)) (cwV 1 hts gX1_readAnd_X3_write rfl rfl rfl (by decide +kernel) ⟨Nat.le_of_ble_eq_true rfl, Nat.le_of_ble_eq_true rfl⟩) ⟨gPre_blind, va_recv (q := (RX3, TX3, 5)) hK hP (ci := 3) (q0 := 2) rfl rfl, fun U hU hW => gPre_ofF [2, 3, 4] hU hW hK hP hD (by decide +kernel) rfl⟩ rfl rfl hl.1 rfl (lv_room (Nat.le_of_ble_eq_true rfl)) dX1_readAnd_49 ⟨Nat.le_of_ble_eq_true rfl, Nat.le_of_ble_eq_true rfl⟩) hS hD hA rfl (fun u t H locs ht hvm w_28 hB hz1 hk1 hFq hAq hS => ?_)
              obtain ⟨zw_29, yct_30⟩ := u
              obtain ⟨hP1, hK1, hD1⟩ := hB
              have w_28 : (zw_29, yct_30) = gWc 20104 zw_24 yct_25 ∧ zw_29 ≤ 160 := w_28
              have hz9 : gPD G A [zo1 h0 t0 b0 (nI za_20) zt_21 (nI zp_22) zm_23 (nI n), zi G b0 160 f, zo3 t0 co en sk (nI zw_29) (nI tx), zr G co 6 fc, zi G ct 160 yct_30] H := zFill hP hD [2, 3, 4] [0, 0, 1, 2, 3] hAq hk1 hFq ht hP1 hD1 rfl (by decide +kernel)
              have hP := hz9.1
              have hD := hz9.2
              have hwr : gWr 20104 (za_20, zt_21, zp_22, zm_23, zw_24, yct_25) = (za_20, zt_21, zp_22, zm_23, zw_29, yct_30) := gWr_of w_28.1
              have hwl := w_28.2
              refine lv_iinc (v := nI (i9 + 1)) (lv' := [zI 2 (nI (i9 + 1)), zR 0 h0, zI 1 5]) hx hb dX1_readAnd_52 hl (k := 0) rfl (nI_add i9 1) (by decide +kernel) rfl (fun ls hl => ?_)
              refine lv_goto (tgt := 12) hx hb dX1_readAnd_55 (by decide +kernel) ?_
              exact ih9 (i9 + 1) za_20 zt_21 zp_22 zm_23 zw_29 yct_30 (by omega) (by omega) (by rw [← hI, show 160 - i9 = (160 - (i9 + 1)) + 1 by omega]; exact (gLp_go (decide_eq_true (c_11)) (by rw [hnx]; exact hR2) (by rw [c_11]; rfl) hwr).symm) (by omega) _ _ hP hD hS ls hl
            · skip
              have hR2 := gRes_f hg2 c_26
              refine lv_iconst (v := 0) hx hb dX1_readAnd_40 (by decide +kernel) ?_
              have hpost : (fun (r : Int32) (u : Nat × Int32 × Nat × Int32 × Nat × (Nat → Int32)) => match u with | (za, zt, zp, zm, zw, yct) => (za ≤ n ∧ zw ≤ 160) ∧ gRes r (za, zt, zp, zm, zw, yct) (gAndB f n (gLv f n 0) (a, x3, pl, x5, w0, fct))) 0 (za_20, zt_21, zp_22, zm_23, zw_24, yct_25) := by refine ⟨⟨by omega, by omega⟩, Or.inr ⟨?_, rfl⟩⟩; rw [← hI, show 160 - i9 = (160 - (i9 + 1)) + 1 by omega]; exact gLp_fail (decide_eq_true (c_11)) (by rw [hnx]; exact hR2)
              exact W.zret (v := 0) hx hb hr (rfl) (fun t ht hW => ⟨⟨0, (za_20, zt_21, zp_22, zm_23, zw_24, yct_25), rfl, hpost, by rw [ht]; exact hP, va_K.moved hW.alike hK, hD⟩, hS.F ht⟩) hS.2.2 dX1_readAnd_41
    exact loop_12 (161) 0 za_3 zt_4 zp_5 zm_6 zw_7 yct_8 (Nat.zero_le _) (by omega) ((gBind_t hR).symm) (by omega) _ _ hP hD hS ls hl
  · skip
    have hR := gRes_f hg c_9
    refine lv_iconst (v := 0) hx hb dX1_readAnd_8 (by decide +kernel) ?_
    have hpost : (fun (r : Int32) (u : Nat × Int32 × Nat × Int32 × Nat × (Nat → Int32)) => match u with | (za, zt, zp, zm, zw, yct) => (za ≤ n ∧ zw ≤ 160) ∧ gRes r (za, zt, zp, zm, zw, yct) (gAndB f n (gLv f n 0) (a, x3, pl, x5, w0, fct))) 0 (za_3, zt_4, zp_5, zm_6, zw_7, yct_8) := by exact ⟨hbd, Or.inr ⟨gBind_f hR, rfl⟩⟩
    exact W.zret (v := 0) hx hb hr (rfl) (fun t ht hW => ⟨⟨0, (za_3, zt_4, zp_5, zm_6, zw_7, yct_8), rfl, hpost, by rw [ht]; exact hP, va_K.moved hW.alike hK, hD⟩, hS.F ht⟩) hS.2.2 dX1_readAnd_9
abbrev q_X1_readOr_o5 (G : gG) (E : gS) (h0 t0 b0 co en sk ct : Nat) (f : Nat → Int32) (fc : Nat → Option Nat) (fct : Nat → Int32) (x3 : Int32) (x5 : Int32) (n : Nat) (a : Nat) (pl : Nat) (w0 : Nat) (tx : Nat) (A : Nat → Prop) : Array Value → State → Outcome → State → Prop := va_Qi (fun (r : Int32) (u : Nat × Int32 × Nat × Int32 × Nat × (Nat → Int32)) => match u with | (za, zt, zp, zm, zw, yct) => (za ≤ n ∧ zw ≤ 160) ∧ gRes r (za, zt, zp, zm, zw, yct) (gOrB f n (gLv f n 0) (a, x3, pl, x5, w0, fct))) (fun (u : Nat × Int32 × Nat × Int32 × Nat × (Nat → Int32)) t => match u with | (za, zt, zp, zm, zw, yct) => va_P G.1 vwCl [zo1 h0 t0 b0 (nI za) zt (nI zp) zm (nI n), zi G b0 160 f, zo3 t0 co en sk (nI zw) (nI tx), zr G co 6 fc, zi G ct 160 yct] t.heap ∧ gK G t ∧ va_D A [zo1 h0 t0 b0 (nI za) zt (nI zp) zm (nI n), zi G b0 160 f, zo3 t0 co en sk (nI zw) (nI tx), zr G co 6 fc, zi G ct 160 yct]) A
set_option maxHeartbeats 4000000 in
set_option maxRecDepth 100000 in
theorem c_X1_readOr_o5 (l : Launch) (G : gG) (E : gS) (h0 t0 b0 co en sk ct : Nat) (f : Nat → Int32) (fc : Nat → Option Nat) (fct : Nat → Int32) (x3 : Int32) (x5 : Int32) (n : Nat) (a : Nat) (pl : Nat) (w0 : Nat) (tx : Nat) (sz : Nat) (hn : n ≤ 160) (ha : a ≤ n) (hw0 : w0 ≤ 160) (htx : tx < 6) (hc : fc tx = some ct) : Met l yX1_readOr wsX1_readOr ({ frames := 12, cells := 0, slots := 0, locals := 258 }) (gPreE G E [.ref h0, .int 5] [zo1 h0 t0 b0 (nI a) x3 (nI pl) x5 (nI n), zi G b0 160 f, zo3 t0 co en sk (nI w0) (nI tx), zr G co 6 fc, zi G ct 160 fct] sz) (q_X1_readOr_o5 G E h0 t0 b0 co en sk ct f fc fct x3 x5 n a pl w0 tx (va_A [zo1 h0 t0 b0 (nI a) x3 (nI pl) x5 (nI n), zi G b0 160 f, zo3 t0 co en sk (nI w0) (nI tx), zr G co 6 fc, zi G ct 160 fct] sz)) 0 0 (va_A [zo1 h0 t0 b0 (nI a) x3 (nI pl) x5 (nI n), zi G b0 160 f, zo3 t0 co en sk (nI w0) (nI tx), zr G co 6 fc, zi G ct 160 fct] sz) := by
  refine Met.ofW (cc := cX1_readOr) (maxL := 3) (ret := (some .boolean)) (by decide +kernel) rfl ?_
  intro p e s m args below meth c s₁ B hml hv
  obtain ⟨rfl, hsz, hP, hK, hD0, hE⟩ := hv
  have hx := B.exec
  have hb := B.bytes
  have hr := B.returns
  have hts := atoms_spec (ws := wsX1_readOr) B.pre
  have hown : s.vm.findClass RX1 = some m.cls := findClass_of_methodNamed B.named
  have hlocks := B.notSynchronized
  subst hsz
  have hD := hD0.self (sz := s.heap.size)
  generalize hAe : va_A [zo1 h0 t0 b0 (nI a) x3 (nI pl) x5 (nI n), zi G b0 160 f, zo3 t0 co en sk (nI w0) (nI tx), zr G co 6 fc, zi G ct 160 fct] s.heap.size = A at hD hE ⊢
  have hA : ∀ q : Nat, s.heap.size ≤ q → A q := fun q h => by rw [← hAe]; exact Or.inr h
  have hS : va_S A s.heap s.heap [] := va_S.rf
  have hz9 : gPD G A [zo1 h0 t0 b0 (nI a) x3 (nI pl) x5 (nI n), zi G b0 160 f, zo3 t0 co en sk (nI w0) (nI tx), zr G co 6 fc, zi G ct 160 fct] s.heap := ⟨hP, hD⟩
  have hP := hz9.1
  have hD := hz9.2
  have hl := lv_entry ([.ref h0, .int 5]) (n := 3) (Nat.le_of_ble_eq_true rfl)
  rw [lg_entry_eq]
  generalize (lg_sl ([.ref h0, .int 5]) ++ List.replicate (3 - (lg_sl ([.ref h0, .int 5])).length) Slot.unset).toArray = ls at hl ⊢
  have hl : lv_has ls 3 [zR 0 h0, zI 1 5] := hl
  have kf45 := hts (.fieldLink RX1 45 "PebbleInShoe$Reader" "token" "I") (by decide +kernel)
  have hiX1 := (by decide +kernel : ∀ w ∈ wsX10, w ∈ wsX1_readOr)
  have kf15 := hts (.fieldLink RX1 15 "PebbleInShoe$Reader" "texts" "LPebbleInShoe$Texts;") (by decide +kernel)
  refine lv_aload_n hx hb dX1_readOr_0 rfl (lv_at hl 0 rfl) ?_
  refine lv_iload_n hx hb dX1_readOr_1 rfl (lv_at hl 1 rfl) ?_
  refine z_callp [0, 1, 2, 3, 4] (va_runV (As := [.int 5]) (rest := []) ⟨hx, hb, hml, hown, hts⟩ (c_X1_readAnd_o5 l G E h0 t0 b0 co en sk ct f fc fct x3 x5 n a pl w0 tx s.heap.size (by first | exact hn | assumption | omega) (by first | exact ha | assumption | omega) (by first | exact hw0 | assumption | omega) (by first | exact htx | assumption | omega) (by first | exact hc | assumption | omega)) (cwV 1 hts gX1_readOr_X1_readAnd rfl rfl rfl (by decide +kernel) ⟨Nat.le_of_ble_eq_true rfl, Nat.le_of_ble_eq_true rfl⟩) ⟨gPreE_blind, va_recv (q := (RX1, TX1, 7)) hK hP (ci := 1) (q0 := 0) rfl rfl, fun U hU hW => gPreE_of hU hW hK hP hD hE hS (gFree2 hD hS hA [0, 1, 2, 3, 4])⟩ rfl rfl hl.1 rfl (lv_room (Nat.le_of_ble_eq_true rfl)) dX1_readOr_2 ⟨Nat.le_of_ble_eq_true rfl, Nat.le_of_ble_eq_true rfl⟩) hS hD hA rfl (fun r_1 u t H locs ht hvm w_2 hB hz1 hk1 hFq hAq hS => ?_)
  obtain ⟨za_3, zt_4, zp_5, zm_6, zw_7, yct_8⟩ := u
  obtain ⟨hP1, hK1, hD1⟩ := hB
  have w_2 : (za_3 ≤ n ∧ zw_7 ≤ 160) ∧ gRes r_1 (za_3, zt_4, zp_5, zm_6, zw_7, yct_8) (gAndB f n (gLv f n 0) (a, x3, pl, x5, w0, fct)) := w_2
  have hz9 : gPD G A [zo1 h0 t0 b0 (nI za_3) zt_4 (nI zp_5) zm_6 (nI n), zi G b0 160 f, zo3 t0 co en sk (nI zw_7) (nI tx), zr G co 6 fc, zi G ct 160 yct_8] H := zFill hP hD [0, 1, 2, 3, 4] [1, 2, 3, 4, 5] hAq hk1 hFq ht hP1 hD1 rfl (by decide +kernel)
  have hP := hz9.1
  have hD := hz9.2
  obtain ⟨hbd, hg⟩ := w_2
  refine lv_if_ne (tgt := 10) hx hb dX1_readOr_5 (by decide +kernel) (fun c_9 => ?_) (fun c_9 => ?_)
  · skip
    have hR := gRes_t hg c_9
    refine lv_iconst (v := 0) hx hb dX1_readOr_10 (by decide +kernel) ?_
    refine lv_istore_n (lv' := [zI 2 0, zR 0 h0, zI 1 5]) hx hb dX1_readOr_11 rfl hl (by decide +kernel) rfl (fun ls hl => ?_)
    have loop_12 : ∀ (n9 : Nat) (i9 : Nat) (za9 : Nat) (zt9 : Int32) (zp9 : Nat) (zm9 : Int32) (zw9 : Nat) (ct9 : Nat → Int32), (i9 ≤ 160) → (za9 ≤ n ∧ zw9 ≤ 160) → (gLp f n (fun t => decide (t = 103)) (gAndB f n (gLv f n 0)) (160 - i9) (za9, zt9, zp9, zm9, zw9, ct9) = gOrB f n (gLv f n 0) (a, x3, pl, x5, w0, fct)) → (160 - i9) < n9 → ∀ (H : Heap) (locs : List Loc), va_P G.1 vwCl [zo1 h0 t0 b0 (nI za9) zt9 (nI zp9) zm9 (nI n), zi G b0 160 f, zo3 t0 co en sk (nI zw9) (nI tx), zr G co 6 fc, zi G ct 160 ct9] H → va_D A [zo1 h0 t0 b0 (nI za9) zt9 (nI zp9) zm9 (nI n), zi G b0 160 f, zo3 t0 co en sk (nI zw9) (nI tx), zr G co 6 fc, zi G ct 160 ct9] → va_S A s.heap H locs → ∀ ls : Array Slot, lv_has ls 3 [zI 2 (nI i9), zR 0 h0, zI 1 5] → W p l e (headSpec wsX1_readOr ({ frames := 12, cells := 0, slots := 0, locals := 258 })).room s m ([.ref h0, .int 5] : List Value).toArray below meth c H locs 0 0 (MQ below (q_X1_readOr_o5 G E h0 t0 b0 co en sk ct f fc fct x3 x5 n a pl w0 tx A) ([.ref h0, .int 5] : List Value).toArray s 0 0 A) (F0 m 12 ls []) := by
      intro n9
      induction n9 with
      | zero => intro i9 za9 zt9 zp9 zm9 zw9 ct9 hi9 hb9 hI hm9; exact absurd hm9 (Nat.not_lt_zero _)
      | succ n9 ih9 =>
        intro i9 za9 zt9 zp9 zm9 zw9 ct9 hi9 hb9 hI hm9 H locs hP hD hS ls hl
        refine lv_iload_n hx hb dX1_readOr_12 rfl (lv_at hl 0 rfl) ?_
        refine lv_sipush (v := 160) hx hb dX1_readOr_13 (by decide +kernel) ?_
        refine lv_icmp_ge (tgt := 58) hx hb dX1_readOr_16 (by decide +kernel) (fun c_10 => ?_) (fun c_10 => ?_)
        · skip
          have c_10N : 160 ≤ i9 := nI_le1 (a := 160) (b := i9) (by omega) (by omega) c_10
          refine lv_iconst (v := 1) hx hb dX1_readOr_58 (by decide +kernel) ?_
          have hpost : (fun (r : Int32) (u : Nat × Int32 × Nat × Int32 × Nat × (Nat → Int32)) => match u with | (za, zt, zp, zm, zw, yct) => (za ≤ n ∧ zw ≤ 160) ∧ gRes r (za, zt, zp, zm, zw, yct) (gOrB f n (gLv f n 0) (a, x3, pl, x5, w0, fct))) 1 (za9, zt9, zp9, zm9, zw9, ct9) := by refine ⟨⟨by omega, by omega⟩, Or.inl ⟨?_, rfl⟩⟩; rw [← hI, show 160 - i9 = 0 by omega]; rfl
          exact W.zret (v := 1) hx hb hr (rfl) (fun t ht hW => ⟨⟨1, (za9, zt9, zp9, zm9, zw9, ct9), rfl, hpost, by rw [ht]; exact hP, va_K.moved hW.alike hK, hD⟩, hS.F ht⟩) hS.2.2 dX1_readOr_59
        · skip
          have c_10N : i9 < 160 := nI_le0 (a := 160) (b := i9) (by omega) (by omega) c_10
          refine g_aget (D := G.1) (ci := 1) (v := .int zt9) (C := RX1) (T := TX1) (N := 7) hx hb dX1_readOr_19 rfl (lv_at hl 1 rfl) hts hiX1 hown hK hP 0 rfl rfl 3 (by decide +kernel) kf45 (fun _ h9 => h9) rfl dX1_readOr_20 ?_
          refine lv_bipush (v := 103) hx hb dX1_readOr_23 (by decide +kernel) ?_
          refine lv_icmp_ne (tgt := 58) hx hb dX1_readOr_25 (by decide +kernel) (fun c_11 => ?_) (fun c_11 => ?_)
          · skip
            refine lv_iconst (v := 1) hx hb dX1_readOr_58 (by decide +kernel) ?_
            have hpost : (fun (r : Int32) (u : Nat × Int32 × Nat × Int32 × Nat × (Nat → Int32)) => match u with | (za, zt, zp, zm, zw, yct) => (za ≤ n ∧ zw ≤ 160) ∧ gRes r (za, zt, zp, zm, zw, yct) (gOrB f n (gLv f n 0) (a, x3, pl, x5, w0, fct))) 1 (za9, zt9, zp9, zm9, zw9, ct9) := by refine ⟨⟨by omega, by omega⟩, Or.inl ⟨?_, rfl⟩⟩; rw [← hI]; exact gLp_stop (decide_eq_false (c_11))
            exact W.zret (v := 1) hx hb hr (rfl) (fun t ht hW => ⟨⟨1, (za9, zt9, zp9, zm9, zw9, ct9), rfl, hpost, by rw [ht]; exact hP, va_K.moved hW.alike hK, hD⟩, hS.F ht⟩) hS.2.2 dX1_readOr_59
          · skip
            refine lv_aload_n hx hb dX1_readOr_28 rfl (lv_at hl 1 rfl) ?_
            refine z_callv [0, 1] (va_runV (As := []) (rest := []) ⟨hx, hb, hml, hown, hts⟩ (c_X1_next l G E h0 t0 b0 f zt9 (nI zp9) zm9 n za9 H.size (by first | exact hn | assumption | omega) (by first | exact ha | assumption | omega)) (cwV 0 hts gX1_readOr_X1_next rfl rfl rfl (by decide +kernel) ⟨Nat.le_of_ble_eq_true rfl, Nat.le_of_ble_eq_true rfl⟩) ⟨gPreE_blind, va_recv (q := (RX1, TX1, 7)) hK hP (ci := 1) (q0 := 0) rfl rfl, fun U hU hW => gPreE_ofF [0, 1] hU hW hK hP hD (by decide +kernel) rfl hE hS hA⟩ rfl rfl hl.1 rfl (lv_room (Nat.le_of_ble_eq_true rfl)) dX1_readOr_29 ⟨Nat.le_of_ble_eq_true rfl, Nat.le_of_ble_eq_true rfl⟩) hS hD hA rfl (fun u t H locs ht hvm w_13 hB hz1 hk1 hFq hAq hS => ?_)
            obtain ⟨zb_14, zt_15, zp_16, zm_17⟩ := u
            obtain ⟨hP1, hK1, hD1⟩ := hB
            have w_13 : (zb_14, zt_15, zp_16, zm_17) = mNext f n za9 zm9 := w_13
            have hz9 : gPD G A [zo1 h0 t0 b0 (nI zb_14) zt_15 (nI zp_16) zm_17 (nI n), zi G b0 160 f, zo3 t0 co en sk (nI zw9) (nI tx), zr G co 6 fc, zi G ct 160 ct9] H := zFill hP hD [0, 1] [1, 2] hAq hk1 hFq ht hP1 hD1 rfl (by decide +kernel)
            have hP := hz9.1
            have hD := hz9.2
            have hnx : gNx f n (za9, zt9, zp9, zm9, zw9, ct9) = (zb_14, zt_15, zp_16, zm_17, zw9, ct9) := gNx_of w_13
            have hle := nx_le9 w_13 (by omega)
            refine lv_aload_n hx hb dX1_readOr_32 rfl (lv_at hl 1 rfl) ?_
            refine lv_iload_n hx hb dX1_readOr_33 rfl (lv_at hl 2 rfl) ?_
            refine z_callp [0, 1, 2, 3, 4] (va_runV (As := [.int 5]) (rest := []) ⟨hx, hb, hml, hown, hts⟩ (c_X1_readAnd_o5 l G E h0 t0 b0 co en sk ct f fc ct9 zt_15 zm_17 n zb_14 zp_16 zw9 tx H.size (by first | exact hn | assumption | omega) (by first | exact ha | assumption | omega) (by first | exact hw0 | assumption | omega) (by first | exact htx | assumption | omega) (by first | exact hc | assumption | omega)) (cwV 1 hts gX1_readOr_X1_readAnd rfl rfl rfl (by decide +kernel) ⟨Nat.le_of_ble_eq_true rfl, Nat.le_of_ble_eq_true rfl⟩) ⟨gPreE_blind, va_recv (q := (RX1, TX1, 7)) hK hP (ci := 1) (q0 := 0) rfl rfl, fun U hU hW => gPreE_of hU hW hK hP hD hE hS (gFree2 hD hS hA [0, 1, 2, 3, 4])⟩ rfl rfl hl.1 rfl (lv_room (Nat.le_of_ble_eq_true rfl)) dX1_readOr_34 ⟨Nat.le_of_ble_eq_true rfl, Nat.le_of_ble_eq_true rfl⟩) hS hD hA rfl (fun r_18 u t H locs ht hvm w_19 hB hz1 hk1 hFq hAq hS => ?_)
            obtain ⟨za_20, zt_21, zp_22, zm_23, zw_24, yct_25⟩ := u
            obtain ⟨hP1, hK1, hD1⟩ := hB
            have w_19 : (za_20 ≤ n ∧ zw_24 ≤ 160) ∧ gRes r_18 (za_20, zt_21, zp_22, zm_23, zw_24, yct_25) (gAndB f n (gLv f n 0) (zb_14, zt_15, zp_16, zm_17, zw9, ct9)) := w_19
            have hz9 : gPD G A [zo1 h0 t0 b0 (nI za_20) zt_21 (nI zp_22) zm_23 (nI n), zi G b0 160 f, zo3 t0 co en sk (nI zw_24) (nI tx), zr G co 6 fc, zi G ct 160 yct_25] H := zFill hP hD [0, 1, 2, 3, 4] [1, 2, 3, 4, 5] hAq hk1 hFq ht hP1 hD1 rfl (by decide +kernel)
            have hP := hz9.1
            have hD := hz9.2
            obtain ⟨hbd2, hg2⟩ := w_19
            refine lv_if_ne (tgt := 42) hx hb dX1_readOr_37 (by decide +kernel) (fun c_26 => ?_) (fun c_26 => ?_)
            · skip
              have hR2 := gRes_t hg2 c_26
              refine g_aget (D := G.1) (ci := 1) (v := .ref t0) (C := RX1) (T := TX1) (N := 7) hx hb dX1_readOr_42 rfl (lv_at hl 1 rfl) hts hiX1 hown hK hP 0 rfl rfl 0 (by decide +kernel) kf15 (fun _ h9 => h9) rfl dX1_readOr_43 ?_
              refine lv_sipush (v := 20103) hx hb dX1_readOr_46 (by decide +kernel) ?_
              refine z_callv [2, 3, 4] (va_runV (As := [.int 20103]) (rest := []) ⟨hx, hb, hml, hown, hts⟩ (c_X3_write_g l G t0 co en sk ct fc yct_25 zw_24 tx 20103 H.size (by first | exact hw0 | assumption | omega) (by first | exact htx | assumption | omega) (by first | exact hc | assumption | omega)) (cwV 1 hts gX1_readOr_X3_write rfl rfl rfl (by decide +kernel) ⟨Nat.le_of_ble_eq_true rfl, Nat.le_of_ble_eq_true rfl⟩) ⟨gPre_blind, va_recv (q := (RX3, TX3, 5)) hK hP (ci := 3) (q0 := 2) rfl rfl, fun U hU hW => gPre_ofF [2, 3, 4] hU hW hK hP hD (by decide +kernel) rfl⟩ rfl rfl hl.1 rfl (lv_room (Nat.le_of_ble_eq_true rfl)) dX1_readOr_49 ⟨Nat.le_of_ble_eq_true rfl, Nat.le_of_ble_eq_true rfl⟩) hS hD hA rfl (fun u t H locs ht hvm w_28 hB hz1 hk1 hFq hAq hS => ?_)
              obtain ⟨zw_29, yct_30⟩ := u
              obtain ⟨hP1, hK1, hD1⟩ := hB
              have w_28 : (zw_29, yct_30) = gWc 20103 zw_24 yct_25 ∧ zw_29 ≤ 160 := w_28
              have hz9 : gPD G A [zo1 h0 t0 b0 (nI za_20) zt_21 (nI zp_22) zm_23 (nI n), zi G b0 160 f, zo3 t0 co en sk (nI zw_29) (nI tx), zr G co 6 fc, zi G ct 160 yct_30] H := zFill hP hD [2, 3, 4] [0, 0, 1, 2, 3] hAq hk1 hFq ht hP1 hD1 rfl (by decide +kernel)
              have hP := hz9.1
              have hD := hz9.2
              have hwr : gWr 20103 (za_20, zt_21, zp_22, zm_23, zw_24, yct_25) = (za_20, zt_21, zp_22, zm_23, zw_29, yct_30) := gWr_of w_28.1
              have hwl := w_28.2
              refine lv_iinc (v := nI (i9 + 1)) (lv' := [zI 2 (nI (i9 + 1)), zR 0 h0, zI 1 5]) hx hb dX1_readOr_52 hl (k := 0) rfl (nI_add i9 1) (by decide +kernel) rfl (fun ls hl => ?_)
              refine lv_goto (tgt := 12) hx hb dX1_readOr_55 (by decide +kernel) ?_
              exact ih9 (i9 + 1) za_20 zt_21 zp_22 zm_23 zw_29 yct_30 (by omega) (by omega) (by rw [← hI, show 160 - i9 = (160 - (i9 + 1)) + 1 by omega]; exact (gLp_go (decide_eq_true (c_11)) (by rw [hnx]; exact hR2) (by rw [c_11]; rfl) hwr).symm) (by omega) _ _ hP hD hS ls hl
            · skip
              have hR2 := gRes_f hg2 c_26
              refine lv_iconst (v := 0) hx hb dX1_readOr_40 (by decide +kernel) ?_
              have hpost : (fun (r : Int32) (u : Nat × Int32 × Nat × Int32 × Nat × (Nat → Int32)) => match u with | (za, zt, zp, zm, zw, yct) => (za ≤ n ∧ zw ≤ 160) ∧ gRes r (za, zt, zp, zm, zw, yct) (gOrB f n (gLv f n 0) (a, x3, pl, x5, w0, fct))) 0 (za_20, zt_21, zp_22, zm_23, zw_24, yct_25) := by refine ⟨⟨by omega, by omega⟩, Or.inr ⟨?_, rfl⟩⟩; rw [← hI, show 160 - i9 = (160 - (i9 + 1)) + 1 by omega]; exact gLp_fail (decide_eq_true (c_11)) (by rw [hnx]; exact hR2)
              exact W.zret (v := 0) hx hb hr (rfl) (fun t ht hW => ⟨⟨0, (za_20, zt_21, zp_22, zm_23, zw_24, yct_25), rfl, hpost, by rw [ht]; exact hP, va_K.moved hW.alike hK, hD⟩, hS.F ht⟩) hS.2.2 dX1_readOr_41
    exact loop_12 (161) 0 za_3 zt_4 zp_5 zm_6 zw_7 yct_8 (Nat.zero_le _) (by omega) ((gBind_t hR).symm) (by omega) _ _ hP hD hS ls hl
  · skip
    have hR := gRes_f hg c_9
    refine lv_iconst (v := 0) hx hb dX1_readOr_8 (by decide +kernel) ?_
    have hpost : (fun (r : Int32) (u : Nat × Int32 × Nat × Int32 × Nat × (Nat → Int32)) => match u with | (za, zt, zp, zm, zw, yct) => (za ≤ n ∧ zw ≤ 160) ∧ gRes r (za, zt, zp, zm, zw, yct) (gOrB f n (gLv f n 0) (a, x3, pl, x5, w0, fct))) 0 (za_3, zt_4, zp_5, zm_6, zw_7, yct_8) := by exact ⟨hbd, Or.inr ⟨gBind_f hR, rfl⟩⟩
    exact W.zret (v := 0) hx hb hr (rfl) (fun t ht hW => ⟨⟨0, (za_3, zt_4, zp_5, zm_6, zw_7, yct_8), rfl, hpost, by rw [ht]; exact hP, va_K.moved hW.alike hK, hD⟩, hS.F ht⟩) hS.2.2 dX1_readOr_9
