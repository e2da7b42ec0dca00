abbrev q_X1_readParts_g (G : gG) (E : gS) (h0 t0 b0 co en sk ct et : Nat) (f : Nat → Int32) (fc : Nat → Option Nat) (fct : Nat → Int32) (x3 : Int32) (x5 : Int32) (n : Nat) (a : Nat) (w0 : Nat) (tx : Nat) (x4 : Int32) (fe : Nat → Option Nat) (fet : Nat → Nat) (A : Nat → Prop) : Array Value → State → Outcome → State → Prop := va_Qi (fun (r : Int32) (u : Nat × Int32 × Nat × Int32 × Nat × (Nat → Int32) × (Nat → Nat)) => match u with | (za, zt, zp, zm, zw, yct, yet) => (za ≤ n ∧ zw ≤ 160) ∧ gRes r ((za, zt, zp, zm, zw, yct), yet) (gParts f n ((a, x3, 0, x5, w0, fct), fet))) (fun (u : Nat × Int32 × Nat × Int32 × Nat × (Nat → Int32) × (Nat → Nat)) t => match u with | (za, zt, zp, zm, zw, yct, yet) => va_P G.1 vwCl [zo1 h0 t0 b0 (nI za) zt (nI zp) zm (nI n), zi G b0 160 f, zo3 t0 co en sk (nI zw) (nI tx), zr G co 6 fc, zi G ct 160 yct, zr G en 6 fe, zi G et 3 (nF yet)] t.heap ∧ gK G t ∧ va_D A [zo1 h0 t0 b0 (nI za) zt (nI zp) zm (nI n), zi G b0 160 f, zo3 t0 co en sk (nI zw) (nI tx), zr G co 6 fc, zi G ct 160 yct, zr G en 6 fe, zi G et 3 (nF yet)]) A
set_option maxHeartbeats 4000000 in
set_option maxRecDepth 100000 in
theorem c_X1_readParts_g (l : Launch) (G : gG) (E : gS) (h0 t0 b0 co en sk ct et : Nat) (f : Nat → Int32) (fc : Nat → Option Nat) (fct : Nat → Int32) (x3 : Int32) (x5 : Int32) (n : Nat) (a : Nat) (w0 : Nat) (tx : Nat) (x4 : Int32) (fe : Nat → Option Nat) (fet : Nat → Nat) (sz : Nat) (hn : n ≤ 160) (ha : a ≤ n) (hw0 : w0 ≤ 160) (htx : tx < 6) (hc : fc tx = some ct) (he : fe tx = some et) : Met l yX1_readParts wsX1_readParts ({ frames := 43, cells := 0, slots := 0, locals := 940 }) (gPreE G E [.ref h0] [zo1 h0 t0 b0 (nI a) x3 x4 x5 (nI n), zi G b0 160 f, zo3 t0 co en sk (nI w0) (nI tx), zr G co 6 fc, zi G ct 160 fct, zr G en 6 fe, zi G et 3 (nF fet)] sz) (q_X1_readParts_g G E h0 t0 b0 co en sk ct et f fc fct x3 x5 n a w0 tx x4 fe fet (va_A [zo1 h0 t0 b0 (nI a) x3 x4 x5 (nI n), zi G b0 160 f, zo3 t0 co en sk (nI w0) (nI tx), zr G co 6 fc, zi G ct 160 fct, zr G en 6 fe, zi G et 3 (nF fet)] sz)) 0 0 (va_A [zo1 h0 t0 b0 (nI a) x3 x4 x5 (nI n), zi G b0 160 f, zo3 t0 co en sk (nI w0) (nI tx), zr G co 6 fc, zi G ct 160 fct, zr G en 6 fe, zi G et 3 (nF fet)] sz) := by
  refine Met.ofW (cc := cX1_readParts) (maxL := 2) (ret := (some .boolean)) (by decide +kernel) rfl ?_
  intro p e s m args below meth c s₁ B hml hv
  obtain ⟨rfl, hsz, hP, hK, hD0, hE⟩ := hv
  have hx := B.exec
  have hb := B.bytes
  have hr := B.returns
  have hts := atoms_spec (ws := wsX1_readParts) B.pre
  have hown : s.vm.findClass RX1 = some m.cls := findClass_of_methodNamed B.named
  have hlocks := B.notSynchronized
  subst hsz
  have hD := hD0.self (sz := s.heap.size)
  generalize hAe : va_A [zo1 h0 t0 b0 (nI a) x3 x4 x5 (nI n), zi G b0 160 f, zo3 t0 co en sk (nI w0) (nI tx), zr G co 6 fc, zi G ct 160 fct, zr G en 6 fe, zi G et 3 (nF fet)] s.heap.size = A at hD hE ⊢
  have hA : ∀ q : Nat, s.heap.size ≤ q → A q := fun q h => by rw [← hAe]; exact Or.inr h
  have hS : va_S A s.heap s.heap [] := va_S.rf
  have hz9 : gPD G A [zo1 h0 t0 b0 (nI a) x3 x4 x5 (nI n), zi G b0 160 f, zo3 t0 co en sk (nI w0) (nI tx), zr G co 6 fc, zi G ct 160 fct, zr G en 6 fe, zi G et 3 (nF fet)] s.heap := ⟨hP, hD⟩
  have hP := hz9.1
  have hD := hz9.2
  have hl := lv_entry ([.ref h0]) (n := 2) (Nat.le_of_ble_eq_true rfl)
  rw [lg_entry_eq]
  generalize (lg_sl ([.ref h0]) ++ List.replicate (2 - (lg_sl ([.ref h0])).length) Slot.unset).toArray = ls at hl ⊢
  have hl : lv_has ls 2 [zR 0 h0] := hl
  have kf45 := hts (.fieldLink RX1 45 "PebbleInShoe$Reader" "token" "I") (by decide +kernel)
  have hiX1 := (by decide +kernel : ∀ w ∈ wsX10, w ∈ wsX1_readParts)
  have kf15 := hts (.fieldLink RX1 15 "PebbleInShoe$Reader" "texts" "LPebbleInShoe$Texts;") (by decide +kernel)
  refine lv_aload_n hx hb dX1_readParts_0 rfl (lv_at hl 0 rfl) ?_
  refine z_callv [0, 1] (va_runV (As := []) (rest := []) ⟨hx, hb, hml, hown, hts⟩ (c_X1_next l G E h0 t0 b0 f x3 x4 x5 n a s.heap.size (by first | exact hn | assumption | omega) (by first | exact ha | assumption | omega)) (cwV 0 hts gX1_readParts_X1_next rfl rfl rfl (by decide +kernel) ⟨Nat.le_of_ble_eq_true rfl, Nat.le_of_ble_eq_true rfl⟩) ⟨gPreE_blind, va_recv (q := (RX1, TX1, 7)) hK hP (ci := 1) (q0 := 0) rfl rfl, fun U hU hW => gPreE_ofF [0, 1] hU hW hK hP hD (by decide +kernel) rfl hE hS hA⟩ rfl rfl hl.1 rfl (lv_room (Nat.le_of_ble_eq_true rfl)) dX1_readParts_1 ⟨Nat.le_of_ble_eq_true rfl, Nat.le_of_ble_eq_true rfl⟩) hS hD hA rfl (fun u t H locs ht hvm w_2 hB hz1 hk1 hFq hAq hS => ?_)
  obtain ⟨zb_3, zt_4, zp_5, zm_6⟩ := u
  obtain ⟨hP1, hK1, hD1⟩ := hB
  have w_2 : (zb_3, zt_4, zp_5, zm_6) = mNext f n a x5 := w_2
  have hz9 : gPD G A [zo1 h0 t0 b0 (nI zb_3) zt_4 (nI zp_5) zm_6 (nI n), zi G b0 160 f, zo3 t0 co en sk (nI w0) (nI tx), zr G co 6 fc, zi G ct 160 fct, zr G en 6 fe, zi G et 3 (nF fet)] H := zFill hP hD [0, 1] [1, 2] hAq hk1 hFq ht hP1 hD1 rfl (by decide +kernel)
  have hP := hz9.1
  have hD := hz9.2
  have hnxA : gNx f n (a, x3, 0, x5, w0, fct) = (zb_3, zt_4, zp_5, zm_6, w0, fct) := gNx_of w_2
  have hle := nx_le9 w_2 (by omega)
  refine lv_iconst (v := 0) hx hb dX1_readParts_4 (by decide +kernel) ?_
  refine lv_istore_n (lv' := [zI 1 0, zR 0 h0]) hx hb dX1_readParts_5 rfl hl (by decide +kernel) rfl (fun ls hl => ?_)
  refine lv_iload_n hx hb dX1_readParts_6 rfl (lv_at hl 0 rfl) ?_
  refine lv_iconst (v := 2) hx hb dX1_readParts_7 (by decide +kernel) ?_
  refine lv_icmp_gt (tgt := 65) hx hb dX1_readParts_8 (by decide +kernel) (fun c_7 => ?_) (fun c_7 => ?_)
  · exact absurd c_7 (by decide +kernel)
  refine g_aget (D := G.1) (ci := 1) (v := .int zt_4) (C := RX1) (T := TX1) (N := 7) hx hb dX1_readParts_11 rfl (lv_at hl 1 rfl) hts hiX1 hown hK hP 0 rfl rfl 3 (by decide +kernel) kf45 (fun _ h9 => h9) rfl dX1_readParts_12 ?_
  refine lv_bipush (v := 100) hx hb dX1_readParts_15 (by decide +kernel) ?_
  refine lv_iload_n hx hb dX1_readParts_17 rfl (lv_at hl 0 rfl) ?_
  refine lv_iadd hx hb dX1_readParts_18 ?_
  refine g_topi (y := 100) (by decide +kernel) ?_
  refine lv_icmp_eq (tgt := 24) hx hb dX1_readParts_19 (by decide +kernel) (fun c_9 => ?_) (fun c_9 => ?_)
  · skip
    have hT0 : zt_4 = nI (100 + 0) := c_9
    refine lv_aload_n hx hb dX1_readParts_24 rfl (lv_at hl 1 rfl) ?_
    refine z_callv [0, 1] (va_runV (As := []) (rest := []) ⟨hx, hb, hml, hown, hts⟩ (c_X1_next l G E h0 t0 b0 f zt_4 (nI zp_5) zm_6 n zb_3 H.size (by first | exact hn | assumption | omega) (by first | exact ha | assumption | omega)) (cwV 0 hts gX1_readParts_X1_next rfl rfl rfl (by decide +kernel) ⟨Nat.le_of_ble_eq_true rfl, Nat.le_of_ble_eq_true rfl⟩) ⟨gPreE_blind, va_recv (q := (RX1, TX1, 7)) hK hP (ci := 1) (q0 := 0) rfl rfl, fun U hU hW => gPreE_ofF [0, 1] hU hW hK hP hD (by decide +kernel) rfl hE hS hA⟩ rfl rfl hl.1 rfl (lv_room (Nat.le_of_ble_eq_true rfl)) dX1_readParts_25 ⟨Nat.le_of_ble_eq_true rfl, Nat.le_of_ble_eq_true rfl⟩) hS hD hA rfl (fun u t H locs ht hvm w_11 hB hz1 hk1 hFq hAq hS => ?_)
    obtain ⟨zb_12, zt_13, zp_14, zm_15⟩ := u
    obtain ⟨hP1, hK1, hD1⟩ := hB
    have w_11 : (zb_12, zt_13, zp_14, zm_15) = mNext f n zb_3 zm_6 := w_11
    have hz9 : gPD G A [zo1 h0 t0 b0 (nI zb_12) zt_13 (nI zp_14) zm_15 (nI n), zi G b0 160 f, zo3 t0 co en sk (nI w0) (nI tx), zr G co 6 fc, zi G ct 160 fct, zr G en 6 fe, zi G et 3 (nF fet)] H := zFill hP hD [0, 1] [1, 2] hAq hk1 hFq ht hP1 hD1 rfl (by decide +kernel)
    have hP := hz9.1
    have hD := hz9.2
    have hnx0 : gNx f n (zb_3, zt_4, zp_5, zm_6, w0, fct) = (zb_12, zt_13, zp_14, zm_15, w0, fct) := gNx_of w_11
    have hle := nx_le9 w_11 (by omega)
    refine lv_aload_n hx hb dX1_readParts_28 rfl (lv_at hl 1 rfl) ?_
    refine lv_iconst (v := 0) hx hb dX1_readParts_29 (by decide +kernel) ?_
    refine z_callp [0, 1, 2, 3, 4] (va_runV (As := [.int 0]) (rest := []) ⟨hx, hb, hml, hown, hts⟩ (c_X1_readOr_o0 l G E h0 t0 b0 co en sk ct f fc fct zt_13 zm_15 n zb_12 zp_14 w0 tx H.size (by first | exact hn | assumption | omega) (by first | exact ha | assumption | omega) (by first | exact hw0 | assumption | omega) (by first | exact htx | assumption | omega) (by first | exact hc | assumption | omega)) (cwV 1 hts gX1_readParts_X1_readOr rfl rfl rfl (by decide +kernel) ⟨Nat.le_of_ble_eq_true rfl, Nat.le_of_ble_eq_true rfl⟩) ⟨gPreE_blind, va_recv (q := (RX1, TX1, 7)) hK hP (ci := 1) (q0 := 0) rfl rfl, fun U hU hW => gPreE_ofF [0, 1, 2, 3, 4] hU hW hK hP hD (by decide +kernel) rfl hE hS hA⟩ rfl rfl hl.1 rfl (lv_room (Nat.le_of_ble_eq_true rfl)) dX1_readParts_30 ⟨Nat.le_of_ble_eq_true rfl, Nat.le_of_ble_eq_true rfl⟩) hS hD hA rfl (fun r_16 u t H locs ht hvm w_17 hB hz1 hk1 hFq hAq hS => ?_)
    obtain ⟨za_18, zt_19, zp_20, zm_21, zw_22, yct_23⟩ := u
    obtain ⟨hP1, hK1, hD1⟩ := hB
    have w_17 : (za_18 ≤ n ∧ zw_22 ≤ 160) ∧ gRes r_16 (za_18, zt_19, zp_20, zm_21, zw_22, yct_23) (gOrB f n (gLv f n 5) (zb_12, zt_13, zp_14, zm_15, w0, fct)) := w_17
    have hz9 : gPD G A [zo1 h0 t0 b0 (nI za_18) zt_19 (nI zp_20) zm_21 (nI n), zi G b0 160 f, zo3 t0 co en sk (nI zw_22) (nI tx), zr G co 6 fc, zi G ct 160 yct_23, zr G en 6 fe, zi G et 3 (nF fet)] H := zFill hP hD [0, 1, 2, 3, 4] [1, 2, 3, 4, 5] hAq hk1 hFq ht hP1 hD1 rfl (by decide +kernel)
    have hP := hz9.1
    have hD := hz9.2
    obtain ⟨hbd, hg0⟩ := w_17
    refine lv_if_eq (tgt := 45) hx hb dX1_readParts_33 (by decide +kernel) (fun c_24 => ?_) (fun c_24 => ?_)
    · skip
      have hR0 := gRes_f hg0 c_24
      refine lv_iconst (v := 0) hx hb dX1_readParts_45 (by decide +kernel) ?_
      have hpost : (fun (r : Int32) (u : Nat × Int32 × Nat × Int32 × Nat × (Nat → Int32) × (Nat → Nat)) => match u with | (za, zt, zp, zm, zw, yct, yet) => (za ≤ n ∧ zw ≤ 160) ∧ gRes r ((za, zt, zp, zm, zw, yct), yet) (gParts f n ((a, x3, 0, x5, w0, fct), fet))) 0 (za_18, zt_19, zp_20, zm_21, zw_22, yct_23, fet) := by exact ⟨⟨by omega, by omega⟩, Or.inr ⟨gParts_f0 (by rw [hnxA]; exact gPt_f (x := ((zb_3, zt_4, zp_5, zm_6, w0, fct), fet)) hT0 (by show gOrB f n (gLv f n 5) (gNx f n (zb_3, zt_4, zp_5, zm_6, w0, fct)) = _; rw [hnx0]; exact hR0)), rfl⟩⟩
      exact W.zret (v := 0) hx hb hr (rfl) (fun t ht hW => ⟨⟨0, (za_18, zt_19, zp_20, zm_21, zw_22, yct_23, fet), rfl, hpost, by rw [ht]; exact hP, va_K.moved hW.alike hK, hD⟩, hS.F ht⟩) hS.2.2 dX1_readParts_46
    · skip
      have hR0 := gRes_t hg0 c_24
      refine g_aget (D := G.1) (ci := 1) (v := .int zt_19) (C := RX1) (T := TX1) (N := 7) hx hb dX1_readParts_36 rfl (lv_at hl 1 rfl) hts hiX1 hown hK hP 0 rfl rfl 3 (by decide +kernel) kf45 (fun _ h9 => h9) rfl dX1_readParts_37 ?_
      refine lv_bipush (v := 59) hx hb dX1_readParts_40 (by decide +kernel) ?_
      refine lv_icmp_eq (tgt := 47) hx hb dX1_readParts_42 (by decide +kernel) (fun c_25 => ?_) (fun c_25 => ?_)
      · skip
        have h50 := c_25
        refine g_aget (D := G.1) (ci := 1) (v := .ref t0) (C := RX1) (T := TX1) (N := 7) hx hb dX1_readParts_47 rfl (lv_at hl 1 rfl) hts hiX1 hown hK hP 0 rfl rfl 0 (by decide +kernel) kf15 (fun _ h9 => h9) rfl dX1_readParts_48 ?_
        refine lv_iload_n hx hb dX1_readParts_51 rfl (lv_at hl 0 rfl) ?_
        refine z_callv [2, 5, 6] (va_runV (As := [.int 0]) (rest := []) ⟨hx, hb, hml, hown, hts⟩ (c_X3_endPart_g l G t0 co en sk et fe fet zw_22 tx 0 H.size (by first | exact htx | assumption | omega) (by first | exact he | assumption | omega) (by decide +kernel)) (cwV 1 hts gX1_readParts_X3_endPart rfl rfl rfl (by decide +kernel) ⟨Nat.le_of_ble_eq_true rfl, Nat.le_of_ble_eq_true rfl⟩) ⟨gPre_blind, va_recv (q := (RX3, TX3, 5)) hK hP (ci := 3) (q0 := 2) rfl rfl, fun U hU hW => gPre_ofF [2, 5, 6] hU hW hK hP hD (by decide +kernel) rfl⟩ rfl rfl hl.1 rfl (lv_room (Nat.le_of_ble_eq_true rfl)) dX1_readParts_52 ⟨Nat.le_of_ble_eq_true rfl, Nat.le_of_ble_eq_true rfl⟩) hS hD hA rfl (fun u t H locs ht hvm w_27 hB hz1 hk1 hFq hAq hS => ?_)
        obtain ⟨hP1, hK1, hD1⟩ := hB
        have hz9 : gPD G A [zo1 h0 t0 b0 (nI za_18) zt_19 (nI zp_20) zm_21 (nI n), zi G b0 160 f, zo3 t0 co en sk (nI zw_22) (nI tx), zr G co 6 fc, zi G ct 160 yct_23, zr G en 6 fe, zi G et 3 (nF (updN fet 0 zw_22))] H := zFill hP hD [2, 5, 6] [0, 0, 1, 0, 0, 2, 3] hAq hk1 hFq ht hP1 hD1 rfl (by decide +kernel)
        have hP := hz9.1
        have hD := hz9.2
        refine lv_aload_n hx hb dX1_readParts_55 rfl (lv_at hl 1 rfl) ?_
        refine z_callv [0, 1] (va_runV (As := []) (rest := []) ⟨hx, hb, hml, hown, hts⟩ (c_X1_next l G E h0 t0 b0 f zt_19 (nI zp_20) zm_21 n za_18 H.size (by first | exact hn | assumption | omega) (by first | exact ha | assumption | omega)) (cwV 0 hts gX1_readParts_X1_next rfl rfl rfl (by decide +kernel) ⟨Nat.le_of_ble_eq_true rfl, Nat.le_of_ble_eq_true rfl⟩) ⟨gPreE_blind, va_recv (q := (RX1, TX1, 7)) hK hP (ci := 1) (q0 := 0) rfl rfl, fun U hU hW => gPreE_ofF [0, 1] hU hW hK hP hD (by decide +kernel) rfl hE hS hA⟩ rfl rfl hl.1 rfl (lv_room (Nat.le_of_ble_eq_true rfl)) dX1_readParts_56 ⟨Nat.le_of_ble_eq_true rfl, Nat.le_of_ble_eq_true rfl⟩) hS hD hA rfl (fun u t H locs ht hvm w_29 hB hz1 hk1 hFq hAq hS => ?_)
        obtain ⟨zb_30, zt_31, zp_32, zm_33⟩ := u
        obtain ⟨hP1, hK1, hD1⟩ := hB
        have w_29 : (zb_30, zt_31, zp_32, zm_33) = mNext f n za_18 zm_21 := w_29
        have hz9 : gPD G A [zo1 h0 t0 b0 (nI zb_30) zt_31 (nI zp_32) zm_33 (nI n), zi G b0 160 f, zo3 t0 co en sk (nI zw_22) (nI tx), zr G co 6 fc, zi G ct 160 yct_23, zr G en 6 fe, zi G et 3 (nF (updN fet 0 zw_22))] H := zFill hP hD [0, 1] [1, 2] hAq hk1 hFq ht hP1 hD1 rfl (by decide +kernel)
        have hP := hz9.1
        have hD := hz9.2
        have hny0 : gNx f n (za_18, zt_19, zp_20, zm_21, zw_22, yct_23) = (zb_30, zt_31, zp_32, zm_33, zw_22, yct_23) := gNx_of w_29
        have hle := nx_le9 w_29 (by omega)
        have hPt0 : gPt f n 0 ((zb_3, zt_4, zp_5, zm_6, w0, fct), fet) = (true, ((zb_30, zt_31, zp_32, zm_33, zw_22, yct_23), updN fet 0 zw_22)) := gPt_t hT0 (by show gOrB f n (gLv f n 5) (gNx f n (zb_3, zt_4, zp_5, zm_6, w0, fct)) = _; rw [hnx0]; exact hR0) h50 hny0
        refine lv_iinc (v := 1) (lv' := [zI 1 1, zR 0 h0]) hx hb dX1_readParts_59 hl (k := 0) rfl (by decide +kernel) (by decide +kernel) rfl (fun ls hl => ?_)
        refine lv_goto (tgt := 6) hx hb dX1_readParts_62 (by decide +kernel) ?_
        refine lv_iload_n hx hb dX1_readParts_6 rfl (lv_at hl 0 rfl) ?_
        refine lv_iconst (v := 2) hx hb dX1_readParts_7 (by decide +kernel) ?_
        refine lv_icmp_gt (tgt := 65) hx hb dX1_readParts_8 (by decide +kernel) (fun c_34 => ?_) (fun c_34 => ?_)
        · exact absurd c_34 (by decide +kernel)
        refine g_aget (D := G.1) (ci := 1) (v := .int zt_31) (C := RX1) (T := TX1) (N := 7) hx hb dX1_readParts_11 rfl (lv_at hl 1 rfl) hts hiX1 hown hK hP 0 rfl rfl 3 (by decide +kernel) kf45 (fun _ h9 => h9) rfl dX1_readParts_12 ?_
        refine lv_bipush (v := 100) hx hb dX1_readParts_15 (by decide +kernel) ?_
        refine lv_iload_n hx hb dX1_readParts_17 rfl (lv_at hl 0 rfl) ?_
        refine lv_iadd hx hb dX1_readParts_18 ?_
        refine g_topi (y := 101) (by decide +kernel) ?_
        refine lv_icmp_eq (tgt := 24) hx hb dX1_readParts_19 (by decide +kernel) (fun c_36 => ?_) (fun c_36 => ?_)
        · skip
          have hT1 : zt_31 = nI (100 + 1) := c_36
          refine lv_aload_n hx hb dX1_readParts_24 rfl (lv_at hl 1 rfl) ?_
          refine z_callv [0, 1] (va_runV (As := []) (rest := []) ⟨hx, hb, hml, hown, hts⟩ (c_X1_next l G E h0 t0 b0 f zt_31 (nI zp_32) zm_33 n zb_30 H.size (by first | exact hn | assumption | omega) (by first | exact ha | assumption | omega)) (cwV 0 hts gX1_readParts_X1_next rfl rfl rfl (by decide +kernel) ⟨Nat.le_of_ble_eq_true rfl, Nat.le_of_ble_eq_true rfl⟩) ⟨gPreE_blind, va_recv (q := (RX1, TX1, 7)) hK hP (ci := 1) (q0 := 0) rfl rfl, fun U hU hW => gPreE_ofF [0, 1] hU hW hK hP hD (by decide +kernel) rfl hE hS hA⟩ rfl rfl hl.1 rfl (lv_room (Nat.le_of_ble_eq_true rfl)) dX1_readParts_25 ⟨Nat.le_of_ble_eq_true rfl, Nat.le_of_ble_eq_true rfl⟩) hS hD hA rfl (fun u t H locs ht hvm w_38 hB hz1 hk1 hFq hAq hS => ?_)
          obtain ⟨zb_39, zt_40, zp_41, zm_42⟩ := u
          obtain ⟨hP1, hK1, hD1⟩ := hB
          have w_38 : (zb_39, zt_40, zp_41, zm_42) = mNext f n zb_30 zm_33 := w_38
          have hz9 : gPD G A [zo1 h0 t0 b0 (nI zb_39) zt_40 (nI zp_41) zm_42 (nI n), zi G b0 160 f, zo3 t0 co en sk (nI zw_22) (nI tx), zr G co 6 fc, zi G ct 160 yct_23, zr G en 6 fe, zi G et 3 (nF (updN fet 0 zw_22))] H := zFill hP hD [0, 1] [1, 2] hAq hk1 hFq ht hP1 hD1 rfl (by decide +kernel)
          have hP := hz9.1
          have hD := hz9.2
          have hnx1 : gNx f n (zb_30, zt_31, zp_32, zm_33, zw_22, yct_23) = (zb_39, zt_40, zp_41, zm_42, zw_22, yct_23) := gNx_of w_38
          have hle := nx_le9 w_38 (by omega)
          refine lv_aload_n hx hb dX1_readParts_28 rfl (lv_at hl 1 rfl) ?_
          refine lv_iconst (v := 0) hx hb dX1_readParts_29 (by decide +kernel) ?_
          refine z_callp [0, 1, 2, 3, 4] (va_runV (As := [.int 0]) (rest := []) ⟨hx, hb, hml, hown, hts⟩ (c_X1_readOr_o0 l G E h0 t0 b0 co en sk ct f fc yct_23 zt_40 zm_42 n zb_39 zp_41 zw_22 tx H.size (by first | exact hn | assumption | omega) (by first | exact ha | assumption | omega) (by first | exact hw0 | assumption | omega) (by first | exact htx | assumption | omega) (by first | exact hc | assumption | omega)) (cwV 1 hts gX1_readParts_X1_readOr rfl rfl rfl (by decide +kernel) ⟨Nat.le_of_ble_eq_true rfl, Nat.le_of_ble_eq_true rfl⟩) ⟨gPreE_blind, va_recv (q := (RX1, TX1, 7)) hK hP (ci := 1) (q0 := 0) rfl rfl, fun U hU hW => gPreE_ofF [0, 1, 2, 3, 4] hU hW hK hP hD (by decide +kernel) rfl hE hS hA⟩ rfl rfl hl.1 rfl (lv_room (Nat.le_of_ble_eq_true rfl)) dX1_readParts_30 ⟨Nat.le_of_ble_eq_true rfl, Nat.le_of_ble_eq_true rfl⟩) hS hD hA rfl (fun r_43 u t H locs ht hvm w_44 hB hz1 hk1 hFq hAq hS => ?_)
          obtain ⟨za_45, zt_46, zp_47, zm_48, zw_49, yct_50⟩ := u
          obtain ⟨hP1, hK1, hD1⟩ := hB
          have w_44 : (za_45 ≤ n ∧ zw_49 ≤ 160) ∧ gRes r_43 (za_45, zt_46, zp_47, zm_48, zw_49, yct_50) (gOrB f n (gLv f n 5) (zb_39, zt_40, zp_41, zm_42, zw_22, yct_23)) := w_44
          have hz9 : gPD G A [zo1 h0 t0 b0 (nI za_45) zt_46 (nI zp_47) zm_48 (nI n), zi G b0 160 f, zo3 t0 co en sk (nI zw_49) (nI tx), zr G co 6 fc, zi G ct 160 yct_50, zr G en 6 fe, zi G et 3 (nF (updN fet 0 zw_22))] H := zFill hP hD [0, 1, 2, 3, 4] [1, 2, 3, 4, 5] hAq hk1 hFq ht hP1 hD1 rfl (by decide +kernel)
          have hP := hz9.1
          have hD := hz9.2
          obtain ⟨hbd, hg1⟩ := w_44
          refine lv_if_eq (tgt := 45) hx hb dX1_readParts_33 (by decide +kernel) (fun c_51 => ?_) (fun c_51 => ?_)
          · skip
            have hR1 := gRes_f hg1 c_51
            refine lv_iconst (v := 0) hx hb dX1_readParts_45 (by decide +kernel) ?_
            have hpost : (fun (r : Int32) (u : Nat × Int32 × Nat × Int32 × Nat × (Nat → Int32) × (Nat → Nat)) => match u with | (za, zt, zp, zm, zw, yct, yet) => (za ≤ n ∧ zw ≤ 160) ∧ gRes r ((za, zt, zp, zm, zw, yct), yet) (gParts f n ((a, x3, 0, x5, w0, fct), fet))) 0 (za_45, zt_46, zp_47, zm_48, zw_49, yct_50, (updN fet 0 zw_22)) := by exact ⟨⟨by omega, by omega⟩, Or.inr ⟨gParts_f1 (by rw [hnxA]; exact hPt0) (gPt_f (x := ((zb_30, zt_31, zp_32, zm_33, zw_22, yct_23), updN fet 0 zw_22)) hT1 (by show gOrB f n (gLv f n 5) (gNx f n (zb_30, zt_31, zp_32, zm_33, zw_22, yct_23)) = _; rw [hnx1]; exact hR1)), rfl⟩⟩
            exact W.zret (v := 0) hx hb hr (rfl) (fun t ht hW => ⟨⟨0, (za_45, zt_46, zp_47, zm_48, zw_49, yct_50, (updN fet 0 zw_22)), rfl, hpost, by rw [ht]; exact hP, va_K.moved hW.alike hK, hD⟩, hS.F ht⟩) hS.2.2 dX1_readParts_46
          · skip
            have hR1 := gRes_t hg1 c_51
            refine g_aget (D := G.1) (ci := 1) (v := .int zt_46) (C := RX1) (T := TX1) (N := 7) hx hb dX1_readParts_36 rfl (lv_at hl 1 rfl) hts hiX1 hown hK hP 0 rfl rfl 3 (by decide +kernel) kf45 (fun _ h9 => h9) rfl dX1_readParts_37 ?_
            refine lv_bipush (v := 59) hx hb dX1_readParts_40 (by decide +kernel) ?_
            refine lv_icmp_eq (tgt := 47) hx hb dX1_readParts_42 (by decide +kernel) (fun c_52 => ?_) (fun c_52 => ?_)
            · skip
              have h51 := c_52
              refine g_aget (D := G.1) (ci := 1) (v := .ref t0) (C := RX1) (T := TX1) (N := 7) hx hb dX1_readParts_47 rfl (lv_at hl 1 rfl) hts hiX1 hown hK hP 0 rfl rfl 0 (by decide +kernel) kf15 (fun _ h9 => h9) rfl dX1_readParts_48 ?_
              refine lv_iload_n hx hb dX1_readParts_51 rfl (lv_at hl 0 rfl) ?_
              refine z_callv [2, 5, 6] (va_runV (As := [.int 1]) (rest := []) ⟨hx, hb, hml, hown, hts⟩ (c_X3_endPart_g l G t0 co en sk et fe (updN fet 0 zw_22) zw_49 tx 1 H.size (by first | exact htx | assumption | omega) (by first | exact he | assumption | omega) (by decide +kernel)) (cwV 1 hts gX1_readParts_X3_endPart rfl rfl rfl (by decide +kernel) ⟨Nat.le_of_ble_eq_true rfl, Nat.le_of_ble_eq_true rfl⟩) ⟨gPre_blind, va_recv (q := (RX3, TX3, 5)) hK hP (ci := 3) (q0 := 2) rfl rfl, fun U hU hW => gPre_ofF [2, 5, 6] hU hW hK hP hD (by decide +kernel) rfl⟩ rfl rfl hl.1 rfl (lv_room (Nat.le_of_ble_eq_true rfl)) dX1_readParts_52 ⟨Nat.le_of_ble_eq_true rfl, Nat.le_of_ble_eq_true rfl⟩) hS hD hA rfl (fun u t H locs ht hvm w_54 hB hz1 hk1 hFq hAq hS => ?_)
              obtain ⟨hP1, hK1, hD1⟩ := hB
              have hz9 : gPD G A [zo1 h0 t0 b0 (nI za_45) zt_46 (nI zp_47) zm_48 (nI n), zi G b0 160 f, zo3 t0 co en sk (nI zw_49) (nI tx), zr G co 6 fc, zi G ct 160 yct_50, zr G en 6 fe, zi G et 3 (nF (updN (updN fet 0 zw_22) 1 zw_49))] H := zFill hP hD [2, 5, 6] [0, 0, 1, 0, 0, 2, 3] hAq hk1 hFq ht hP1 hD1 rfl (by decide +kernel)
              have hP := hz9.1
              have hD := hz9.2
              refine lv_aload_n hx hb dX1_readParts_55 rfl (lv_at hl 1 rfl) ?_
              refine z_callv [0, 1] (va_runV (As := []) (rest := []) ⟨hx, hb, hml, hown, hts⟩ (c_X1_next l G E h0 t0 b0 f zt_46 (nI zp_47) zm_48 n za_45 H.size (by first | exact hn | assumption | omega) (by first | exact ha | assumption | omega)) (cwV 0 hts gX1_readParts_X1_next rfl rfl rfl (by decide +kernel) ⟨Nat.le_of_ble_eq_true rfl, Nat.le_of_ble_eq_true rfl⟩) ⟨gPreE_blind, va_recv (q := (RX1, TX1, 7)) hK hP (ci := 1) (q0 := 0) rfl rfl, fun U hU hW => gPreE_ofF [0, 1] hU hW hK hP hD (by decide +kernel) rfl hE hS hA⟩ rfl rfl hl.1 rfl (lv_room (Nat.le_of_ble_eq_true rfl)) dX1_readParts_56 ⟨Nat.le_of_ble_eq_true rfl, Nat.le_of_ble_eq_true rfl⟩) hS hD hA rfl (fun u t H locs ht hvm w_56 hB hz1 hk1 hFq hAq hS => ?_)
              obtain ⟨zb_57, zt_58, zp_59, zm_60⟩ := u
              obtain ⟨hP1, hK1, hD1⟩ := hB
              have w_56 : (zb_57, zt_58, zp_59, zm_60) = mNext f n za_45 zm_48 := w_56
              have hz9 : gPD G A [zo1 h0 t0 b0 (nI zb_57) zt_58 (nI zp_59) zm_60 (nI n), zi G b0 160 f, zo3 t0 co en sk (nI zw_49) (nI tx), zr G co 6 fc, zi G ct 160 yct_50, zr G en 6 fe, zi G et 3 (nF (updN (updN fet 0 zw_22) 1 zw_49))] H := zFill hP hD [0, 1] [1, 2] hAq hk1 hFq ht hP1 hD1 rfl (by decide +kernel)
              have hP := hz9.1
              have hD := hz9.2
              have hny1 : gNx f n (za_45, zt_46, zp_47, zm_48, zw_49, yct_50) = (zb_57, zt_58, zp_59, zm_60, zw_49, yct_50) := gNx_of w_56
              have hle := nx_le9 w_56 (by omega)
              have hPt1 : gPt f n 1 ((zb_30, zt_31, zp_32, zm_33, zw_22, yct_23), updN fet 0 zw_22) = (true, ((zb_57, zt_58, zp_59, zm_60, zw_49, yct_50), updN (updN fet 0 zw_22) 1 zw_49)) := gPt_t hT1 (by show gOrB f n (gLv f n 5) (gNx f n (zb_30, zt_31, zp_32, zm_33, zw_22, yct_23)) = _; rw [hnx1]; exact hR1) h51 hny1
              refine lv_iinc (v := 2) (lv' := [zI 1 2, zR 0 h0]) hx hb dX1_readParts_59 hl (k := 0) rfl (by decide +kernel) (by decide +kernel) rfl (fun ls hl => ?_)
              refine lv_goto (tgt := 6) hx hb dX1_readParts_62 (by decide +kernel) ?_
              refine lv_iload_n hx hb dX1_readParts_6 rfl (lv_at hl 0 rfl) ?_
              refine lv_iconst (v := 2) hx hb dX1_readParts_7 (by decide +kernel) ?_
              refine lv_icmp_gt (tgt := 65) hx hb dX1_readParts_8 (by decide +kernel) (fun c_61 => ?_) (fun c_61 => ?_)
              · exact absurd c_61 (by decide +kernel)
              refine g_aget (D := G.1) (ci := 1) (v := .int zt_58) (C := RX1) (T := TX1) (N := 7) hx hb dX1_readParts_11 rfl (lv_at hl 1 rfl) hts hiX1 hown hK hP 0 rfl rfl 3 (by decide +kernel) kf45 (fun _ h9 => h9) rfl dX1_readParts_12 ?_
              refine lv_bipush (v := 100) hx hb dX1_readParts_15 (by decide +kernel) ?_
              refine lv_iload_n hx hb dX1_readParts_17 rfl (lv_at hl 0 rfl) ?_
              refine lv_iadd hx hb dX1_readParts_18 ?_
              refine g_topi (y := 102) (by decide +kernel) ?_
              refine lv_icmp_eq (tgt := 24) hx hb dX1_readParts_19 (by decide +kernel) (fun c_63 => ?_) (fun c_63 => ?_)
              · skip
                have hT2 : zt_58 = nI (100 + 2) := c_63
                refine lv_aload_n hx hb dX1_readParts_24 rfl (lv_at hl 1 rfl) ?_
                refine z_callv [0, 1] (va_runV (As := []) (rest := []) ⟨hx, hb, hml, hown, hts⟩ (c_X1_next l G E h0 t0 b0 f zt_58 (nI zp_59) zm_60 n zb_57 H.size (by first | exact hn | assumption | omega) (by first | exact ha | assumption | omega)) (cwV 0 hts gX1_readParts_X1_next rfl rfl rfl (by decide +kernel) ⟨Nat.le_of_ble_eq_true rfl, Nat.le_of_ble_eq_true rfl⟩) ⟨gPreE_blind, va_recv (q := (RX1, TX1, 7)) hK hP (ci := 1) (q0 := 0) rfl rfl, fun U hU hW => gPreE_ofF [0, 1] hU hW hK hP hD (by decide +kernel) rfl hE hS hA⟩ rfl rfl hl.1 rfl (lv_room (Nat.le_of_ble_eq_true rfl)) dX1_readParts_25 ⟨Nat.le_of_ble_eq_true rfl, Nat.le_of_ble_eq_true rfl⟩) hS hD hA rfl (fun u t H locs ht hvm w_65 hB hz1 hk1 hFq hAq hS => ?_)
                obtain ⟨zb_66, zt_67, zp_68, zm_69⟩ := u
                obtain ⟨hP1, hK1, hD1⟩ := hB
                have w_65 : (zb_66, zt_67, zp_68, zm_69) = mNext f n zb_57 zm_60 := w_65
                have hz9 : gPD G A [zo1 h0 t0 b0 (nI zb_66) zt_67 (nI zp_68) zm_69 (nI n), zi G b0 160 f, zo3 t0 co en sk (nI zw_49) (nI tx), zr G co 6 fc, zi G ct 160 yct_50, zr G en 6 fe, zi G et 3 (nF (updN (updN fet 0 zw_22) 1 zw_49))] H := zFill hP hD [0, 1] [1, 2] hAq hk1 hFq ht hP1 hD1 rfl (by decide +kernel)
                have hP := hz9.1
                have hD := hz9.2
                have hnx2 : gNx f n (zb_57, zt_58, zp_59, zm_60, zw_49, yct_50) = (zb_66, zt_67, zp_68, zm_69, zw_49, yct_50) := gNx_of w_65
                have hle := nx_le9 w_65 (by omega)
                refine lv_aload_n hx hb dX1_readParts_28 rfl (lv_at hl 1 rfl) ?_
                refine lv_iconst (v := 0) hx hb dX1_readParts_29 (by decide +kernel) ?_
                refine z_callp [0, 1, 2, 3, 4] (va_runV (As := [.int 0]) (rest := []) ⟨hx, hb, hml, hown, hts⟩ (c_X1_readOr_o0 l G E h0 t0 b0 co en sk ct f fc yct_50 zt_67 zm_69 n zb_66 zp_68 zw_49 tx H.size (by first | exact hn | assumption | omega) (by first | exact ha | assumption | omega) (by first | exact hw0 | assumption | omega) (by first | exact htx | assumption | omega) (by first | exact hc | assumption | omega)) (cwV 1 hts gX1_readParts_X1_readOr rfl rfl rfl (by decide +kernel) ⟨Nat.le_of_ble_eq_true rfl, Nat.le_of_ble_eq_true rfl⟩) ⟨gPreE_blind, va_recv (q := (RX1, TX1, 7)) hK hP (ci := 1) (q0 := 0) rfl rfl, fun U hU hW => gPreE_ofF [0, 1, 2, 3, 4] hU hW hK hP hD (by decide +kernel) rfl hE hS hA⟩ rfl rfl hl.1 rfl (lv_room (Nat.le_of_ble_eq_true rfl)) dX1_readParts_30 ⟨Nat.le_of_ble_eq_true rfl, Nat.le_of_ble_eq_true rfl⟩) hS hD hA rfl (fun r_70 u t H locs ht hvm w_71 hB hz1 hk1 hFq hAq hS => ?_)
                obtain ⟨za_72, zt_73, zp_74, zm_75, zw_76, yct_77⟩ := u
                obtain ⟨hP1, hK1, hD1⟩ := hB
                have w_71 : (za_72 ≤ n ∧ zw_76 ≤ 160) ∧ gRes r_70 (za_72, zt_73, zp_74, zm_75, zw_76, yct_77) (gOrB f n (gLv f n 5) (zb_66, zt_67, zp_68, zm_69, zw_49, yct_50)) := w_71
                have hz9 : gPD G A [zo1 h0 t0 b0 (nI za_72) zt_73 (nI zp_74) zm_75 (nI n), zi G b0 160 f, zo3 t0 co en sk (nI zw_76) (nI tx), zr G co 6 fc, zi G ct 160 yct_77, zr G en 6 fe, zi G et 3 (nF (updN (updN fet 0 zw_22) 1 zw_49))] H := zFill hP hD [0, 1, 2, 3, 4] [1, 2, 3, 4, 5] hAq hk1 hFq ht hP1 hD1 rfl (by decide +kernel)
                have hP := hz9.1
                have hD := hz9.2
                obtain ⟨hbd, hg2⟩ := w_71
                refine lv_if_eq (tgt := 45) hx hb dX1_readParts_33 (by decide +kernel) (fun c_78 => ?_) (fun c_78 => ?_)
                · skip
                  have hR2 := gRes_f hg2 c_78
                  refine lv_iconst (v := 0) hx hb dX1_readParts_45 (by decide +kernel) ?_
                  have hpost : (fun (r : Int32) (u : Nat × Int32 × Nat × Int32 × Nat × (Nat → Int32) × (Nat → Nat)) => match u with | (za, zt, zp, zm, zw, yct, yet) => (za ≤ n ∧ zw ≤ 160) ∧ gRes r ((za, zt, zp, zm, zw, yct), yet) (gParts f n ((a, x3, 0, x5, w0, fct), fet))) 0 (za_72, zt_73, zp_74, zm_75, zw_76, yct_77, (updN (updN fet 0 zw_22) 1 zw_49)) := by exact ⟨⟨by omega, by omega⟩, Or.inr ⟨gParts_f2 (by rw [hnxA]; exact hPt0) hPt1 (gPt_f (x := ((zb_57, zt_58, zp_59, zm_60, zw_49, yct_50), updN (updN fet 0 zw_22) 1 zw_49)) hT2 (by show gOrB f n (gLv f n 5) (gNx f n (zb_57, zt_58, zp_59, zm_60, zw_49, yct_50)) = _; rw [hnx2]; exact hR2)), rfl⟩⟩
                  exact W.zret (v := 0) hx hb hr (rfl) (fun t ht hW => ⟨⟨0, (za_72, zt_73, zp_74, zm_75, zw_76, yct_77, (updN (updN fet 0 zw_22) 1 zw_49)), rfl, hpost, by rw [ht]; exact hP, va_K.moved hW.alike hK, hD⟩, hS.F ht⟩) hS.2.2 dX1_readParts_46
                · skip
                  have hR2 := gRes_t hg2 c_78
                  refine g_aget (D := G.1) (ci := 1) (v := .int zt_73) (C := RX1) (T := TX1) (N := 7) hx hb dX1_readParts_36 rfl (lv_at hl 1 rfl) hts hiX1 hown hK hP 0 rfl rfl 3 (by decide +kernel) kf45 (fun _ h9 => h9) rfl dX1_readParts_37 ?_
                  refine lv_bipush (v := 59) hx hb dX1_readParts_40 (by decide +kernel) ?_
                  refine lv_icmp_eq (tgt := 47) hx hb dX1_readParts_42 (by decide +kernel) (fun c_79 => ?_) (fun c_79 => ?_)
                  · skip
                    have h52 := c_79
                    refine g_aget (D := G.1) (ci := 1) (v := .ref t0) (C := RX1) (T := TX1) (N := 7) hx hb dX1_readParts_47 rfl (lv_at hl 1 rfl) hts hiX1 hown hK hP 0 rfl rfl 0 (by decide +kernel) kf15 (fun _ h9 => h9) rfl dX1_readParts_48 ?_
                    refine lv_iload_n hx hb dX1_readParts_51 rfl (lv_at hl 0 rfl) ?_
                    refine z_callv [2, 5, 6] (va_runV (As := [.int 2]) (rest := []) ⟨hx, hb, hml, hown, hts⟩ (c_X3_endPart_g l G t0 co en sk et fe (updN (updN fet 0 zw_22) 1 zw_49) zw_76 tx 2 H.size (by first | exact htx | assumption | omega) (by first | exact he | assumption | omega) (by decide +kernel)) (cwV 1 hts gX1_readParts_X3_endPart rfl rfl rfl (by decide +kernel) ⟨Nat.le_of_ble_eq_true rfl, Nat.le_of_ble_eq_true rfl⟩) ⟨gPre_blind, va_recv (q := (RX3, TX3, 5)) hK hP (ci := 3) (q0 := 2) rfl rfl, fun U hU hW => gPre_ofF [2, 5, 6] hU hW hK hP hD (by decide +kernel) rfl⟩ rfl rfl hl.1 rfl (lv_room (Nat.le_of_ble_eq_true rfl)) dX1_readParts_52 ⟨Nat.le_of_ble_eq_true rfl, Nat.le_of_ble_eq_true rfl⟩) hS hD hA rfl (fun u t H locs ht hvm w_81 hB hz1 hk1 hFq hAq hS => ?_)
                    obtain ⟨hP1, hK1, hD1⟩ := hB
                    have hz9 : gPD G A [zo1 h0 t0 b0 (nI za_72) zt_73 (nI zp_74) zm_75 (nI n), zi G b0 160 f, zo3 t0 co en sk (nI zw_76) (nI tx), zr G co 6 fc, zi G ct 160 yct_77, zr G en 6 fe, zi G et 3 (nF (updN (updN (updN fet 0 zw_22) 1 zw_49) 2 zw_76))] H := zFill hP hD [2, 5, 6] [0, 0, 1, 0, 0, 2, 3] hAq hk1 hFq ht hP1 hD1 rfl (by decide +kernel)
                    have hP := hz9.1
                    have hD := hz9.2
                    refine lv_aload_n hx hb dX1_readParts_55 rfl (lv_at hl 1 rfl) ?_
                    refine z_callv [0, 1] (va_runV (As := []) (rest := []) ⟨hx, hb, hml, hown, hts⟩ (c_X1_next l G E h0 t0 b0 f zt_73 (nI zp_74) zm_75 n za_72 H.size (by first | exact hn | assumption | omega) (by first | exact ha | assumption | omega)) (cwV 0 hts gX1_readParts_X1_next rfl rfl rfl (by decide +kernel) ⟨Nat.le_of_ble_eq_true rfl, Nat.le_of_ble_eq_true rfl⟩) ⟨gPreE_blind, va_recv (q := (RX1, TX1, 7)) hK hP (ci := 1) (q0 := 0) rfl rfl, fun U hU hW => gPreE_ofF [0, 1] hU hW hK hP hD (by decide +kernel) rfl hE hS hA⟩ rfl rfl hl.1 rfl (lv_room (Nat.le_of_ble_eq_true rfl)) dX1_readParts_56 ⟨Nat.le_of_ble_eq_true rfl, Nat.le_of_ble_eq_true rfl⟩) hS hD hA rfl (fun u t H locs ht hvm w_83 hB hz1 hk1 hFq hAq hS => ?_)
                    obtain ⟨zb_84, zt_85, zp_86, zm_87⟩ := u
                    obtain ⟨hP1, hK1, hD1⟩ := hB
                    have w_83 : (zb_84, zt_85, zp_86, zm_87) = mNext f n za_72 zm_75 := w_83
                    have hz9 : gPD G A [zo1 h0 t0 b0 (nI zb_84) zt_85 (nI zp_86) zm_87 (nI n), zi G b0 160 f, zo3 t0 co en sk (nI zw_76) (nI tx), zr G co 6 fc, zi G ct 160 yct_77, zr G en 6 fe, zi G et 3 (nF (updN (updN (updN fet 0 zw_22) 1 zw_49) 2 zw_76))] H := zFill hP hD [0, 1] [1, 2] hAq hk1 hFq ht hP1 hD1 rfl (by decide +kernel)
                    have hP := hz9.1
                    have hD := hz9.2
                    have hny2 : gNx f n (za_72, zt_73, zp_74, zm_75, zw_76, yct_77) = (zb_84, zt_85, zp_86, zm_87, zw_76, yct_77) := gNx_of w_83
                    have hle := nx_le9 w_83 (by omega)
                    have hPt2 : gPt f n 2 ((zb_57, zt_58, zp_59, zm_60, zw_49, yct_50), updN (updN fet 0 zw_22) 1 zw_49) = (true, ((zb_84, zt_85, zp_86, zm_87, zw_76, yct_77), updN (updN (updN fet 0 zw_22) 1 zw_49) 2 zw_76)) := gPt_t hT2 (by show gOrB f n (gLv f n 5) (gNx f n (zb_57, zt_58, zp_59, zm_60, zw_49, yct_50)) = _; rw [hnx2]; exact hR2) h52 hny2
                    refine lv_iinc (v := 3) (lv' := [zI 1 3, zR 0 h0]) hx hb dX1_readParts_59 hl (k := 0) rfl (by decide +kernel) (by decide +kernel) rfl (fun ls hl => ?_)
                    refine lv_goto (tgt := 6) hx hb dX1_readParts_62 (by decide +kernel) ?_
                    refine lv_iload_n hx hb dX1_readParts_6 rfl (lv_at hl 0 rfl) ?_
                    refine lv_iconst (v := 2) hx hb dX1_readParts_7 (by decide +kernel) ?_
                    refine lv_icmp_gt (tgt := 65) hx hb dX1_readParts_8 (by decide +kernel) (fun c_88 => ?_) (fun c_88 => ?_)
                    rotate_left
                    · exact absurd (by decide +kernel) c_88
                    refine g_aget (D := G.1) (ci := 1) (v := .int zt_85) (C := RX1) (T := TX1) (N := 7) hx hb dX1_readParts_65 rfl (lv_at hl 1 rfl) hts hiX1 hown hK hP 0 rfl rfl 3 (by decide +kernel) kf45 (fun _ h9 => h9) rfl dX1_readParts_66 ?_
                    refine lv_if_ne (tgt := 76) hx hb dX1_readParts_69 (by decide +kernel) (fun c_89 => ?_) (fun c_89 => ?_)
                    · skip
                      have hend := c_89
                      refine lv_iconst (v := 0) hx hb dX1_readParts_76 (by decide +kernel) ?_
                      have hpost : (fun (r : Int32) (u : Nat × Int32 × Nat × Int32 × Nat × (Nat → Int32) × (Nat → Nat)) => match u with | (za, zt, zp, zm, zw, yct, yet) => (za ≤ n ∧ zw ≤ 160) ∧ gRes r ((za, zt, zp, zm, zw, yct), yet) (gParts f n ((a, x3, 0, x5, w0, fct), fet))) 0 (zb_84, zt_85, zp_86, zm_87, zw_76, yct_77, (updN (updN (updN fet 0 zw_22) 1 zw_49) 2 zw_76)) := by refine ⟨⟨by omega, by omega⟩, Or.inr ⟨(gParts_3 (by rw [hnxA]; exact hPt0) hPt1 hPt2).trans ?_, rfl⟩⟩; rw [decide_eq_false (show ¬ zt_85 = 0 from hend)]
                      exact W.zret (v := 0) hx hb hr (rfl) (fun t ht hW => ⟨⟨0, (zb_84, zt_85, zp_86, zm_87, zw_76, yct_77, (updN (updN (updN fet 0 zw_22) 1 zw_49) 2 zw_76)), rfl, hpost, by rw [ht]; exact hP, va_K.moved hW.alike hK, hD⟩, hS.F ht⟩) hS.2.2 dX1_readParts_77
                    · skip
                      have hend := c_89
                      refine lv_iconst (v := 1) hx hb dX1_readParts_72 (by decide +kernel) ?_
                      refine lv_goto (tgt := 77) hx hb dX1_readParts_73 (by decide +kernel) ?_
                      have hpost : (fun (r : Int32) (u : Nat × Int32 × Nat × Int32 × Nat × (Nat → Int32) × (Nat → Nat)) => match u with | (za, zt, zp, zm, zw, yct, yet) => (za ≤ n ∧ zw ≤ 160) ∧ gRes r ((za, zt, zp, zm, zw, yct), yet) (gParts f n ((a, x3, 0, x5, w0, fct), fet))) 1 (zb_84, zt_85, zp_86, zm_87, zw_76, yct_77, (updN (updN (updN fet 0 zw_22) 1 zw_49) 2 zw_76)) := by refine ⟨⟨by omega, by omega⟩, Or.inl ⟨(gParts_3 (by rw [hnxA]; exact hPt0) hPt1 hPt2).trans ?_, rfl⟩⟩; rw [decide_eq_true (show zt_85 = 0 from hend)]
                      exact W.zret (v := 1) hx hb hr (rfl) (fun t ht hW => ⟨⟨1, (zb_84, zt_85, zp_86, zm_87, zw_76, yct_77, (updN (updN (updN fet 0 zw_22) 1 zw_49) 2 zw_76)), rfl, hpost, by rw [ht]; exact hP, va_K.moved hW.alike hK, hD⟩, hS.F ht⟩) hS.2.2 dX1_readParts_77
                  · skip
                    have h52 := c_79
                    refine lv_iconst (v := 0) hx hb dX1_readParts_45 (by decide +kernel) ?_
                    have hpost : (fun (r : Int32) (u : Nat × Int32 × Nat × Int32 × Nat × (Nat → Int32) × (Nat → Nat)) => match u with | (za, zt, zp, zm, zw, yct, yet) => (za ≤ n ∧ zw ≤ 160) ∧ gRes r ((za, zt, zp, zm, zw, yct), yet) (gParts f n ((a, x3, 0, x5, w0, fct), fet))) 0 (za_72, zt_73, zp_74, zm_75, zw_76, yct_77, (updN (updN fet 0 zw_22) 1 zw_49)) := by exact ⟨⟨by omega, by omega⟩, Or.inr ⟨gParts_f2 (by rw [hnxA]; exact hPt0) hPt1 (gPt_n (x := ((zb_57, zt_58, zp_59, zm_60, zw_49, yct_50), updN (updN fet 0 zw_22) 1 zw_49)) hT2 (by show gOrB f n (gLv f n 5) (gNx f n (zb_57, zt_58, zp_59, zm_60, zw_49, yct_50)) = _; rw [hnx2]; exact hR2) h52), rfl⟩⟩
                    exact W.zret (v := 0) hx hb hr (rfl) (fun t ht hW => ⟨⟨0, (za_72, zt_73, zp_74, zm_75, zw_76, yct_77, (updN (updN fet 0 zw_22) 1 zw_49)), rfl, hpost, by rw [ht]; exact hP, va_K.moved hW.alike hK, hD⟩, hS.F ht⟩) hS.2.2 dX1_readParts_46
              · skip
                have hT2 : ¬ zt_58 = nI (100 + 2) := c_63
                refine lv_iconst (v := 0) hx hb dX1_readParts_22 (by decide +kernel) ?_
                have hpost : (fun (r : Int32) (u : Nat × Int32 × Nat × Int32 × Nat × (Nat → Int32) × (Nat → Nat)) => match u with | (za, zt, zp, zm, zw, yct, yet) => (za ≤ n ∧ zw ≤ 160) ∧ gRes r ((za, zt, zp, zm, zw, yct), yet) (gParts f n ((a, x3, 0, x5, w0, fct), fet))) 0 (zb_57, zt_58, zp_59, zm_60, zw_49, yct_50, (updN (updN fet 0 zw_22) 1 zw_49)) := by exact ⟨⟨by omega, by omega⟩, Or.inr ⟨gParts_f2 (by rw [hnxA]; exact hPt0) hPt1 (gPt_no hT2), rfl⟩⟩
                exact W.zret (v := 0) hx hb hr (rfl) (fun t ht hW => ⟨⟨0, (zb_57, zt_58, zp_59, zm_60, zw_49, yct_50, (updN (updN fet 0 zw_22) 1 zw_49)), rfl, hpost, by rw [ht]; exact hP, va_K.moved hW.alike hK, hD⟩, hS.F ht⟩) hS.2.2 dX1_readParts_23
            · skip
              have h51 := c_52
              refine lv_iconst (v := 0) hx hb dX1_readParts_45 (by decide +kernel) ?_
              have hpost : (fun (r : Int32) (u : Nat × Int32 × Nat × Int32 × Nat × (Nat → Int32) × (Nat → Nat)) => match u with | (za, zt, zp, zm, zw, yct, yet) => (za ≤ n ∧ zw ≤ 160) ∧ gRes r ((za, zt, zp, zm, zw, yct), yet) (gParts f n ((a, x3, 0, x5, w0, fct), fet))) 0 (za_45, zt_46, zp_47, zm_48, zw_49, yct_50, (updN fet 0 zw_22)) := by exact ⟨⟨by omega, by omega⟩, Or.inr ⟨gParts_f1 (by rw [hnxA]; exact hPt0) (gPt_n (x := ((zb_30, zt_31, zp_32, zm_33, zw_22, yct_23), updN fet 0 zw_22)) hT1 (by show gOrB f n (gLv f n 5) (gNx f n (zb_30, zt_31, zp_32, zm_33, zw_22, yct_23)) = _; rw [hnx1]; exact hR1) h51), rfl⟩⟩
              exact W.zret (v := 0) hx hb hr (rfl) (fun t ht hW => ⟨⟨0, (za_45, zt_46, zp_47, zm_48, zw_49, yct_50, (updN fet 0 zw_22)), rfl, hpost, by rw [ht]; exact hP, va_K.moved hW.alike hK, hD⟩, hS.F ht⟩) hS.2.2 dX1_readParts_46
        · skip
          have hT1 : ¬ zt_31 = nI (100 + 1) := c_36
          refine lv_iconst (v := 0) hx hb dX1_readParts_22 (by decide +kernel) ?_
          have hpost : (fun (r : Int32) (u : Nat × Int32 × Nat × Int32 × Nat × (Nat → Int32) × (Nat → Nat)) => match u with | (za, zt, zp, zm, zw, yct, yet) => (za ≤ n ∧ zw ≤ 160) ∧ gRes r ((za, zt, zp, zm, zw, yct), yet) (gParts f n ((a, x3, 0, x5, w0, fct), fet))) 0 (zb_30, zt_31, zp_32, zm_33, zw_22, yct_23, (updN fet 0 zw_22)) := by exact ⟨⟨by omega, by omega⟩, Or.inr ⟨gParts_f1 (by rw [hnxA]; exact hPt0) (gPt_no hT1), rfl⟩⟩
          exact W.zret (v := 0) hx hb hr (rfl) (fun t ht hW => ⟨⟨0, (zb_30, zt_31, zp_32, zm_33, zw_22, yct_23, (updN fet 0 zw_22)), rfl, hpost, by rw [ht]; exact hP, va_K.moved hW.alike hK, hD⟩, hS.F ht⟩) hS.2.2 dX1_readParts_23
      · skip
        have h50 := c_25
        refine lv_iconst (v := 0) hx hb dX1_readParts_45 (by decide +kernel) ?_
        have hpost : (fun (r : Int32) (u : Nat × Int32 × Nat × Int32 × Nat × (Nat → Int32) × (Nat → Nat)) => match u with | (za, zt, zp, zm, zw, yct, yet) => (za ≤ n ∧ zw ≤ 160) ∧ gRes r ((za, zt, zp, zm, zw, yct), yet) (gParts f n ((a, x3, 0, x5, w0, fct), fet))) 0 (za_18, zt_19, zp_20, zm_21, zw_22, yct_23, fet) := by exact ⟨⟨by omega, by omega⟩, Or.inr ⟨gParts_f0 (by rw [hnxA]; exact gPt_n (x := ((zb_3, zt_4, zp_5, zm_6, w0, fct), fet)) hT0 (by show gOrB f n (gLv f n 5) (gNx f n (zb_3, zt_4, zp_5, zm_6, w0, fct)) = _; rw [hnx0]; exact hR0) h50), rfl⟩⟩
        exact W.zret (v := 0) hx hb hr (rfl) (fun t ht hW => ⟨⟨0, (za_18, zt_19, zp_20, zm_21, zw_22, yct_23, fet), rfl, hpost, by rw [ht]; exact hP, va_K.moved hW.alike hK, hD⟩, hS.F ht⟩) hS.2.2 dX1_readParts_46
  · skip
    have hT0 : ¬ zt_4 = nI (100 + 0) := c_9
    refine lv_iconst (v := 0) hx hb dX1_readParts_22 (by decide +kernel) ?_
    have hpost : (fun (r : Int32) (u : Nat × Int32 × Nat × Int32 × Nat × (Nat → Int32) × (Nat → Nat)) => match u with | (za, zt, zp, zm, zw, yct, yet) => (za ≤ n ∧ zw ≤ 160) ∧ gRes r ((za, zt, zp, zm, zw, yct), yet) (gParts f n ((a, x3, 0, x5, w0, fct), fet))) 0 (zb_3, zt_4, zp_5, zm_6, w0, fct, fet) := by exact ⟨⟨by omega, by omega⟩, Or.inr ⟨gParts_f0 (by rw [hnxA]; exact gPt_no hT0), rfl⟩⟩
    exact W.zret (v := 0) hx hb hr (rfl) (fun t ht hW => ⟨⟨0, (zb_3, zt_4, zp_5, zm_6, w0, fct, fet), rfl, hpost, by rw [ht]; exact hP, va_K.moved hW.alike hK, hD⟩, hS.F ht⟩) hS.2.2 dX1_readParts_23
abbrev q_X1_read_g (G : gG) (E : gS) (h0 t0 b0 co en sk ct et : Nat) (f : Nat → Int32) (fc : Nat → Option Nat) (fct : Nat → Int32) (fe : Nat → Option Nat) (fet : Nat → Nat) (x2 : Int32) (x3 : Int32) (x4 : Int32) (x5 : Int32) (wr : Int32) (n : Nat) (tx : Nat) (A : Nat → Prop) : Array Value → State → Outcome → State → Prop := va_Qi (fun (r : Int32) (u : Nat × Int32 × Nat × Int32 × Nat × (Nat → Int32) × (Nat → Nat) × Nat) => match u with | (za, zt, zp, zm, zw, yct, yet, ztx) => zw ≤ 160 ∧ gRead f n tx ((0, x3, 0, x5, 0, fct), fet) r ztx ((za, zt, zp, zm, zw, yct), yet)) (fun (u : Nat × Int32 × Nat × Int32 × Nat × (Nat → Int32) × (Nat → Nat) × Nat) t => match u with | (za, zt, zp, zm, zw, yct, yet, ztx) => va_P G.1 vwCl [zo1 h0 t0 b0 (nI za) zt (nI zp) zm 0, zi G b0 160 f, zo3 t0 co en sk (nI zw) (nI ztx), zr G co 6 fc, zi G ct 160 yct, zr G en 6 fe, zi G et 3 (nF yet)] t.heap ∧ gK G t ∧ va_D A [zo1 h0 t0 b0 (nI za) zt (nI zp) zm 0, zi G b0 160 f, zo3 t0 co en sk (nI zw) (nI ztx), zr G co 6 fc, zi G ct 160 yct, zr G en 6 fe, zi G et 3 (nF yet)]) A
set_option maxHeartbeats 4000000 in
set_option maxRecDepth 100000 in
theorem c_X1_read_g (l : Launch) (G : gG) (E : gS) (h0 t0 b0 co en sk ct et : Nat) (f : Nat → Int32) (fc : Nat → Option Nat) (fct : Nat → Int32) (fe : Nat → Option Nat) (fet : Nat → Nat) (x2 : Int32) (x3 : Int32) (x4 : Int32) (x5 : Int32) (wr : Int32) (n : Nat) (tx : Nat) (sz : Nat) (hn : n ≤ 160) (htx : tx < 6) (hc : fc tx = some ct) (he : fe tx = some et) : Met l yX1_read wsX1_read ({ frames := 44, cells := 0, slots := 0, locals := 961 }) (gPreE G E [.ref h0] [zo1 h0 t0 b0 x2 x3 x4 x5 (nI n), zi G b0 160 f, zo3 t0 co en sk wr (nI tx), zr G co 6 fc, zi G ct 160 fct, zr G en 6 fe, zi G et 3 (nF fet)] sz) (q_X1_read_g G E h0 t0 b0 co en sk ct et f fc fct fe fet x2 x3 x4 x5 wr n tx (va_A [zo1 h0 t0 b0 x2 x3 x4 x5 (nI n), zi G b0 160 f, zo3 t0 co en sk wr (nI tx), zr G co 6 fc, zi G ct 160 fct, zr G en 6 fe, zi G et 3 (nF fet)] sz)) 0 0 (va_A [zo1 h0 t0 b0 x2 x3 x4 x5 (nI n), zi G b0 160 f, zo3 t0 co en sk wr (nI tx), zr G co 6 fc, zi G ct 160 fct, zr G en 6 fe, zi G et 3 (nF fet)] sz) := by
  refine Met.ofW (cc := cX1_read) (maxL := 2) (ret := (some .int)) (by decide +kernel) rfl ?_
  intro p e s m args below meth c s₁ B hml hv
  obtain ⟨rfl, hsz, hP, hK, hD0, hE⟩ := hv
  have hx := B.exec
  have hb := B.bytes
  have hr := B.returns
  have hts := atoms_spec (ws := wsX1_read) B.pre
  have hown : s.vm.findClass RX1 = some m.cls := findClass_of_methodNamed B.named
  have hlocks := B.notSynchronized
  subst hsz
  have hD := hD0.self (sz := s.heap.size)
  generalize hAe : va_A [zo1 h0 t0 b0 x2 x3 x4 x5 (nI n), zi G b0 160 f, zo3 t0 co en sk wr (nI tx), zr G co 6 fc, zi G ct 160 fct, zr G en 6 fe, zi G et 3 (nF fet)] s.heap.size = A at hD hE ⊢
  have hA : ∀ q : Nat, s.heap.size ≤ q → A q := fun q h => by rw [← hAe]; exact Or.inr h
  have hS : va_S A s.heap s.heap [] := va_S.rf
  have hz9 : gPD G A [zo1 h0 t0 b0 x2 x3 x4 x5 (nI n), zi G b0 160 f, zo3 t0 co en sk wr (nI tx), zr G co 6 fc, zi G ct 160 fct, zr G en 6 fe, zi G et 3 (nF fet)] s.heap := ⟨hP, hD⟩
  have hP := hz9.1
  have hD := hz9.2
  have hl := lv_entry ([.ref h0]) (n := 2) (Nat.le_of_ble_eq_true rfl)
  rw [lg_entry_eq]
  generalize (lg_sl ([.ref h0]) ++ List.replicate (2 - (lg_sl ([.ref h0])).length) Slot.unset).toArray = ls at hl ⊢
  have hl : lv_has ls 2 [zR 0 h0] := hl
  have kf23 := hts (.fieldLink RX1 23 "PebbleInShoe$Reader" "at" "I") (by decide +kernel)
  have hiX1 := (by decide +kernel : ∀ w ∈ wsX10, w ∈ wsX1_read)
  have kf15 := hts (.fieldLink RX1 15 "PebbleInShoe$Reader" "texts" "LPebbleInShoe$Texts;") (by decide +kernel)
  have kf19 := hts (.fieldLink RX1 19 "PebbleInShoe$Reader" "length" "I") (by decide +kernel)
  have kf39 := hts (.fieldLink RX1 39 "PebbleInShoe$Reader" "place" "I") (by decide +kernel)
  refine lv_aload_n hx hb dX1_read_0 rfl (lv_at hl 0 rfl) ?_
  refine lv_iconst (v := 0) hx hb dX1_read_1 (by decide +kernel) ?_
  refine va_put (D := G.1) (ci := 1) (v := .int 0) (ty := .int) (C := RX1) (T := TX1) (N := 7) hx hb hts hiX1 tyX1 tyX1_ok nmX1 hown hK hP hD hS 0 rfl rfl 2 (by decide +kernel) kf23 (fun _ h9 => h9) rfl (by decide +kernel) rfl rfl (Nat.le_of_ble_eq_true rfl) dX1_read_2 (fun H locs hP hD hS => ?_)
  have hz9 : gPD G A [zo1 h0 t0 b0 0 x3 x4 x5 (nI n), zi G b0 160 f, zo3 t0 co en sk wr (nI tx), zr G co 6 fc, zi G ct 160 fct, zr G en 6 fe, zi G et 3 (nF fet)] H := ⟨hP, hD⟩
  have hP := hz9.1
  have hD := hz9.2
  refine g_aget (D := G.1) (ci := 1) (v := .ref t0) (C := RX1) (T := TX1) (N := 7) hx hb dX1_read_5 rfl (lv_at hl 0 rfl) hts hiX1 hown hK hP 0 rfl rfl 0 (by decide +kernel) kf15 (fun _ h9 => h9) rfl dX1_read_6 ?_
  refine z_callv [2] (va_runV (As := []) (rest := []) ⟨hx, hb, hml, hown, hts⟩ (c_X3_begin_g l G t0 co en sk wr tx H.size) (cwV 0 hts gX1_read_X3_begin rfl rfl rfl (by decide +kernel) ⟨Nat.le_of_ble_eq_true rfl, Nat.le_of_ble_eq_true rfl⟩) ⟨gPre_blind, va_recv (q := (RX3, TX3, 5)) hK hP (ci := 3) (q0 := 2) rfl rfl, fun U hU hW => gPre_ofF [2] hU hW hK hP hD (by decide +kernel) rfl⟩ rfl rfl hl.1 rfl (lv_room (Nat.le_of_ble_eq_true rfl)) dX1_read_9 ⟨Nat.le_of_ble_eq_true rfl, Nat.le_of_ble_eq_true rfl⟩) hS hD hA rfl (fun u t H locs ht hvm w_2 hB hz1 hk1 hFq hAq hS => ?_)
  obtain ⟨hP1, hK1, hD1⟩ := hB
  have hz9 : gPD G A [zo1 h0 t0 b0 0 x3 x4 x5 (nI n), zi G b0 160 f, zo3 t0 co en sk 0 (nI tx), zr G co 6 fc, zi G ct 160 fct, zr G en 6 fe, zi G et 3 (nF fet)] H := zFill hP hD [2] [0, 0, 1] hAq hk1 hFq ht hP1 hD1 rfl (by decide +kernel)
  have hP := hz9.1
  have hD := hz9.2
  refine lv_aload_n hx hb dX1_read_12 rfl (lv_at hl 0 rfl) ?_
  refine z_callp [0, 1, 2, 3, 4, 5, 6] (va_runV (As := []) (rest := []) ⟨hx, hb, hml, hown, hts⟩ (c_X1_readParts_g l G E h0 t0 b0 co en sk ct et f fc fct x3 x5 n 0 0 tx x4 fe fet H.size (by first | exact hn | assumption | omega) (by first | exact ha | assumption | omega) (by first | exact hw0 | assumption | omega) (by first | exact htx | assumption | omega) (by first | exact hc | assumption | omega) (by first | exact he | assumption | omega)) (cwV 0 hts gX1_read_X1_readParts rfl rfl rfl (by decide +kernel) ⟨Nat.le_of_ble_eq_true rfl, Nat.le_of_ble_eq_true rfl⟩) ⟨gPreE_blind, va_recv (q := (RX1, TX1, 7)) hK hP (ci := 1) (q0 := 0) rfl rfl, fun U hU hW => gPreE_of hU hW hK hP hD hE hS (gFree2 hD hS hA [0, 1, 2, 3, 4, 5, 6])⟩ rfl rfl hl.1 rfl (lv_room (Nat.le_of_ble_eq_true rfl)) dX1_read_13 ⟨Nat.le_of_ble_eq_true rfl, Nat.le_of_ble_eq_true rfl⟩) hS hD hA rfl (fun r_3 u t H locs ht hvm w_4 hB hz1 hk1 hFq hAq hS => ?_)
  obtain ⟨za_5, zt_6, zp_7, zm_8, zw_9, yct_10, yet_11⟩ := u
  obtain ⟨hP1, hK1, hD1⟩ := hB
  have w_4 : (za_5 ≤ n ∧ zw_9 ≤ 160) ∧ gRes r_3 ((za_5, zt_6, zp_7, zm_8, zw_9, yct_10), yet_11) (gParts f n ((0, x3, 0, x5, 0, fct), fet)) := w_4
  have hz9 : gPD G A [zo1 h0 t0 b0 (nI za_5) zt_6 (nI zp_7) zm_8 (nI n), zi G b0 160 f, zo3 t0 co en sk (nI zw_9) (nI tx), zr G co 6 fc, zi G ct 160 yct_10, zr G en 6 fe, zi G et 3 (nF yet_11)] H := zFill hP hD [0, 1, 2, 3, 4, 5, 6] [1, 2, 3, 4, 5, 6, 7] hAq hk1 hFq ht hP1 hD1 rfl (by decide +kernel)
  have hP := hz9.1
  have hD := hz9.2
  obtain ⟨hbd, hg⟩ := w_4
  refine lv_istore_n (lv' := [zI 1 r_3, zR 0 h0]) hx hb dX1_read_16 rfl hl (by decide +kernel) rfl (fun ls hl => ?_)
  refine lv_aload_n hx hb dX1_read_17 rfl (lv_at hl 1 rfl) ?_
  refine lv_iconst (v := 0) hx hb dX1_read_18 (by decide +kernel) ?_
  refine va_put (D := G.1) (ci := 1) (v := .int 0) (ty := .int) (C := RX1) (T := TX1) (N := 7) hx hb hts hiX1 tyX1 tyX1_ok nmX1 hown hK hP hD hS 0 rfl rfl 6 (by decide +kernel) kf19 (fun _ h9 => h9) rfl (by decide +kernel) rfl rfl (Nat.le_of_ble_eq_true rfl) dX1_read_19 (fun H locs hP hD hS => ?_)
  have hz9 : gPD G A [zo1 h0 t0 b0 (nI za_5) zt_6 (nI zp_7) zm_8 0, zi G b0 160 f, zo3 t0 co en sk (nI zw_9) (nI tx), zr G co 6 fc, zi G ct 160 yct_10, zr G en 6 fe, zi G et 3 (nF yet_11)] H := ⟨hP, hD⟩
  have hP := hz9.1
  have hD := hz9.2
  refine lv_iload_n hx hb dX1_read_22 rfl (lv_at hl 0 rfl) ?_
  refine lv_if_eq (tgt := 36) hx hb dX1_read_23 (by decide +kernel) (fun c_12 => ?_) (fun c_12 => ?_)
  · skip
    have hR := gRes_f hg c_12
    refine lv_bipush (v := -100) hx hb dX1_read_36 (by decide +kernel) ?_
    refine g_aget (D := G.1) (ci := 1) (v := .int (nI zp_7)) (C := RX1) (T := TX1) (N := 7) hx hb dX1_read_38 rfl (lv_at hl 1 rfl) hts hiX1 hown hK hP 0 rfl rfl 4 (by decide +kernel) kf39 (fun _ h9 => h9) rfl dX1_read_39 ?_
    refine lv_isub hx hb dX1_read_42 ?_
    have hpost : (fun (r : Int32) (u : Nat × Int32 × Nat × Int32 × Nat × (Nat → Int32) × (Nat → Nat) × Nat) => match u with | (za, zt, zp, zm, zw, yct, yet, ztx) => zw ≤ 160 ∧ gRead f n tx ((0, x3, 0, x5, 0, fct), fet) r ztx ((za, zt, zp, zm, zw, yct), yet)) ((-100) - (nI zp_7)) (za_5, zt_6, zp_7, zm_8, zw_9, yct_10, yet_11, tx) := by exact ⟨by omega, Or.inr ⟨hR, rfl, rfl⟩⟩
    exact W.iret (v := ((-100) - (nI zp_7))) hx hb hr (fun t ht hW => ⟨⟨((-100) - (nI zp_7)), (za_5, zt_6, zp_7, zm_8, zw_9, yct_10, yet_11, tx), rfl, hpost, by rw [ht]; exact hP, va_K.moved hW.alike hK, hD⟩, hS.F ht⟩) hS.2.2 dX1_read_43
  · skip
    have hR := gRes_t hg c_12
    refine g_aget (D := G.1) (ci := 1) (v := .ref t0) (C := RX1) (T := TX1) (N := 7) hx hb dX1_read_26 rfl (lv_at hl 1 rfl) hts hiX1 hown hK hP 0 rfl rfl 0 (by decide +kernel) kf15 (fun _ h9 => h9) rfl dX1_read_27 ?_
    refine z_calli [2] (v := nI tx) (fun _ _ h => h) (va_runV (As := []) (rest := []) ⟨hx, hb, hml, hown, hts⟩ (c_X3_keep_g l G t0 co en sk (nI zw_9) tx H.size (by first | exact htx | assumption | omega)) (cwV 0 hts gX1_read_X3_keep rfl rfl rfl (by decide +kernel) ⟨Nat.le_of_ble_eq_true rfl, Nat.le_of_ble_eq_true rfl⟩) ⟨gPre_blind, va_recv (q := (RX3, TX3, 5)) hK hP (ci := 3) (q0 := 2) rfl rfl, fun U hU hW => gPre_ofF [2] hU hW hK hP hD (by decide +kernel) rfl⟩ rfl rfl hl.1 rfl (lv_room (Nat.le_of_ble_eq_true rfl)) dX1_read_30 ⟨Nat.le_of_ble_eq_true rfl, Nat.le_of_ble_eq_true rfl⟩) hS hD hA rfl (fun u t H locs ht hvm hB hz1 hk1 hFq hAq hS => ?_)
    obtain ⟨hP1, hK1, hD1⟩ := hB
    have hz9 : gPD G A [zo1 h0 t0 b0 (nI za_5) zt_6 (nI zp_7) zm_8 0, zi G b0 160 f, zo3 t0 co en sk (nI zw_9) (nI (tx + 1)), zr G co 6 fc, zi G ct 160 yct_10, zr G en 6 fe, zi G et 3 (nF yet_11)] H := zFill hP hD [2] [0, 0, 1] hAq hk1 hFq ht hP1 hD1 rfl (by decide +kernel)
    have hP := hz9.1
    have hD := hz9.2
    refine lv_goto (tgt := 43) hx hb dX1_read_33 (by decide +kernel) ?_
    have hpost : (fun (r : Int32) (u : Nat × Int32 × Nat × Int32 × Nat × (Nat → Int32) × (Nat → Nat) × Nat) => match u with | (za, zt, zp, zm, zw, yct, yet, ztx) => zw ≤ 160 ∧ gRead f n tx ((0, x3, 0, x5, 0, fct), fet) r ztx ((za, zt, zp, zm, zw, yct), yet)) (nI tx) (za_5, zt_6, zp_7, zm_8, zw_9, yct_10, yet_11, (tx + 1)) := by exact ⟨by omega, Or.inl ⟨hR, rfl, rfl⟩⟩
    exact W.iret (v := (nI tx)) hx hb hr (fun t ht hW => ⟨⟨(nI tx), (za_5, zt_6, zp_7, zm_8, zw_9, yct_10, yet_11, (tx + 1)), rfl, hpost, by rw [ht]; exact hP, va_K.moved hW.alike hK, hD⟩, hS.F ht⟩) hS.2.2 dX1_read_43
abbrev q_X5_text_A (G : gG) (E : gS) (h0 t0 rd nw th kp sh tu b0 co en sk ct et : Nat) (f : Nat → Int32) (fc : Nat → Option Nat) (fct : Nat → Int32) (fe : Nat → Option Nat) (fet : Nat → Nat) (x2 : Int32) (x3 : Int32) (x4 : Int32) (x5 : Int32) (wr : Int32) (n : Nat) (tx : Nat) (him : Int32) (A : Nat → Prop) : Array Value → State → Outcome → State → Prop := va_Qi (fun (r : Int32) (u : Nat × Int32 × Nat × Int32 × Nat × (Nat → Int32) × (Nat → Nat) × Nat) => match u with | (za, zt, zp, zm, zw, yct, yet, ztx) => zw ≤ 160 ∧ gRead f n tx ((0, x3, 0, x5, 0, fct), fet) r ztx ((za, zt, zp, zm, zw, yct), yet)) (fun (u : Nat × Int32 × Nat × Int32 × Nat × (Nat → Int32) × (Nat → Nat) × Nat) t => match u with | (za, zt, zp, zm, zw, yct, yet, ztx) => va_P G.1 vwCl [zo5 h0 t0 rd nw th kp sh tu him, zo1 rd t0 b0 (nI za) zt (nI zp) zm 0, zi G b0 160 f, zo3 t0 co en sk (nI zw) (nI ztx), zr G co 6 fc, zi G ct 160 yct, zr G en 6 fe, zi G et 3 (nF yet)] t.heap ∧ gK G t ∧ va_D A [zo5 h0 t0 rd nw th kp sh tu him, zo1 rd t0 b0 (nI za) zt (nI zp) zm 0, zi G b0 160 f, zo3 t0 co en sk (nI zw) (nI ztx), zr G co 6 fc, zi G ct 160 yct, zr G en 6 fe, zi G et 3 (nF yet)]) A
set_option maxHeartbeats 4000000 in
set_option maxRecDepth 100000 in
theorem c_X5_text_A (l : Launch) (G : gG) (E : gS) (h0 t0 rd nw th kp sh tu b0 co en sk ct et : Nat) (f : Nat → Int32) (fc : Nat → Option Nat) (fct : Nat → Int32) (fe : Nat → Option Nat) (fet : Nat → Nat) (x2 : Int32) (x3 : Int32) (x4 : Int32) (x5 : Int32) (wr : Int32) (n : Nat) (tx : Nat) (him : Int32) (sz : Nat) (hn : n ≤ 160) (htx : tx < 6) (hc : fc tx = some ct) (he : fe tx = some et) : Met l yX5_text wsX5_text ({ frames := 45, cells := 0, slots := 0, locals := 982 }) (gPreE G E [.ref h0] [zo5 h0 t0 rd nw th kp sh tu him, zo1 rd t0 b0 x2 x3 x4 x5 (nI n), zi G b0 160 f, zo3 t0 co en sk wr (nI tx), zr G co 6 fc, zi G ct 160 fct, zr G en 6 fe, zi G et 3 (nF fet)] sz) (q_X5_text_A G E h0 t0 rd nw th kp sh tu b0 co en sk ct et f fc fct fe fet x2 x3 x4 x5 wr n tx him (va_A [zo5 h0 t0 rd nw th kp sh tu him, zo1 rd t0 b0 x2 x3 x4 x5 (nI n), zi G b0 160 f, zo3 t0 co en sk wr (nI tx), zr G co 6 fc, zi G ct 160 fct, zr G en 6 fe, zi G et 3 (nF fet)] sz)) 0 0 (va_A [zo5 h0 t0 rd nw th kp sh tu him, zo1 rd t0 b0 x2 x3 x4 x5 (nI n), zi G b0 160 f, zo3 t0 co en sk wr (nI tx), zr G co 6 fc, zi G ct 160 fct, zr G en 6 fe, zi G et 3 (nF fet)] sz) := by
  refine Met.ofW (cc := cX5_text) (maxL := 1) (ret := (some .int)) (by decide +kernel) rfl ?_
  intro p e s m args below meth c s₁ B hml hv
  obtain ⟨rfl, hsz, hP, hK, hD0, hE⟩ := hv
  have hx := B.exec
  have hb := B.bytes
  have hr := B.returns
  have hts := atoms_spec (ws := wsX5_text) B.pre
  have hown : s.vm.findClass RX5 = some m.cls := findClass_of_methodNamed B.named
  have hlocks := B.notSynchronized
  subst hsz
  have hD := hD0.self (sz := s.heap.size)
  generalize hAe : va_A [zo5 h0 t0 rd nw th kp sh tu him, zo1 rd t0 b0 x2 x3 x4 x5 (nI n), zi G b0 160 f, zo3 t0 co en sk wr (nI tx), zr G co 6 fc, zi G ct 160 fct, zr G en 6 fe, zi G et 3 (nF fet)] s.heap.size = A at hD hE ⊢
  have hA : ∀ q : Nat, s.heap.size ≤ q → A q := fun q h => by rw [← hAe]; exact Or.inr h
  have hS : va_S A s.heap s.heap [] := va_S.rf
  have hz9 : gPD G A [zo5 h0 t0 rd nw th kp sh tu him, zo1 rd t0 b0 x2 x3 x4 x5 (nI n), zi G b0 160 f, zo3 t0 co en sk wr (nI tx), zr G co 6 fc, zi G ct 160 fct, zr G en 6 fe, zi G et 3 (nF fet)] s.heap := ⟨hP, hD⟩
  have hP := hz9.1
  have hD := hz9.2
  have hl := lv_entry ([.ref h0]) (n := 1) (Nat.le_of_ble_eq_true rfl)
  rw [lg_entry_eq]
  generalize (lg_sl ([.ref h0]) ++ List.replicate (1 - (lg_sl ([.ref h0])).length) Slot.unset).toArray = ls at hl ⊢
  have hl : lv_has ls 1 [zR 0 h0] := hl
  have kf10 := hts (.fieldLink RX5 10 "PebbleInShoe" "texts" "LPebbleInShoe$Texts;") (by decide +kernel)
  have hiX5 := (by decide +kernel : ∀ w ∈ wsX50, w ∈ wsX5_text)
  have kf78 := hts (.fieldLink RX5 78 "PebbleInShoe$Texts" "number" "I") (by decide +kernel)
  have hiX3 := (by decide +kernel : ∀ w ∈ wsX30, w ∈ wsX5_text)
  have kf21 := hts (.fieldLink RX5 21 "PebbleInShoe" "tape" "LPebbleInShoe$Reader;") (by decide +kernel)
  refine g_aget (D := G.1) (ci := 5) (v := .ref t0) (C := RX5) (T := TX5) (N := 8) hx hb dX5_text_0 rfl (lv_at hl 0 rfl) hts hiX5 hown hK hP 0 rfl rfl 0 (by decide +kernel) kf10 (fun _ h9 => h9) rfl dX5_text_1 ?_
  refine va_get (D := G.1) (ci := 3) (v := .int (nI tx)) (C := RX3) (T := TX3) (N := 5) hx hb hts hiX3 hown hK hP 3 rfl rfl 4 (by decide +kernel) kf78 (fun _ h9 => h9) rfl dX5_text_4 ?_
  refine lv_bipush (v := 6) hx hb dX5_text_7 (by decide +kernel) ?_
  refine lv_icmp_lt (tgt := 15) hx hb dX5_text_9 (by decide +kernel) (fun c_1 => ?_) (fun c_1 => ?_)
  rotate_left
  · exact absurd (nI_lt (a := tx) (b := 6) (by omega) (by omega)) c_1
  refine g_aget (D := G.1) (ci := 5) (v := .ref rd) (C := RX5) (T := TX5) (N := 8) hx hb dX5_text_15 rfl (lv_at hl 0 rfl) hts hiX5 hown hK hP 0 rfl rfl 1 (by decide +kernel) kf21 (fun _ h9 => h9) rfl dX5_text_16 ?_
  refine z_callp [1, 2, 3, 4, 5, 6, 7] (va_runV (As := []) (rest := []) ⟨hx, hb, hml, hown, hts⟩ (c_X1_read_g l G E rd t0 b0 co en sk ct et f fc fct fe fet x2 x3 x4 x5 wr n tx s.heap.size (by first | exact hn | assumption | omega) (by first | exact htx | assumption | omega) (by first | exact hc | assumption | omega) (by first | exact he | assumption | omega)) (cwV 0 hts gX5_text_X1_read rfl rfl rfl (by decide +kernel) ⟨Nat.le_of_ble_eq_true rfl, Nat.le_of_ble_eq_true rfl⟩) ⟨gPreE_blind, va_recv (q := (RX1, TX1, 7)) hK hP (ci := 1) (q0 := 1) rfl rfl, fun U hU hW => gPreE_ofF [1, 2, 3, 4, 5, 6, 7] hU hW hK hP hD (by decide +kernel) rfl hE hS hA⟩ rfl rfl hl.1 rfl (lv_room (Nat.le_of_ble_eq_true rfl)) dX5_text_19 ⟨Nat.le_of_ble_eq_true rfl, Nat.le_of_ble_eq_true rfl⟩) hS hD hA rfl (fun r_2 u t H locs ht hvm w_3 hB hz1 hk1 hFq hAq hS => ?_)
  obtain ⟨za_4, zt_5, zp_6, zm_7, zw_8, yct_9, yet_10, ztx_11⟩ := u
  obtain ⟨hP1, hK1, hD1⟩ := hB
  have w_3 : zw_8 ≤ 160 ∧ gRead f n tx ((0, x3, 0, x5, 0, fct), fet) r_2 ztx_11 ((za_4, zt_5, zp_6, zm_7, zw_8, yct_9), yet_10) := w_3
  have hz9 : gPD G A [zo5 h0 t0 rd nw th kp sh tu him, zo1 rd t0 b0 (nI za_4) zt_5 (nI zp_6) zm_7 0, zi G b0 160 f, zo3 t0 co en sk (nI zw_8) (nI ztx_11), zr G co 6 fc, zi G ct 160 yct_9, zr G en 6 fe, zi G et 3 (nF yet_10)] H := zFill hP hD [1, 2, 3, 4, 5, 6, 7] [0, 1, 2, 3, 4, 5, 6, 7] hAq hk1 hFq ht hP1 hD1 rfl (by decide +kernel)
  have hP := hz9.1
  have hD := hz9.2
  have hrd := w_3
  have hpost : (fun (r : Int32) (u : Nat × Int32 × Nat × Int32 × Nat × (Nat → Int32) × (Nat → Nat) × Nat) => match u with | (za, zt, zp, zm, zw, yct, yet, ztx) => zw ≤ 160 ∧ gRead f n tx ((0, x3, 0, x5, 0, fct), fet) r ztx ((za, zt, zp, zm, zw, yct), yet)) r_2 (za_4, zt_5, zp_6, zm_7, zw_8, yct_9, yet_10, ztx_11) := hrd
  exact W.iret (v := r_2) hx hb hr (fun t ht hW => ⟨⟨r_2, (za_4, zt_5, zp_6, zm_7, zw_8, yct_9, yet_10, ztx_11), rfl, hpost, by rw [ht]; exact hP, va_K.moved hW.alike hK, hD⟩, hS.F ht⟩) hS.2.2 dX5_text_22
abbrev q_X5_text_F (G : gG) (h0 t0 rd nw th kp sh tu co en sk : Nat) (wr : Int32) (him : Int32) (A : Nat → Prop) : Array Value → State → Outcome → State → Prop := va_Qi (fun (r : Int32) (u : Unit) => match u with | _ => r = -4) (fun (u : Unit) t => match u with | _ => va_P G.1 vwCl [zo5 h0 t0 rd nw th kp sh tu him, zo3 t0 co en sk wr 6] t.heap ∧ gK G t ∧ va_D A [zo5 h0 t0 rd nw th kp sh tu him, zo3 t0 co en sk wr 6]) A
set_option maxHeartbeats 4000000 in
set_option maxRecDepth 100000 in
theorem c_X5_text_F (l : Launch) (G : gG) (h0 t0 rd nw th kp sh tu co en sk : Nat) (wr : Int32) (him : Int32) (sz : Nat) : Met l yX5_text wsX5_text ({ frames := 0, cells := 0, slots := 0, locals := 0 }) (gPre G [.ref h0] [zo5 h0 t0 rd nw th kp sh tu him, zo3 t0 co en sk wr 6] sz) (q_X5_text_F G h0 t0 rd nw th kp sh tu co en sk wr him (va_A [zo5 h0 t0 rd nw th kp sh tu him, zo3 t0 co en sk wr 6] sz)) 0 0 (va_A [zo5 h0 t0 rd nw th kp sh tu him, zo3 t0 co en sk wr 6] sz) := by
  refine Met.ofW (cc := cX5_text) (maxL := 1) (ret := (some .int)) (by decide +kernel) rfl ?_
  intro p e s m args below meth c s₁ B hml hv
  obtain ⟨rfl, hsz, hP, hK, hD0⟩ := hv
  have hx := B.exec
  have hb := B.bytes
  have hr := B.returns
  have hts := atoms_spec (ws := wsX5_text) B.pre
  have hown : s.vm.findClass RX5 = some m.cls := findClass_of_methodNamed B.named
  have hlocks := B.notSynchronized
  subst hsz
  have hD := hD0.self (sz := s.heap.size)
  generalize hAe : va_A [zo5 h0 t0 rd nw th kp sh tu him, zo3 t0 co en sk wr 6] s.heap.size = A at hD ⊢
  have hA : ∀ q : Nat, s.heap.size ≤ q → A q := fun q h => by rw [← hAe]; exact Or.inr h
  have hS : va_S A s.heap s.heap [] := va_S.rf
  have hz9 : gPD G A [zo5 h0 t0 rd nw th kp sh tu him, zo3 t0 co en sk wr 6] s.heap := ⟨hP, hD⟩
  have hP := hz9.1
  have hD := hz9.2
  have hl := lv_entry ([.ref h0]) (n := 1) (Nat.le_of_ble_eq_true rfl)
  rw [lg_entry_eq]
  generalize (lg_sl ([.ref h0]) ++ List.replicate (1 - (lg_sl ([.ref h0])).length) Slot.unset).toArray = ls at hl ⊢
  have hl : lv_has ls 1 [zR 0 h0] := hl
  have kf10 := hts (.fieldLink RX5 10 "PebbleInShoe" "texts" "LPebbleInShoe$Texts;") (by decide +kernel)
  have hiX5 := (by decide +kernel : ∀ w ∈ wsX50, w ∈ wsX5_text)
  have kf78 := hts (.fieldLink RX5 78 "PebbleInShoe$Texts" "number" "I") (by decide +kernel)
  have hiX3 := (by decide +kernel : ∀ w ∈ wsX30, w ∈ wsX5_text)
  refine g_aget (D := G.1) (ci := 5) (v := .ref t0) (C := RX5) (T := TX5) (N := 8) hx hb dX5_text_0 rfl (lv_at hl 0 rfl) hts hiX5 hown hK hP 0 rfl rfl 0 (by decide +kernel) kf10 (fun _ h9 => h9) rfl dX5_text_1 ?_
  refine va_get (D := G.1) (ci := 3) (v := .int 6) (C := RX3) (T := TX3) (N := 5) hx hb hts hiX3 hown hK hP 1 rfl rfl 4 (by decide +kernel) kf78 (fun _ h9 => h9) rfl dX5_text_4 ?_
  refine lv_bipush (v := 6) hx hb dX5_text_7 (by decide +kernel) ?_
  refine lv_icmp_lt (tgt := 15) hx hb dX5_text_9 (by decide +kernel) (fun c_1 => ?_) (fun c_1 => ?_)
  · exact absurd c_1 (by decide +kernel)
  refine lv_bipush (v := -4) hx hb dX5_text_12 (by decide +kernel) ?_
  have hpost : (fun (r : Int32) (u : Unit) => match u with | _ => r = -4) (-4) () := rfl
  exact W.iret (v := (-4)) hx hb hr (fun t ht hW => ⟨⟨(-4), (), rfl, hpost, by rw [ht]; exact hP, va_K.moved hW.alike hK, hD⟩, hS.F ht⟩) hS.2.2 dX5_text_14
