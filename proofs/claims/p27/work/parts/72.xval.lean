abbrev q_X3_value (G : gG) (h0 co en sk ct et nm : Nat) (tx : Nat) (tn : Nat) (pt : Nat) (wr : Int32) (fc : Nat → Option Nat) (fe : Nat → Option Nat) (fct : Nat → Int32) (fet : Nat → Nat) (fsk : Nat → Int32) (fna : Nat → Int32) (A : Nat → Prop) : Array Value → State → Outcome → State → Prop := va_Qi (fun (r : Int32) (u : (Nat → Int32)) => match u with | ysk => r = mValX fct fet pt fna) (fun (u : (Nat → Int32)) t => match u with | ysk => va_P G.1 vwCl [zo3 h0 co en sk wr (nI tx), zr G co 6 fc, zr G en 6 fe, zi G ct 160 fct, zi G et 3 (nF fet), zi G sk 32 ysk, zi G nm 6 fna] t.heap ∧ gK G t ∧ va_D A [zo3 h0 co en sk wr (nI tx), zr G co 6 fc, zr G en 6 fe, zi G ct 160 fct, zi G et 3 (nF fet), zi G sk 32 ysk, zi G nm 6 fna]) A
set_option maxHeartbeats 4000000 in
set_option maxRecDepth 100000 in
theorem c_X3_value (l : Launch) (G : gG) (h0 co en sk ct et nm : Nat) (tx : Nat) (tn : Nat) (pt : Nat) (wr : Int32) (fc : Nat → Option Nat) (fe : Nat → Option Nat) (fct : Nat → Int32) (fet : Nat → Nat) (fsk : Nat → Int32) (fna : Nat → Int32) (sz : Nat) (htn : tn < tx ∧ tx ≤ 6) (hpt : pt < 3) (hc : fc tn = some ct) (he : fe tn = some et) (hwx : mWx fct fet) : Met l yX3_value wsX3_value ({ frames := 1, cells := 0, slots := 0, locals := 22 }) (gPre G [.ref h0, .int (nI tn), .int (nI pt), .ref nm] [zo3 h0 co en sk wr (nI tx), zr G co 6 fc, zr G en 6 fe, zi G ct 160 fct, zi G et 3 (nF fet), zi G sk 32 fsk, zi G nm 6 fna] sz) (q_X3_value G h0 co en sk ct et nm tx tn pt wr fc fe fct fet fsk fna (va_A [zo3 h0 co en sk wr (nI tx), zr G co 6 fc, zr G en 6 fe, zi G ct 160 fct, zi G et 3 (nF fet), zi G sk 32 fsk, zi G nm 6 fna] sz)) 0 0 (va_A [zo3 h0 co en sk wr (nI tx), zr G co 6 fc, zr G en 6 fe, zi G ct 160 fct, zi G et 3 (nF fet), zi G sk 32 fsk, zi G nm 6 fna] sz) := by
  refine Met.ofW (cc := cX3_value) (maxL := 9) (ret := (some .int)) (by decide +kernel) rfl ?_
  intro p e s m args below meth c s₁ B hml hv
  obtain ⟨rfl, hsz, hP, hK, hD0⟩ := hv
  have hx := B.exec
  have hb := B.bytes
  have hr := B.returns
  have hts := atoms_spec (ws := wsX3_value) B.pre
  have hown : s.vm.findClass RX3 = some m.cls := findClass_of_methodNamed B.named
  have hlocks := B.notSynchronized
  subst hsz
  have hD := hD0.self (sz := s.heap.size)
  generalize hAe : va_A [zo3 h0 co en sk wr (nI tx), zr G co 6 fc, zr G en 6 fe, zi G ct 160 fct, zi G et 3 (nF fet), zi G sk 32 fsk, zi G nm 6 fna] s.heap.size = A at hD ⊢
  have hA : ∀ q : Nat, s.heap.size ≤ q → A q := fun q h => by rw [← hAe]; exact Or.inr h
  have hS : va_S A s.heap s.heap [] := va_S.rf
  have hz9 : gPD G A [zo3 h0 co en sk wr (nI tx), zr G co 6 fc, zr G en 6 fe, zi G ct 160 fct, zi G et 3 (nF fet), zi G sk 32 fsk, zi G nm 6 fna] s.heap := ⟨hP, hD⟩
  have hP := hz9.1
  have hD := hz9.2
  have hl := lv_entry ([.ref h0, .int (nI tn), .int (nI pt), .ref nm]) (n := 9) (Nat.le_of_ble_eq_true rfl)
  rw [lg_entry_eq]
  generalize (lg_sl ([.ref h0, .int (nI tn), .int (nI pt), .ref nm]) ++ List.replicate (9 - (lg_sl ([.ref h0, .int (nI tn), .int (nI pt), .ref nm])).length) Slot.unset).toArray = ls at hl ⊢
  have hl : lv_has ls 9 [zR 0 h0, zI 1 (nI tn), zI 2 (nI pt), zR 3 nm] := hl
  have kf27 := hts (.fieldLink RX3 27 "PebbleInShoe$Texts" "number" "I") (by decide +kernel)
  have hiX3 := (by decide +kernel : ∀ w ∈ wsX30, w ∈ wsX3_value)
  have kf16 := hts (.fieldLink RX3 16 "PebbleInShoe$Texts" "ends" "[[I") (by decide +kernel)
  have kf19 := hts (.fieldLink RX3 19 "PebbleInShoe$Texts" "stack" "[I") (by decide +kernel)
  have kf11 := hts (.fieldLink RX3 11 "PebbleInShoe$Texts" "codes" "[[I") (by decide +kernel)
  obtain ⟨wa, wb, wc⟩ := hwx.1 pt hpt
  refine lv_iload_n hx hb dX3_value_0 rfl (lv_at hl 1 rfl) ?_
  refine lv_if_lt (tgt := 12) hx hb dX3_value_1 (by decide +kernel) (fun c_1 => ?_) (fun c_1 => ?_)
  · exact absurd c_1 (nI_pos (by omega))
  refine lv_iload_n hx hb dX3_value_4 rfl (lv_at hl 1 rfl) ?_
  refine g_aget (D := G.1) (ci := 3) (v := .int (nI tx)) (C := RX3) (T := TX3) (N := 5) hx hb dX3_value_5 rfl (lv_at hl 0 rfl) hts hiX3 hown hK hP 0 rfl rfl 4 (by decide +kernel) kf27 (fun _ h9 => h9) rfl dX3_value_6 ?_
  refine lv_icmp_lt (tgt := 14) hx hb dX3_value_9 (by decide +kernel) (fun c_2 => ?_) (fun c_2 => ?_)
  rotate_left
  · exact absurd (nI_lt (by omega) (by omega)) c_2
  refine lv_iload_n hx hb dX3_value_14 rfl (lv_at hl 2 rfl) ?_
  refine lv_if_ne (tgt := 22) hx hb dX3_value_15 (by decide +kernel) (fun c_3 => ?_) (fun c_3 => ?_)
  · skip
    have c_3N : ¬ pt = 0 := nI_eq0 (a := pt) (b := 0) (by omega) (by omega) c_3
    refine g_aget (D := G.1) (ci := 3) (v := .ref en) (C := RX3) (T := TX3) (N := 5) hx hb dX3_value_22 rfl (lv_at hl 0 rfl) hts hiX3 hown hK hP 0 rfl rfl 1 (by decide +kernel) kf16 (fun _ h9 => h9) rfl dX3_value_23 ?_
    refine lv_iload_n hx hb dX3_value_26 rfl (lv_at hl 1 rfl) ?_
    refine g_aald (x := et) hx hb hK hP 2 2 rfl rfl (i := (nI tn)) (vpn (by omega) rfl) (by rw [nI_clamp (by omega)]; exact he) dX3_value_27 ?_
    refine lv_iload_n hx hb dX3_value_28 rfl (lv_at hl 2 rfl) ?_
    refine lv_iconst (v := 1) hx hb dX3_value_29 (by decide +kernel) ?_
    refine lv_isub hx hb dX3_value_30 ?_
    refine g_topi (y := nI (pt - 1)) (pk_sub (a := pt) (b := 1) (by omega)) ?_
    refine va_iald (D := G.1) hx hb hK hP 4 0 rfl rfl (i := (nI (pt - 1))) (vpn (by omega) rfl) dX3_value_31 ?_
    refine g_topi (y := nI (fet (pt - 1))) (nF_at (by omega)) ?_
    refine g_topi (y := nI (mFrom fet pt)) (by rw [mFrom, if_neg c_3N]) ?_
    refine lv_istore (lv' := [zI 4 (nI (mFrom fet pt)), zR 0 h0, zI 1 (nI tn), zI 2 (nI pt), zR 3 nm]) hx hb dX3_value_32 hl (by decide +kernel) rfl (fun ls hl => ?_)
    refine lv_iconst (v := 0) hx hb dX3_value_34 (by decide +kernel) ?_
    refine lv_istore (lv' := [zI 5 0, zI 4 (nI (mFrom fet pt)), zR 0 h0, zI 1 (nI tn), zI 2 (nI pt), zR 3 nm]) hx hb dX3_value_35 hl (by decide +kernel) rfl (fun ls hl => ?_)
    refine lv_iload hx hb dX3_value_37 (lv_at hl 1 rfl) ?_
    refine lv_istore (lv' := [zI 6 (nI (mFrom fet pt)), zI 5 0, zI 4 (nI (mFrom fet pt)), zR 0 h0, zI 1 (nI tn), zI 2 (nI pt), zR 3 nm]) hx hb dX3_value_39 hl (by decide +kernel) rfl (fun ls hl => ?_)
    have loop_41 : ∀ (n9 : Nat) (k : Nat) (L : List Int32) (y : Nat → Int32), (mFrom fet pt ≤ k ∧ k ≤ fet pt) → (L.length ≤ 32) → (vOK 32 (fun i => trX (fct i)) (fet pt - k) k L.length) → (sAg y L) → (vRun (fun i => trX (fct i)) fna (fet pt - k) k L = vRun (fun i => trX (fct i)) fna (fet pt - mFrom fet pt) (mFrom fet pt) []) → (fet pt - k) < n9 → ∀ (H : Heap) (locs : List Loc), va_P G.1 vwCl [zo3 h0 co en sk wr (nI tx), zr G co 6 fc, zr G en 6 fe, zi G ct 160 fct, zi G et 3 (nF fet), zi G sk 32 y, zi G nm 6 fna] H → va_D A [zo3 h0 co en sk wr (nI tx), zr G co 6 fc, zr G en 6 fe, zi G ct 160 fct, zi G et 3 (nF fet), zi G sk 32 y, zi G nm 6 fna] → va_S A s.heap H locs → ∀ ls : Array Slot, lv_has ls 9 [zI 6 (nI k), zI 5 (nI L.length), zI 4 (nI (mFrom fet pt)), zR 0 h0, zI 1 (nI tn), zI 2 (nI pt), zR 3 nm] → W p l e (headSpec wsX3_value ({ frames := 1, cells := 0, slots := 0, locals := 22 })).room s m ([.ref h0, .int (nI tn), .int (nI pt), .ref nm] : List Value).toArray below meth c H locs 0 0 (MQ below (q_X3_value G h0 co en sk ct et nm tx tn pt wr fc fe fct fet fsk fna A) ([.ref h0, .int (nI tn), .int (nI pt), .ref nm] : List Value).toArray s 0 0 A) (F0 m 41 ls []) := by
      intro n9
      induction n9 with
      | zero => intro k L y hk hLn hO hY hR hm9; exact absurd hm9 (Nat.not_lt_zero _)
      | succ n9 ih9 =>
        intro k L y hk hLn hO hY hR hm9 H locs hP hD hS ls hl
        refine lv_iload hx hb dX3_value_41 (lv_at hl 0 rfl) ?_
        refine g_aget (D := G.1) (ci := 3) (v := .ref en) (C := RX3) (T := TX3) (N := 5) hx hb dX3_value_43 rfl (lv_at hl 3 rfl) hts hiX3 hown hK hP 0 rfl rfl 1 (by decide +kernel) kf16 (fun _ h9 => h9) rfl dX3_value_44 ?_
        refine lv_iload_n hx hb dX3_value_47 rfl (lv_at hl 4 rfl) ?_
        refine g_aald (x := et) hx hb hK hP 2 2 rfl rfl (i := (nI tn)) (vpn (by omega) rfl) (by rw [nI_clamp (by omega)]; exact he) dX3_value_48 ?_
        refine lv_iload_n hx hb dX3_value_49 rfl (lv_at hl 5 rfl) ?_
        refine va_iald (D := G.1) hx hb hK hP 4 0 rfl rfl (i := (nI pt)) (vpn (by omega) rfl) dX3_value_50 ?_
        refine g_topi (y := nI (fet pt)) (nF_at (by omega)) ?_
        refine lv_icmp_ge (tgt := 212) hx hb dX3_value_51 (by decide +kernel) (fun c_8 => ?_) (fun c_8 => ?_)
        · skip
          have c_8N : (fet pt) ≤ k := nI_le1 (a := (fet pt)) (b := k) (by omega) (by omega) c_8
          refine g_aget (D := G.1) (ci := 3) (v := .ref sk) (C := RX3) (T := TX3) (N := 5) hx hb dX3_value_212 rfl (lv_at hl 3 rfl) hts hiX3 hown hK hP 0 rfl rfl 2 (by decide +kernel) kf19 (fun _ h9 => h9) rfl dX3_value_213 ?_
          refine lv_iconst (v := 0) hx hb dX3_value_216 (by decide +kernel) ?_
          refine va_iald (D := G.1) hx hb hK hP 5 0 rfl rfl (i := 0) (gIn (by decide +kernel)) dX3_value_217 ?_
          refine lv_topi (fun v_9 ev_9 => ?_)
          have ev_9 : v_9 = y 0 := ev_9
          subst ev_9
          have hpost : (fun (r : Int32) (u : (Nat → Int32)) => match u with | ysk => r = mValX fct fet pt fna) (y 0) (y) := by
            have hz : fet pt - k = 0 := by omega
            rw [hz] at hO hR
            show y 0 = mValX fct fet pt fna
            unfold mValX
            rw [← hR]
            exact sAg_last hO hY
          exact W.iret (v := (y 0)) hx hb hr (fun t ht hW => ⟨⟨(y 0), (y), rfl, hpost, by rw [ht]; exact hP, va_K.moved hW.alike hK, hD⟩, hS.F ht⟩) hS.2.2 dX3_value_218
        · skip
          have c_8N : k < (fet pt) := nI_le0 (a := (fet pt)) (b := k) (by omega) (by omega) c_8
          have hO1 : vOK 32 (fun i => trX (fct i)) (fet pt - (k + 1) + 1) k L.length := by rw [show fet pt - (k + 1) + 1 = fet pt - k by omega]; exact hO
          have hlg : lgX (fct k) := hwx.2 pt hpt k (by omega)
          refine g_aget (D := G.1) (ci := 3) (v := .ref co) (C := RX3) (T := TX3) (N := 5) hx hb dX3_value_54 rfl (lv_at hl 3 rfl) hts hiX3 hown hK hP 0 rfl rfl 0 (by decide +kernel) kf11 (fun _ h9 => h9) rfl dX3_value_55 ?_
          refine lv_iload_n hx hb dX3_value_58 rfl (lv_at hl 4 rfl) ?_
          refine g_aald (x := ct) hx hb hK hP 1 2 rfl rfl (i := (nI tn)) (vpn (by omega) rfl) (by rw [nI_clamp (by omega)]; exact hc) dX3_value_59 ?_
          refine lv_iload hx hb dX3_value_60 (lv_at hl 0 rfl) ?_
          refine g_iald (D := G.1) hx hb hK hP 3 0 rfl rfl (k := k) (y := fct k) (by omega) rfl rfl dX3_value_62 ?_
          refine lv_istore (lv' := [zI 7 (fct k), zI 6 (nI k), zI 5 (nI L.length), zI 4 (nI (mFrom fet pt)), zR 0 h0, zI 1 (nI tn), zI 2 (nI pt), zR 3 nm]) hx hb dX3_value_63 hl (by decide +kernel) rfl (fun ls hl => ?_)
          refine lv_iload hx hb dX3_value_65 (lv_at hl 0 rfl) ?_
          refine lv_sipush (v := 20000) hx hb dX3_value_67 (by decide +kernel) ?_
          refine lv_isub hx hb dX3_value_70 ?_
          refine lv_istore (lv' := [zI 8 ((fct k) - 20000), zI 7 (fct k), zI 6 (nI k), zI 5 (nI L.length), zI 4 (nI (mFrom fet pt)), zR 0 h0, zI 1 (nI tn), zI 2 (nI pt), zR 3 nm]) hx hb dX3_value_71 hl (by decide +kernel) rfl (fun ls hl => ?_)
          refine lv_iload hx hb dX3_value_73 (lv_at hl 0 rfl) ?_
          refine lv_if_ge (tgt := 119) hx hb dX3_value_75 (by decide +kernel) (fun c_11 => ?_) (fun c_11 => ?_)
          · skip
            refine lv_iload hx hb dX3_value_119 (lv_at hl 0 rfl) ?_
            refine lv_bipush (v := 105) hx hb dX3_value_121 (by decide +kernel) ?_
            refine lv_icmp_eq (tgt := 133) hx hb dX3_value_123 (by decide +kernel) (fun c_12 => ?_) (fun c_12 => ?_)
            · skip
              refine lv_iload hx hb dX3_value_133 (lv_at hl 3 rfl) ?_
              refine lv_iconst (v := 1) hx hb dX3_value_135 (by decide +kernel) ?_
              have hq0 : trX (fct k) = 13 ∨ trX (fct k) = 19 := tX_un (Or.inl c_12)
              obtain ⟨a0, L0, rfl⟩ : ∃ a0 L0, L = a0 :: L0 := sL1 (vOK_one1 hO1 hq0)
              have hq1 : (a0 :: L0).length = L0.length + 1 := rfl
              have hl : lv_has ls 9 [zI 8 ((fct k) - 20000), zI 7 (fct k), zI 6 (nI k), zI 5 (nI (L0.length + 1)), zI 4 (nI (mFrom fet pt)), zR 0 h0, zI 1 (nI tn), zI 2 (nI pt), zR 3 nm] := hl
              refine lv_icmp_lt (tgt := 206) hx hb dX3_value_136 (by decide +kernel) (fun c_13 => ?_) (fun c_13 => ?_)
              · exact absurd c_13 (nI_nlt (a := L0.length + 1) (b := 1) (by omega) (by omega))
              refine g_aget (D := G.1) (ci := 3) (v := .ref sk) (C := RX3) (T := TX3) (N := 5) hx hb dX3_value_139 rfl (lv_at hl 5 rfl) hts hiX3 hown hK hP 0 rfl rfl 2 (by decide +kernel) kf19 (fun _ h9 => h9) rfl dX3_value_140 ?_
              refine lv_iload hx hb dX3_value_143 (lv_at hl 3 rfl) ?_
              refine lv_iconst (v := 1) hx hb dX3_value_145 (by decide +kernel) ?_
              refine lv_isub hx hb dX3_value_146 ?_
              refine g_topi (y := nI ((L0.length + 1) - 1)) (pk_sub (a := (L0.length + 1)) (b := 1) (by omega)) ?_
              refine lv_iload hx hb dX3_value_147 (lv_at hl 0 rfl) ?_
              refine g_aget (D := G.1) (ci := 3) (v := .ref sk) (C := RX3) (T := TX3) (N := 5) hx hb dX3_value_149 rfl (lv_at hl 5 rfl) hts hiX3 hown hK hP 0 rfl rfl 2 (by decide +kernel) kf19 (fun _ h9 => h9) rfl dX3_value_150 ?_
              refine lv_iload hx hb dX3_value_153 (lv_at hl 3 rfl) ?_
              refine lv_iconst (v := 1) hx hb dX3_value_155 (by decide +kernel) ?_
              refine lv_isub hx hb dX3_value_156 ?_
              refine g_topi (y := nI ((L0.length + 1) - 1)) (pk_sub (a := (L0.length + 1)) (b := 1) (by omega)) ?_
              refine va_iald (D := G.1) hx hb hK hP 5 0 rfl rfl (i := (nI ((L0.length + 1) - 1))) (vpn (by omega) rfl) dX3_value_157 ?_
              refine lv_topi (fun v_16 ev_16 => ?_)
              have ev_16 : v_16 = a0 := ev_16.trans (by rw [nI_clamp (by omega)]; exact hY.1)
              replace ev_16 := ev_16.symm; subst ev_16
              refine z_calli [] (v := m_X3_one ((fct k) - 20000) a0) (fun _ _ h => h) (va_runS (As := [.int ((fct k) - 20000), .int a0]) (rest := [.int (nI ((L0.length + 1) - 1)), .ref sk]) ⟨hx, hb, hml, hown, hts⟩ (c_X3_one l G ((fct k) - 20000) a0 H.size) (va_cwS 2 hts gX3_value_X3_one rfl rfl rfl (by decide +kernel) ⟨Nat.le_of_ble_eq_true rfl, Nat.le_of_ble_eq_true rfl⟩) ⟨gPre_blind, fun U hU hW => gPre_ofF [] hU hW hK hP hD (by decide +kernel) rfl⟩ rfl rfl hl.1 rfl (lv_room (Nat.le_of_ble_eq_true rfl)) dX3_value_158 ⟨Nat.le_of_ble_eq_true rfl, Nat.le_of_ble_eq_true rfl⟩) hS hD hA rfl (fun u t H locs ht hvm hB hz1 hk1 hFq hAq hS => ?_)
              obtain ⟨hP1, hK1, hD1⟩ := hB
              have hP := zKeep hP hD [] hAq hk1 ht hP1 rfl
              refine g_iast (D := G.1) hx hb hK hP hD hS 5 0 rfl rfl (k := (L0.length + 1) - 1) (x := (m_X3_one ((fct k) - 20000) a0)) (by omega) rfl dX3_value_161 (fun H locs hP hD hS => ?_)
              have hz9 : gPD G A [zo3 h0 co en sk wr (nI tx), zr G co 6 fc, zr G en 6 fe, zi G ct 160 fct, zi G et 3 (nF fet), zi G sk 32 (upd y ((L0.length + 1) - 1) (m_X3_one ((fct k) - 20000) a0)), zi G nm 6 fna] H := ⟨hP, hD⟩
              have hP := hz9.1
              have hD := hz9.2
              refine lv_goto (tgt := 206) hx hb dX3_value_162 (by decide +kernel) ?_
              refine lv_iinc (v := nI (k + 1)) (lv' := [zI 6 (nI (k + 1)), zI 8 ((fct k) - 20000), zI 7 (fct k), zI 5 (nI (L0.length + 1)), zI 4 (nI (mFrom fet pt)), zR 0 h0, zI 1 (nI tn), zI 2 (nI pt), zR 3 nm]) hx hb dX3_value_206 hl (k := 2) rfl (nI_add k 1) (by decide +kernel) rfl (fun ls hl => ?_)
              refine lv_goto (tgt := 41) hx hb dX3_value_209 (by decide +kernel) ?_
              exact ih9 (k + 1) ((m_X3_one (fct k - 20000) a0) :: L0) (upd y ((L0.length + 1) - 1) (m_X3_one ((fct k) - 20000) a0)) (⟨by omega, by omega⟩) (hLn) (vOK_one hO1 hq0) (⟨upd_at, sAg_upd (Nat.le_refl _) hY.2⟩) (by rw [← hR, show fet pt - k = fet pt - (k + 1) + 1 by omega, vRun]; rw [tX_one (Or.inl c_12)]) (by omega) _ _ hP hD hS ls (lv_sub hl [0, 3, 4, 5, 6, 7, 8] rfl)
            · skip
              refine lv_iload hx hb dX3_value_126 (lv_at hl 0 rfl) ?_
              refine lv_bipush (v := 106) hx hb dX3_value_128 (by decide +kernel) ?_
              refine lv_icmp_ne (tgt := 165) hx hb dX3_value_130 (by decide +kernel) (fun c_19 => ?_) (fun c_19 => ?_)
              · skip
                refine lv_iload hx hb dX3_value_165 (lv_at hl 3 rfl) ?_
                refine lv_iconst (v := 2) hx hb dX3_value_167 (by decide +kernel) ?_
                have hq0 := tX_bin hlg c_11 c_12 c_19
                obtain ⟨b0, a0, L0, rfl⟩ : ∃ b0 a0 L0, L = b0 :: a0 :: L0 := sL2 (vOK_two2 hO1 hq0.1 hq0.2.1 hq0.2.2.1 hq0.2.2.2.1)
                have hq1 : (b0 :: a0 :: L0).length = L0.length + 2 := rfl
                have hl : lv_has ls 9 [zI 8 ((fct k) - 20000), zI 7 (fct k), zI 6 (nI k), zI 5 (nI (L0.length + 1 + 1)), zI 4 (nI (mFrom fet pt)), zR 0 h0, zI 1 (nI tn), zI 2 (nI pt), zR 3 nm] := hl
                refine lv_icmp_lt (tgt := 206) hx hb dX3_value_168 (by decide +kernel) (fun c_20 => ?_) (fun c_20 => ?_)
                · exact absurd c_20 (nI_nlt (a := L0.length + 1 + 1) (b := 2) (by omega) (by omega))
                refine g_aget (D := G.1) (ci := 3) (v := .ref sk) (C := RX3) (T := TX3) (N := 5) hx hb dX3_value_171 rfl (lv_at hl 5 rfl) hts hiX3 hown hK hP 0 rfl rfl 2 (by decide +kernel) kf19 (fun _ h9 => h9) rfl dX3_value_172 ?_
                refine lv_iload hx hb dX3_value_175 (lv_at hl 3 rfl) ?_
                refine lv_iconst (v := 2) hx hb dX3_value_177 (by decide +kernel) ?_
                refine lv_isub hx hb dX3_value_178 ?_
                refine g_topi (y := nI ((L0.length + 1 + 1) - 2)) (pk_sub (a := (L0.length + 1 + 1)) (b := 2) (by omega)) ?_
                refine lv_iload hx hb dX3_value_179 (lv_at hl 0 rfl) ?_
                refine g_aget (D := G.1) (ci := 3) (v := .ref sk) (C := RX3) (T := TX3) (N := 5) hx hb dX3_value_181 rfl (lv_at hl 5 rfl) hts hiX3 hown hK hP 0 rfl rfl 2 (by decide +kernel) kf19 (fun _ h9 => h9) rfl dX3_value_182 ?_
                refine lv_iload hx hb dX3_value_185 (lv_at hl 3 rfl) ?_
                refine lv_iconst (v := 2) hx hb dX3_value_187 (by decide +kernel) ?_
                refine lv_isub hx hb dX3_value_188 ?_
                refine g_topi (y := nI ((L0.length + 1 + 1) - 2)) (pk_sub (a := (L0.length + 1 + 1)) (b := 2) (by omega)) ?_
                refine va_iald (D := G.1) hx hb hK hP 5 0 rfl rfl (i := (nI ((L0.length + 1 + 1) - 2))) (vpn (by omega) rfl) dX3_value_189 ?_
                refine lv_topi (fun v_23 ev_23 => ?_)
                have ev_23 : v_23 = a0 := ev_23.trans (by rw [nI_clamp (by omega)]; exact hY.2.1)
                replace ev_23 := ev_23.symm; subst ev_23
                refine g_aget (D := G.1) (ci := 3) (v := .ref sk) (C := RX3) (T := TX3) (N := 5) hx hb dX3_value_190 rfl (lv_at hl 5 rfl) hts hiX3 hown hK hP 0 rfl rfl 2 (by decide +kernel) kf19 (fun _ h9 => h9) rfl dX3_value_191 ?_
                refine lv_iload hx hb dX3_value_194 (lv_at hl 3 rfl) ?_
                refine lv_iconst (v := 1) hx hb dX3_value_196 (by decide +kernel) ?_
                refine lv_isub hx hb dX3_value_197 ?_
                refine g_topi (y := nI (L0.length + 1)) (nI_pred (L0.length + 1)) ?_
                refine va_iald (D := G.1) hx hb hK hP 5 0 rfl rfl (i := (nI (L0.length + 1))) (vpn (by omega) rfl) dX3_value_198 ?_
                refine lv_topi (fun v_25 ev_25 => ?_)
                have ev_25 : v_25 = b0 := ev_25.trans (by rw [nI_clamp (by omega)]; exact hY.1)
                replace ev_25 := ev_25.symm; subst ev_25
                refine z_calli [] (v := m_X3_two ((fct k) - 20000) a0 b0) (fun _ _ h => h) (va_runS (As := [.int ((fct k) - 20000), .int a0, .int b0]) (rest := [.int (nI ((L0.length + 1 + 1) - 2)), .ref sk]) ⟨hx, hb, hml, hown, hts⟩ (c_X3_two l G ((fct k) - 20000) a0 b0 H.size) (va_cwS 3 hts gX3_value_X3_two rfl rfl rfl (by decide +kernel) ⟨Nat.le_of_ble_eq_true rfl, Nat.le_of_ble_eq_true rfl⟩) ⟨gPre_blind, fun U hU hW => gPre_ofF [] hU hW hK hP hD (by decide +kernel) rfl⟩ rfl rfl hl.1 rfl (lv_room (Nat.le_of_ble_eq_true rfl)) dX3_value_199 ⟨Nat.le_of_ble_eq_true rfl, Nat.le_of_ble_eq_true rfl⟩) hS hD hA rfl (fun u t H locs ht hvm hB hz1 hk1 hFq hAq hS => ?_)
                obtain ⟨hP1, hK1, hD1⟩ := hB
                have hP := zKeep hP hD [] hAq hk1 ht hP1 rfl
                refine g_iast (D := G.1) hx hb hK hP hD hS 5 0 rfl rfl (k := (L0.length + 1 + 1) - 2) (x := (m_X3_two ((fct k) - 20000) a0 b0)) (by omega) rfl dX3_value_202 (fun H locs hP hD hS => ?_)
                have hz9 : gPD G A [zo3 h0 co en sk wr (nI tx), zr G co 6 fc, zr G en 6 fe, zi G ct 160 fct, zi G et 3 (nF fet), zi G sk 32 (upd y ((L0.length + 1 + 1) - 2) (m_X3_two ((fct k) - 20000) a0 b0)), zi G nm 6 fna] H := ⟨hP, hD⟩
                have hP := hz9.1
                have hD := hz9.2
                refine lv_iinc (v := nI (L0.length + 1)) (lv' := [zI 5 (nI (L0.length + 1)), zI 8 ((fct k) - 20000), zI 7 (fct k), zI 6 (nI k), zI 4 (nI (mFrom fet pt)), zR 0 h0, zI 1 (nI tn), zI 2 (nI pt), zR 3 nm]) hx hb dX3_value_203 hl (k := 3) rfl (pk_m1 (L0.length + 1)) (by decide +kernel) rfl (fun ls hl => ?_)
                refine lv_iinc (v := nI (k + 1)) (lv' := [zI 6 (nI (k + 1)), zI 5 (nI (L0.length + 1)), zI 8 ((fct k) - 20000), zI 7 (fct k), zI 4 (nI (mFrom fet pt)), zR 0 h0, zI 1 (nI tn), zI 2 (nI pt), zR 3 nm]) hx hb dX3_value_206 hl (k := 3) rfl (nI_add k 1) (by decide +kernel) rfl (fun ls hl => ?_)
                refine lv_goto (tgt := 41) hx hb dX3_value_209 (by decide +kernel) ?_
                exact ih9 (k + 1) ((m_X3_two (fct k - 20000) a0 b0) :: L0) (upd y ((L0.length + 1 + 1) - 2) (m_X3_two ((fct k) - 20000) a0 b0)) (⟨by omega, by omega⟩) (by show L0.length + 1 ≤ 32; omega) (vOK_two hO1 hq0.1 hq0.2.1 hq0.2.2.1 hq0.2.2.2.1) (⟨upd_at, sAg_upd (Nat.le_refl _) hY.2.2⟩) (by rw [← hR, show fet pt - k = fet pt - (k + 1) + 1 by omega, vRun]; rw [vStep_b hq0.1 hq0.2.1 hq0.2.2.1 hq0.2.2.2.1, ← hq0.2.2.2.2 a0 b0]) (by omega) _ _ hP hD hS ls (lv_sub hl [0, 1, 4, 5, 6, 7, 8] rfl)
              · skip
                refine lv_iload hx hb dX3_value_133 (lv_at hl 3 rfl) ?_
                refine lv_iconst (v := 1) hx hb dX3_value_135 (by decide +kernel) ?_
                have hq0 : trX (fct k) = 13 ∨ trX (fct k) = 19 := tX_un (Or.inr c_19)
                obtain ⟨a0, L0, rfl⟩ : ∃ a0 L0, L = a0 :: L0 := sL1 (vOK_one1 hO1 hq0)
                have hq1 : (a0 :: L0).length = L0.length + 1 := rfl
                have hl : lv_has ls 9 [zI 8 ((fct k) - 20000), zI 7 (fct k), zI 6 (nI k), zI 5 (nI (L0.length + 1)), zI 4 (nI (mFrom fet pt)), zR 0 h0, zI 1 (nI tn), zI 2 (nI pt), zR 3 nm] := hl
                refine lv_icmp_lt (tgt := 206) hx hb dX3_value_136 (by decide +kernel) (fun c_28 => ?_) (fun c_28 => ?_)
                · exact absurd c_28 (nI_nlt (a := L0.length + 1) (b := 1) (by omega) (by omega))
                refine g_aget (D := G.1) (ci := 3) (v := .ref sk) (C := RX3) (T := TX3) (N := 5) hx hb dX3_value_139 rfl (lv_at hl 5 rfl) hts hiX3 hown hK hP 0 rfl rfl 2 (by decide +kernel) kf19 (fun _ h9 => h9) rfl dX3_value_140 ?_
                refine lv_iload hx hb dX3_value_143 (lv_at hl 3 rfl) ?_
                refine lv_iconst (v := 1) hx hb dX3_value_145 (by decide +kernel) ?_
                refine lv_isub hx hb dX3_value_146 ?_
                refine g_topi (y := nI ((L0.length + 1) - 1)) (pk_sub (a := (L0.length + 1)) (b := 1) (by omega)) ?_
                refine lv_iload hx hb dX3_value_147 (lv_at hl 0 rfl) ?_
                refine g_aget (D := G.1) (ci := 3) (v := .ref sk) (C := RX3) (T := TX3) (N := 5) hx hb dX3_value_149 rfl (lv_at hl 5 rfl) hts hiX3 hown hK hP 0 rfl rfl 2 (by decide +kernel) kf19 (fun _ h9 => h9) rfl dX3_value_150 ?_
                refine lv_iload hx hb dX3_value_153 (lv_at hl 3 rfl) ?_
                refine lv_iconst (v := 1) hx hb dX3_value_155 (by decide +kernel) ?_
                refine lv_isub hx hb dX3_value_156 ?_
                refine g_topi (y := nI ((L0.length + 1) - 1)) (pk_sub (a := (L0.length + 1)) (b := 1) (by omega)) ?_
                refine va_iald (D := G.1) hx hb hK hP 5 0 rfl rfl (i := (nI ((L0.length + 1) - 1))) (vpn (by omega) rfl) dX3_value_157 ?_
                refine lv_topi (fun v_31 ev_31 => ?_)
                have ev_31 : v_31 = a0 := ev_31.trans (by rw [nI_clamp (by omega)]; exact hY.1)
                replace ev_31 := ev_31.symm; subst ev_31
                refine z_calli [] (v := m_X3_one ((fct k) - 20000) a0) (fun _ _ h => h) (va_runS (As := [.int ((fct k) - 20000), .int a0]) (rest := [.int (nI ((L0.length + 1) - 1)), .ref sk]) ⟨hx, hb, hml, hown, hts⟩ (c_X3_one l G ((fct k) - 20000) a0 H.size) (va_cwS 2 hts gX3_value_X3_one rfl rfl rfl (by decide +kernel) ⟨Nat.le_of_ble_eq_true rfl, Nat.le_of_ble_eq_true rfl⟩) ⟨gPre_blind, fun U hU hW => gPre_ofF [] hU hW hK hP hD (by decide +kernel) rfl⟩ rfl rfl hl.1 rfl (lv_room (Nat.le_of_ble_eq_true rfl)) dX3_value_158 ⟨Nat.le_of_ble_eq_true rfl, Nat.le_of_ble_eq_true rfl⟩) hS hD hA rfl (fun u t H locs ht hvm hB hz1 hk1 hFq hAq hS => ?_)
                obtain ⟨hP1, hK1, hD1⟩ := hB
                have hP := zKeep hP hD [] hAq hk1 ht hP1 rfl
                refine g_iast (D := G.1) hx hb hK hP hD hS 5 0 rfl rfl (k := (L0.length + 1) - 1) (x := (m_X3_one ((fct k) - 20000) a0)) (by omega) rfl dX3_value_161 (fun H locs hP hD hS => ?_)
                have hz9 : gPD G A [zo3 h0 co en sk wr (nI tx), zr G co 6 fc, zr G en 6 fe, zi G ct 160 fct, zi G et 3 (nF fet), zi G sk 32 (upd y ((L0.length + 1) - 1) (m_X3_one ((fct k) - 20000) a0)), zi G nm 6 fna] H := ⟨hP, hD⟩
                have hP := hz9.1
                have hD := hz9.2
                refine lv_goto (tgt := 206) hx hb dX3_value_162 (by decide +kernel) ?_
                refine lv_iinc (v := nI (k + 1)) (lv' := [zI 6 (nI (k + 1)), zI 8 ((fct k) - 20000), zI 7 (fct k), zI 5 (nI (L0.length + 1)), zI 4 (nI (mFrom fet pt)), zR 0 h0, zI 1 (nI tn), zI 2 (nI pt), zR 3 nm]) hx hb dX3_value_206 hl (k := 2) rfl (nI_add k 1) (by decide +kernel) rfl (fun ls hl => ?_)
                refine lv_goto (tgt := 41) hx hb dX3_value_209 (by decide +kernel) ?_
                exact ih9 (k + 1) ((m_X3_one (fct k - 20000) a0) :: L0) (upd y ((L0.length + 1) - 1) (m_X3_one ((fct k) - 20000) a0)) (⟨by omega, by omega⟩) (hLn) (vOK_one hO1 hq0) (⟨upd_at, sAg_upd (Nat.le_refl _) hY.2⟩) (by rw [← hR, show fet pt - k = fet pt - (k + 1) + 1 by omega, vRun]; rw [tX_one (Or.inr c_19)]) (by omega) _ _ hP hD hS ls (lv_sub hl [0, 3, 4, 5, 6, 7, 8] rfl)
          · skip
            refine lv_iload hx hb dX3_value_78 (lv_at hl 3 rfl) ?_
            refine lv_bipush (v := 32) hx hb dX3_value_80 (by decide +kernel) ?_
            have hq0 := tX_push hlg c_11
            have hq1 := vOK_push hO1 hq0
            have hq2 := hq1.1
            refine lv_icmp_ge (tgt := 206) hx hb dX3_value_82 (by decide +kernel) (fun c_34 => ?_) (fun c_34 => ?_)
            · exact absurd c_34 (fun z => absurd (nI_le1 (a := 32) (b := L.length) (by omega) (by omega) z) (by omega))
            refine g_aget (D := G.1) (ci := 3) (v := .ref sk) (C := RX3) (T := TX3) (N := 5) hx hb dX3_value_85 rfl (lv_at hl 5 rfl) hts hiX3 hown hK hP 0 rfl rfl 2 (by decide +kernel) kf19 (fun _ h9 => h9) rfl dX3_value_86 ?_
            refine lv_iload hx hb dX3_value_89 (lv_at hl 3 rfl) ?_
            refine lv_iload hx hb dX3_value_91 (lv_at hl 1 rfl) ?_
            refine lv_sipush (v := 10000) hx hb dX3_value_93 (by decide +kernel) ?_
            refine lv_icmp_ge (tgt := 104) hx hb dX3_value_96 (by decide +kernel) (fun c_35 => ?_) (fun c_35 => ?_)
            · skip
              refine lv_aload_n hx hb dX3_value_104 rfl (lv_at hl 8 rfl) ?_
              refine lv_iload hx hb dX3_value_105 (lv_at hl 1 rfl) ?_
              refine lv_sipush (v := 10000) hx hb dX3_value_107 (by decide +kernel) ?_
              refine lv_isub hx hb dX3_value_110 ?_
              refine va_iald (D := G.1) hx hb hK hP 6 0 rfl rfl (i := ((fct k) - 10000)) (sIx (tX_nm hlg c_35 c_11)) dX3_value_111 ?_
              refine g_topi (y := fna (nC (fct k - 10000))) (rfl) ?_
              refine g_iast (D := G.1) hx hb hK hP hD hS 5 0 rfl rfl (k := L.length) (x := (fna (nC (fct k - 10000)))) (by omega) rfl dX3_value_112 (fun H locs hP hD hS => ?_)
              have hz9 : gPD G A [zo3 h0 co en sk wr (nI tx), zr G co 6 fc, zr G en 6 fe, zi G ct 160 fct, zi G et 3 (nF fet), zi G sk 32 (upd y L.length (fna (nC (fct k - 10000)))), zi G nm 6 fna] H := ⟨hP, hD⟩
              have hP := hz9.1
              have hD := hz9.2
              refine lv_iinc (v := nI (L.length + 1)) (lv' := [zI 5 (nI (L.length + 1)), zI 8 ((fct k) - 20000), zI 7 (fct k), zI 6 (nI k), zI 4 (nI (mFrom fet pt)), zR 0 h0, zI 1 (nI tn), zI 2 (nI pt), zR 3 nm]) hx hb dX3_value_113 hl (k := 3) rfl (nI_add L.length 1) (by decide +kernel) rfl (fun ls hl => ?_)
              refine lv_goto (tgt := 206) hx hb dX3_value_116 (by decide +kernel) ?_
              refine lv_iinc (v := nI (k + 1)) (lv' := [zI 6 (nI (k + 1)), zI 5 (nI (L.length + 1)), zI 8 ((fct k) - 20000), zI 7 (fct k), zI 4 (nI (mFrom fet pt)), zR 0 h0, zI 1 (nI tn), zI 2 (nI pt), zR 3 nm]) hx hb dX3_value_206 hl (k := 3) rfl (nI_add k 1) (by decide +kernel) rfl (fun ls hl => ?_)
              refine lv_goto (tgt := 41) hx hb dX3_value_209 (by decide +kernel) ?_
              exact ih9 (k + 1) ((fna (nC (fct k - 10000))) :: L) (upd y L.length (fna (nC (fct k - 10000)))) (⟨by omega, by omega⟩) (by show L.length + 1 ≤ 32; omega) (hq1.2) (⟨upd_at, sAg_upd (Nat.le_refl _) hY⟩) (by rw [← hR, show fet pt - k = fet pt - (k + 1) + 1 by omega, vRun]; rw [tX_n hlg c_35 c_11]) (by omega) _ _ hP hD hS ls (lv_sub hl [0, 1, 4, 5, 6, 7, 8] rfl)
            · skip
              refine lv_iload hx hb dX3_value_99 (lv_at hl 1 rfl) ?_
              refine lv_goto (tgt := 112) hx hb dX3_value_101 (by decide +kernel) ?_
              refine g_iast (D := G.1) hx hb hK hP hD hS 5 0 rfl rfl (k := L.length) (x := (fct k)) (by omega) rfl dX3_value_112 (fun H locs hP hD hS => ?_)
              have hz9 : gPD G A [zo3 h0 co en sk wr (nI tx), zr G co 6 fc, zr G en 6 fe, zi G ct 160 fct, zi G et 3 (nF fet), zi G sk 32 (upd y L.length (fct k)), zi G nm 6 fna] H := ⟨hP, hD⟩
              have hP := hz9.1
              have hD := hz9.2
              refine lv_iinc (v := nI (L.length + 1)) (lv' := [zI 5 (nI (L.length + 1)), zI 8 ((fct k) - 20000), zI 7 (fct k), zI 6 (nI k), zI 4 (nI (mFrom fet pt)), zR 0 h0, zI 1 (nI tn), zI 2 (nI pt), zR 3 nm]) hx hb dX3_value_113 hl (k := 3) rfl (nI_add L.length 1) (by decide +kernel) rfl (fun ls hl => ?_)
              refine lv_goto (tgt := 206) hx hb dX3_value_116 (by decide +kernel) ?_
              refine lv_iinc (v := nI (k + 1)) (lv' := [zI 6 (nI (k + 1)), zI 5 (nI (L.length + 1)), zI 8 ((fct k) - 20000), zI 7 (fct k), zI 4 (nI (mFrom fet pt)), zR 0 h0, zI 1 (nI tn), zI 2 (nI pt), zR 3 nm]) hx hb dX3_value_206 hl (k := 3) rfl (nI_add k 1) (by decide +kernel) rfl (fun ls hl => ?_)
              refine lv_goto (tgt := 41) hx hb dX3_value_209 (by decide +kernel) ?_
              exact ih9 (k + 1) ((fct k) :: L) (upd y L.length (fct k)) (⟨by omega, by omega⟩) (by show L.length + 1 ≤ 32; omega) (hq1.2) (⟨upd_at, sAg_upd (Nat.le_refl _) hY⟩) (by rw [← hR, show fet pt - k = fet pt - (k + 1) + 1 by omega, vRun]; rw [tX_c hlg c_35]) (by omega) _ _ hP hD hS ls (lv_sub hl [0, 1, 4, 5, 6, 7, 8] rfl)
    exact loop_41 (fet pt - mFrom fet pt + 1) (mFrom fet pt) ([]) fsk (⟨Nat.le_refl _, wa⟩) (by decide +kernel) (wc) (trivial) (rfl) (by omega) _ _ hP hD hS ls hl
  · skip
    have c_3N : pt = 0 := nI_eq1 (a := pt) (b := 0) (by omega) (by omega) c_3
    refine lv_iconst (v := 0) hx hb dX3_value_18 (by decide +kernel) ?_
    refine lv_goto (tgt := 32) hx hb dX3_value_19 (by decide +kernel) ?_
    refine g_topi (y := nI (mFrom fet pt)) (by rw [mFrom, if_pos c_3N]; rfl) ?_
    refine lv_istore (lv' := [zI 4 (nI (mFrom fet pt)), zR 0 h0, zI 1 (nI tn), zI 2 (nI pt), zR 3 nm]) hx hb dX3_value_32 hl (by decide +kernel) rfl (fun ls hl => ?_)
    refine lv_iconst (v := 0) hx hb dX3_value_34 (by decide +kernel) ?_
    refine lv_istore (lv' := [zI 5 0, zI 4 (nI (mFrom fet pt)), zR 0 h0, zI 1 (nI tn), zI 2 (nI pt), zR 3 nm]) hx hb dX3_value_35 hl (by decide +kernel) rfl (fun ls hl => ?_)
    refine lv_iload hx hb dX3_value_37 (lv_at hl 1 rfl) ?_
    refine lv_istore (lv' := [zI 6 (nI (mFrom fet pt)), zI 5 0, zI 4 (nI (mFrom fet pt)), zR 0 h0, zI 1 (nI tn), zI 2 (nI pt), zR 3 nm]) hx hb dX3_value_39 hl (by decide +kernel) rfl (fun ls hl => ?_)
    have loop_41 : ∀ (n9 : Nat) (k : Nat) (L : List Int32) (y : Nat → Int32), (mFrom fet pt ≤ k ∧ k ≤ fet pt) → (L.length ≤ 32) → (vOK 32 (fun i => trX (fct i)) (fet pt - k) k L.length) → (sAg y L) → (vRun (fun i => trX (fct i)) fna (fet pt - k) k L = vRun (fun i => trX (fct i)) fna (fet pt - mFrom fet pt) (mFrom fet pt) []) → (fet pt - k) < n9 → ∀ (H : Heap) (locs : List Loc), va_P G.1 vwCl [zo3 h0 co en sk wr (nI tx), zr G co 6 fc, zr G en 6 fe, zi G ct 160 fct, zi G et 3 (nF fet), zi G sk 32 y, zi G nm 6 fna] H → va_D A [zo3 h0 co en sk wr (nI tx), zr G co 6 fc, zr G en 6 fe, zi G ct 160 fct, zi G et 3 (nF fet), zi G sk 32 y, zi G nm 6 fna] → va_S A s.heap H locs → ∀ ls : Array Slot, lv_has ls 9 [zI 6 (nI k), zI 5 (nI L.length), zI 4 (nI (mFrom fet pt)), zR 0 h0, zI 1 (nI tn), zI 2 (nI pt), zR 3 nm] → W p l e (headSpec wsX3_value ({ frames := 1, cells := 0, slots := 0, locals := 22 })).room s m ([.ref h0, .int (nI tn), .int (nI pt), .ref nm] : List Value).toArray below meth c H locs 0 0 (MQ below (q_X3_value G h0 co en sk ct et nm tx tn pt wr fc fe fct fet fsk fna A) ([.ref h0, .int (nI tn), .int (nI pt), .ref nm] : List Value).toArray s 0 0 A) (F0 m 41 ls []) := by
      intro n9
      induction n9 with
      | zero => intro k L y hk hLn hO hY hR hm9; exact absurd hm9 (Nat.not_lt_zero _)
      | succ n9 ih9 =>
        intro k L y hk hLn hO hY hR hm9 H locs hP hD hS ls hl
        refine lv_iload hx hb dX3_value_41 (lv_at hl 0 rfl) ?_
        refine g_aget (D := G.1) (ci := 3) (v := .ref en) (C := RX3) (T := TX3) (N := 5) hx hb dX3_value_43 rfl (lv_at hl 3 rfl) hts hiX3 hown hK hP 0 rfl rfl 1 (by decide +kernel) kf16 (fun _ h9 => h9) rfl dX3_value_44 ?_
        refine lv_iload_n hx hb dX3_value_47 rfl (lv_at hl 4 rfl) ?_
        refine g_aald (x := et) hx hb hK hP 2 2 rfl rfl (i := (nI tn)) (vpn (by omega) rfl) (by rw [nI_clamp (by omega)]; exact he) dX3_value_48 ?_
        refine lv_iload_n hx hb dX3_value_49 rfl (lv_at hl 5 rfl) ?_
        refine va_iald (D := G.1) hx hb hK hP 4 0 rfl rfl (i := (nI pt)) (vpn (by omega) rfl) dX3_value_50 ?_
        refine g_topi (y := nI (fet pt)) (nF_at (by omega)) ?_
        refine lv_icmp_ge (tgt := 212) hx hb dX3_value_51 (by decide +kernel) (fun c_39 => ?_) (fun c_39 => ?_)
        · skip
          have c_39N : (fet pt) ≤ k := nI_le1 (a := (fet pt)) (b := k) (by omega) (by omega) c_39
          refine g_aget (D := G.1) (ci := 3) (v := .ref sk) (C := RX3) (T := TX3) (N := 5) hx hb dX3_value_212 rfl (lv_at hl 3 rfl) hts hiX3 hown hK hP 0 rfl rfl 2 (by decide +kernel) kf19 (fun _ h9 => h9) rfl dX3_value_213 ?_
          refine lv_iconst (v := 0) hx hb dX3_value_216 (by decide +kernel) ?_
          refine va_iald (D := G.1) hx hb hK hP 5 0 rfl rfl (i := 0) (gIn (by decide +kernel)) dX3_value_217 ?_
          refine lv_topi (fun v_40 ev_40 => ?_)
          have ev_40 : v_40 = y 0 := ev_40
          subst ev_40
          have hpost : (fun (r : Int32) (u : (Nat → Int32)) => match u with | ysk => r = mValX fct fet pt fna) (y 0) (y) := by
            have hz : fet pt - k = 0 := by omega
            rw [hz] at hO hR
            show y 0 = mValX fct fet pt fna
            unfold mValX
            rw [← hR]
            exact sAg_last hO hY
          exact W.iret (v := (y 0)) hx hb hr (fun t ht hW => ⟨⟨(y 0), (y), rfl, hpost, by rw [ht]; exact hP, va_K.moved hW.alike hK, hD⟩, hS.F ht⟩) hS.2.2 dX3_value_218
        · skip
          have c_39N : k < (fet pt) := nI_le0 (a := (fet pt)) (b := k) (by omega) (by omega) c_39
          have hO1 : vOK 32 (fun i => trX (fct i)) (fet pt - (k + 1) + 1) k L.length := by rw [show fet pt - (k + 1) + 1 = fet pt - k by omega]; exact hO
          have hlg : lgX (fct k) := hwx.2 pt hpt k (by omega)
          refine g_aget (D := G.1) (ci := 3) (v := .ref co) (C := RX3) (T := TX3) (N := 5) hx hb dX3_value_54 rfl (lv_at hl 3 rfl) hts hiX3 hown hK hP 0 rfl rfl 0 (by decide +kernel) kf11 (fun _ h9 => h9) rfl dX3_value_55 ?_
          refine lv_iload_n hx hb dX3_value_58 rfl (lv_at hl 4 rfl) ?_
          refine g_aald (x := ct) hx hb hK hP 1 2 rfl rfl (i := (nI tn)) (vpn (by omega) rfl) (by rw [nI_clamp (by omega)]; exact hc) dX3_value_59 ?_
          refine lv_iload hx hb dX3_value_60 (lv_at hl 0 rfl) ?_
          refine g_iald (D := G.1) hx hb hK hP 3 0 rfl rfl (k := k) (y := fct k) (by omega) rfl rfl dX3_value_62 ?_
          refine lv_istore (lv' := [zI 7 (fct k), zI 6 (nI k), zI 5 (nI L.length), zI 4 (nI (mFrom fet pt)), zR 0 h0, zI 1 (nI tn), zI 2 (nI pt), zR 3 nm]) hx hb dX3_value_63 hl (by decide +kernel) rfl (fun ls hl => ?_)
          refine lv_iload hx hb dX3_value_65 (lv_at hl 0 rfl) ?_
          refine lv_sipush (v := 20000) hx hb dX3_value_67 (by decide +kernel) ?_
          refine lv_isub hx hb dX3_value_70 ?_
          refine lv_istore (lv' := [zI 8 ((fct k) - 20000), zI 7 (fct k), zI 6 (nI k), zI 5 (nI L.length), zI 4 (nI (mFrom fet pt)), zR 0 h0, zI 1 (nI tn), zI 2 (nI pt), zR 3 nm]) hx hb dX3_value_71 hl (by decide +kernel) rfl (fun ls hl => ?_)
          refine lv_iload hx hb dX3_value_73 (lv_at hl 0 rfl) ?_
          refine lv_if_ge (tgt := 119) hx hb dX3_value_75 (by decide +kernel) (fun c_42 => ?_) (fun c_42 => ?_)
          · skip
            refine lv_iload hx hb dX3_value_119 (lv_at hl 0 rfl) ?_
            refine lv_bipush (v := 105) hx hb dX3_value_121 (by decide +kernel) ?_
            refine lv_icmp_eq (tgt := 133) hx hb dX3_value_123 (by decide +kernel) (fun c_43 => ?_) (fun c_43 => ?_)
            · skip
              refine lv_iload hx hb dX3_value_133 (lv_at hl 3 rfl) ?_
              refine lv_iconst (v := 1) hx hb dX3_value_135 (by decide +kernel) ?_
              have hq0 : trX (fct k) = 13 ∨ trX (fct k) = 19 := tX_un (Or.inl c_43)
              obtain ⟨a0, L0, rfl⟩ : ∃ a0 L0, L = a0 :: L0 := sL1 (vOK_one1 hO1 hq0)
              have hq1 : (a0 :: L0).length = L0.length + 1 := rfl
              have hl : lv_has ls 9 [zI 8 ((fct k) - 20000), zI 7 (fct k), zI 6 (nI k), zI 5 (nI (L0.length + 1)), zI 4 (nI (mFrom fet pt)), zR 0 h0, zI 1 (nI tn), zI 2 (nI pt), zR 3 nm] := hl
              refine lv_icmp_lt (tgt := 206) hx hb dX3_value_136 (by decide +kernel) (fun c_44 => ?_) (fun c_44 => ?_)
              · exact absurd c_44 (nI_nlt (a := L0.length + 1) (b := 1) (by omega) (by omega))
              refine g_aget (D := G.1) (ci := 3) (v := .ref sk) (C := RX3) (T := TX3) (N := 5) hx hb dX3_value_139 rfl (lv_at hl 5 rfl) hts hiX3 hown hK hP 0 rfl rfl 2 (by decide +kernel) kf19 (fun _ h9 => h9) rfl dX3_value_140 ?_
              refine lv_iload hx hb dX3_value_143 (lv_at hl 3 rfl) ?_
              refine lv_iconst (v := 1) hx hb dX3_value_145 (by decide +kernel) ?_
              refine lv_isub hx hb dX3_value_146 ?_
              refine g_topi (y := nI ((L0.length + 1) - 1)) (pk_sub (a := (L0.length + 1)) (b := 1) (by omega)) ?_
              refine lv_iload hx hb dX3_value_147 (lv_at hl 0 rfl) ?_
              refine g_aget (D := G.1) (ci := 3) (v := .ref sk) (C := RX3) (T := TX3) (N := 5) hx hb dX3_value_149 rfl (lv_at hl 5 rfl) hts hiX3 hown hK hP 0 rfl rfl 2 (by decide +kernel) kf19 (fun _ h9 => h9) rfl dX3_value_150 ?_
              refine lv_iload hx hb dX3_value_153 (lv_at hl 3 rfl) ?_
              refine lv_iconst (v := 1) hx hb dX3_value_155 (by decide +kernel) ?_
              refine lv_isub hx hb dX3_value_156 ?_
              refine g_topi (y := nI ((L0.length + 1) - 1)) (pk_sub (a := (L0.length + 1)) (b := 1) (by omega)) ?_
              refine va_iald (D := G.1) hx hb hK hP 5 0 rfl rfl (i := (nI ((L0.length + 1) - 1))) (vpn (by omega) rfl) dX3_value_157 ?_
              refine lv_topi (fun v_47 ev_47 => ?_)
              have ev_47 : v_47 = a0 := ev_47.trans (by rw [nI_clamp (by omega)]; exact hY.1)
              replace ev_47 := ev_47.symm; subst ev_47
              refine z_calli [] (v := m_X3_one ((fct k) - 20000) a0) (fun _ _ h => h) (va_runS (As := [.int ((fct k) - 20000), .int a0]) (rest := [.int (nI ((L0.length + 1) - 1)), .ref sk]) ⟨hx, hb, hml, hown, hts⟩ (c_X3_one l G ((fct k) - 20000) a0 H.size) (va_cwS 2 hts gX3_value_X3_one rfl rfl rfl (by decide +kernel) ⟨Nat.le_of_ble_eq_true rfl, Nat.le_of_ble_eq_true rfl⟩) ⟨gPre_blind, fun U hU hW => gPre_ofF [] hU hW hK hP hD (by decide +kernel) rfl⟩ rfl rfl hl.1 rfl (lv_room (Nat.le_of_ble_eq_true rfl)) dX3_value_158 ⟨Nat.le_of_ble_eq_true rfl, Nat.le_of_ble_eq_true rfl⟩) hS hD hA rfl (fun u t H locs ht hvm hB hz1 hk1 hFq hAq hS => ?_)
              obtain ⟨hP1, hK1, hD1⟩ := hB
              have hP := zKeep hP hD [] hAq hk1 ht hP1 rfl
              refine g_iast (D := G.1) hx hb hK hP hD hS 5 0 rfl rfl (k := (L0.length + 1) - 1) (x := (m_X3_one ((fct k) - 20000) a0)) (by omega) rfl dX3_value_161 (fun H locs hP hD hS => ?_)
              have hz9 : gPD G A [zo3 h0 co en sk wr (nI tx), zr G co 6 fc, zr G en 6 fe, zi G ct 160 fct, zi G et 3 (nF fet), zi G sk 32 (upd y ((L0.length + 1) - 1) (m_X3_one ((fct k) - 20000) a0)), zi G nm 6 fna] H := ⟨hP, hD⟩
              have hP := hz9.1
              have hD := hz9.2
              refine lv_goto (tgt := 206) hx hb dX3_value_162 (by decide +kernel) ?_
              refine lv_iinc (v := nI (k + 1)) (lv' := [zI 6 (nI (k + 1)), zI 8 ((fct k) - 20000), zI 7 (fct k), zI 5 (nI (L0.length + 1)), zI 4 (nI (mFrom fet pt)), zR 0 h0, zI 1 (nI tn), zI 2 (nI pt), zR 3 nm]) hx hb dX3_value_206 hl (k := 2) rfl (nI_add k 1) (by decide +kernel) rfl (fun ls hl => ?_)
              refine lv_goto (tgt := 41) hx hb dX3_value_209 (by decide +kernel) ?_
              exact ih9 (k + 1) ((m_X3_one (fct k - 20000) a0) :: L0) (upd y ((L0.length + 1) - 1) (m_X3_one ((fct k) - 20000) a0)) (⟨by omega, by omega⟩) (hLn) (vOK_one hO1 hq0) (⟨upd_at, sAg_upd (Nat.le_refl _) hY.2⟩) (by rw [← hR, show fet pt - k = fet pt - (k + 1) + 1 by omega, vRun]; rw [tX_one (Or.inl c_43)]) (by omega) _ _ hP hD hS ls (lv_sub hl [0, 3, 4, 5, 6, 7, 8] rfl)
            · skip
              refine lv_iload hx hb dX3_value_126 (lv_at hl 0 rfl) ?_
              refine lv_bipush (v := 106) hx hb dX3_value_128 (by decide +kernel) ?_
              refine lv_icmp_ne (tgt := 165) hx hb dX3_value_130 (by decide +kernel) (fun c_50 => ?_) (fun c_50 => ?_)
              · skip
                refine lv_iload hx hb dX3_value_165 (lv_at hl 3 rfl) ?_
                refine lv_iconst (v := 2) hx hb dX3_value_167 (by decide +kernel) ?_
                have hq0 := tX_bin hlg c_42 c_43 c_50
                obtain ⟨b0, a0, L0, rfl⟩ : ∃ b0 a0 L0, L = b0 :: a0 :: L0 := sL2 (vOK_two2 hO1 hq0.1 hq0.2.1 hq0.2.2.1 hq0.2.2.2.1)
                have hq1 : (b0 :: a0 :: L0).length = L0.length + 2 := rfl
                have hl : lv_has ls 9 [zI 8 ((fct k) - 20000), zI 7 (fct k), zI 6 (nI k), zI 5 (nI (L0.length + 1 + 1)), zI 4 (nI (mFrom fet pt)), zR 0 h0, zI 1 (nI tn), zI 2 (nI pt), zR 3 nm] := hl
                refine lv_icmp_lt (tgt := 206) hx hb dX3_value_168 (by decide +kernel) (fun c_51 => ?_) (fun c_51 => ?_)
                · exact absurd c_51 (nI_nlt (a := L0.length + 1 + 1) (b := 2) (by omega) (by omega))
                refine g_aget (D := G.1) (ci := 3) (v := .ref sk) (C := RX3) (T := TX3) (N := 5) hx hb dX3_value_171 rfl (lv_at hl 5 rfl) hts hiX3 hown hK hP 0 rfl rfl 2 (by decide +kernel) kf19 (fun _ h9 => h9) rfl dX3_value_172 ?_
                refine lv_iload hx hb dX3_value_175 (lv_at hl 3 rfl) ?_
                refine lv_iconst (v := 2) hx hb dX3_value_177 (by decide +kernel) ?_
                refine lv_isub hx hb dX3_value_178 ?_
                refine g_topi (y := nI ((L0.length + 1 + 1) - 2)) (pk_sub (a := (L0.length + 1 + 1)) (b := 2) (by omega)) ?_
                refine lv_iload hx hb dX3_value_179 (lv_at hl 0 rfl) ?_
                refine g_aget (D := G.1) (ci := 3) (v := .ref sk) (C := RX3) (T := TX3) (N := 5) hx hb dX3_value_181 rfl (lv_at hl 5 rfl) hts hiX3 hown hK hP 0 rfl rfl 2 (by decide +kernel) kf19 (fun _ h9 => h9) rfl dX3_value_182 ?_
                refine lv_iload hx hb dX3_value_185 (lv_at hl 3 rfl) ?_
                refine lv_iconst (v := 2) hx hb dX3_value_187 (by decide +kernel) ?_
                refine lv_isub hx hb dX3_value_188 ?_
                refine g_topi (y := nI ((L0.length + 1 + 1) - 2)) (pk_sub (a := (L0.length + 1 + 1)) (b := 2) (by omega)) ?_
                refine va_iald (D := G.1) hx hb hK hP 5 0 rfl rfl (i := (nI ((L0.length + 1 + 1) - 2))) (vpn (by omega) rfl) dX3_value_189 ?_
                refine lv_topi (fun v_54 ev_54 => ?_)
                have ev_54 : v_54 = a0 := ev_54.trans (by rw [nI_clamp (by omega)]; exact hY.2.1)
                replace ev_54 := ev_54.symm; subst ev_54
                refine g_aget (D := G.1) (ci := 3) (v := .ref sk) (C := RX3) (T := TX3) (N := 5) hx hb dX3_value_190 rfl (lv_at hl 5 rfl) hts hiX3 hown hK hP 0 rfl rfl 2 (by decide +kernel) kf19 (fun _ h9 => h9) rfl dX3_value_191 ?_
                refine lv_iload hx hb dX3_value_194 (lv_at hl 3 rfl) ?_
                refine lv_iconst (v := 1) hx hb dX3_value_196 (by decide +kernel) ?_
                refine lv_isub hx hb dX3_value_197 ?_
                refine g_topi (y := nI (L0.length + 1)) (nI_pred (L0.length + 1)) ?_
                refine va_iald (D := G.1) hx hb hK hP 5 0 rfl rfl (i := (nI (L0.length + 1))) (vpn (by omega) rfl) dX3_value_198 ?_
                refine lv_topi (fun v_56 ev_56 => ?_)
                have ev_56 : v_56 = b0 := ev_56.trans (by rw [nI_clamp (by omega)]; exact hY.1)
                replace ev_56 := ev_56.symm; subst ev_56
                refine z_calli [] (v := m_X3_two ((fct k) - 20000) a0 b0) (fun _ _ h => h) (va_runS (As := [.int ((fct k) - 20000), .int a0, .int b0]) (rest := [.int (nI ((L0.length + 1 + 1) - 2)), .ref sk]) ⟨hx, hb, hml, hown, hts⟩ (c_X3_two l G ((fct k) - 20000) a0 b0 H.size) (va_cwS 3 hts gX3_value_X3_two rfl rfl rfl (by decide +kernel) ⟨Nat.le_of_ble_eq_true rfl, Nat.le_of_ble_eq_true rfl⟩) ⟨gPre_blind, fun U hU hW => gPre_ofF [] hU hW hK hP hD (by decide +kernel) rfl⟩ rfl rfl hl.1 rfl (lv_room (Nat.le_of_ble_eq_true rfl)) dX3_value_199 ⟨Nat.le_of_ble_eq_true rfl, Nat.le_of_ble_eq_true rfl⟩) hS hD hA rfl (fun u t H locs ht hvm hB hz1 hk1 hFq hAq hS => ?_)
                obtain ⟨hP1, hK1, hD1⟩ := hB
                have hP := zKeep hP hD [] hAq hk1 ht hP1 rfl
                refine g_iast (D := G.1) hx hb hK hP hD hS 5 0 rfl rfl (k := (L0.length + 1 + 1) - 2) (x := (m_X3_two ((fct k) - 20000) a0 b0)) (by omega) rfl dX3_value_202 (fun H locs hP hD hS => ?_)
                have hz9 : gPD G A [zo3 h0 co en sk wr (nI tx), zr G co 6 fc, zr G en 6 fe, zi G ct 160 fct, zi G et 3 (nF fet), zi G sk 32 (upd y ((L0.length + 1 + 1) - 2) (m_X3_two ((fct k) - 20000) a0 b0)), zi G nm 6 fna] H := ⟨hP, hD⟩
                have hP := hz9.1
                have hD := hz9.2
                refine lv_iinc (v := nI (L0.length + 1)) (lv' := [zI 5 (nI (L0.length + 1)), zI 8 ((fct k) - 20000), zI 7 (fct k), zI 6 (nI k), zI 4 (nI (mFrom fet pt)), zR 0 h0, zI 1 (nI tn), zI 2 (nI pt), zR 3 nm]) hx hb dX3_value_203 hl (k := 3) rfl (pk_m1 (L0.length + 1)) (by decide +kernel) rfl (fun ls hl => ?_)
                refine lv_iinc (v := nI (k + 1)) (lv' := [zI 6 (nI (k + 1)), zI 5 (nI (L0.length + 1)), zI 8 ((fct k) - 20000), zI 7 (fct k), zI 4 (nI (mFrom fet pt)), zR 0 h0, zI 1 (nI tn), zI 2 (nI pt), zR 3 nm]) hx hb dX3_value_206 hl (k := 3) rfl (nI_add k 1) (by decide +kernel) rfl (fun ls hl => ?_)
                refine lv_goto (tgt := 41) hx hb dX3_value_209 (by decide +kernel) ?_
                exact ih9 (k + 1) ((m_X3_two (fct k - 20000) a0 b0) :: L0) (upd y ((L0.length + 1 + 1) - 2) (m_X3_two ((fct k) - 20000) a0 b0)) (⟨by omega, by omega⟩) (by show L0.length + 1 ≤ 32; omega) (vOK_two hO1 hq0.1 hq0.2.1 hq0.2.2.1 hq0.2.2.2.1) (⟨upd_at, sAg_upd (Nat.le_refl _) hY.2.2⟩) (by rw [← hR, show fet pt - k = fet pt - (k + 1) + 1 by omega, vRun]; rw [vStep_b hq0.1 hq0.2.1 hq0.2.2.1 hq0.2.2.2.1, ← hq0.2.2.2.2 a0 b0]) (by omega) _ _ hP hD hS ls (lv_sub hl [0, 1, 4, 5, 6, 7, 8] rfl)
              · skip
                refine lv_iload hx hb dX3_value_133 (lv_at hl 3 rfl) ?_
                refine lv_iconst (v := 1) hx hb dX3_value_135 (by decide +kernel) ?_
                have hq0 : trX (fct k) = 13 ∨ trX (fct k) = 19 := tX_un (Or.inr c_50)
                obtain ⟨a0, L0, rfl⟩ : ∃ a0 L0, L = a0 :: L0 := sL1 (vOK_one1 hO1 hq0)
                have hq1 : (a0 :: L0).length = L0.length + 1 := rfl
                have hl : lv_has ls 9 [zI 8 ((fct k) - 20000), zI 7 (fct k), zI 6 (nI k), zI 5 (nI (L0.length + 1)), zI 4 (nI (mFrom fet pt)), zR 0 h0, zI 1 (nI tn), zI 2 (nI pt), zR 3 nm] := hl
                refine lv_icmp_lt (tgt := 206) hx hb dX3_value_136 (by decide +kernel) (fun c_59 => ?_) (fun c_59 => ?_)
                · exact absurd c_59 (nI_nlt (a := L0.length + 1) (b := 1) (by omega) (by omega))
                refine g_aget (D := G.1) (ci := 3) (v := .ref sk) (C := RX3) (T := TX3) (N := 5) hx hb dX3_value_139 rfl (lv_at hl 5 rfl) hts hiX3 hown hK hP 0 rfl rfl 2 (by decide +kernel) kf19 (fun _ h9 => h9) rfl dX3_value_140 ?_
                refine lv_iload hx hb dX3_value_143 (lv_at hl 3 rfl) ?_
                refine lv_iconst (v := 1) hx hb dX3_value_145 (by decide +kernel) ?_
                refine lv_isub hx hb dX3_value_146 ?_
                refine g_topi (y := nI ((L0.length + 1) - 1)) (pk_sub (a := (L0.length + 1)) (b := 1) (by omega)) ?_
                refine lv_iload hx hb dX3_value_147 (lv_at hl 0 rfl) ?_
                refine g_aget (D := G.1) (ci := 3) (v := .ref sk) (C := RX3) (T := TX3) (N := 5) hx hb dX3_value_149 rfl (lv_at hl 5 rfl) hts hiX3 hown hK hP 0 rfl rfl 2 (by decide +kernel) kf19 (fun _ h9 => h9) rfl dX3_value_150 ?_
                refine lv_iload hx hb dX3_value_153 (lv_at hl 3 rfl) ?_
                refine lv_iconst (v := 1) hx hb dX3_value_155 (by decide +kernel) ?_
                refine lv_isub hx hb dX3_value_156 ?_
                refine g_topi (y := nI ((L0.length + 1) - 1)) (pk_sub (a := (L0.length + 1)) (b := 1) (by omega)) ?_
                refine va_iald (D := G.1) hx hb hK hP 5 0 rfl rfl (i := (nI ((L0.length + 1) - 1))) (vpn (by omega) rfl) dX3_value_157 ?_
                refine lv_topi (fun v_62 ev_62 => ?_)
                have ev_62 : v_62 = a0 := ev_62.trans (by rw [nI_clamp (by omega)]; exact hY.1)
                replace ev_62 := ev_62.symm; subst ev_62
                refine z_calli [] (v := m_X3_one ((fct k) - 20000) a0) (fun _ _ h => h) (va_runS (As := [.int ((fct k) - 20000), .int a0]) (rest := [.int (nI ((L0.length + 1) - 1)), .ref sk]) ⟨hx, hb, hml, hown, hts⟩ (c_X3_one l G ((fct k) - 20000) a0 H.size) (va_cwS 2 hts gX3_value_X3_one rfl rfl rfl (by decide +kernel) ⟨Nat.le_of_ble_eq_true rfl, Nat.le_of_ble_eq_true rfl⟩) ⟨gPre_blind, fun U hU hW => gPre_ofF [] hU hW hK hP hD (by decide +kernel) rfl⟩ rfl rfl hl.1 rfl (lv_room (Nat.le_of_ble_eq_true rfl)) dX3_value_158 ⟨Nat.le_of_ble_eq_true rfl, Nat.le_of_ble_eq_true rfl⟩) hS hD hA rfl (fun u t H locs ht hvm hB hz1 hk1 hFq hAq hS => ?_)
                obtain ⟨hP1, hK1, hD1⟩ := hB
                have hP := zKeep hP hD [] hAq hk1 ht hP1 rfl
                refine g_iast (D := G.1) hx hb hK hP hD hS 5 0 rfl rfl (k := (L0.length + 1) - 1) (x := (m_X3_one ((fct k) - 20000) a0)) (by omega) rfl dX3_value_161 (fun H locs hP hD hS => ?_)
                have hz9 : gPD G A [zo3 h0 co en sk wr (nI tx), zr G co 6 fc, zr G en 6 fe, zi G ct 160 fct, zi G et 3 (nF fet), zi G sk 32 (upd y ((L0.length + 1) - 1) (m_X3_one ((fct k) - 20000) a0)), zi G nm 6 fna] H := ⟨hP, hD⟩
                have hP := hz9.1
                have hD := hz9.2
                refine lv_goto (tgt := 206) hx hb dX3_value_162 (by decide +kernel) ?_
                refine lv_iinc (v := nI (k + 1)) (lv' := [zI 6 (nI (k + 1)), zI 8 ((fct k) - 20000), zI 7 (fct k), zI 5 (nI (L0.length + 1)), zI 4 (nI (mFrom fet pt)), zR 0 h0, zI 1 (nI tn), zI 2 (nI pt), zR 3 nm]) hx hb dX3_value_206 hl (k := 2) rfl (nI_add k 1) (by decide +kernel) rfl (fun ls hl => ?_)
                refine lv_goto (tgt := 41) hx hb dX3_value_209 (by decide +kernel) ?_
                exact ih9 (k + 1) ((m_X3_one (fct k - 20000) a0) :: L0) (upd y ((L0.length + 1) - 1) (m_X3_one ((fct k) - 20000) a0)) (⟨by omega, by omega⟩) (hLn) (vOK_one hO1 hq0) (⟨upd_at, sAg_upd (Nat.le_refl _) hY.2⟩) (by rw [← hR, show fet pt - k = fet pt - (k + 1) + 1 by omega, vRun]; rw [tX_one (Or.inr c_50)]) (by omega) _ _ hP hD hS ls (lv_sub hl [0, 3, 4, 5, 6, 7, 8] rfl)
          · skip
            refine lv_iload hx hb dX3_value_78 (lv_at hl 3 rfl) ?_
            refine lv_bipush (v := 32) hx hb dX3_value_80 (by decide +kernel) ?_
            have hq0 := tX_push hlg c_42
            have hq1 := vOK_push hO1 hq0
            have hq2 := hq1.1
            refine lv_icmp_ge (tgt := 206) hx hb dX3_value_82 (by decide +kernel) (fun c_65 => ?_) (fun c_65 => ?_)
            · exact absurd c_65 (fun z => absurd (nI_le1 (a := 32) (b := L.length) (by omega) (by omega) z) (by omega))
            refine g_aget (D := G.1) (ci := 3) (v := .ref sk) (C := RX3) (T := TX3) (N := 5) hx hb dX3_value_85 rfl (lv_at hl 5 rfl) hts hiX3 hown hK hP 0 rfl rfl 2 (by decide +kernel) kf19 (fun _ h9 => h9) rfl dX3_value_86 ?_
            refine lv_iload hx hb dX3_value_89 (lv_at hl 3 rfl) ?_
            refine lv_iload hx hb dX3_value_91 (lv_at hl 1 rfl) ?_
            refine lv_sipush (v := 10000) hx hb dX3_value_93 (by decide +kernel) ?_
            refine lv_icmp_ge (tgt := 104) hx hb dX3_value_96 (by decide +kernel) (fun c_66 => ?_) (fun c_66 => ?_)
            · skip
              refine lv_aload_n hx hb dX3_value_104 rfl (lv_at hl 8 rfl) ?_
              refine lv_iload hx hb dX3_value_105 (lv_at hl 1 rfl) ?_
              refine lv_sipush (v := 10000) hx hb dX3_value_107 (by decide +kernel) ?_
              refine lv_isub hx hb dX3_value_110 ?_
              refine va_iald (D := G.1) hx hb hK hP 6 0 rfl rfl (i := ((fct k) - 10000)) (sIx (tX_nm hlg c_66 c_42)) dX3_value_111 ?_
              refine g_topi (y := fna (nC (fct k - 10000))) (rfl) ?_
              refine g_iast (D := G.1) hx hb hK hP hD hS 5 0 rfl rfl (k := L.length) (x := (fna (nC (fct k - 10000)))) (by omega) rfl dX3_value_112 (fun H locs hP hD hS => ?_)
              have hz9 : gPD G A [zo3 h0 co en sk wr (nI tx), zr G co 6 fc, zr G en 6 fe, zi G ct 160 fct, zi G et 3 (nF fet), zi G sk 32 (upd y L.length (fna (nC (fct k - 10000)))), zi G nm 6 fna] H := ⟨hP, hD⟩
              have hP := hz9.1
              have hD := hz9.2
              refine lv_iinc (v := nI (L.length + 1)) (lv' := [zI 5 (nI (L.length + 1)), zI 8 ((fct k) - 20000), zI 7 (fct k), zI 6 (nI k), zI 4 (nI (mFrom fet pt)), zR 0 h0, zI 1 (nI tn), zI 2 (nI pt), zR 3 nm]) hx hb dX3_value_113 hl (k := 3) rfl (nI_add L.length 1) (by decide +kernel) rfl (fun ls hl => ?_)
              refine lv_goto (tgt := 206) hx hb dX3_value_116 (by decide +kernel) ?_
              refine lv_iinc (v := nI (k + 1)) (lv' := [zI 6 (nI (k + 1)), zI 5 (nI (L.length + 1)), zI 8 ((fct k) - 20000), zI 7 (fct k), zI 4 (nI (mFrom fet pt)), zR 0 h0, zI 1 (nI tn), zI 2 (nI pt), zR 3 nm]) hx hb dX3_value_206 hl (k := 3) rfl (nI_add k 1) (by decide +kernel) rfl (fun ls hl => ?_)
              refine lv_goto (tgt := 41) hx hb dX3_value_209 (by decide +kernel) ?_
              exact ih9 (k + 1) ((fna (nC (fct k - 10000))) :: L) (upd y L.length (fna (nC (fct k - 10000)))) (⟨by omega, by omega⟩) (by show L.length + 1 ≤ 32; omega) (hq1.2) (⟨upd_at, sAg_upd (Nat.le_refl _) hY⟩) (by rw [← hR, show fet pt - k = fet pt - (k + 1) + 1 by omega, vRun]; rw [tX_n hlg c_66 c_42]) (by omega) _ _ hP hD hS ls (lv_sub hl [0, 1, 4, 5, 6, 7, 8] rfl)
            · skip
              refine lv_iload hx hb dX3_value_99 (lv_at hl 1 rfl) ?_
              refine lv_goto (tgt := 112) hx hb dX3_value_101 (by decide +kernel) ?_
              refine g_iast (D := G.1) hx hb hK hP hD hS 5 0 rfl rfl (k := L.length) (x := (fct k)) (by omega) rfl dX3_value_112 (fun H locs hP hD hS => ?_)
              have hz9 : gPD G A [zo3 h0 co en sk wr (nI tx), zr G co 6 fc, zr G en 6 fe, zi G ct 160 fct, zi G et 3 (nF fet), zi G sk 32 (upd y L.length (fct k)), zi G nm 6 fna] H := ⟨hP, hD⟩
              have hP := hz9.1
              have hD := hz9.2
              refine lv_iinc (v := nI (L.length + 1)) (lv' := [zI 5 (nI (L.length + 1)), zI 8 ((fct k) - 20000), zI 7 (fct k), zI 6 (nI k), zI 4 (nI (mFrom fet pt)), zR 0 h0, zI 1 (nI tn), zI 2 (nI pt), zR 3 nm]) hx hb dX3_value_113 hl (k := 3) rfl (nI_add L.length 1) (by decide +kernel) rfl (fun ls hl => ?_)
              refine lv_goto (tgt := 206) hx hb dX3_value_116 (by decide +kernel) ?_
              refine lv_iinc (v := nI (k + 1)) (lv' := [zI 6 (nI (k + 1)), zI 5 (nI (L.length + 1)), zI 8 ((fct k) - 20000), zI 7 (fct k), zI 4 (nI (mFrom fet pt)), zR 0 h0, zI 1 (nI tn), zI 2 (nI pt), zR 3 nm]) hx hb dX3_value_206 hl (k := 3) rfl (nI_add k 1) (by decide +kernel) rfl (fun ls hl => ?_)
              refine lv_goto (tgt := 41) hx hb dX3_value_209 (by decide +kernel) ?_
              exact ih9 (k + 1) ((fct k) :: L) (upd y L.length (fct k)) (⟨by omega, by omega⟩) (by show L.length + 1 ≤ 32; omega) (hq1.2) (⟨upd_at, sAg_upd (Nat.le_refl _) hY⟩) (by rw [← hR, show fet pt - k = fet pt - (k + 1) + 1 by omega, vRun]; rw [tX_c hlg c_66]) (by omega) _ _ hP hD hS ls (lv_sub hl [0, 1, 4, 5, 6, 7, 8] rfl)
    exact loop_41 (fet pt - mFrom fet pt + 1) (mFrom fet pt) ([]) fsk (⟨Nat.le_refl _, wa⟩) (by decide +kernel) (wc) (trivial) (rfl) (by omega) _ _ hP hD hS ls hl
