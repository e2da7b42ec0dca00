abbrev q_X2_isSheet_g (G : gG) (E : gS) (h0 qn qo ql : Nat) (v0 : Int32) (A : Nat → Prop) : Array Value → State → Outcome → State → Prop := va_Qi (fun (r : Int32) (u : Unit) => match u with | _ => r = bz (decide (0 ≤ v0 ∧ v0 ≤ 3))) (fun (u : Unit) t => match u with | _ => va_P G.1 vwCl [zo2 h0 qn qo ql] t.heap ∧ gK G t ∧ va_D A [zo2 h0 qn qo ql]) A
set_option maxHeartbeats 4000000 in
set_option maxRecDepth 100000 in
theorem c_X2_isSheet_g (l : Launch) (G : gG) (E : gS) (h0 qn qo ql : Nat) (v0 : Int32) (sz : Nat) : Met l yX2_isSheet wsX2_isSheet ({ frames := 1, cells := 0, slots := 0, locals := 21 }) (gPreE G E [.ref h0, .int v0] [zo2 h0 qn qo ql] sz) (q_X2_isSheet_g G E h0 qn qo ql v0 (va_A [zo2 h0 qn qo ql] sz)) 0 0 (va_A [zo2 h0 qn qo ql] sz) := by
  refine Met.ofW (cc := cX2_isSheet) (maxL := 2) (ret := (some .boolean)) (by decide +kernel) rfl ?_
  intro p e s m args below meth c s₁ B hml hv
  obtain ⟨rfl, hsz, hP, hK, hD0, hE⟩ := hv
  have hx := B.exec
  have hb := B.bytes
  have hr := B.returns
  have hts := atoms_spec (ws := wsX2_isSheet) B.pre
  have hown : s.vm.findClass RX2 = some m.cls := findClass_of_methodNamed B.named
  have hlocks := B.notSynchronized
  subst hsz
  have hD := hD0.self (sz := s.heap.size)
  generalize hAe : va_A [zo2 h0 qn qo ql] s.heap.size = A at hD hE ⊢
  have hA : ∀ q : Nat, s.heap.size ≤ q → A q := fun q h => by rw [← hAe]; exact Or.inr h
  have hS : va_S A s.heap s.heap [] := va_S.rf
  have hz9 : gPD G A [zo2 h0 qn qo ql] s.heap := ⟨hP, hD⟩
  have hP := hz9.1
  have hD := hz9.2
  have hl := lv_entry ([.ref h0, .int v0]) (n := 2) (Nat.le_of_ble_eq_true rfl)
  rw [lg_entry_eq]
  generalize (lg_sl ([.ref h0, .int v0]) ++ List.replicate (2 - (lg_sl ([.ref h0, .int v0])).length) Slot.unset).toArray = ls at hl ⊢
  have hl : lv_has ls 2 [zR 0 h0, zI 1 v0] := hl
  refine lv_iload_n hx hb dX2_isSheet_0 rfl (lv_at hl 1 rfl) ?_
  refine lv_iconst (v := 3) hx hb dX2_isSheet_1 (by decide +kernel) ?_
  refine z_calli [] (v := bz (decide (0 ≤ v0 ∧ v0 ≤ 3))) (fun _ _ h => h) (va_runSN (As := [.int v0, .int 3]) (rest := []) ⟨hx, hb, hml, hown, hts⟩ (c_X5_within_g l G v0 3 s.heap.size) ⟨va_cnB 2 hts gX2_isSheet_X5_within_n29 rfl rfl rfl hE.2.2.2.2.1 (hts (.initialized RX5) (by decide +kernel)) (by decide +kernel) ⟨Nat.le_of_ble_eq_true rfl, Nat.le_of_ble_eq_true rfl⟩, hts (.static yX5_within) (by decide +kernel), trivial⟩ ⟨gPre_blind, fun U hU hW => gPre_ofF [] hU hW hK hP hD (by decide +kernel) rfl⟩ rfl rfl hl.1 rfl (lv_room (Nat.le_of_ble_eq_true rfl)) dX2_isSheet_2 ⟨Nat.le_of_ble_eq_true rfl, Nat.le_of_ble_eq_true rfl⟩) hS hD hA rfl (fun u t H locs ht hvm hB hz1 hk1 hFq hAq hS => ?_)
  obtain ⟨hP1, hK1, hD1⟩ := hB
  have hP := zKeep hP hD [] hAq hk1 ht hP1 rfl
  have hpost : (fun (r : Int32) (u : Unit) => match u with | _ => r = bz (decide (0 ≤ v0 ∧ v0 ≤ 3))) (bz (decide (0 ≤ v0 ∧ v0 ≤ 3))) () := rfl
  exact W.zret (v := (bz (decide (0 ≤ v0 ∧ v0 ≤ 3)))) hx hb hr (bz_nar _) (fun t ht hW => ⟨⟨(bz (decide (0 ≤ v0 ∧ v0 ≤ 3))), (), rfl, hpost, by rw [ht]; exact hP, va_K.moved hW.alike hK, hD⟩, hS.F ht⟩) hS.2.2 dX2_isSheet_5
abbrev q_X2_become (G : gG) (h0 qn qo ql rr : Nat) (fn : Nat → Option Nat) (fql : Nat → Nat) (fqo : Nat → Int32) (frr : Nat → Int32) (sn : Nat) (ln : Nat) (v1 : Int32) (A : Nat → Prop) : Array Value → State → Outcome → State → Prop := va_Qv (fun (u : Unit) => match u with | _ => True) (fun (u : Unit) t => match u with | _ => va_P G.1 vwCl [zo2 h0 qn qo ql, zr G qn 4 fn, zi G qo 4 (upd fqo sn v1), zi G ql 4 (nF (updN fql sn ln)), zi G rr 40 (fun _ => 0)] t.heap ∧ gK G t ∧ va_D A [zo2 h0 qn qo ql, zr G qn 4 fn, zi G qo 4 (upd fqo sn v1), zi G ql 4 (nF (updN fql sn ln)), zi G rr 40 (fun _ => 0)]) A
set_option maxHeartbeats 4000000 in
set_option maxRecDepth 100000 in
theorem c_X2_become (l : Launch) (G : gG) (h0 qn qo ql rr : Nat) (fn : Nat → Option Nat) (fql : Nat → Nat) (fqo : Nat → Int32) (frr : Nat → Int32) (sn : Nat) (ln : Nat) (v1 : Int32) (sz : Nat) (hsn : sn < 4) (hrw : fn sn = some rr) : Met l yX2_become wsX2_become ({ frames := 1, cells := 0, slots := 0, locals := 23 }) (gPre G [.ref h0, .int (nI sn), .int v1, .int (nI ln)] [zo2 h0 qn qo ql, zr G qn 4 fn, zi G qo 4 fqo, zi G ql 4 (nF fql), zi G rr 40 frr] sz) (q_X2_become G h0 qn qo ql rr fn fql fqo frr sn ln v1 (va_A [zo2 h0 qn qo ql, zr G qn 4 fn, zi G qo 4 fqo, zi G ql 4 (nF fql), zi G rr 40 frr] sz)) 0 0 (va_A [zo2 h0 qn qo ql, zr G qn 4 fn, zi G qo 4 fqo, zi G ql 4 (nF fql), zi G rr 40 frr] sz) := by
  refine Met.ofW (cc := cX2_become) (maxL := 4) (ret := none) (by decide +kernel) rfl ?_
  intro p e s m args below meth c s₁ B hml hv
  obtain ⟨rfl, hsz, hP, hK, hD0⟩ := hv
  have hx := B.exec
  have hb := B.bytes
  have hr := B.returns
  have hts := atoms_spec (ws := wsX2_become) B.pre
  have hown : s.vm.findClass RX2 = some m.cls := findClass_of_methodNamed B.named
  have hlocks := B.notSynchronized
  subst hsz
  have hD := hD0.self (sz := s.heap.size)
  generalize hAe : va_A [zo2 h0 qn qo ql, zr G qn 4 fn, zi G qo 4 fqo, zi G ql 4 (nF fql), zi G rr 40 frr] s.heap.size = A at hD ⊢
  have hA : ∀ q : Nat, s.heap.size ≤ q → A q := fun q h => by rw [← hAe]; exact Or.inr h
  have hS : va_S A s.heap s.heap [] := va_S.rf
  have hz9 : gPD G A [zo2 h0 qn qo ql, zr G qn 4 fn, zi G qo 4 fqo, zi G ql 4 (nF fql), zi G rr 40 frr] s.heap := ⟨hP, hD⟩
  have hP := hz9.1
  have hD := hz9.2
  have hl := lv_entry ([.ref h0, .int (nI sn), .int v1, .int (nI ln)]) (n := 4) (Nat.le_of_ble_eq_true rfl)
  rw [lg_entry_eq]
  generalize (lg_sl ([.ref h0, .int (nI sn), .int v1, .int (nI ln)]) ++ List.replicate (4 - (lg_sl ([.ref h0, .int (nI sn), .int v1, .int (nI ln)])).length) Slot.unset).toArray = ls at hl ⊢
  have hl : lv_has ls 4 [zR 0 h0, zI 1 (nI sn), zI 2 v1, zI 3 (nI ln)] := hl
  have kf16 := hts (.fieldLink RX2 16 "PebbleInShoe$Sheets" "sorts" "[I") (by decide +kernel)
  have hiX2 := (by decide +kernel : ∀ w ∈ wsX20, w ∈ wsX2_become)
  have kf20 := hts (.fieldLink RX2 20 "PebbleInShoe$Sheets" "lengths" "[I") (by decide +kernel)
  have kf11 := hts (.fieldLink RX2 11 "PebbleInShoe$Sheets" "numbers" "[[I") (by decide +kernel)
  refine g_aget (D := G.1) (ci := 2) (v := .ref qo) (C := RX2) (T := TX2) (N := 3) hx hb dX2_become_0 rfl (lv_at hl 0 rfl) hts hiX2 hown hK hP 0 rfl rfl 1 (by decide +kernel) kf16 (fun _ h9 => h9) rfl dX2_become_1 ?_
  refine lv_iload_n hx hb dX2_become_4 rfl (lv_at hl 1 rfl) ?_
  refine lv_iload_n hx hb dX2_become_5 rfl (lv_at hl 2 rfl) ?_
  refine g_iast (D := G.1) hx hb hK hP hD hS 2 0 rfl rfl (k := sn) (x := v1) (by omega) rfl dX2_become_6 (fun H locs hP hD hS => ?_)
  have hz9 : gPD G A [zo2 h0 qn qo ql, zr G qn 4 fn, zi G qo 4 (upd fqo sn v1), zi G ql 4 (nF fql), zi G rr 40 frr] H := ⟨hP, hD⟩
  have hP := hz9.1
  have hD := hz9.2
  refine g_aget (D := G.1) (ci := 2) (v := .ref ql) (C := RX2) (T := TX2) (N := 3) hx hb dX2_become_7 rfl (lv_at hl 0 rfl) hts hiX2 hown hK hP 0 rfl rfl 2 (by decide +kernel) kf20 (fun _ h9 => h9) rfl dX2_become_8 ?_
  refine lv_iload_n hx hb dX2_become_11 rfl (lv_at hl 1 rfl) ?_
  refine lv_iload_n hx hb dX2_become_12 rfl (lv_at hl 3 rfl) ?_
  refine va_iast (D := G.1) hx hb hK hP hD hS 3 0 rfl rfl (i := (nI sn)) (x := (nI ln)) (vpn (by omega) rfl) dX2_become_13 (fun H locs hP hD hS => ?_)
  have hz9 : gPD G A [zo2 h0 qn qo ql, zr G qn 4 fn, zi G qo 4 (upd fqo sn v1), zi G ql 4 (nF (updN fql sn ln)), zi G rr 40 frr] H := ⟨by rw [nI_clamp (by omega), show upd (nF fql) sn (nI ln) = nF (updN fql sn ln) from nF_upd] at hP; exact hP, by rw [nI_clamp (by omega), show upd (nF fql) sn (nI ln) = nF (updN fql sn ln) from nF_upd] at hD; exact hD⟩
  have hP := hz9.1
  have hD := hz9.2
  refine g_aget (D := G.1) (ci := 2) (v := .ref qn) (C := RX2) (T := TX2) (N := 3) hx hb dX2_become_14 rfl (lv_at hl 0 rfl) hts hiX2 hown hK hP 0 rfl rfl 0 (by decide +kernel) kf11 (fun _ h9 => h9) rfl dX2_become_15 ?_
  refine lv_iload_n hx hb dX2_become_18 rfl (lv_at hl 1 rfl) ?_
  refine g_aald (x := rr) hx hb hK hP 1 2 rfl rfl (i := (nI sn)) (vpn (by omega) rfl) (by rw [nI_clamp (by omega)]; exact hrw) dX2_become_19 ?_
  refine lv_iconst (v := 0) hx hb dX2_become_20 (by decide +kernel) ?_
  refine z_callv [4] (va_runS (As := [.ref rr, .int 0]) (rest := []) ⟨hx, hb, hml, hown, hts⟩ (c_J7_fill_53178 l G rr 40 frr 0 H.size (by decide +kernel)) (va_cwS 2 hts gX2_become_J7_fill_53178 rfl rfl rfl (by decide +kernel) ⟨Nat.le_of_ble_eq_true rfl, Nat.le_of_ble_eq_true rfl⟩) ⟨gPre_blind, fun U hU hW => gPre_ofF [4] hU hW hK hP hD (by decide +kernel) rfl⟩ rfl rfl hl.1 rfl (lv_room (Nat.le_of_ble_eq_true rfl)) dX2_become_21 ⟨Nat.le_of_ble_eq_true rfl, Nat.le_of_ble_eq_true rfl⟩) hS hD hA rfl (fun u t H locs ht hvm w_2 hB hz1 hk1 hFq hAq hS => ?_)
  obtain ⟨hP1, hK1, hD1⟩ := hB
  have hz9 : gPD G A [zo2 h0 qn qo ql, zr G qn 4 fn, zi G qo 4 (upd fqo sn v1), zi G ql 4 (nF (updN fql sn ln)), zi G rr 40 (gFl 0 frr 40)] H := zFill hP hD [4] [0, 0, 0, 0, 1] hAq hk1 hFq ht hP1 hD1 rfl (by decide +kernel)
  have hP := hz9.1
  have hD := hz9.2
  have hz9 : gPD G A [zo2 h0 qn qo ql, zr G qn 4 fn, zi G qo 4 (upd fqo sn v1), zi G ql 4 (nF (updN fql sn ln)), zi G rr 40 (fun _ => 0)] H := ⟨g_ext hP 4 rfl (fun i h9 => gFl_in h9), g_extD hD 4 rfl⟩
  have hP := hz9.1
  have hD := hz9.2
  have hpost : (fun (u : Unit) => match u with | _ => True) () := trivial
  exact W.vret hx hb hr (fun t ht hW => ⟨⟨(), rfl, hpost, by rw [ht]; exact hP, va_K.moved hW.alike hK, hD⟩, hS.F ht⟩) hS.2.2 dX2_become_24
noncomputable def m_X2_store_rr (fqo : Nat → Int32) (frr : Nat → Int32) (sn : Nat) (ix : Nat) (v3 : Int32) : Nat → Int32 := if (fqo sn) = 0 then upd frr ix v3.toInt8.toInt32 else (if (fqo sn) = 1 then upd frr ix v3.toInt16.toInt32 else upd frr ix v3)
abbrev q_X2_store (G : gG) (h0 qn qo ql rr : Nat) (fn : Nat → Option Nat) (fqo : Nat → Int32) (frr : Nat → Int32) (sn : Nat) (ix : Nat) (v3 : Int32) (A : Nat → Prop) : Array Value → State → Outcome → State → Prop := va_Qv (fun (u : Unit) => match u with | _ => True) (fun (u : Unit) t => match u with | _ => va_P G.1 vwCl [zo2 h0 qn qo ql, zr G qn 4 fn, zi G qo 4 fqo, zi G rr 40 (m_X2_store_rr fqo frr sn ix v3)] t.heap ∧ gK G t ∧ va_D A [zo2 h0 qn qo ql, zr G qn 4 fn, zi G qo 4 fqo, zi G rr 40 (m_X2_store_rr fqo frr sn ix v3)]) A
set_option maxHeartbeats 4000000 in
set_option maxRecDepth 100000 in
theorem c_X2_store (l : Launch) (G : gG) (h0 qn qo ql rr : Nat) (fn : Nat → Option Nat) (fqo : Nat → Int32) (frr : Nat → Int32) (sn : Nat) (ix : Nat) (v3 : Int32) (sz : Nat) (hsn : sn < 4) (hrw : fn sn = some rr) (hix : ix < 40) : Met l yX2_store wsX2_store ({ frames := 0, cells := 0, slots := 0, locals := 0 }) (gPre G [.ref h0, .int (nI sn), .int (nI ix), .int v3] [zo2 h0 qn qo ql, zr G qn 4 fn, zi G qo 4 fqo, zi G rr 40 frr] sz) (q_X2_store G h0 qn qo ql rr fn fqo frr sn ix v3 (va_A [zo2 h0 qn qo ql, zr G qn 4 fn, zi G qo 4 fqo, zi G rr 40 frr] sz)) 0 0 (va_A [zo2 h0 qn qo ql, zr G qn 4 fn, zi G qo 4 fqo, zi G rr 40 frr] sz) := by
  refine Met.ofW (cc := cX2_store) (maxL := 4) (ret := none) (by decide +kernel) rfl ?_
  intro p e s m args below meth c s₁ B hml hv
  obtain ⟨rfl, hsz, hP, hK, hD0⟩ := hv
  have hx := B.exec
  have hb := B.bytes
  have hr := B.returns
  have hts := atoms_spec (ws := wsX2_store) B.pre
  have hown : s.vm.findClass RX2 = some m.cls := findClass_of_methodNamed B.named
  have hlocks := B.notSynchronized
  subst hsz
  have hD := hD0.self (sz := s.heap.size)
  generalize hAe : va_A [zo2 h0 qn qo ql, zr G qn 4 fn, zi G qo 4 fqo, zi G rr 40 frr] s.heap.size = A at hD ⊢
  have hA : ∀ q : Nat, s.heap.size ≤ q → A q := fun q h => by rw [← hAe]; exact Or.inr h
  have hS : va_S A s.heap s.heap [] := va_S.rf
  have hz9 : gPD G A [zo2 h0 qn qo ql, zr G qn 4 fn, zi G qo 4 fqo, zi G rr 40 frr] s.heap := ⟨hP, hD⟩
  have hP := hz9.1
  have hD := hz9.2
  have hl := lv_entry ([.ref h0, .int (nI sn), .int (nI ix), .int v3]) (n := 4) (Nat.le_of_ble_eq_true rfl)
  rw [lg_entry_eq]
  generalize (lg_sl ([.ref h0, .int (nI sn), .int (nI ix), .int v3]) ++ List.replicate (4 - (lg_sl ([.ref h0, .int (nI sn), .int (nI ix), .int v3])).length) Slot.unset).toArray = ls at hl ⊢
  have hl : lv_has ls 4 [zR 0 h0, zI 1 (nI sn), zI 2 (nI ix), zI 3 v3] := hl
  have kf11 := hts (.fieldLink RX2 11 "PebbleInShoe$Sheets" "numbers" "[[I") (by decide +kernel)
  have hiX2 := (by decide +kernel : ∀ w ∈ wsX20, w ∈ wsX2_store)
  have kf16 := hts (.fieldLink RX2 16 "PebbleInShoe$Sheets" "sorts" "[I") (by decide +kernel)
  refine g_aget (D := G.1) (ci := 2) (v := .ref qn) (C := RX2) (T := TX2) (N := 3) hx hb dX2_store_0 rfl (lv_at hl 0 rfl) hts hiX2 hown hK hP 0 rfl rfl 0 (by decide +kernel) kf11 (fun _ h9 => h9) rfl dX2_store_1 ?_
  refine lv_iload_n hx hb dX2_store_4 rfl (lv_at hl 1 rfl) ?_
  refine g_aald (x := rr) hx hb hK hP 1 2 rfl rfl (i := (nI sn)) (vpn (by omega) rfl) (by rw [nI_clamp (by omega)]; exact hrw) dX2_store_5 ?_
  refine lv_iload_n hx hb dX2_store_6 rfl (lv_at hl 2 rfl) ?_
  refine g_aget (D := G.1) (ci := 2) (v := .ref qo) (C := RX2) (T := TX2) (N := 3) hx hb dX2_store_7 rfl (lv_at hl 0 rfl) hts hiX2 hown hK hP 0 rfl rfl 1 (by decide +kernel) kf16 (fun _ h9 => h9) rfl dX2_store_8 ?_
  refine lv_iload_n hx hb dX2_store_11 rfl (lv_at hl 1 rfl) ?_
  refine g_iald (D := G.1) hx hb hK hP 2 0 rfl rfl (k := sn) (y := fqo sn) (by omega) rfl rfl dX2_store_12 ?_
  refine lv_if_ne (tgt := 21) hx hb dX2_store_13 (by decide +kernel) (fun c_2 => ?_) (fun c_2 => ?_)
  · skip
    refine g_aget (D := G.1) (ci := 2) (v := .ref qo) (C := RX2) (T := TX2) (N := 3) hx hb dX2_store_21 rfl (lv_at hl 0 rfl) hts hiX2 hown hK hP 0 rfl rfl 1 (by decide +kernel) kf16 (fun _ h9 => h9) rfl dX2_store_22 ?_
    refine lv_iload_n hx hb dX2_store_25 rfl (lv_at hl 1 rfl) ?_
    refine g_iald (D := G.1) hx hb hK hP 2 0 rfl rfl (k := sn) (y := fqo sn) (by omega) rfl rfl dX2_store_26 ?_
    refine lv_iconst (v := 1) hx hb dX2_store_27 (by decide +kernel) ?_
    refine lv_icmp_ne (tgt := 36) hx hb dX2_store_28 (by decide +kernel) (fun c_4 => ?_) (fun c_4 => ?_)
    · skip
      refine lv_iload_n hx hb dX2_store_36 rfl (lv_at hl 3 rfl) ?_
      refine g_iast (D := G.1) hx hb hK hP hD hS 3 0 rfl rfl (k := ix) (x := v3) (by omega) rfl dX2_store_37 (fun H locs hP hD hS => ?_)
      have hz9 : gPD G A [zo2 h0 qn qo ql, zr G qn 4 fn, zi G qo 4 fqo, zi G rr 40 (upd frr ix v3)] H := ⟨hP, hD⟩
      have hP := hz9.1
      have hD := hz9.2
      have q_5 : m_X2_store_rr fqo frr sn ix v3 = upd frr ix v3 := by unfold m_X2_store_rr; rw [if_neg c_2, if_neg c_4]
      have hz9 : gPD G A [zo2 h0 qn qo ql, zr G qn 4 fn, zi G qo 4 fqo, zi G rr 40 (m_X2_store_rr fqo frr sn ix v3)] H := ⟨by rw [q_5]; exact hP, by rw [q_5]; exact hD⟩
      have hP9 := hz9.1
      have hD9 := hz9.2
      have hpost : (fun (u : Unit) => match u with | _ => True) () := trivial
      exact W.vret hx hb hr (fun t ht hW => ⟨⟨(), rfl, hpost, by rw [ht]; exact hP9, va_K.moved hW.alike hK, hD9⟩, hS.F ht⟩) hS.2.2 dX2_store_38
    · skip
      refine lv_iload_n hx hb dX2_store_31 rfl (lv_at hl 3 rfl) ?_
      refine lv_i2s (v := v3.toInt16.toInt32) hx hb dX2_store_32 rfl ?_
      refine lv_goto (tgt := 37) hx hb dX2_store_33 (by decide +kernel) ?_
      refine g_iast (D := G.1) hx hb hK hP hD hS 3 0 rfl rfl (k := ix) (x := v3.toInt16.toInt32) (by omega) rfl dX2_store_37 (fun H locs hP hD hS => ?_)
      have hz9 : gPD G A [zo2 h0 qn qo ql, zr G qn 4 fn, zi G qo 4 fqo, zi G rr 40 (upd frr ix v3.toInt16.toInt32)] H := ⟨hP, hD⟩
      have hP := hz9.1
      have hD := hz9.2
      have q_6 : m_X2_store_rr fqo frr sn ix v3 = upd frr ix v3.toInt16.toInt32 := by unfold m_X2_store_rr; rw [if_neg c_2, if_pos c_4]
      have hz9 : gPD G A [zo2 h0 qn qo ql, zr G qn 4 fn, zi G qo 4 fqo, zi G rr 40 (m_X2_store_rr fqo frr sn ix v3)] H := ⟨by rw [q_6]; exact hP, by rw [q_6]; exact hD⟩
      have hP9 := hz9.1
      have hD9 := hz9.2
      have hpost : (fun (u : Unit) => match u with | _ => True) () := trivial
      exact W.vret hx hb hr (fun t ht hW => ⟨⟨(), rfl, hpost, by rw [ht]; exact hP9, va_K.moved hW.alike hK, hD9⟩, hS.F ht⟩) hS.2.2 dX2_store_38
  · skip
    refine lv_iload_n hx hb dX2_store_16 rfl (lv_at hl 3 rfl) ?_
    refine lv_i2b (v := v3.toInt8.toInt32) hx hb dX2_store_17 rfl ?_
    refine lv_goto (tgt := 37) hx hb dX2_store_18 (by decide +kernel) ?_
    refine g_iast (D := G.1) hx hb hK hP hD hS 3 0 rfl rfl (k := ix) (x := v3.toInt8.toInt32) (by omega) rfl dX2_store_37 (fun H locs hP hD hS => ?_)
    have hz9 : gPD G A [zo2 h0 qn qo ql, zr G qn 4 fn, zi G qo 4 fqo, zi G rr 40 (upd frr ix v3.toInt8.toInt32)] H := ⟨hP, hD⟩
    have hP := hz9.1
    have hD := hz9.2
    have q_7 : m_X2_store_rr fqo frr sn ix v3 = upd frr ix v3.toInt8.toInt32 := by unfold m_X2_store_rr; rw [if_pos c_2]
    have hz9 : gPD G A [zo2 h0 qn qo ql, zr G qn 4 fn, zi G qo 4 fqo, zi G rr 40 (m_X2_store_rr fqo frr sn ix v3)] H := ⟨by rw [q_7]; exact hP, by rw [q_7]; exact hD⟩
    have hP9 := hz9.1
    have hD9 := hz9.2
    have hpost : (fun (u : Unit) => match u with | _ => True) () := trivial
    exact W.vret hx hb hr (fun t ht hW => ⟨⟨(), rfl, hpost, by rw [ht]; exact hP9, va_K.moved hW.alike hK, hD9⟩, hS.F ht⟩) hS.2.2 dX2_store_38
abbrev q_X2_holds (G : gG) (h0 qn qo ql : Nat) (fql : Nat → Nat) (sn : Nat) (v2 : Int32) (v3 : Int32) (A : Nat → Prop) : Array Value → State → Outcome → State → Prop := va_Qi (fun (r : Int32) (u : Unit) => match u with | _ => r = bz (mHolds (fql sn) v2 v3)) (fun (u : Unit) t => match u with | _ => va_P G.1 vwCl [zo2 h0 qn qo ql, zi G ql 4 (nF fql)] t.heap ∧ gK G t ∧ va_D A [zo2 h0 qn qo ql, zi G ql 4 (nF fql)]) A
set_option maxHeartbeats 4000000 in
set_option maxRecDepth 100000 in
theorem c_X2_holds (l : Launch) (G : gG) (h0 qn qo ql : Nat) (fql : Nat → Nat) (sn : Nat) (v2 : Int32) (v3 : Int32) (sz : Nat) (hsn : sn < 4) : Met l yX2_holds wsX2_holds ({ frames := 0, cells := 0, slots := 0, locals := 0 }) (gPre G [.ref h0, .int (nI sn), .int v2, .int v3] [zo2 h0 qn qo ql, zi G ql 4 (nF fql)] sz) (q_X2_holds G h0 qn qo ql fql sn v2 v3 (va_A [zo2 h0 qn qo ql, zi G ql 4 (nF fql)] sz)) 0 0 (va_A [zo2 h0 qn qo ql, zi G ql 4 (nF fql)] sz) := by
  refine Met.ofW (cc := cX2_holds) (maxL := 4) (ret := (some .boolean)) (by decide +kernel) rfl ?_
  intro p e s m args below meth c s₁ B hml hv
  obtain ⟨rfl, hsz, hP, hK, hD0⟩ := hv
  have hx := B.exec
  have hb := B.bytes
  have hr := B.returns
  have hts := atoms_spec (ws := wsX2_holds) B.pre
  have hown : s.vm.findClass RX2 = some m.cls := findClass_of_methodNamed B.named
  have hlocks := B.notSynchronized
  subst hsz
  have hD := hD0.self (sz := s.heap.size)
  generalize hAe : va_A [zo2 h0 qn qo ql, zi G ql 4 (nF fql)] s.heap.size = A at hD ⊢
  have hA : ∀ q : Nat, s.heap.size ≤ q → A q := fun q h => by rw [← hAe]; exact Or.inr h
  have hS : va_S A s.heap s.heap [] := va_S.rf
  have hz9 : gPD G A [zo2 h0 qn qo ql, zi G ql 4 (nF fql)] s.heap := ⟨hP, hD⟩
  have hP := hz9.1
  have hD := hz9.2
  have hl := lv_entry ([.ref h0, .int (nI sn), .int v2, .int v3]) (n := 4) (Nat.le_of_ble_eq_true rfl)
  rw [lg_entry_eq]
  generalize (lg_sl ([.ref h0, .int (nI sn), .int v2, .int v3]) ++ List.replicate (4 - (lg_sl ([.ref h0, .int (nI sn), .int v2, .int v3])).length) Slot.unset).toArray = ls at hl ⊢
  have hl : lv_has ls 4 [zR 0 h0, zI 1 (nI sn), zI 2 v2, zI 3 v3] := hl
  have kf20 := hts (.fieldLink RX2 20 "PebbleInShoe$Sheets" "lengths" "[I") (by decide +kernel)
  have hiX2 := (by decide +kernel : ∀ w ∈ wsX20, w ∈ wsX2_holds)
  refine lv_iload_n hx hb dX2_holds_0 rfl (lv_at hl 3 rfl) ?_
  refine lv_if_lt (tgt := 24) hx hb dX2_holds_1 (by decide +kernel) (fun c_1 => ?_) (fun c_1 => ?_)
  · skip
    refine lv_iconst (v := 0) hx hb dX2_holds_24 (by decide +kernel) ?_
    have hpost : (fun (r : Int32) (u : Unit) => match u with | _ => r = bz (mHolds (fql sn) v2 v3)) 0 () := by show (0 : Int32) = bz (mHolds (fql sn) v2 v3); rw [mHolds_f (Or.inl c_1)]; rfl
    exact W.zret (v := 0) hx hb hr (rfl) (fun t ht hW => ⟨⟨0, (), rfl, hpost, by rw [ht]; exact hP, va_K.moved hW.alike hK, hD⟩, hS.F ht⟩) hS.2.2 dX2_holds_25
  · skip
    have hv_2 : v3 = nI (nC v3) := nC_eq (Int32.not_lt.mp c_1)
    have hk_3 : nC v3 < 2 ^ 31 := nC_31 _
    refine lv_iload_n hx hb dX2_holds_4 rfl (lv_at hl 2 rfl) ?_
    refine lv_if_lt (tgt := 24) hx hb dX2_holds_5 (by decide +kernel) (fun c_4 => ?_) (fun c_4 => ?_)
    · skip
      refine lv_iconst (v := 0) hx hb dX2_holds_24 (by decide +kernel) ?_
      have hpost : (fun (r : Int32) (u : Unit) => match u with | _ => r = bz (mHolds (fql sn) v2 v3)) 0 () := by show (0 : Int32) = bz (mHolds (fql sn) v2 v3); rw [mHolds_f (Or.inr (Or.inl c_4))]; rfl
      exact W.zret (v := 0) hx hb hr (rfl) (fun t ht hW => ⟨⟨0, (), rfl, hpost, by rw [ht]; exact hP, va_K.moved hW.alike hK, hD⟩, hS.F ht⟩) hS.2.2 dX2_holds_25
    · skip
      have hv_5 : v2 = nI (nC v2) := nC_eq (Int32.not_lt.mp c_4)
      have hk_6 : nC v2 < 2 ^ 31 := nC_31 _
      refine lv_iload_n hx hb dX2_holds_8 rfl (lv_at hl 2 rfl) ?_
      refine g_topi (y := nI (nC v2)) hv_5 ?_
      refine g_aget (D := G.1) (ci := 2) (v := .ref ql) (C := RX2) (T := TX2) (N := 3) hx hb dX2_holds_9 rfl (lv_at hl 0 rfl) hts hiX2 hown hK hP 0 rfl rfl 2 (by decide +kernel) kf20 (fun _ h9 => h9) rfl dX2_holds_10 ?_
      refine lv_iload_n hx hb dX2_holds_13 rfl (lv_at hl 1 rfl) ?_
      refine va_iald (D := G.1) hx hb hK hP 1 0 rfl rfl (i := (nI sn)) (vpn (by omega) rfl) dX2_holds_14 ?_
      refine g_topi (y := nI (fql sn)) (nF_at (by omega)) ?_
      refine lv_iload_n hx hb dX2_holds_15 rfl (lv_at hl 3 rfl) ?_
      refine g_topi (y := nI (nC v3)) hv_2 ?_
      refine lv_isub hx hb dX2_holds_16 ?_
      refine lv_icmp_gt (tgt := 24) hx hb dX2_holds_17 (by decide +kernel) (fun c_10 => ?_) (fun c_10 => ?_)
      · skip
        refine lv_iconst (v := 0) hx hb dX2_holds_24 (by decide +kernel) ?_
        have hpost : (fun (r : Int32) (u : Unit) => match u with | _ => r = bz (mHolds (fql sn) v2 v3)) 0 () := by show (0 : Int32) = bz (mHolds (fql sn) v2 v3); rw [mHolds_f (Or.inr (Or.inr c_10))]; rfl
        exact W.zret (v := 0) hx hb hr (rfl) (fun t ht hW => ⟨⟨0, (), rfl, hpost, by rw [ht]; exact hP, va_K.moved hW.alike hK, hD⟩, hS.F ht⟩) hS.2.2 dX2_holds_25
      · skip
        refine lv_iconst (v := 1) hx hb dX2_holds_20 (by decide +kernel) ?_
        refine lv_goto (tgt := 25) hx hb dX2_holds_21 (by decide +kernel) ?_
        have hpost : (fun (r : Int32) (u : Unit) => match u with | _ => r = bz (mHolds (fql sn) v2 v3)) 1 () := by show (1 : Int32) = bz (mHolds (fql sn) v2 v3); rw [mHolds_t c_1 c_4 c_10]; rfl
        exact W.zret (v := 1) hx hb hr (rfl) (fun t ht hW => ⟨⟨1, (), rfl, hpost, by rw [ht]; exact hP, va_K.moved hW.alike hK, hD⟩, hS.F ht⟩) hS.2.2 dX2_holds_25
noncomputable def p_X5_refusalOfSheet_A_62 (pb : Nat) (frr : Nat → Int32) : Nat → Nat → Nat
  | 0, i62 => i62
  | q9 + 1, i62 => if (mHas pb (frr (3 * i62))) = true then (if 0 ≤ (frr ((3 * i62) + 1)) ∧ (frr ((3 * i62) + 1)) ≤ 60 then (if 0 ≤ (frr ((3 * i62) + 2)) ∧ (frr ((3 * i62) + 2)) ≤ 1 then p_X5_refusalOfSheet_A_62 pb frr q9 (i62 + 1)  else i62) else i62) else i62
noncomputable def g_X5_refusalOfSheet_A_62 (pb : Nat) (fql : Nat → Nat) (frr : Nat → Int32) (sn : Nat) : Nat := p_X5_refusalOfSheet_A_62 pb frr ((fql sn / 3) - 0) 0 
noncomputable def m_X5_refusalOfSheet_A (pb : Nat) (fql : Nat → Nat) (fqo : Nat → Int32) (frr : Nat → Int32) (sn : Nat) : Int32 := if (fqo sn) = (-1) then -11 else (if (nI ((fql sn) % 3)) = 0 then (if (nI (fql sn)) ≤ (nI ((3 * (g_X5_refusalOfSheet_A_62 pb fql frr sn)) + 2)) then 0 else -2) else -2)
abbrev q_X5_refusalOfSheet_A (G : gG) (E : gS) (h0 tt rd nw th kp sh tu n1 n2 n3 n4 n5 n6 n7 n8 qn qo ql rr : Nat) (jg : Nat) (pb : Nat) (lw : Nat) (him : Int32) (fn : Nat → Option Nat) (fql : Nat → Nat) (fqo : Nat → Int32) (frr : Nat → Int32) (sn : Nat) (A : Nat → Prop) : Array Value → State → Outcome → State → Prop := va_Qi (fun (r : Int32) (u : Unit) => match u with | _ => r = m_X5_refusalOfSheet_A pb fql fqo frr sn) (fun (u : Unit) t => match u with | _ => va_P G.1 vwCl [zo5 h0 tt rd nw th kp sh tu him, zo0 nw tt n1 n2 n3 n4 n5 n6 n7 n8 (nI jg) (nI pb) (nI lw), zo2 sh qn qo ql, zr G qn 4 fn, zi G qo 4 fqo, zi G ql 4 (nF fql), zi G rr 40 frr] t.heap ∧ gK G t ∧ va_D A [zo5 h0 tt rd nw th kp sh tu him, zo0 nw tt n1 n2 n3 n4 n5 n6 n7 n8 (nI jg) (nI pb) (nI lw), zo2 sh qn qo ql, zr G qn 4 fn, zi G qo 4 fqo, zi G ql 4 (nF fql), zi G rr 40 frr]) A
set_option maxHeartbeats 4000000 in
set_option maxRecDepth 100000 in
theorem c_X5_refusalOfSheet_A (l : Launch) (G : gG) (E : gS) (h0 tt rd nw th kp sh tu n1 n2 n3 n4 n5 n6 n7 n8 qn qo ql rr : Nat) (jg : Nat) (pb : Nat) (lw : Nat) (him : Int32) (fn : Nat → Option Nat) (fql : Nat → Nat) (fqo : Nat → Int32) (frr : Nat → Int32) (sn : Nat) (sz : Nat) (hsn : sn < 4) (hrw : fn sn = some rr) (hql : ∀ q9, q9 < 4 → fql q9 ≤ 40) (hjg : jg ≤ 4) (hpb : pb ≤ 6) : Met l yX5_refusalOfSheet wsX5_refusalOfSheet ({ frames := 2, cells := 0, slots := 0, locals := 42 }) (gPreE G E [.ref h0, .int (nI sn)] [zo5 h0 tt rd nw th kp sh tu him, zo0 nw tt n1 n2 n3 n4 n5 n6 n7 n8 (nI jg) (nI pb) (nI lw), zo2 sh qn qo ql, zr G qn 4 fn, zi G qo 4 fqo, zi G ql 4 (nF fql), zi G rr 40 frr] sz) (q_X5_refusalOfSheet_A G E h0 tt rd nw th kp sh tu n1 n2 n3 n4 n5 n6 n7 n8 qn qo ql rr jg pb lw him fn fql fqo frr sn (va_A [zo5 h0 tt rd nw th kp sh tu him, zo0 nw tt n1 n2 n3 n4 n5 n6 n7 n8 (nI jg) (nI pb) (nI lw), zo2 sh qn qo ql, zr G qn 4 fn, zi G qo 4 fqo, zi G ql 4 (nF fql), zi G rr 40 frr] sz)) 0 0 (va_A [zo5 h0 tt rd nw th kp sh tu him, zo0 nw tt n1 n2 n3 n4 n5 n6 n7 n8 (nI jg) (nI pb) (nI lw), zo2 sh qn qo ql, zr G qn 4 fn, zi G qo 4 fqo, zi G ql 4 (nF fql), zi G rr 40 frr] sz) := by
  refine Met.ofW (cc := cX5_refusalOfSheet) (maxL := 5) (ret := (some .int)) (by decide +kernel) rfl ?_
  intro p e s m args below meth c s₁ B hml hv
  obtain ⟨rfl, hsz, hP, hK, hD0, hE⟩ := hv
  have hx := B.exec
  have hb := B.bytes
  have hr := B.returns
  have hts := atoms_spec (ws := wsX5_refusalOfSheet) B.pre
  have hown : s.vm.findClass RX5 = some m.cls := findClass_of_methodNamed B.named
  have hlocks := B.notSynchronized
  subst hsz
  have hD := hD0.self (sz := s.heap.size)
  generalize hAe : va_A [zo5 h0 tt rd nw th kp sh tu him, zo0 nw tt n1 n2 n3 n4 n5 n6 n7 n8 (nI jg) (nI pb) (nI lw), zo2 sh qn qo ql, zr G qn 4 fn, zi G qo 4 fqo, zi G ql 4 (nF fql), zi G rr 40 frr] s.heap.size = A at hD hE ⊢
  have hA : ∀ q : Nat, s.heap.size ≤ q → A q := fun q h => by rw [← hAe]; exact Or.inr h
  have hS : va_S A s.heap s.heap [] := va_S.rf
  have hz9 : gPD G A [zo5 h0 tt rd nw th kp sh tu him, zo0 nw tt n1 n2 n3 n4 n5 n6 n7 n8 (nI jg) (nI pb) (nI lw), zo2 sh qn qo ql, zr G qn 4 fn, zi G qo 4 fqo, zi G ql 4 (nF fql), zi G rr 40 frr] s.heap := ⟨hP, hD⟩
  have hP := hz9.1
  have hD := hz9.2
  have hl := lv_entry ([.ref h0, .int (nI sn)]) (n := 5) (Nat.le_of_ble_eq_true rfl)
  rw [lg_entry_eq]
  generalize (lg_sl ([.ref h0, .int (nI sn)]) ++ List.replicate (5 - (lg_sl ([.ref h0, .int (nI sn)])).length) Slot.unset).toArray = ls at hl ⊢
  have hl : lv_has ls 5 [zR 0 h0, zI 1 (nI sn)] := hl
  have kf41 := hts (.fieldLink RX5 41 "PebbleInShoe" "rows" "LPebbleInShoe$Sheets;") (by decide +kernel)
  have hiX5 := (by decide +kernel : ∀ w ∈ wsX50, w ∈ wsX5_refusalOfSheet)
  have kf225 := hts (.fieldLink RX5 225 "PebbleInShoe$Sheets" "sorts" "[I") (by decide +kernel)
  have hiX2 := (by decide +kernel : ∀ w ∈ wsX20, w ∈ wsX5_refusalOfSheet)
  have kf228 := hts (.fieldLink RX5 228 "PebbleInShoe$Sheets" "lengths" "[I") (by decide +kernel)
  have kf235 := hts (.fieldLink RX5 235 "PebbleInShoe$Sheets" "numbers" "[[I") (by decide +kernel)
  have kf28 := hts (.fieldLink RX5 28 "PebbleInShoe" "now" "LPebbleInShoe$Court;") (by decide +kernel)
  refine g_aget (D := G.1) (ci := 5) (v := .ref sh) (C := RX5) (T := TX5) (N := 8) hx hb dX5_refusalOfSheet_0 rfl (lv_at hl 0 rfl) hts hiX5 hown hK hP 0 rfl rfl 5 (by decide +kernel) kf41 (fun _ h9 => h9) rfl dX5_refusalOfSheet_1 ?_
  refine lv_iload_n hx hb dX5_refusalOfSheet_4 rfl (lv_at hl 1 rfl) ?_
  refine z_callp [2] (va_runV (As := [.int (nI sn)]) (rest := []) ⟨hx, hb, hml, hown, hts⟩ (c_X2_isSheet_g l G E sh qn qo ql (nI sn) s.heap.size) (cwV 1 hts gX5_refusalOfSheet_X2_isSheet rfl rfl rfl (by decide +kernel) ⟨Nat.le_of_ble_eq_true rfl, Nat.le_of_ble_eq_true rfl⟩) ⟨gPreE_blind, va_recv (q := (RX2, TX2, 3)) hK hP (ci := 2) (q0 := 2) rfl rfl, fun U hU hW => gPreE_ofF [2] hU hW hK hP hD (by decide +kernel) rfl hE hS hA⟩ rfl rfl hl.1 rfl (lv_room (Nat.le_of_ble_eq_true rfl)) dX5_refusalOfSheet_5 ⟨Nat.le_of_ble_eq_true rfl, Nat.le_of_ble_eq_true rfl⟩) hS hD hA rfl (fun r_1 u t H locs ht hvm w_2 hB hz1 hk1 hFq hAq hS => ?_)
  obtain ⟨hP1, hK1, hD1⟩ := hB
  have w_2 : r_1 = bz (decide (0 ≤ (nI sn) ∧ (nI sn) ≤ 3)) := w_2
  have hP := zKeep hP hD [2] hAq hk1 ht hP1 rfl
  have w_2 : r_1 = 1 := w_2.trans (bz3_t (by assumption))
  subst w_2
  refine lv_if_ne (tgt := 14) hx hb dX5_refusalOfSheet_8 (by decide +kernel) (fun c_3 => ?_) (fun c_3 => ?_)
  rotate_left
  · exact absurd c_3 (by decide +kernel)
  refine g_aget (D := G.1) (ci := 5) (v := .ref sh) (C := RX5) (T := TX5) (N := 8) hx hb dX5_refusalOfSheet_14 rfl (lv_at hl 0 rfl) hts hiX5 hown hK hP 0 rfl rfl 5 (by decide +kernel) kf41 (fun _ h9 => h9) rfl dX5_refusalOfSheet_15 ?_
  refine va_get (D := G.1) (ci := 2) (v := .ref qo) (C := RX2) (T := TX2) (N := 3) hx hb hts hiX2 hown hK hP 2 rfl rfl 1 (by decide +kernel) kf225 (fun _ h9 => h9) rfl dX5_refusalOfSheet_18 ?_
  refine lv_iload_n hx hb dX5_refusalOfSheet_21 rfl (lv_at hl 1 rfl) ?_
  refine g_iald (D := G.1) hx hb hK hP 4 0 rfl rfl (k := sn) (y := fqo sn) (by omega) rfl rfl dX5_refusalOfSheet_22 ?_
  refine lv_iconst (v := -1) hx hb dX5_refusalOfSheet_23 (by decide +kernel) ?_
  refine lv_icmp_ne (tgt := 30) hx hb dX5_refusalOfSheet_24 (by decide +kernel) (fun c_5 => ?_) (fun c_5 => ?_)
  · skip
    refine lv_aload_n hx hb dX5_refusalOfSheet_30 rfl (lv_at hl 0 rfl) ?_
    have hs4 := hql sn hsn
    refine va_get (D := G.1) (ci := 5) (v := .ref sh) (C := RX5) (T := TX5) (N := 8) hx hb hts hiX5 hown hK hP 0 rfl rfl 5 (by decide +kernel) kf41 (fun _ h9 => h9) rfl dX5_refusalOfSheet_31 ?_
    refine va_get (D := G.1) (ci := 2) (v := .ref ql) (C := RX2) (T := TX2) (N := 3) hx hb hts hiX2 hown hK hP 2 rfl rfl 2 (by decide +kernel) kf228 (fun _ h9 => h9) rfl dX5_refusalOfSheet_34 ?_
    refine lv_iload_n hx hb dX5_refusalOfSheet_37 rfl (lv_at hl 1 rfl) ?_
    refine va_iald (D := G.1) hx hb hK hP 5 0 rfl rfl (i := (nI sn)) (vpn (by omega) rfl) dX5_refusalOfSheet_38 ?_
    refine g_topi (y := nI (fql sn)) (nF_at (by omega)) ?_
    refine lv_istore_n (lv' := [zI 2 (nI (fql sn)), zR 0 h0, zI 1 (nI sn)]) hx hb dX5_refusalOfSheet_39 rfl hl (by decide +kernel) rfl (fun ls hl => ?_)
    refine lv_iload_n hx hb dX5_refusalOfSheet_40 rfl (lv_at hl 0 rfl) ?_
    refine lv_iconst (v := 3) hx hb dX5_refusalOfSheet_41 (by decide +kernel) ?_
    refine lv_irem hx hb dX5_refusalOfSheet_42 (by decide +kernel) ?_
    refine g_topi (y := nI ((fql sn) % 3)) (nI_rem (a := (fql sn)) (d := 3) (by omega) (by omega) (by omega)) ?_
    refine lv_if_eq (tgt := 49) hx hb dX5_refusalOfSheet_43 (by decide +kernel) (fun c_8 => ?_) (fun c_8 => ?_)
    · skip
      have c_8N : ((fql sn) % 3) = 0 := nI_eq1 (a := ((fql sn) % 3)) (b := 0) (by omega) (by omega) c_8
      refine g_aget (D := G.1) (ci := 5) (v := .ref sh) (C := RX5) (T := TX5) (N := 8) hx hb dX5_refusalOfSheet_49 rfl (lv_at hl 1 rfl) hts hiX5 hown hK hP 0 rfl rfl 5 (by decide +kernel) kf41 (fun _ h9 => h9) rfl dX5_refusalOfSheet_50 ?_
      refine va_get (D := G.1) (ci := 2) (v := .ref qn) (C := RX2) (T := TX2) (N := 3) hx hb hts hiX2 hown hK hP 2 rfl rfl 0 (by decide +kernel) kf235 (fun _ h9 => h9) rfl dX5_refusalOfSheet_53 ?_
      refine lv_iload_n hx hb dX5_refusalOfSheet_56 rfl (lv_at hl 2 rfl) ?_
      refine g_aald (x := rr) hx hb hK hP 3 2 rfl rfl (i := (nI sn)) (vpn (by omega) rfl) (by rw [nI_clamp (by omega)]; exact hrw) dX5_refusalOfSheet_57 ?_
      refine lv_astore_n (lv' := [zR 3 rr, zI 2 (nI (fql sn)), zR 0 h0, zI 1 (nI sn)]) hx hb dX5_refusalOfSheet_58 rfl hl (by decide +kernel) rfl (fun ls hl => ?_)
      refine lv_iconst (v := 0) hx hb dX5_refusalOfSheet_59 (by decide +kernel) ?_
      refine lv_istore (lv' := [zI 4 0, zR 3 rr, zI 2 (nI (fql sn)), zR 0 h0, zI 1 (nI sn)]) hx hb dX5_refusalOfSheet_60 hl (by decide +kernel) rfl (fun ls hl => ?_)
      have loop_62 : ∀ (n9 : Nat) (i62 : Nat), (i62 ≤ (fql sn / 3)) → (p_X5_refusalOfSheet_A_62 pb frr ((fql sn / 3) - i62) i62  = (g_X5_refusalOfSheet_A_62 pb fql frr sn)) → ((fql sn / 3) - i62) < n9 → ∀ (H : Heap) (locs : List Loc), va_P G.1 vwCl [zo5 h0 tt rd nw th kp sh tu him, zo0 nw tt n1 n2 n3 n4 n5 n6 n7 n8 (nI jg) (nI pb) (nI lw), zo2 sh qn qo ql, zr G qn 4 fn, zi G qo 4 fqo, zi G ql 4 (nF fql), zi G rr 40 frr] H → va_D A [zo5 h0 tt rd nw th kp sh tu him, zo0 nw tt n1 n2 n3 n4 n5 n6 n7 n8 (nI jg) (nI pb) (nI lw), zo2 sh qn qo ql, zr G qn 4 fn, zi G qo 4 fqo, zi G ql 4 (nF fql), zi G rr 40 frr] → va_S A s.heap H locs → ∀ ls : Array Slot, lv_has ls 5 [zI 4 (nI (3 * i62)), zR 3 rr, zI 2 (nI (fql sn)), zR 0 h0, zI 1 (nI sn)] → W p l e (headSpec wsX5_refusalOfSheet ({ frames := 2, cells := 0, slots := 0, locals := 42 })).room s m ([.ref h0, .int (nI sn)] : List Value).toArray below meth c H locs 0 0 (MQ below (q_X5_refusalOfSheet_A G E h0 tt rd nw th kp sh tu n1 n2 n3 n4 n5 n6 n7 n8 qn qo ql rr jg pb lw him fn fql fqo frr sn A) ([.ref h0, .int (nI sn)] : List Value).toArray s 0 0 A) (F0 m 62 ls []) := by
        intro n9
        induction n9 with
        | zero => intro i62 hi62 R62 hm9_62; exact absurd hm9_62 (Nat.not_lt_zero _)
        | succ n9 ih9_62 =>
          intro i62 hi62 R62 hm9_62 H locs hP hD hS ls hl
          refine lv_iload hx hb dX5_refusalOfSheet_62 (lv_at hl 0 rfl) ?_
          refine lv_iconst (v := 2) hx hb dX5_refusalOfSheet_64 (by decide +kernel) ?_
          refine lv_iadd hx hb dX5_refusalOfSheet_65 ?_
          refine g_topi (y := nI ((3 * i62) + 2)) (nI_add (3 * i62) 2) ?_
          refine lv_iload_n hx hb dX5_refusalOfSheet_66 rfl (lv_at hl 2 rfl) ?_
          refine lv_icmp_ge (tgt := 120) hx hb dX5_refusalOfSheet_67 (by decide +kernel) (fun c_10 => ?_) (fun c_10 => ?_)
          · skip
            have c_10N : (fql sn) ≤ ((3 * i62) + 2) := nI_le1 (a := (fql sn)) (b := ((3 * i62) + 2)) (by omega) (by omega) c_10
            have hF62 : (g_X5_refusalOfSheet_A_62 pb fql frr sn) = i62 := by rw [← R62, show (fql sn / 3) - i62 = 0 by omega]; rfl
            have hE62_0 : i62 = (g_X5_refusalOfSheet_A_62 pb fql frr sn) := by rw [hF62]
            clear hF62 R62
            subst hE62_0
            refine lv_iconst (v := 0) hx hb dX5_refusalOfSheet_120 (by decide +kernel) ?_
            have hpost : (fun (r : Int32) (u : Unit) => match u with | _ => r = m_X5_refusalOfSheet_A pb fql fqo frr sn) 0 () := (show m_X5_refusalOfSheet_A pb fql fqo frr sn = 0 from by unfold m_X5_refusalOfSheet_A; rw [if_neg c_5, if_pos c_8, if_pos c_10]).symm
            exact W.iret (v := 0) hx hb hr (fun t ht hW => ⟨⟨0, (), rfl, hpost, by rw [ht]; exact hP, va_K.moved hW.alike hK, hD⟩, hS.F ht⟩) hS.2.2 dX5_refusalOfSheet_121
          · skip
            have c_10N : ((3 * i62) + 2) < (fql sn) := nI_le0 (a := (fql sn)) (b := ((3 * i62) + 2)) (by omega) (by omega) c_10
            refine g_aget (D := G.1) (ci := 5) (v := .ref nw) (C := RX5) (T := TX5) (N := 8) hx hb dX5_refusalOfSheet_70 rfl (lv_at hl 3 rfl) hts hiX5 hown hK hP 0 rfl rfl 2 (by decide +kernel) kf28 (fun _ h9 => h9) rfl dX5_refusalOfSheet_71 ?_
            refine lv_aload_n hx hb dX5_refusalOfSheet_74 rfl (lv_at hl 1 rfl) ?_
            refine lv_iload hx hb dX5_refusalOfSheet_75 (lv_at hl 0 rfl) ?_
            refine g_iald (D := G.1) hx hb hK hP 6 0 rfl rfl (k := 3 * i62) (y := frr (3 * i62)) (by omega) rfl rfl dX5_refusalOfSheet_77 ?_
            refine z_calli [1] (v := bz (mHas pb (frr (3 * i62)))) (fun _ _ h => h) (va_runV (As := [.int (frr (3 * i62))]) (rest := []) ⟨hx, hb, hml, hown, hts⟩ (c_X0_hasPebble_g l G nw tt n1 n2 n3 n4 n5 n6 n7 n8 jg pb lw (frr (3 * i62)) H.size (by first | exact hjg | assumption | omega) (by first | exact hpb | assumption | omega)) (cwV 1 hts gX5_refusalOfSheet_X0_hasPebble rfl rfl rfl (by decide +kernel) ⟨Nat.le_of_ble_eq_true rfl, Nat.le_of_ble_eq_true rfl⟩) ⟨gPre_blind, va_recv (q := (RX0, TX0, 12)) hK hP (ci := 0) (q0 := 1) rfl rfl, fun U hU hW => gPre_ofF [1] hU hW hK hP hD (by decide +kernel) rfl⟩ rfl rfl hl.1 rfl (lv_room (Nat.le_of_ble_eq_true rfl)) dX5_refusalOfSheet_78 ⟨Nat.le_of_ble_eq_true rfl, Nat.le_of_ble_eq_true rfl⟩) hS hD hA rfl (fun u t H locs ht hvm hB hz1 hk1 hFq hAq hS => ?_)
            obtain ⟨hP1, hK1, hD1⟩ := hB
            have hP := zKeep hP hD [1] hAq hk1 ht hP1 rfl
            refine lv_if_eq (tgt := 111) hx hb dX5_refusalOfSheet_81 (by decide +kernel) (fun c_14 => ?_) (fun c_14 => ?_)
            · skip
              have n_16 : (mHas pb (frr (3 * i62))) = false := bz_eq rfl c_14
              have n_16N : ¬ ((mHas pb (frr (3 * i62))) = true) := by rw [n_16]; decide
              refine lv_bipush (v := -2) hx hb dX5_refusalOfSheet_111 (by decide +kernel) ?_
              have hF62 : (g_X5_refusalOfSheet_A_62 pb fql frr sn) = i62 := R62.symm.trans ((congrArg (fun z9 => p_X5_refusalOfSheet_A_62 pb frr (z9) i62 ) (show (fql sn / 3) - i62 = (fql sn / 3) - (i62 + 1) + 1 by omega)).trans (by show p_X5_refusalOfSheet_A_62 pb frr ((fql sn / 3) - (i62 + 1) + 1) i62  = _; rw [p_X5_refusalOfSheet_A_62, if_neg n_16N]))
              have hE62_0 : i62 = (g_X5_refusalOfSheet_A_62 pb fql frr sn) := by rw [hF62]
              clear hF62 R62
              subst hE62_0
              have hpost : (fun (r : Int32) (u : Unit) => match u with | _ => r = m_X5_refusalOfSheet_A pb fql fqo frr sn) (-2) () := (show m_X5_refusalOfSheet_A pb fql fqo frr sn = (-2) from by unfold m_X5_refusalOfSheet_A; rw [if_neg c_5, if_pos c_8, if_neg c_10]).symm
              exact W.iret (v := (-2)) hx hb hr (fun t ht hW => ⟨⟨(-2), (), rfl, hpost, by rw [ht]; exact hP, va_K.moved hW.alike hK, hD⟩, hS.F ht⟩) hS.2.2 dX5_refusalOfSheet_113
            · skip
              have p_15 : (mHas pb (frr (3 * i62))) = true := bz_ne rfl c_14
              refine lv_aload_n hx hb dX5_refusalOfSheet_84 rfl (lv_at hl 1 rfl) ?_
              refine lv_iload hx hb dX5_refusalOfSheet_85 (lv_at hl 0 rfl) ?_
              refine lv_iconst (v := 1) hx hb dX5_refusalOfSheet_87 (by decide +kernel) ?_
              refine lv_iadd hx hb dX5_refusalOfSheet_88 ?_
              refine g_topi (y := nI ((3 * i62) + 1)) (nI_add (3 * i62) 1) ?_
              refine g_iald (D := G.1) hx hb hK hP 6 0 rfl rfl (k := (3 * i62) + 1) (y := frr ((3 * i62) + 1)) (by omega) rfl rfl dX5_refusalOfSheet_89 ?_
              refine lv_bipush (v := 60) hx hb dX5_refusalOfSheet_90 (by decide +kernel) ?_
              refine z_calli [] (v := bz (decide (0 ≤ (frr ((3 * i62) + 1)) ∧ (frr ((3 * i62) + 1)) ≤ 60))) (fun _ _ h => h) (va_runS (As := [.int (frr ((3 * i62) + 1)), .int 60]) (rest := []) ⟨hx, hb, hml, hown, hts⟩ (c_X5_within_g l G (frr ((3 * i62) + 1)) 60 H.size) (va_cwS 2 hts gX5_refusalOfSheet_X5_within rfl rfl rfl (by decide +kernel) ⟨Nat.le_of_ble_eq_true rfl, Nat.le_of_ble_eq_true rfl⟩) ⟨gPre_blind, fun U hU hW => gPre_ofF [] hU hW hK hP hD (by decide +kernel) rfl⟩ rfl rfl hl.1 rfl (lv_room (Nat.le_of_ble_eq_true rfl)) dX5_refusalOfSheet_92 ⟨Nat.le_of_ble_eq_true rfl, Nat.le_of_ble_eq_true rfl⟩) hS hD hA rfl (fun u t H locs ht hvm hB hz1 hk1 hFq hAq hS => ?_)
              obtain ⟨hP1, hK1, hD1⟩ := hB
              have hP := zKeep hP hD [] hAq hk1 ht hP1 rfl
              refine lv_if_eq (tgt := 111) hx hb dX5_refusalOfSheet_95 (by decide +kernel) (fun c_21 => ?_) (fun c_21 => ?_)
              · skip
                have n_23 : ¬ (0 ≤ (frr ((3 * i62) + 1)) ∧ (frr ((3 * i62) + 1)) ≤ 60) := of_decide_eq_false (bz_eq rfl c_21)
                refine lv_bipush (v := -2) hx hb dX5_refusalOfSheet_111 (by decide +kernel) ?_
                have hF62 : (g_X5_refusalOfSheet_A_62 pb fql frr sn) = i62 := R62.symm.trans ((congrArg (fun z9 => p_X5_refusalOfSheet_A_62 pb frr (z9) i62 ) (show (fql sn / 3) - i62 = (fql sn / 3) - (i62 + 1) + 1 by omega)).trans (by show p_X5_refusalOfSheet_A_62 pb frr ((fql sn / 3) - (i62 + 1) + 1) i62  = _; rw [p_X5_refusalOfSheet_A_62, if_pos p_15, if_neg n_23]))
                have hE62_0 : i62 = (g_X5_refusalOfSheet_A_62 pb fql frr sn) := by rw [hF62]
                clear hF62 R62
                subst hE62_0
                have hpost : (fun (r : Int32) (u : Unit) => match u with | _ => r = m_X5_refusalOfSheet_A pb fql fqo frr sn) (-2) () := (show m_X5_refusalOfSheet_A pb fql fqo frr sn = (-2) from by unfold m_X5_refusalOfSheet_A; rw [if_neg c_5, if_pos c_8, if_neg c_10]).symm
                exact W.iret (v := (-2)) hx hb hr (fun t ht hW => ⟨⟨(-2), (), rfl, hpost, by rw [ht]; exact hP, va_K.moved hW.alike hK, hD⟩, hS.F ht⟩) hS.2.2 dX5_refusalOfSheet_113
              · skip
                have p_22 : 0 ≤ (frr ((3 * i62) + 1)) ∧ (frr ((3 * i62) + 1)) ≤ 60 := of_decide_eq_true (bz_ne rfl c_21)
                refine lv_aload_n hx hb dX5_refusalOfSheet_98 rfl (lv_at hl 1 rfl) ?_
                refine lv_iload hx hb dX5_refusalOfSheet_99 (lv_at hl 0 rfl) ?_
                refine lv_iconst (v := 2) hx hb dX5_refusalOfSheet_101 (by decide +kernel) ?_
                refine lv_iadd hx hb dX5_refusalOfSheet_102 ?_
                refine g_topi (y := nI ((3 * i62) + 2)) (nI_add (3 * i62) 2) ?_
                refine g_iald (D := G.1) hx hb hK hP 6 0 rfl rfl (k := (3 * i62) + 2) (y := frr ((3 * i62) + 2)) (by omega) rfl rfl dX5_refusalOfSheet_103 ?_
                refine lv_iconst (v := 1) hx hb dX5_refusalOfSheet_104 (by decide +kernel) ?_
                refine z_calli [] (v := bz (decide (0 ≤ (frr ((3 * i62) + 2)) ∧ (frr ((3 * i62) + 2)) ≤ 1))) (fun _ _ h => h) (va_runS (As := [.int (frr ((3 * i62) + 2)), .int 1]) (rest := []) ⟨hx, hb, hml, hown, hts⟩ (c_X5_within_g l G (frr ((3 * i62) + 2)) 1 H.size) (va_cwS 2 hts gX5_refusalOfSheet_X5_within rfl rfl rfl (by decide +kernel) ⟨Nat.le_of_ble_eq_true rfl, Nat.le_of_ble_eq_true rfl⟩) ⟨gPre_blind, fun U hU hW => gPre_ofF [] hU hW hK hP hD (by decide +kernel) rfl⟩ rfl rfl hl.1 rfl (lv_room (Nat.le_of_ble_eq_true rfl)) dX5_refusalOfSheet_105 ⟨Nat.le_of_ble_eq_true rfl, Nat.le_of_ble_eq_true rfl⟩) hS hD hA rfl (fun u t H locs ht hvm hB hz1 hk1 hFq hAq hS => ?_)
                obtain ⟨hP1, hK1, hD1⟩ := hB
                have hP := zKeep hP hD [] hAq hk1 ht hP1 rfl
                refine lv_if_ne (tgt := 114) hx hb dX5_refusalOfSheet_108 (by decide +kernel) (fun c_28 => ?_) (fun c_28 => ?_)
                · skip
                  have p_29 : 0 ≤ (frr ((3 * i62) + 2)) ∧ (frr ((3 * i62) + 2)) ≤ 1 := of_decide_eq_true (bz_ne rfl c_28)
                  refine lv_iinc (v := nI ((3 * i62) + 3)) (lv' := [zI 4 (nI ((3 * i62) + 3)), zR 3 rr, zI 2 (nI (fql sn)), zR 0 h0, zI 1 (nI sn)]) hx hb dX5_refusalOfSheet_114 hl (k := 0) rfl (nI_add (3 * i62) 3) (by decide +kernel) rfl (fun ls hl => ?_)
                  refine lv_goto (tgt := 62) hx hb dX5_refusalOfSheet_117 (by decide +kernel) ?_
                  exact ih9_62 (i62 + 1) (by omega) (Eq.trans (Eq.symm ((congrArg (fun z9 => p_X5_refusalOfSheet_A_62 pb frr (z9) i62 ) (show (fql sn / 3) - i62 = (fql sn / 3) - (i62 + 1) + 1 by omega)).trans (by show p_X5_refusalOfSheet_A_62 pb frr ((fql sn / 3) - (i62 + 1) + 1) i62  = _; rw [p_X5_refusalOfSheet_A_62, if_pos p_15, if_pos p_22, if_pos p_29]))) R62) (by omega) _ _ hP hD hS ls hl
                · skip
                  have n_30 : ¬ (0 ≤ (frr ((3 * i62) + 2)) ∧ (frr ((3 * i62) + 2)) ≤ 1) := of_decide_eq_false (bz_eq rfl c_28)
                  refine lv_bipush (v := -2) hx hb dX5_refusalOfSheet_111 (by decide +kernel) ?_
                  have hF62 : (g_X5_refusalOfSheet_A_62 pb fql frr sn) = i62 := R62.symm.trans ((congrArg (fun z9 => p_X5_refusalOfSheet_A_62 pb frr (z9) i62 ) (show (fql sn / 3) - i62 = (fql sn / 3) - (i62 + 1) + 1 by omega)).trans (by show p_X5_refusalOfSheet_A_62 pb frr ((fql sn / 3) - (i62 + 1) + 1) i62  = _; rw [p_X5_refusalOfSheet_A_62, if_pos p_15, if_pos p_22, if_neg n_30]))
                  have hE62_0 : i62 = (g_X5_refusalOfSheet_A_62 pb fql frr sn) := by rw [hF62]
                  clear hF62 R62
                  subst hE62_0
                  have hpost : (fun (r : Int32) (u : Unit) => match u with | _ => r = m_X5_refusalOfSheet_A pb fql fqo frr sn) (-2) () := (show m_X5_refusalOfSheet_A pb fql fqo frr sn = (-2) from by unfold m_X5_refusalOfSheet_A; rw [if_neg c_5, if_pos c_8, if_neg c_10]).symm
                  exact W.iret (v := (-2)) hx hb hr (fun t ht hW => ⟨⟨(-2), (), rfl, hpost, by rw [ht]; exact hP, va_K.moved hW.alike hK, hD⟩, hS.F ht⟩) hS.2.2 dX5_refusalOfSheet_113
      exact loop_62 ((fql sn / 3) - 0 + 1) 0 (by omega) (rfl) (by omega) _ _ hP hD hS ls hl
    · skip
      have c_8N : ¬ ((fql sn) % 3) = 0 := nI_eq0 (a := ((fql sn) % 3)) (b := 0) (by omega) (by omega) c_8
      refine lv_bipush (v := -2) hx hb dX5_refusalOfSheet_46 (by decide +kernel) ?_
      have hpost : (fun (r : Int32) (u : Unit) => match u with | _ => r = m_X5_refusalOfSheet_A pb fql fqo frr sn) (-2) () := (show m_X5_refusalOfSheet_A pb fql fqo frr sn = (-2) from by unfold m_X5_refusalOfSheet_A; rw [if_neg c_5, if_neg c_8]).symm
      exact W.iret (v := (-2)) hx hb hr (fun t ht hW => ⟨⟨(-2), (), rfl, hpost, by rw [ht]; exact hP, va_K.moved hW.alike hK, hD⟩, hS.F ht⟩) hS.2.2 dX5_refusalOfSheet_48
  · skip
    refine lv_bipush (v := -11) hx hb dX5_refusalOfSheet_27 (by decide +kernel) ?_
    have hpost : (fun (r : Int32) (u : Unit) => match u with | _ => r = m_X5_refusalOfSheet_A pb fql fqo frr sn) (-11) () := (show m_X5_refusalOfSheet_A pb fql fqo frr sn = (-11) from by unfold m_X5_refusalOfSheet_A; rw [if_pos c_5]).symm
    exact W.iret (v := (-11)) hx hb hr (fun t ht hW => ⟨⟨(-11), (), rfl, hpost, by rw [ht]; exact hP, va_K.moved hW.alike hK, hD⟩, hS.F ht⟩) hS.2.2 dX5_refusalOfSheet_29
abbrev q_X5_refusalOfSheet_B (G : gG) (E : gS) (h0 tt rd nw th kp sh tu qn qo ql : Nat) (him : Int32) (v0 : Int32) (A : Nat → Prop) : Array Value → State → Outcome → State → Prop := va_Qi (fun (r : Int32) (u : Unit) => match u with | _ => r = -2) (fun (u : Unit) t => match u with | _ => va_P G.1 vwCl [zo5 h0 tt rd nw th kp sh tu him, zo2 sh qn qo ql] t.heap ∧ gK G t ∧ va_D A [zo5 h0 tt rd nw th kp sh tu him, zo2 sh qn qo ql]) A
set_option maxHeartbeats 4000000 in
set_option maxRecDepth 100000 in
theorem c_X5_refusalOfSheet_B (l : Launch) (G : gG) (E : gS) (h0 tt rd nw th kp sh tu qn qo ql : Nat) (him : Int32) (v0 : Int32) (sz : Nat) (hno : ¬ (0 ≤ v0 ∧ v0 ≤ 3)) : Met l yX5_refusalOfSheet wsX5_refusalOfSheet ({ frames := 2, cells := 0, slots := 0, locals := 42 }) (gPreE G E [.ref h0, .int v0] [zo5 h0 tt rd nw th kp sh tu him, zo2 sh qn qo ql] sz) (q_X5_refusalOfSheet_B G E h0 tt rd nw th kp sh tu qn qo ql him v0 (va_A [zo5 h0 tt rd nw th kp sh tu him, zo2 sh qn qo ql] sz)) 0 0 (va_A [zo5 h0 tt rd nw th kp sh tu him, zo2 sh qn qo ql] sz) := by
  refine Met.ofW (cc := cX5_refusalOfSheet) (maxL := 5) (ret := (some .int)) (by decide +kernel) rfl ?_
  intro p e s m args below meth c s₁ B hml hv
  obtain ⟨rfl, hsz, hP, hK, hD0, hE⟩ := hv
  have hx := B.exec
  have hb := B.bytes
  have hr := B.returns
  have hts := atoms_spec (ws := wsX5_refusalOfSheet) B.pre
  have hown : s.vm.findClass RX5 = some m.cls := findClass_of_methodNamed B.named
  have hlocks := B.notSynchronized
  subst hsz
  have hD := hD0.self (sz := s.heap.size)
  generalize hAe : va_A [zo5 h0 tt rd nw th kp sh tu him, zo2 sh qn qo ql] s.heap.size = A at hD hE ⊢
  have hA : ∀ q : Nat, s.heap.size ≤ q → A q := fun q h => by rw [← hAe]; exact Or.inr h
  have hS : va_S A s.heap s.heap [] := va_S.rf
  have hz9 : gPD G A [zo5 h0 tt rd nw th kp sh tu him, zo2 sh qn qo ql] s.heap := ⟨hP, hD⟩
  have hP := hz9.1
  have hD := hz9.2
  have hl := lv_entry ([.ref h0, .int v0]) (n := 5) (Nat.le_of_ble_eq_true rfl)
  rw [lg_entry_eq]
  generalize (lg_sl ([.ref h0, .int v0]) ++ List.replicate (5 - (lg_sl ([.ref h0, .int v0])).length) Slot.unset).toArray = ls at hl ⊢
  have hl : lv_has ls 5 [zR 0 h0, zI 1 v0] := hl
  have kf41 := hts (.fieldLink RX5 41 "PebbleInShoe" "rows" "LPebbleInShoe$Sheets;") (by decide +kernel)
  have hiX5 := (by decide +kernel : ∀ w ∈ wsX50, w ∈ wsX5_refusalOfSheet)
  refine g_aget (D := G.1) (ci := 5) (v := .ref sh) (C := RX5) (T := TX5) (N := 8) hx hb dX5_refusalOfSheet_0 rfl (lv_at hl 0 rfl) hts hiX5 hown hK hP 0 rfl rfl 5 (by decide +kernel) kf41 (fun _ h9 => h9) rfl dX5_refusalOfSheet_1 ?_
  refine lv_iload_n hx hb dX5_refusalOfSheet_4 rfl (lv_at hl 1 rfl) ?_
  refine z_callp [1] (va_runV (As := [.int v0]) (rest := []) ⟨hx, hb, hml, hown, hts⟩ (c_X2_isSheet_g l G E sh qn qo ql v0 s.heap.size) (cwV 1 hts gX5_refusalOfSheet_X2_isSheet rfl rfl rfl (by decide +kernel) ⟨Nat.le_of_ble_eq_true rfl, Nat.le_of_ble_eq_true rfl⟩) ⟨gPreE_blind, va_recv (q := (RX2, TX2, 3)) hK hP (ci := 2) (q0 := 1) rfl rfl, fun U hU hW => gPreE_ofF [1] hU hW hK hP hD (by decide +kernel) rfl hE hS hA⟩ rfl rfl hl.1 rfl (lv_room (Nat.le_of_ble_eq_true rfl)) dX5_refusalOfSheet_5 ⟨Nat.le_of_ble_eq_true rfl, Nat.le_of_ble_eq_true rfl⟩) hS hD hA rfl (fun r_1 u t H locs ht hvm w_2 hB hz1 hk1 hFq hAq hS => ?_)
  obtain ⟨hP1, hK1, hD1⟩ := hB
  have w_2 : r_1 = bz (decide (0 ≤ v0 ∧ v0 ≤ 3)) := w_2
  have hP := zKeep hP hD [1] hAq hk1 ht hP1 rfl
  have w_2 : r_1 = 0 := w_2.trans (bz3_f hno)
  subst w_2
  refine lv_if_ne (tgt := 14) hx hb dX5_refusalOfSheet_8 (by decide +kernel) (fun c_3 => ?_) (fun c_3 => ?_)
  · exact absurd (by decide +kernel) c_3
  refine lv_bipush (v := -2) hx hb dX5_refusalOfSheet_11 (by decide +kernel) ?_
  have hpost : (fun (r : Int32) (u : Unit) => match u with | _ => r = -2) (-2) () := rfl
  exact W.iret (v := (-2)) hx hb hr (fun t ht hW => ⟨⟨(-2), (), rfl, hpost, by rw [ht]; exact hP, va_K.moved hW.alike hK, hD⟩, hS.F ht⟩) hS.2.2 dX5_refusalOfSheet_13
noncomputable def m_X5_refusalOf_A (jg : Nat) (pb : Nat) (fql : Nat → Nat) (fqo : Nat → Int32) (frr : Nat → Int32) (sn : Nat) (v1 : Int32) : Int32 := if (m_X5_refusalOfSheet_A pb fql fqo frr sn) = 0 then (if (mHas jg v1) = true then 0 else -5) else m_X5_refusalOfSheet_A pb fql fqo frr sn
abbrev q_X5_refusalOf_A (G : gG) (E : gS) (h0 tt rd nw th kp sh tu n1 n2 n3 n4 n5 n6 n7 n8 qn qo ql rr : Nat) (jg : Nat) (pb : Nat) (lw : Nat) (him : Int32) (fn : Nat → Option Nat) (fql : Nat → Nat) (fqo : Nat → Int32) (frr : Nat → Int32) (sn : Nat) (v1 : Int32) (A : Nat → Prop) : Array Value → State → Outcome → State → Prop := va_Qi (fun (r : Int32) (u : Unit) => match u with | _ => r = m_X5_refusalOf_A jg pb fql fqo frr sn v1) (fun (u : Unit) t => match u with | _ => va_P G.1 vwCl [zo5 h0 tt rd nw th kp sh tu him, zo0 nw tt n1 n2 n3 n4 n5 n6 n7 n8 (nI jg) (nI pb) (nI lw), zo2 sh qn qo ql, zr G qn 4 fn, zi G qo 4 fqo, zi G ql 4 (nF fql), zi G rr 40 frr] t.heap ∧ gK G t ∧ va_D A [zo5 h0 tt rd nw th kp sh tu him, zo0 nw tt n1 n2 n3 n4 n5 n6 n7 n8 (nI jg) (nI pb) (nI lw), zo2 sh qn qo ql, zr G qn 4 fn, zi G qo 4 fqo, zi G ql 4 (nF fql), zi G rr 40 frr]) A
set_option maxHeartbeats 4000000 in
set_option maxRecDepth 100000 in
theorem c_X5_refusalOf_A (l : Launch) (G : gG) (E : gS) (h0 tt rd nw th kp sh tu n1 n2 n3 n4 n5 n6 n7 n8 qn qo ql rr : Nat) (jg : Nat) (pb : Nat) (lw : Nat) (him : Int32) (fn : Nat → Option Nat) (fql : Nat → Nat) (fqo : Nat → Int32) (frr : Nat → Int32) (sn : Nat) (v1 : Int32) (sz : Nat) (hsn : sn < 4) (hrw : fn sn = some rr) (hql : ∀ q9, q9 < 4 → fql q9 ≤ 40) (hjg : jg ≤ 4) (hpb : pb ≤ 6) : Met l yX5_refusalOf wsX5_refusalOf ({ frames := 3, cells := 0, slots := 0, locals := 66 }) (gPreE G E [.ref h0, .int (nI sn), .int v1] [zo5 h0 tt rd nw th kp sh tu him, zo0 nw tt n1 n2 n3 n4 n5 n6 n7 n8 (nI jg) (nI pb) (nI lw), zo2 sh qn qo ql, zr G qn 4 fn, zi G qo 4 fqo, zi G ql 4 (nF fql), zi G rr 40 frr] sz) (q_X5_refusalOf_A G E h0 tt rd nw th kp sh tu n1 n2 n3 n4 n5 n6 n7 n8 qn qo ql rr jg pb lw him fn fql fqo frr sn v1 (va_A [zo5 h0 tt rd nw th kp sh tu him, zo0 nw tt n1 n2 n3 n4 n5 n6 n7 n8 (nI jg) (nI pb) (nI lw), zo2 sh qn qo ql, zr G qn 4 fn, zi G qo 4 fqo, zi G ql 4 (nF fql), zi G rr 40 frr] sz)) 0 0 (va_A [zo5 h0 tt rd nw th kp sh tu him, zo0 nw tt n1 n2 n3 n4 n5 n6 n7 n8 (nI jg) (nI pb) (nI lw), zo2 sh qn qo ql, zr G qn 4 fn, zi G qo 4 fqo, zi G ql 4 (nF fql), zi G rr 40 frr] sz) := by
  refine Met.ofW (cc := cX5_refusalOf) (maxL := 4) (ret := (some .int)) (by decide +kernel) rfl ?_
  intro p e s m args below meth c s₁ B hml hv
  obtain ⟨rfl, hsz, hP, hK, hD0, hE⟩ := hv
  have hx := B.exec
  have hb := B.bytes
  have hr := B.returns
  have hts := atoms_spec (ws := wsX5_refusalOf) B.pre
  have hown : s.vm.findClass RX5 = some m.cls := findClass_of_methodNamed B.named
  have hlocks := B.notSynchronized
  subst hsz
  have hD := hD0.self (sz := s.heap.size)
  generalize hAe : va_A [zo5 h0 tt rd nw th kp sh tu him, zo0 nw tt n1 n2 n3 n4 n5 n6 n7 n8 (nI jg) (nI pb) (nI lw), zo2 sh qn qo ql, zr G qn 4 fn, zi G qo 4 fqo, zi G ql 4 (nF fql), zi G rr 40 frr] s.heap.size = A at hD hE ⊢
  have hA : ∀ q : Nat, s.heap.size ≤ q → A q := fun q h => by rw [← hAe]; exact Or.inr h
  have hS : va_S A s.heap s.heap [] := va_S.rf
  have hz9 : gPD G A [zo5 h0 tt rd nw th kp sh tu him, zo0 nw tt n1 n2 n3 n4 n5 n6 n7 n8 (nI jg) (nI pb) (nI lw), zo2 sh qn qo ql, zr G qn 4 fn, zi G qo 4 fqo, zi G ql 4 (nF fql), zi G rr 40 frr] s.heap := ⟨hP, hD⟩
  have hP := hz9.1
  have hD := hz9.2
  have hl := lv_entry ([.ref h0, .int (nI sn), .int v1]) (n := 4) (Nat.le_of_ble_eq_true rfl)
  rw [lg_entry_eq]
  generalize (lg_sl ([.ref h0, .int (nI sn), .int v1]) ++ List.replicate (4 - (lg_sl ([.ref h0, .int (nI sn), .int v1])).length) Slot.unset).toArray = ls at hl ⊢
  have hl : lv_has ls 4 [zR 0 h0, zI 1 (nI sn), zI 2 v1] := hl
  have kf28 := hts (.fieldLink RX5 28 "PebbleInShoe" "now" "LPebbleInShoe$Court;") (by decide +kernel)
  have hiX5 := (by decide +kernel : ∀ w ∈ wsX50, w ∈ wsX5_refusalOf)
  refine lv_aload_n hx hb dX5_refusalOf_0 rfl (lv_at hl 0 rfl) ?_
  refine lv_iload_n hx hb dX5_refusalOf_1 rfl (lv_at hl 1 rfl) ?_
  refine z_calli [0, 1, 2, 3, 4, 5, 6] (v := m_X5_refusalOfSheet_A pb fql fqo frr sn) (fun _ _ h => h) (va_runV (As := [.int (nI sn)]) (rest := []) ⟨hx, hb, hml, hown, hts⟩ (c_X5_refusalOfSheet_A l G E h0 tt rd nw th kp sh tu n1 n2 n3 n4 n5 n6 n7 n8 qn qo ql rr jg pb lw him fn fql fqo frr sn s.heap.size (by first | exact hsn | assumption | omega) (by first | exact hrw | assumption | omega) (by first | exact hql | assumption | omega) (by first | exact hjg | assumption | omega) (by first | exact hpb | assumption | omega)) (cwV 1 hts gX5_refusalOf_X5_refusalOfSheet rfl rfl rfl (by decide +kernel) ⟨Nat.le_of_ble_eq_true rfl, Nat.le_of_ble_eq_true rfl⟩) ⟨gPreE_blind, va_recv (q := (RX5, TX5, 8)) hK hP (ci := 5) (q0 := 0) rfl rfl, fun U hU hW => gPreE_of hU hW hK hP hD hE hS (gFree2 hD hS hA [0, 1, 2, 3, 4, 5, 6])⟩ rfl rfl hl.1 rfl (lv_room (Nat.le_of_ble_eq_true rfl)) dX5_refusalOf_2 ⟨Nat.le_of_ble_eq_true rfl, Nat.le_of_ble_eq_true rfl⟩) hS hD hA rfl (fun u t H locs ht hvm hB hz1 hk1 hFq hAq hS => ?_)
  obtain ⟨hP1, hK1, hD1⟩ := hB
  have hP := zKeep hP hD [0, 1, 2, 3, 4, 5, 6] hAq hk1 ht hP1 rfl
  refine lv_istore_n (lv' := [zI 3 (m_X5_refusalOfSheet_A pb fql fqo frr sn), zR 0 h0, zI 1 (nI sn), zI 2 v1]) hx hb dX5_refusalOf_5 rfl hl (by decide +kernel) rfl (fun ls hl => ?_)
  refine lv_iload_n hx hb dX5_refusalOf_6 rfl (lv_at hl 0 rfl) ?_
  refine lv_if_eq (tgt := 12) hx hb dX5_refusalOf_7 (by decide +kernel) (fun c_3 => ?_) (fun c_3 => ?_)
  · skip
    refine g_aget (D := G.1) (ci := 5) (v := .ref nw) (C := RX5) (T := TX5) (N := 8) hx hb dX5_refusalOf_12 rfl (lv_at hl 1 rfl) hts hiX5 hown hK hP 0 rfl rfl 2 (by decide +kernel) kf28 (fun _ h9 => h9) rfl dX5_refusalOf_13 ?_
    refine lv_iload_n hx hb dX5_refusalOf_16 rfl (lv_at hl 3 rfl) ?_
    refine z_calli [1] (v := bz (mHas jg v1)) (fun _ _ h => h) (va_runV (As := [.int v1]) (rest := []) ⟨hx, hb, hml, hown, hts⟩ (c_X0_hasJudge_g l G nw tt n1 n2 n3 n4 n5 n6 n7 n8 jg pb lw v1 H.size (by first | exact hjg | assumption | omega) (by first | exact hpb | assumption | omega)) (cwV 1 hts gX5_refusalOf_X0_hasJudge rfl rfl rfl (by decide +kernel) ⟨Nat.le_of_ble_eq_true rfl, Nat.le_of_ble_eq_true rfl⟩) ⟨gPre_blind, va_recv (q := (RX0, TX0, 12)) hK hP (ci := 0) (q0 := 1) rfl rfl, fun U hU hW => gPre_ofF [1] hU hW hK hP hD (by decide +kernel) rfl⟩ rfl rfl hl.1 rfl (lv_room (Nat.le_of_ble_eq_true rfl)) dX5_refusalOf_17 ⟨Nat.le_of_ble_eq_true rfl, Nat.le_of_ble_eq_true rfl⟩) hS hD hA rfl (fun u t H locs ht hvm hB hz1 hk1 hFq hAq hS => ?_)
    obtain ⟨hP1, hK1, hD1⟩ := hB
    have hP := zKeep hP hD [1] hAq hk1 ht hP1 rfl
    refine lv_if_eq (tgt := 27) hx hb dX5_refusalOf_20 (by decide +kernel) (fun c_6 => ?_) (fun c_6 => ?_)
    · skip
      have n_8 : (mHas jg v1) = false := bz_eq rfl c_6
      have n_8N : ¬ ((mHas jg v1) = true) := by rw [n_8]; decide
      refine lv_bipush (v := -5) hx hb dX5_refusalOf_27 (by decide +kernel) ?_
      have hpost : (fun (r : Int32) (u : Unit) => match u with | _ => r = m_X5_refusalOf_A jg pb fql fqo frr sn v1) (-5) () := (show m_X5_refusalOf_A jg pb fql fqo frr sn v1 = (-5) from by unfold m_X5_refusalOf_A; rw [if_pos c_3, if_neg n_8N]).symm
      exact W.iret (v := (-5)) hx hb hr (fun t ht hW => ⟨⟨(-5), (), rfl, hpost, by rw [ht]; exact hP, va_K.moved hW.alike hK, hD⟩, hS.F ht⟩) hS.2.2 dX5_refusalOf_29
    · skip
      have p_7 : (mHas jg v1) = true := bz_ne rfl c_6
      have hv_9 : v1 = nI (nC v1) := mHas_eq p_7
      have hk_10 : nC v1 < jg := mHas_lt (by omega) p_7
      refine lv_iconst (v := 0) hx hb dX5_refusalOf_23 (by decide +kernel) ?_
      refine lv_goto (tgt := 29) hx hb dX5_refusalOf_24 (by decide +kernel) ?_
      have hpost : (fun (r : Int32) (u : Unit) => match u with | _ => r = m_X5_refusalOf_A jg pb fql fqo frr sn v1) 0 () := (show m_X5_refusalOf_A jg pb fql fqo frr sn v1 = 0 from by unfold m_X5_refusalOf_A; rw [if_pos c_3, if_pos p_7]).symm
      exact W.iret (v := 0) hx hb hr (fun t ht hW => ⟨⟨0, (), rfl, hpost, by rw [ht]; exact hP, va_K.moved hW.alike hK, hD⟩, hS.F ht⟩) hS.2.2 dX5_refusalOf_29
  · skip
    refine lv_iload_n hx hb dX5_refusalOf_10 rfl (lv_at hl 0 rfl) ?_
    have hpost : (fun (r : Int32) (u : Unit) => match u with | _ => r = m_X5_refusalOf_A jg pb fql fqo frr sn v1) (m_X5_refusalOfSheet_A pb fql fqo frr sn) () := (show m_X5_refusalOf_A jg pb fql fqo frr sn v1 = (m_X5_refusalOfSheet_A pb fql fqo frr sn) from by unfold m_X5_refusalOf_A; rw [if_neg c_3]).symm
    exact W.iret (v := (m_X5_refusalOfSheet_A pb fql fqo frr sn)) hx hb hr (fun t ht hW => ⟨⟨(m_X5_refusalOfSheet_A pb fql fqo frr sn), (), rfl, hpost, by rw [ht]; exact hP, va_K.moved hW.alike hK, hD⟩, hS.F ht⟩) hS.2.2 dX5_refusalOf_11
abbrev q_X5_refusalOf_B (G : gG) (E : gS) (h0 tt rd nw th kp sh tu qn qo ql : Nat) (him : Int32) (v0 : Int32) (v1 : Int32) (A : Nat → Prop) : Array Value → State → Outcome → State → Prop := va_Qi (fun (r : Int32) (u : Unit) => match u with | _ => r = -2) (fun (u : Unit) t => match u with | _ => va_P G.1 vwCl [zo5 h0 tt rd nw th kp sh tu him, zo2 sh qn qo ql] t.heap ∧ gK G t ∧ va_D A [zo5 h0 tt rd nw th kp sh tu him, zo2 sh qn qo ql]) A
set_option maxHeartbeats 4000000 in
set_option maxRecDepth 100000 in
theorem c_X5_refusalOf_B (l : Launch) (G : gG) (E : gS) (h0 tt rd nw th kp sh tu qn qo ql : Nat) (him : Int32) (v0 : Int32) (v1 : Int32) (sz : Nat) (hno : ¬ (0 ≤ v0 ∧ v0 ≤ 3)) : Met l yX5_refusalOf wsX5_refusalOf ({ frames := 3, cells := 0, slots := 0, locals := 66 }) (gPreE G E [.ref h0, .int v0, .int v1] [zo5 h0 tt rd nw th kp sh tu him, zo2 sh qn qo ql] sz) (q_X5_refusalOf_B G E h0 tt rd nw th kp sh tu qn qo ql him v0 v1 (va_A [zo5 h0 tt rd nw th kp sh tu him, zo2 sh qn qo ql] sz)) 0 0 (va_A [zo5 h0 tt rd nw th kp sh tu him, zo2 sh qn qo ql] sz) := by
  refine Met.ofW (cc := cX5_refusalOf) (maxL := 4) (ret := (some .int)) (by decide +kernel) rfl ?_
  intro p e s m args below meth c s₁ B hml hv
  obtain ⟨rfl, hsz, hP, hK, hD0, hE⟩ := hv
  have hx := B.exec
  have hb := B.bytes
  have hr := B.returns
  have hts := atoms_spec (ws := wsX5_refusalOf) B.pre
  have hown : s.vm.findClass RX5 = some m.cls := findClass_of_methodNamed B.named
  have hlocks := B.notSynchronized
  subst hsz
  have hD := hD0.self (sz := s.heap.size)
  generalize hAe : va_A [zo5 h0 tt rd nw th kp sh tu him, zo2 sh qn qo ql] s.heap.size = A at hD hE ⊢
  have hA : ∀ q : Nat, s.heap.size ≤ q → A q := fun q h => by rw [← hAe]; exact Or.inr h
  have hS : va_S A s.heap s.heap [] := va_S.rf
  have hz9 : gPD G A [zo5 h0 tt rd nw th kp sh tu him, zo2 sh qn qo ql] s.heap := ⟨hP, hD⟩
  have hP := hz9.1
  have hD := hz9.2
  have hl := lv_entry ([.ref h0, .int v0, .int v1]) (n := 4) (Nat.le_of_ble_eq_true rfl)
  rw [lg_entry_eq]
  generalize (lg_sl ([.ref h0, .int v0, .int v1]) ++ List.replicate (4 - (lg_sl ([.ref h0, .int v0, .int v1])).length) Slot.unset).toArray = ls at hl ⊢
  have hl : lv_has ls 4 [zR 0 h0, zI 1 v0, zI 2 v1] := hl
  refine lv_aload_n hx hb dX5_refusalOf_0 rfl (lv_at hl 0 rfl) ?_
  refine lv_iload_n hx hb dX5_refusalOf_1 rfl (lv_at hl 1 rfl) ?_
  refine z_calli [0, 1] (v := -2) (fun _ _ h => h) (va_runV (As := [.int v0]) (rest := []) ⟨hx, hb, hml, hown, hts⟩ (c_X5_refusalOfSheet_B l G E h0 tt rd nw th kp sh tu qn qo ql him v0 s.heap.size (by first | exact hno | assumption | omega)) (cwV 1 hts gX5_refusalOf_X5_refusalOfSheet rfl rfl rfl (by decide +kernel) ⟨Nat.le_of_ble_eq_true rfl, Nat.le_of_ble_eq_true rfl⟩) ⟨gPreE_blind, va_recv (q := (RX5, TX5, 8)) hK hP (ci := 5) (q0 := 0) rfl rfl, fun U hU hW => gPreE_of hU hW hK hP hD hE hS (gFree2 hD hS hA [0, 1])⟩ rfl rfl hl.1 rfl (lv_room (Nat.le_of_ble_eq_true rfl)) dX5_refusalOf_2 ⟨Nat.le_of_ble_eq_true rfl, Nat.le_of_ble_eq_true rfl⟩) hS hD hA rfl (fun u t H locs ht hvm hB hz1 hk1 hFq hAq hS => ?_)
  obtain ⟨hP1, hK1, hD1⟩ := hB
  have hP := zKeep hP hD [0, 1] hAq hk1 ht hP1 rfl
  refine lv_istore_n (lv' := [zI 3 (-2), zR 0 h0, zI 1 v0, zI 2 v1]) hx hb dX5_refusalOf_5 rfl hl (by decide +kernel) rfl (fun ls hl => ?_)
  refine lv_iload_n hx hb dX5_refusalOf_6 rfl (lv_at hl 0 rfl) ?_
  refine lv_if_eq (tgt := 12) hx hb dX5_refusalOf_7 (by decide +kernel) (fun c_3 => ?_) (fun c_3 => ?_)
  · exact absurd c_3 (by decide +kernel)
  refine lv_iload_n hx hb dX5_refusalOf_10 rfl (lv_at hl 0 rfl) ?_
  have hpost : (fun (r : Int32) (u : Unit) => match u with | _ => r = -2) (-2) () := rfl
  exact W.iret (v := (-2)) hx hb hr (fun t ht hW => ⟨⟨(-2), (), rfl, hpost, by rw [ht]; exact hP, va_K.moved hW.alike hK, hD⟩, hS.F ht⟩) hS.2.2 dX5_refusalOf_11
noncomputable def m_X1_addg_h06 (td : Nat) : Nat := if 160 ≤ (nI td) then td else (td + 1)
noncomputable def m_X1_addg_b0 (td : Nat) (fb : Nat → Int32) (v0 : Int32) : Nat → Int32 := if 160 ≤ (nI td) then fb else upd fb td v0
abbrev q_X1_addg (G : gG) (h0 tt b0 : Nat) (td : Nat) (x2 : Int32) (x3 : Int32) (x4 : Int32) (x5 : Int32) (fb : Nat → Int32) (v0 : Int32) (A : Nat → Prop) : Array Value → State → Outcome → State → Prop := va_Qv (fun (u : Unit) => match u with | _ => True) (fun (u : Unit) t => match u with | _ => va_P G.1 vwCl [zo1 h0 tt b0 x2 x3 x4 x5 (nI (m_X1_addg_h06 td)), zi G b0 160 (m_X1_addg_b0 td fb v0)] t.heap ∧ gK G t ∧ va_D A [zo1 h0 tt b0 x2 x3 x4 x5 (nI (m_X1_addg_h06 td)), zi G b0 160 (m_X1_addg_b0 td fb v0)]) A
set_option maxHeartbeats 4000000 in
set_option maxRecDepth 100000 in
theorem c_X1_addg (l : Launch) (G : gG) (h0 tt b0 : Nat) (td : Nat) (x2 : Int32) (x3 : Int32) (x4 : Int32) (x5 : Int32) (fb : Nat → Int32) (v0 : Int32) (sz : Nat) (htd : td ≤ 160) : Met l yX1_add wsX1_add ({ frames := 0, cells := 0, slots := 0, locals := 0 }) (gPre G [.ref h0, .int v0] [zo1 h0 tt b0 x2 x3 x4 x5 (nI td), zi G b0 160 fb] sz) (q_X1_addg G h0 tt b0 td x2 x3 x4 x5 fb v0 (va_A [zo1 h0 tt b0 x2 x3 x4 x5 (nI td), zi G b0 160 fb] sz)) 0 0 (va_A [zo1 h0 tt b0 x2 x3 x4 x5 (nI td), zi G b0 160 fb] sz) := by
  refine Met.ofW (cc := cX1_add) (maxL := 2) (ret := none) (by decide +kernel) rfl ?_
  intro p e s m args below meth c s₁ B hml hv
  obtain ⟨rfl, hsz, hP, hK, hD0⟩ := hv
  have hx := B.exec
  have hb := B.bytes
  have hr := B.returns
  have hts := atoms_spec (ws := wsX1_add) B.pre
  have hown : s.vm.findClass RX1 = some m.cls := findClass_of_methodNamed B.named
  have hlocks := B.notSynchronized
  subst hsz
  have hD := hD0.self (sz := s.heap.size)
  generalize hAe : va_A [zo1 h0 tt b0 x2 x3 x4 x5 (nI td), zi G b0 160 fb] s.heap.size = A at hD ⊢
  have hA : ∀ q : Nat, s.heap.size ≤ q → A q := fun q h => by rw [← hAe]; exact Or.inr h
  have hS : va_S A s.heap s.heap [] := va_S.rf
  have hz9 : gPD G A [zo1 h0 tt b0 x2 x3 x4 x5 (nI td), zi G b0 160 fb] s.heap := ⟨hP, hD⟩
  have hP := hz9.1
  have hD := hz9.2
  have hl := lv_entry ([.ref h0, .int v0]) (n := 2) (Nat.le_of_ble_eq_true rfl)
  rw [lg_entry_eq]
  generalize (lg_sl ([.ref h0, .int v0]) ++ List.replicate (2 - (lg_sl ([.ref h0, .int v0])).length) Slot.unset).toArray = ls at hl ⊢
  have hl : lv_has ls 2 [zR 0 h0, zI 1 v0] := hl
  have kf19 := hts (.fieldLink RX1 19 "PebbleInShoe$Reader" "length" "I") (by decide +kernel)
  have hiX1 := (by decide +kernel : ∀ w ∈ wsX10, w ∈ wsX1_add)
  have kf9 := hts (.fieldLink RX1 9 "PebbleInShoe$Reader" "bytes" "[I") (by decide +kernel)
  refine g_aget (D := G.1) (ci := 1) (v := .int (nI td)) (C := RX1) (T := TX1) (N := 7) hx hb dX1_add_0 rfl (lv_at hl 0 rfl) hts hiX1 hown hK hP 0 rfl rfl 6 (by decide +kernel) kf19 (fun _ h9 => h9) rfl dX1_add_1 ?_
  refine lv_sipush (v := 160) hx hb dX1_add_4 (by decide +kernel) ?_
  refine lv_icmp_ge (tgt := 30) hx hb dX1_add_7 (by decide +kernel) (fun c_1 => ?_) (fun c_1 => ?_)
  · skip
    have c_1N : 160 ≤ td := nI_le1 (a := 160) (b := td) (by omega) (by omega) c_1
    have q_2 : m_X1_addg_h06 td = td := by unfold m_X1_addg_h06; rw [if_pos c_1]
    have q_3 : m_X1_addg_b0 td fb v0 = fb := by unfold m_X1_addg_b0; rw [if_pos c_1]
    have hz9 : gPD G A [zo1 h0 tt b0 x2 x3 x4 x5 (nI (m_X1_addg_h06 td)), zi G b0 160 (m_X1_addg_b0 td fb v0)] s.heap := ⟨by rw [q_2, q_3]; exact hP, by rw [q_2, q_3]; exact hD⟩
    have hP9 := hz9.1
    have hD9 := hz9.2
    have hpost : (fun (u : Unit) => match u with | _ => True) () := trivial
    exact W.vret hx hb hr (fun t ht hW => ⟨⟨(), rfl, hpost, by rw [ht]; exact hP9, va_K.moved hW.alike hK, hD9⟩, hS.F ht⟩) hS.2.2 dX1_add_30
  · skip
    have c_1N : td < 160 := nI_le0 (a := 160) (b := td) (by omega) (by omega) c_1
    refine g_aget (D := G.1) (ci := 1) (v := .ref b0) (C := RX1) (T := TX1) (N := 7) hx hb dX1_add_10 rfl (lv_at hl 0 rfl) hts hiX1 hown hK hP 0 rfl rfl 1 (by decide +kernel) kf9 (fun _ h9 => h9) rfl dX1_add_11 ?_
    refine g_aget (D := G.1) (ci := 1) (v := .int (nI td)) (C := RX1) (T := TX1) (N := 7) hx hb dX1_add_14 rfl (lv_at hl 0 rfl) hts hiX1 hown hK hP 0 rfl rfl 6 (by decide +kernel) kf19 (fun _ h9 => h9) rfl dX1_add_15 ?_
    refine lv_iload_n hx hb dX1_add_18 rfl (lv_at hl 1 rfl) ?_
    refine g_iast (D := G.1) hx hb hK hP hD hS 1 0 rfl rfl (k := td) (x := v0) (by omega) rfl dX1_add_19 (fun H locs hP hD hS => ?_)
    have hz9 : gPD G A [zo1 h0 tt b0 x2 x3 x4 x5 (nI td), zi G b0 160 (upd fb td v0)] H := ⟨hP, hD⟩
    have hP := hz9.1
    have hD := hz9.2
    refine lv_aload_n hx hb dX1_add_20 rfl (lv_at hl 0 rfl) ?_
    refine lv_dup hx hb dX1_add_21 rfl ?_
    refine va_get (D := G.1) (ci := 1) (v := .int (nI td)) (C := RX1) (T := TX1) (N := 7) hx hb hts hiX1 hown hK hP 0 rfl rfl 6 (by decide +kernel) kf19 (fun _ h9 => h9) rfl dX1_add_22 ?_
    refine lv_iconst (v := 1) hx hb dX1_add_25 (by decide +kernel) ?_
    refine lv_iadd hx hb dX1_add_26 ?_
    refine g_topi (y := nI (td + 1)) (nI_add td 1) ?_
    refine va_put (D := G.1) (ci := 1) (v := .int (nI (td + 1))) (ty := .int) (C := RX1) (T := TX1) (N := 7) hx hb hts hiX1 tyX1 tyX1_ok nmX1 hown hK hP hD hS 0 rfl rfl 6 (by decide +kernel) kf19 (fun _ h9 => h9) rfl (by decide +kernel) rfl rfl (Nat.le_of_ble_eq_true rfl) dX1_add_27 (fun H locs hP hD hS => ?_)
    have hz9 : gPD G A [zo1 h0 tt b0 x2 x3 x4 x5 (nI (td + 1)), zi G b0 160 (upd fb td v0)] H := ⟨hP, hD⟩
    have hP := hz9.1
    have hD := hz9.2
    have q_5 : m_X1_addg_h06 td = td + 1 := by unfold m_X1_addg_h06; rw [if_neg c_1]
    have q_6 : m_X1_addg_b0 td fb v0 = upd fb td v0 := by unfold m_X1_addg_b0; rw [if_neg c_1]
    have hz9 : gPD G A [zo1 h0 tt b0 x2 x3 x4 x5 (nI (m_X1_addg_h06 td)), zi G b0 160 (m_X1_addg_b0 td fb v0)] H := ⟨by rw [q_5, q_6]; exact hP, by rw [q_5, q_6]; exact hD⟩
    have hP9 := hz9.1
    have hD9 := hz9.2
    have hpost : (fun (u : Unit) => match u with | _ => True) () := trivial
    exact W.vret hx hb hr (fun t ht hW => ⟨⟨(), rfl, hpost, by rw [ht]; exact hP9, va_K.moved hW.alike hK, hD9⟩, hS.F ht⟩) hS.2.2 dX1_add_30
/-! a sheet that tells cases, as the class looks at it -/
def mCaseX (pb : Nat) (f : Nat → Int32) (k : Nat) : Prop := mHas pb (f (3 * k)) = true ∧ (0 ≤ f (3 * k + 1) ∧ f (3 * k + 1) ≤ 60) ∧ (0 ≤ f (3 * k + 2) ∧ f (3 * k + 2) ≤ 1)
def mToldX (pb len : Nat) (f : Nat → Int32) : Prop := ∀ k, k < len / 3 → mCaseX pb f k
theorem mToldX_at {pb len : Nat} {f : Nat → Int32} {k : Nat} (h : mToldX pb len f) (hk : k < len / 3) (hpb : pb ≤ 6) : f (3 * k) = nI (nC (f (3 * k))) ∧ nC (f (3 * k)) < pb ∧ f (3 * k + 1) = nI (nC (f (3 * k + 1))) ∧ nC (f (3 * k + 1)) ≤ 60 ∧ (0 ≤ f (3 * k + 2) ∧ f (3 * k + 2) ≤ 1) := by
  obtain ⟨h1, h2, h3⟩ := h k hk
  exact ⟨mHas_eq h1, mHas_lt (by omega) h1, nC_eq h2.1, nC_le (n := 60) (by omega) h2, h3⟩
theorem rs_all {pb : Nat} {f : Nat → Int32} : ∀ (q i : Nat), i ≤ p_X5_refusalOfSheet_A_62 pb f q i ∧ p_X5_refusalOfSheet_A_62 pb f q i ≤ i + q ∧ ∀ k, i ≤ k → k < p_X5_refusalOfSheet_A_62 pb f q i → mCaseX pb f k
  | 0, i => ⟨Nat.le_refl _, Nat.le_refl _, fun k h1 h2 => absurd (Nat.lt_of_le_of_lt h1 h2) (Nat.lt_irrefl _)⟩
  | q + 1, i => by
    rw [p_X5_refusalOfSheet_A_62]
    have bad : i ≤ i ∧ i ≤ i + (q + 1) ∧ ∀ k, i ≤ k → k < i → mCaseX pb f k := ⟨Nat.le_refl _, by omega, fun k h1 h2 => absurd (Nat.lt_of_le_of_lt h1 h2) (Nat.lt_irrefl _)⟩
    by_cases c1 : (mHas pb (f (3 * i))) = true
    · rw [if_pos c1]
      by_cases c2 : 0 ≤ (f ((3 * i) + 1)) ∧ (f ((3 * i) + 1)) ≤ 60
      · rw [if_pos c2]
        by_cases c3 : 0 ≤ (f ((3 * i) + 2)) ∧ (f ((3 * i) + 2)) ≤ 1
        · rw [if_pos c3]
          obtain ⟨h1, h2, h3⟩ := rs_all (pb := pb) (f := f) q (i + 1)
          refine ⟨by omega, by omega, fun k k1 k2 => ?_⟩
          by_cases e : k = i
          · subst e; exact ⟨c1, c2, c3⟩
          · exact h3 k (by omega) k2
        · rw [if_neg c3]; exact bad
      · rw [if_neg c2]; exact bad
    · rw [if_neg c1]; exact bad
theorem refusalOfSheet_0 {pb : Nat} {fql : Nat → Nat} {fqo frr : Nat → Int32} {sn : Nat} (hq : fql sn ≤ 40) (c : m_X5_refusalOfSheet_A pb fql fqo frr sn = 0) : mToldX pb (fql sn) frr := by
  unfold m_X5_refusalOfSheet_A at c
  by_cases c1 : fqo sn = -1
  · rw [if_pos c1] at c; exact absurd c (by decide +kernel)
  · rw [if_neg c1] at c
    by_cases c2 : nI (fql sn % 3) = 0
    · rw [if_pos c2] at c
      by_cases c3 : (nI (fql sn)) ≤ (nI ((3 * (g_X5_refusalOfSheet_A_62 pb fql frr sn)) + 2))
      · obtain ⟨h1, h2, h3⟩ := rs_all (pb := pb) (f := frr) ((fql sn / 3) - 0) 0
        have hg : g_X5_refusalOfSheet_A_62 pb fql frr sn ≤ fql sn / 3 := by
          have : g_X5_refusalOfSheet_A_62 pb fql frr sn ≤ 0 + ((fql sn / 3) - 0) := h2
          omega
        have c4 := nI_le1 (by omega) (by omega) c3
        exact fun k hk => h3 k (Nat.zero_le _) (show k < g_X5_refusalOfSheet_A_62 pb fql frr sn by omega)
      · rw [if_neg c3] at c; exact absurd c (by decide +kernel)
    · rw [if_neg c2] at c; exact absurd c (by decide +kernel)
theorem refusalOf_0 {jg pb : Nat} {fql : Nat → Nat} {fqo frr : Nat → Int32} {sn : Nat} {v1 : Int32} (hq : fql sn ≤ 40) (c : m_X5_refusalOf_A jg pb fql fqo frr sn v1 = 0) : mHas jg v1 = true ∧ mToldX pb (fql sn) frr := by
  unfold m_X5_refusalOf_A at c
  by_cases c1 : m_X5_refusalOfSheet_A pb fql fqo frr sn = 0
  · rw [if_pos c1] at c
    by_cases c2 : mHas jg v1 = true
    · exact ⟨c2, refusalOfSheet_0 hq c1⟩
    · rw [if_neg c2] at c; exact absurd c (by decide +kernel)
  · rw [if_neg c1] at c; exact absurd c c1
noncomputable def cAt (f0 f1 f2 f3 f4 f5 : Nat → Int32) (t : Nat) : Nat → Int32 := if t = 0 then f0 else if t = 1 then f1 else if t = 2 then f2 else if t = 3 then f3 else if t = 4 then f4 else f5
noncomputable def eAt (f0 f1 f2 f3 f4 f5 : Nat → Nat) (t : Nat) : Nat → Nat := if t = 0 then f0 else if t = 1 then f1 else if t = 2 then f2 else if t = 3 then f3 else if t = 4 then f4 else f5
theorem verd01 {jn pn : Nat} {fso fmi fmo fsz frd fct : Nat → Int32} {fet : Nat → Nat} {v : Int32} : m_X0_verdict jn pn fso fmi fmo fsz frd fct fet v = 0 ∨ m_X0_verdict jn pn fso fmi fmo fsz frd fct fet v = 1 := by
  unfold m_X0_verdict
  by_cases c : v < (m_X0_says 2 jn pn fso fmi fmo fsz frd fct fet)
  · rw [if_pos c]; exact Or.inl rfl
  · rw [if_neg c]; exact Or.inr rfl
theorem X5_pebble_le {pb : Nat} {a b : Int32} (h : pb ≤ 6) : m_X5_pebble_nw10 pb a b ≤ 6 := by
  unfold m_X5_pebble_nw10 m_X0_addPebble_h010
  repeat' split
  · rename_i c
    have := nI_lt1 (a := pb) (b := 6) (by omega) (by omega) c
    omega
  all_goals exact h
theorem X1_add_len {td : Nat} (h : td < 160) : m_X1_addg_h06 td = td + 1 := by
  unfold m_X1_addg_h06
  rw [if_neg (show ¬ (160 : Int32) ≤ nI td from fun c => absurd (nI_le1 (a := 160) (b := td) (by omega) (by omega) c) (by omega))]
