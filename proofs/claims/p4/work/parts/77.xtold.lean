noncomputable def p_X5_firstOtherwise_13 (fet : Nat → Nat) (uki : Nat → Int32) (umo : Nat → Int32) (urd : Nat → Int32) (fct : Nat → Int32) (frr : Nat → Int32) (jn : Nat) : Nat → Nat → (Nat → Int32) → (Nat → Int32) → (Nat → Int32) → (Nat → Int32) → Nat × (Nat → Int32) × (Nat → Int32) × (Nat → Int32) × (Nat → Int32)
  | 0, i13, y13t2, y13t3, y13t4, y13t7 => (i13, y13t2, y13t3, y13t4, y13t7)
  | q9 + 1, i13, y13t2, y13t3, y13t4, y13t7 => if (m_X0_verdict jn (nC (frr (3 * i13))) (m_X0_go_n2 jn (nC (frr (3 * i13))) (nC (frr (3 * i13 + 1))) y13t2 y13t3 y13t4 uki umo y13t7 urd fct fet) (m_X0_go_n3 jn (nC (frr (3 * i13))) (nC (frr (3 * i13 + 1))) y13t2 y13t3 y13t4 uki umo y13t7 urd fct fet) umo (m_X0_go_n7 jn (nC (frr (3 * i13))) (nC (frr (3 * i13 + 1))) y13t2 y13t3 y13t4 uki umo y13t7 urd fct fet) urd fct fet (m_X0_go jn (nC (frr (3 * i13))) (nC (frr (3 * i13 + 1))) y13t2 y13t3 y13t4 uki umo y13t7 urd fct fet)) = (frr ((3 * i13) + 2)) then p_X5_firstOtherwise_13 fet uki umo urd fct frr jn q9 (i13 + 1) (m_X0_go_n2 jn (nC (frr (3 * i13))) (nC (frr (3 * i13 + 1))) y13t2 y13t3 y13t4 uki umo y13t7 urd fct fet) (m_X0_go_n3 jn (nC (frr (3 * i13))) (nC (frr (3 * i13 + 1))) y13t2 y13t3 y13t4 uki umo y13t7 urd fct fet) (m_X0_go_n4 jn (nC (frr (3 * i13))) (nC (frr (3 * i13 + 1))) y13t2 y13t3 y13t4 uki umo y13t7 urd fct fet) (m_X0_go_n7 jn (nC (frr (3 * i13))) (nC (frr (3 * i13 + 1))) y13t2 y13t3 y13t4 uki umo y13t7 urd fct fet) else (i13, y13t2, y13t3, y13t4, y13t7)
noncomputable def g_X5_firstOtherwise_13 (fet : Nat → Nat) (fql : Nat → Nat) (uso : Nat → Int32) (umi : Nat → Int32) (upa : Nat → Int32) (uki : Nat → Int32) (umo : Nat → Int32) (usz : Nat → Int32) (urd : Nat → Int32) (fct : Nat → Int32) (frr : Nat → Int32) (sn : Nat) (jn : Nat) : Nat × (Nat → Int32) × (Nat → Int32) × (Nat → Int32) × (Nat → Int32) := p_X5_firstOtherwise_13 fet uki umo urd fct frr jn ((fql sn / 3) - 0) 0 uso umi upa usz
noncomputable def m_X5_firstOtherwise (fet : Nat → Nat) (fql : Nat → Nat) (uso : Nat → Int32) (umi : Nat → Int32) (upa : Nat → Int32) (uki : Nat → Int32) (umo : Nat → Int32) (usz : Nat → Int32) (urd : Nat → Int32) (fct : Nat → Int32) (frr : Nat → Int32) (sn : Nat) (jn : Nat) : Int32 := if (nI (fql sn)) ≤ (nI ((3 * ((g_X5_firstOtherwise_13 fet fql uso umi upa uki umo usz urd fct frr sn jn).1)) + 2)) then -1 else nI ((3 * ((g_X5_firstOtherwise_13 fet fql uso umi upa uki umo usz urd fct frr sn jn).1)) / 3)
abbrev q_X5_firstOtherwise (G : gG) (h0 tt rd nw th kp sh tu t1 t2 t3 t4 t5 t6 t7 t8 co en sk ct et qn qo ql rr : Nat) (lw : Nat) (tx : Nat) (him : Int32) (wr : Int32) (tj : Int32) (tb : Int32) (fc : Nat → Option Nat) (fe : Nat → Option Nat) (fn : Nat → Option Nat) (fet : Nat → Nat) (fql : Nat → Nat) (unm : Nat → Int32) (uso : Nat → Int32) (umi : Nat → Int32) (upa : Nat → Int32) (uki : Nat → Int32) (umo : Nat → Int32) (usz : Nat → Int32) (urd : Nat → Int32) (fct : Nat → Int32) (fsk : Nat → Int32) (fqo : Nat → Int32) (frr : Nat → Int32) (sn : Nat) (jn : Nat) (pb6 : Nat) (A : Nat → Prop) : Array Value → State → Outcome → State → Prop := va_Qi (fun (r : Int32) (u : (Nat → Int32) × (Nat → Int32) × (Nat → Int32) × (Nat → Int32) × (Nat → Int32) × (Nat → Int32) × (Nat → Int32) × (Nat → Int32) × (Nat → Int32)) => match u with | (yt1, yt2, yt3, yt4, yt5, yt6, yt7, yt8, ysk) => r = m_X5_firstOtherwise fet fql uso umi upa uki umo usz urd fct frr sn jn) (fun (u : (Nat → Int32) × (Nat → Int32) × (Nat → Int32) × (Nat → Int32) × (Nat → Int32) × (Nat → Int32) × (Nat → Int32) × (Nat → Int32) × (Nat → Int32)) t => match u with | (yt1, yt2, yt3, yt4, yt5, yt6, yt7, yt8, ysk) => va_P G.1 vwCl [zo5 h0 tt rd nw th kp sh tu him, zo0 th tt t1 t2 t3 t4 t5 t6 t7 t8 tj tb (nI lw), zi G t1 6 yt1, zi G t2 4 yt2, zi G t3 4 yt3, zi G t4 4 yt4, zi G t5 6 yt5, zi G t6 6 yt6, zi G t7 6 yt7, zi G t8 6 yt8, zo3 tt co en sk wr (nI tx), zr G co 6 fc, zr G en 6 fe, zi G ct 160 fct, zi G et 3 (nF fet), zi G sk 32 ysk, zo2 sh qn qo ql, zr G qn 4 fn, zi G qo 4 fqo, zi G ql 4 (nF fql), zi G rr 40 frr] t.heap ∧ gK G t ∧ va_D A [zo5 h0 tt rd nw th kp sh tu him, zo0 th tt t1 t2 t3 t4 t5 t6 t7 t8 tj tb (nI lw), zi G t1 6 yt1, zi G t2 4 yt2, zi G t3 4 yt3, zi G t4 4 yt4, zi G t5 6 yt5, zi G t6 6 yt6, zi G t7 6 yt7, zi G t8 6 yt8, zo3 tt co en sk wr (nI tx), zr G co 6 fc, zr G en 6 fe, zi G ct 160 fct, zi G et 3 (nF fet), zi G sk 32 ysk, zo2 sh qn qo ql, zr G qn 4 fn, zi G qo 4 fqo, zi G ql 4 (nF fql), zi G rr 40 frr]) A
set_option maxHeartbeats 4000000 in
set_option maxRecDepth 100000 in
theorem c_X5_firstOtherwise (l : Launch) (G : gG) (h0 tt rd nw th kp sh tu t1 t2 t3 t4 t5 t6 t7 t8 co en sk ct et qn qo ql rr : Nat) (lw : Nat) (tx : Nat) (him : Int32) (wr : Int32) (tj : Int32) (tb : Int32) (fc : Nat → Option Nat) (fe : Nat → Option Nat) (fn : Nat → Option Nat) (fet : Nat → Nat) (fql : Nat → Nat) (unm : Nat → Int32) (uso : Nat → Int32) (umi : Nat → Int32) (upa : Nat → Int32) (uki : Nat → Int32) (umo : Nat → Int32) (usz : Nat → Int32) (urd : Nat → Int32) (fct : Nat → Int32) (fsk : Nat → Int32) (fqo : Nat → Int32) (frr : Nat → Int32) (sn : Nat) (jn : Nat) (pb6 : Nat) (sz : Nat) (hsn : sn < 4) (hrw : fn sn = some rr) (hql : ∀ q9, q9 < 4 → fql q9 ≤ 40) (hj : jn < 4) (hvl : mToldX pb6 (fql sn) frr) (hpb6 : pb6 ≤ 6) (htn : lw < tx ∧ tx ≤ 6) (hc : fc lw = some ct) (he : fe lw = some et) (hwx : mWx fct fet) : Met l yX5_firstOtherwise wsX5_firstOtherwise ({ frames := 5, cells := 0, slots := 0, locals := 135 }) (gPre G [.ref h0, .int (nI sn), .int (nI jn)] [zo5 h0 tt rd nw th kp sh tu him, zo0 th tt t1 t2 t3 t4 t5 t6 t7 t8 tj tb (nI lw), zi G t1 6 unm, zi G t2 4 uso, zi G t3 4 umi, zi G t4 4 upa, zi G t5 6 uki, zi G t6 6 umo, zi G t7 6 usz, zi G t8 6 urd, zo3 tt co en sk wr (nI tx), zr G co 6 fc, zr G en 6 fe, zi G ct 160 fct, zi G et 3 (nF fet), zi G sk 32 fsk, zo2 sh qn qo ql, zr G qn 4 fn, zi G qo 4 fqo, zi G ql 4 (nF fql), zi G rr 40 frr] sz) (q_X5_firstOtherwise G h0 tt rd nw th kp sh tu t1 t2 t3 t4 t5 t6 t7 t8 co en sk ct et qn qo ql rr lw tx him wr tj tb fc fe fn fet fql unm uso umi upa uki umo usz urd fct fsk fqo frr sn jn pb6 (va_A [zo5 h0 tt rd nw th kp sh tu him, zo0 th tt t1 t2 t3 t4 t5 t6 t7 t8 tj tb (nI lw), zi G t1 6 unm, zi G t2 4 uso, zi G t3 4 umi, zi G t4 4 upa, zi G t5 6 uki, zi G t6 6 umo, zi G t7 6 usz, zi G t8 6 urd, zo3 tt co en sk wr (nI tx), zr G co 6 fc, zr G en 6 fe, zi G ct 160 fct, zi G et 3 (nF fet), zi G sk 32 fsk, zo2 sh qn qo ql, zr G qn 4 fn, zi G qo 4 fqo, zi G ql 4 (nF fql), zi G rr 40 frr] sz)) 0 0 (va_A [zo5 h0 tt rd nw th kp sh tu him, zo0 th tt t1 t2 t3 t4 t5 t6 t7 t8 tj tb (nI lw), zi G t1 6 unm, zi G t2 4 uso, zi G t3 4 umi, zi G t4 4 upa, zi G t5 6 uki, zi G t6 6 umo, zi G t7 6 usz, zi G t8 6 urd, zo3 tt co en sk wr (nI tx), zr G co 6 fc, zr G en 6 fe, zi G ct 160 fct, zi G et 3 (nF fet), zi G sk 32 fsk, zo2 sh qn qo ql, zr G qn 4 fn, zi G qo 4 fqo, zi G ql 4 (nF fql), zi G rr 40 frr] sz) := by
  refine Met.ofW (cc := cX5_firstOtherwise) (maxL := 6) (ret := (some .int)) (by decide +kernel) rfl ?_
  intro p e s m args below meth c s₁ B hml hv
  obtain ⟨rfl, hsz, hP, hK, hD0⟩ := hv
  have hx := B.exec
  have hb := B.bytes
  have hr := B.returns
  have hts := atoms_spec (ws := wsX5_firstOtherwise) B.pre
  have hown : s.vm.findClass RX5 = some m.cls := findClass_of_methodNamed B.named
  have hlocks := B.notSynchronized
  subst hsz
  have hD := hD0.self (sz := s.heap.size)
  generalize hAe : va_A [zo5 h0 tt rd nw th kp sh tu him, zo0 th tt t1 t2 t3 t4 t5 t6 t7 t8 tj tb (nI lw), zi G t1 6 unm, zi G t2 4 uso, zi G t3 4 umi, zi G t4 4 upa, zi G t5 6 uki, zi G t6 6 umo, zi G t7 6 usz, zi G t8 6 urd, zo3 tt co en sk wr (nI tx), zr G co 6 fc, zr G en 6 fe, zi G ct 160 fct, zi G et 3 (nF fet), zi G sk 32 fsk, zo2 sh qn qo ql, zr G qn 4 fn, zi G qo 4 fqo, zi G ql 4 (nF fql), zi G rr 40 frr] s.heap.size = A at hD ⊢
  have hA : ∀ q : Nat, s.heap.size ≤ q → A q := fun q h => by rw [← hAe]; exact Or.inr h
  have hS : va_S A s.heap s.heap [] := va_S.rf
  have hz9 : gPD G A [zo5 h0 tt rd nw th kp sh tu him, zo0 th tt t1 t2 t3 t4 t5 t6 t7 t8 tj tb (nI lw), zi G t1 6 unm, zi G t2 4 uso, zi G t3 4 umi, zi G t4 4 upa, zi G t5 6 uki, zi G t6 6 umo, zi G t7 6 usz, zi G t8 6 urd, zo3 tt co en sk wr (nI tx), zr G co 6 fc, zr G en 6 fe, zi G ct 160 fct, zi G et 3 (nF fet), zi G sk 32 fsk, zo2 sh qn qo ql, zr G qn 4 fn, zi G qo 4 fqo, zi G ql 4 (nF fql), zi G rr 40 frr] s.heap := ⟨hP, hD⟩
  have hP := hz9.1
  have hD := hz9.2
  have hl := lv_entry ([.ref h0, .int (nI sn), .int (nI jn)]) (n := 6) (Nat.le_of_ble_eq_true rfl)
  rw [lg_entry_eq]
  generalize (lg_sl ([.ref h0, .int (nI sn), .int (nI jn)]) ++ List.replicate (6 - (lg_sl ([.ref h0, .int (nI sn), .int (nI jn)])).length) Slot.unset).toArray = ls at hl ⊢
  have hl : lv_has ls 6 [zR 0 h0, zI 1 (nI sn), zI 2 (nI jn)] := hl
  have kf41 := hts (.fieldLink RX5 41 "PebbleInShoe" "rows" "LPebbleInShoe$Sheets;") (by decide +kernel)
  have hiX5 := (by decide +kernel : ∀ w ∈ wsX50, w ∈ wsX5_firstOtherwise)
  have kf235 := hts (.fieldLink RX5 235 "PebbleInShoe$Sheets" "numbers" "[[I") (by decide +kernel)
  have hiX2 := (by decide +kernel : ∀ w ∈ wsX20, w ∈ wsX5_firstOtherwise)
  have kf228 := hts (.fieldLink RX5 228 "PebbleInShoe$Sheets" "lengths" "[I") (by decide +kernel)
  have kf32 := hts (.fieldLink RX5 32 "PebbleInShoe" "thought" "LPebbleInShoe$Court;") (by decide +kernel)
  have hs4 := hql sn hsn
  refine lv_aload_n hx hb dX5_firstOtherwise_0 rfl (lv_at hl 0 rfl) ?_
  refine va_get (D := G.1) (ci := 5) (v := .ref sh) (C := RX5) (T := TX5) (N := 8) hx hb hts hiX5 hown hK hP 0 rfl rfl 5 (by decide +kernel) kf41 (fun _ h9 => h9) rfl dX5_firstOtherwise_1 ?_
  refine va_get (D := G.1) (ci := 2) (v := .ref qn) (C := RX2) (T := TX2) (N := 3) hx hb hts hiX2 hown hK hP 16 rfl rfl 0 (by decide +kernel) kf235 (fun _ h9 => h9) rfl dX5_firstOtherwise_4 ?_
  refine lv_iload_n hx hb dX5_firstOtherwise_7 rfl (lv_at hl 1 rfl) ?_
  refine g_aald (x := rr) hx hb hK hP 17 2 rfl rfl (i := (nI sn)) (vp_in_nI (by omega) (by omega)) (by rw [nI_clamp (by omega)]; exact hrw) dX5_firstOtherwise_8 ?_
  refine lv_astore_n (lv' := [zR 3 rr, zR 0 h0, zI 1 (nI sn), zI 2 (nI jn)]) hx hb dX5_firstOtherwise_9 rfl hl (by decide +kernel) rfl (fun ls hl => ?_)
  refine lv_iconst (v := 0) hx hb dX5_firstOtherwise_10 (by decide +kernel) ?_
  refine lv_istore (lv' := [zI 4 0, zR 3 rr, zR 0 h0, zI 1 (nI sn), zI 2 (nI jn)]) hx hb dX5_firstOtherwise_11 hl (by decide +kernel) rfl (fun ls hl => ?_)
  have loop_13 : ∀ (n9 : Nat) (i13 : Nat) (y13t2 : Nat → Int32) (y13t3 : Nat → Int32) (y13t4 : Nat → Int32) (y13t7 : Nat → Int32) (x13t1 : Nat → Int32) (x13sk : Nat → Int32), (i13 ≤ (fql sn / 3)) → (p_X5_firstOtherwise_13 fet uki umo urd fct frr jn ((fql sn / 3) - i13) i13 y13t2 y13t3 y13t4 y13t7 = (g_X5_firstOtherwise_13 fet fql uso umi upa uki umo usz urd fct frr sn jn)) → ((fql sn / 3) - i13) < n9 → ∀ (H : Heap) (locs : List Loc), va_P G.1 vwCl [zo5 h0 tt rd nw th kp sh tu him, zo0 th tt t1 t2 t3 t4 t5 t6 t7 t8 tj tb (nI lw), zi G t1 6 x13t1, zi G t2 4 y13t2, zi G t3 4 y13t3, zi G t4 4 y13t4, zi G t5 6 uki, zi G t6 6 umo, zi G t7 6 y13t7, zi G t8 6 urd, zo3 tt co en sk wr (nI tx), zr G co 6 fc, zr G en 6 fe, zi G ct 160 fct, zi G et 3 (nF fet), zi G sk 32 x13sk, zo2 sh qn qo ql, zr G qn 4 fn, zi G qo 4 fqo, zi G ql 4 (nF fql), zi G rr 40 frr] H → va_D A [zo5 h0 tt rd nw th kp sh tu him, zo0 th tt t1 t2 t3 t4 t5 t6 t7 t8 tj tb (nI lw), zi G t1 6 x13t1, zi G t2 4 y13t2, zi G t3 4 y13t3, zi G t4 4 y13t4, zi G t5 6 uki, zi G t6 6 umo, zi G t7 6 y13t7, zi G t8 6 urd, zo3 tt co en sk wr (nI tx), zr G co 6 fc, zr G en 6 fe, zi G ct 160 fct, zi G et 3 (nF fet), zi G sk 32 x13sk, zo2 sh qn qo ql, zr G qn 4 fn, zi G qo 4 fqo, zi G ql 4 (nF fql), zi G rr 40 frr] → va_S A s.heap H locs → ∀ ls : Array Slot, lv_has ls 6 [zI 4 (nI (3 * i13)), zR 3 rr, zR 0 h0, zI 1 (nI sn), zI 2 (nI jn)] → W p l e (headSpec wsX5_firstOtherwise ({ frames := 5, cells := 0, slots := 0, locals := 135 })).room s m ([.ref h0, .int (nI sn), .int (nI jn)] : List Value).toArray below meth c H locs 0 0 (MQ below (q_X5_firstOtherwise G h0 tt rd nw th kp sh tu t1 t2 t3 t4 t5 t6 t7 t8 co en sk ct et qn qo ql rr lw tx him wr tj tb fc fe fn fet fql unm uso umi upa uki umo usz urd fct fsk fqo frr sn jn pb6 A) ([.ref h0, .int (nI sn), .int (nI jn)] : List Value).toArray s 0 0 A) (F0 m 13 ls []) := by
    intro n9
    induction n9 with
    | zero => intro i13 y13t2 y13t3 y13t4 y13t7 x13t1 x13sk hi13 R13 hm9_13; exact absurd hm9_13 (Nat.not_lt_zero _)
    | succ n9 ih9_13 =>
      intro i13 y13t2 y13t3 y13t4 y13t7 x13t1 x13sk hi13 R13 hm9_13 H locs hP hD hS ls hl
      refine lv_iload hx hb dX5_firstOtherwise_13 (lv_at hl 0 rfl) ?_
      refine lv_iconst (v := 2) hx hb dX5_firstOtherwise_15 (by decide +kernel) ?_
      refine lv_iadd hx hb dX5_firstOtherwise_16 ?_
      refine lv_topi (fun v_1 ev_1 => ?_)
      have ev_1 : v_1 = nI ((3 * i13) + 2) := ev_1.trans (nI_add (3 * i13) 2)
      subst ev_1
      refine lv_aload_n hx hb dX5_firstOtherwise_17 rfl (lv_at hl 2 rfl) ?_
      refine va_get (D := G.1) (ci := 5) (v := .ref sh) (C := RX5) (T := TX5) (N := 8) hx hb hts hiX5 hown hK hP 0 rfl rfl 5 (by decide +kernel) kf41 (fun _ h9 => h9) rfl dX5_firstOtherwise_18 ?_
      refine va_get (D := G.1) (ci := 2) (v := .ref ql) (C := RX2) (T := TX2) (N := 3) hx hb hts hiX2 hown hK hP 16 rfl rfl 2 (by decide +kernel) kf228 (fun _ h9 => h9) rfl dX5_firstOtherwise_21 ?_
      refine lv_iload_n hx hb dX5_firstOtherwise_24 rfl (lv_at hl 3 rfl) ?_
      refine va_iald (D := G.1) hx hb hK hP 19 0 rfl rfl (i := (nI sn)) (vp_in_nI (by omega) (by omega)) dX5_firstOtherwise_25 ?_
      refine lv_topi (fun v_2 ev_2 => ?_)
      have ev_2 : v_2 = nI (fql sn) := ev_2.trans (nF_at (by omega))
      subst ev_2
      refine lv_icmp_ge (tgt := 83) hx hb dX5_firstOtherwise_26 (by decide +kernel) (fun c_3 => ?_) (fun c_3 => ?_)
      · skip
        have c_3N : (fql sn) ≤ ((3 * i13) + 2) := nI_le1 (a := (fql sn)) (b := ((3 * i13) + 2)) (by omega) (by omega) c_3
        have hF13 : (g_X5_firstOtherwise_13 fet fql uso umi upa uki umo usz urd fct frr sn jn) = (i13, y13t2, y13t3, y13t4, y13t7) := by rw [← R13, show (fql sn / 3) - i13 = 0 by omega]; rfl
        have hE13_0 : i13 = ((g_X5_firstOtherwise_13 fet fql uso umi upa uki umo usz urd fct frr sn jn).1) := by rw [hF13]
        have hE13_1 : y13t2 = ((g_X5_firstOtherwise_13 fet fql uso umi upa uki umo usz urd fct frr sn jn).2.1) := by rw [hF13]
        have hE13_2 : y13t3 = ((g_X5_firstOtherwise_13 fet fql uso umi upa uki umo usz urd fct frr sn jn).2.2.1) := by rw [hF13]
        have hE13_3 : y13t4 = ((g_X5_firstOtherwise_13 fet fql uso umi upa uki umo usz urd fct frr sn jn).2.2.2.1) := by rw [hF13]
        have hE13_4 : y13t7 = ((g_X5_firstOtherwise_13 fet fql uso umi upa uki umo usz urd fct frr sn jn).2.2.2.2) := by rw [hF13]
        clear hF13 R13
        subst hE13_0
        subst hE13_1
        subst hE13_2
        subst hE13_3
        subst hE13_4
        refine lv_iconst (v := -1) hx hb dX5_firstOtherwise_83 (by decide +kernel) ?_
        have hpost : (fun (r : Int32) (u : (Nat → Int32) × (Nat → Int32) × (Nat → Int32) × (Nat → Int32) × (Nat → Int32) × (Nat → Int32) × (Nat → Int32) × (Nat → Int32) × (Nat → Int32)) => match u with | (yt1, yt2, yt3, yt4, yt5, yt6, yt7, yt8, ysk) => r = m_X5_firstOtherwise fet fql uso umi upa uki umo usz urd fct frr sn jn) (-1) (x13t1, ((g_X5_firstOtherwise_13 fet fql uso umi upa uki umo usz urd fct frr sn jn).2.1), ((g_X5_firstOtherwise_13 fet fql uso umi upa uki umo usz urd fct frr sn jn).2.2.1), ((g_X5_firstOtherwise_13 fet fql uso umi upa uki umo usz urd fct frr sn jn).2.2.2.1), uki, umo, ((g_X5_firstOtherwise_13 fet fql uso umi upa uki umo usz urd fct frr sn jn).2.2.2.2), urd, x13sk) := (show m_X5_firstOtherwise fet fql uso umi upa uki umo usz urd fct frr sn jn = (-1) from by unfold m_X5_firstOtherwise; rw [if_pos c_3]).symm
        exact W.iret (v := (-1)) hx hb hr (fun t ht hW => ⟨⟨(-1), (x13t1, ((g_X5_firstOtherwise_13 fet fql uso umi upa uki umo usz urd fct frr sn jn).2.1), ((g_X5_firstOtherwise_13 fet fql uso umi upa uki umo usz urd fct frr sn jn).2.2.1), ((g_X5_firstOtherwise_13 fet fql uso umi upa uki umo usz urd fct frr sn jn).2.2.2.1), uki, umo, ((g_X5_firstOtherwise_13 fet fql uso umi upa uki umo usz urd fct frr sn jn).2.2.2.2), urd, x13sk), rfl, hpost, by rw [ht]; exact hP.sub [0, 1, 2, 3, 4, 5, 6, 7, 8, 9, 10, 11, 12, 13, 14, 15, 16, 17, 18, 19, 20] rfl, va_K.moved hW.alike hK, hD.sub [0, 1, 2, 3, 4, 5, 6, 7, 8, 9, 10, 11, 12, 13, 14, 15, 16, 17, 18, 19, 20] (by decide +kernel) rfl⟩, hS.F ht⟩) hS.2.2 dX5_firstOtherwise_84
      · skip
        have c_3N : ((3 * i13) + 2) < (fql sn) := nI_le0 (a := (fql sn)) (b := ((3 * i13) + 2)) (by omega) (by omega) c_3
        obtain ⟨hq1, hq2, hq3, hq4, hq5⟩ := mToldX_at hvl (show i13 < fql sn / 3 by omega) hpb6
        refine lv_aload_n hx hb dX5_firstOtherwise_29 rfl (lv_at hl 2 rfl) ?_
        refine va_get (D := G.1) (ci := 5) (v := .ref th) (C := RX5) (T := TX5) (N := 8) hx hb hts hiX5 hown hK hP 0 rfl rfl 3 (by decide +kernel) kf32 (fun _ h9 => h9) rfl dX5_firstOtherwise_30 ?_
        refine lv_iload_n hx hb dX5_firstOtherwise_33 rfl (lv_at hl 4 rfl) ?_
        refine lv_aload_n hx hb dX5_firstOtherwise_34 rfl (lv_at hl 1 rfl) ?_
        refine lv_iload hx hb dX5_firstOtherwise_35 (lv_at hl 0 rfl) ?_
        refine va_iald (D := G.1) hx hb hK hP 20 0 rfl rfl (i := (nI (3 * i13))) (vp_in_nI (by omega) (by omega)) dX5_firstOtherwise_37 ?_
        refine lv_topi (fun v_4 ev_4 => ?_)
        have ev_4 : v_4 = nI (nC (frr (3 * i13))) := ev_4.trans (by rw [nI_clamp (by omega)]; exact hq1)
        subst ev_4
        refine lv_aload_n hx hb dX5_firstOtherwise_38 rfl (lv_at hl 1 rfl) ?_
        refine lv_iload hx hb dX5_firstOtherwise_39 (lv_at hl 0 rfl) ?_
        refine lv_iconst (v := 1) hx hb dX5_firstOtherwise_41 (by decide +kernel) ?_
        refine lv_iadd hx hb dX5_firstOtherwise_42 ?_
        refine lv_topi (fun v_5 ev_5 => ?_)
        have ev_5 : v_5 = nI ((3 * i13) + 1) := ev_5.trans (nI_add (3 * i13) 1)
        subst ev_5
        refine va_iald (D := G.1) hx hb hK hP 20 0 rfl rfl (i := (nI ((3 * i13) + 1))) (vp_in_nI (by omega) (by omega)) dX5_firstOtherwise_43 ?_
        refine lv_topi (fun v_6 ev_6 => ?_)
        have ev_6 : v_6 = nI (nC (frr (3 * i13 + 1))) := ev_6.trans (by rw [nI_clamp (by omega)]; exact hq3)
        subst ev_6
        have hz9 : gPD G A [zo0 th tt t1 t2 t3 t4 t5 t6 t7 t8 tj tb (nI lw), zi G t1 6 x13t1, zi G t2 4 y13t2, zi G t3 4 y13t3, zi G t4 4 y13t4, zi G t5 6 uki, zi G t6 6 umo, zi G t7 6 y13t7, zi G t8 6 urd, zo3 tt co en sk wr (nI tx), zr G co 6 fc, zr G en 6 fe, zi G ct 160 fct, zi G et 3 (nF fet), zi G sk 32 x13sk] H := ⟨hP.sub [1, 2, 3, 4, 5, 6, 7, 8, 9, 10, 11, 12, 13, 14, 15] rfl, hD.sub [1, 2, 3, 4, 5, 6, 7, 8, 9, 10, 11, 12, 13, 14, 15] (by decide +kernel) rfl⟩
        have hPc := hz9.1
        have hDc := hz9.2
        have hFc := gFree hPc hD hS hA [1, 2, 3, 4, 5, 6, 7, 8, 9, 10, 11, 12, 13, 14, 15] rfl
        refine va_calli (va_runV (As := [.int (nI jn), .int (nI (nC (frr (3 * i13)))), .int (nI (nC (frr (3 * i13 + 1))))]) (rest := []) ⟨hx, hb, hml, hown, hts⟩ (c_X0_go l G th tt t1 t2 t3 t4 t5 t6 t7 t8 co en sk ct et lw jn (nC (frr (3 * i13))) (nC (frr (3 * i13 + 1))) tx tj tb wr x13t1 y13t2 y13t3 y13t4 uki umo y13t7 urd fc fe fct fet x13sk H.size (by first | exact hj | assumption | omega) (by first | exact hp | assumption | omega) (by first | exact hnn | assumption | omega) (by first | exact htn | assumption | omega) (by first | exact hc | assumption | omega) (by first | exact he | assumption | omega) (by first | exact hwx | assumption | omega)) (cwV 3 hts gX5_firstOtherwise_X0_go rfl rfl rfl (by decide +kernel) ⟨Nat.le_of_ble_eq_true rfl, Nat.le_of_ble_eq_true rfl⟩) ⟨gPre_blind, va_recv hK hPc (ci := 0) (q0 := 0) rfl rfl, fun U hU hW => gPre_of hU hW hK hPc hDc⟩ rfl rfl hl.1 rfl (lv_room (Nat.le_of_ble_eq_true rfl)) dX5_firstOtherwise_44 ⟨Nat.le_of_ble_eq_true rfl, Nat.le_of_ble_eq_true rfl⟩) hS (fun q _ h => hFc q h) hFc (fun r_7 u t H locs ht hvm w_8 hB hz1 hk1 hS => ?_)
        obtain ⟨yn1_9, ysk_10⟩ := u
        obtain ⟨hP1, hK1, hD1⟩ := hB
        rw [ht] at hP1
        have hz9 : gPD G (va_A _ _) [zo0 th tt t1 t2 t3 t4 t5 t6 t7 t8 tj tb (nI lw), zi G t1 6 yn1_9, zi G t2 4 (m_X0_go_n2 jn (nC (frr (3 * i13))) (nC (frr (3 * i13 + 1))) y13t2 y13t3 y13t4 uki umo y13t7 urd fct fet), zi G t3 4 (m_X0_go_n3 jn (nC (frr (3 * i13))) (nC (frr (3 * i13 + 1))) y13t2 y13t3 y13t4 uki umo y13t7 urd fct fet), zi G t4 4 (m_X0_go_n4 jn (nC (frr (3 * i13))) (nC (frr (3 * i13 + 1))) y13t2 y13t3 y13t4 uki umo y13t7 urd fct fet), zi G t5 6 uki, zi G t6 6 umo, zi G t7 6 (m_X0_go_n7 jn (nC (frr (3 * i13))) (nC (frr (3 * i13 + 1))) y13t2 y13t3 y13t4 uki umo y13t7 urd fct fet), zi G t8 6 urd, zo3 tt co en sk wr (nI tx), zr G co 6 fc, zr G en 6 fe, zi G ct 160 fct, zi G et 3 (nF fet), zi G sk 32 ysk_10] H := ⟨hP1, hD1⟩
        have hP1 := hz9.1
        have hD1 := hz9.2
        have w_8 : r_7 = m_X0_go jn (nC (frr (3 * i13))) (nC (frr (3 * i13 + 1))) y13t2 y13t3 y13t4 uki umo y13t7 urd fct fet := w_8
        have hz9 : gPD G A [zo5 h0 tt rd nw th kp sh tu him, zo2 sh qn qo ql, zr G qn 4 fn, zi G qo 4 fqo, zi G ql 4 (nF fql), zi G rr 40 frr, zo0 th tt t1 t2 t3 t4 t5 t6 t7 t8 tj tb (nI lw), zi G t1 6 yn1_9, zi G t2 4 (m_X0_go_n2 jn (nC (frr (3 * i13))) (nC (frr (3 * i13 + 1))) y13t2 y13t3 y13t4 uki umo y13t7 urd fct fet), zi G t3 4 (m_X0_go_n3 jn (nC (frr (3 * i13))) (nC (frr (3 * i13 + 1))) y13t2 y13t3 y13t4 uki umo y13t7 urd fct fet), zi G t4 4 (m_X0_go_n4 jn (nC (frr (3 * i13))) (nC (frr (3 * i13 + 1))) y13t2 y13t3 y13t4 uki umo y13t7 urd fct fet), zi G t5 6 uki, zi G t6 6 umo, zi G t7 6 (m_X0_go_n7 jn (nC (frr (3 * i13))) (nC (frr (3 * i13 + 1))) y13t2 y13t3 y13t4 uki umo y13t7 urd fct fet), zi G t8 6 urd, zo3 tt co en sk wr (nI tx), zr G co 6 fc, zr G en 6 fe, zi G ct 160 fct, zi G et 3 (nF fet), zi G sk 32 ysk_10] H := gJoin hP hD hk1 hFc hP1 hD1 [1, 2, 3, 4, 5, 6, 7, 8, 9, 10, 11, 12, 13, 14, 15] [0, 16, 17, 18, 19, 20] rfl rfl rfl (by decide +kernel) (by decide +kernel)
        have hP := hz9.1
        have hD := hz9.2
        subst w_8
        refine lv_istore (lv' := [zI 5 (m_X0_go jn (nC (frr (3 * i13))) (nC (frr (3 * i13 + 1))) y13t2 y13t3 y13t4 uki umo y13t7 urd fct fet), zI 4 (nI (3 * i13)), zR 3 rr, zR 0 h0, zI 1 (nI sn), zI 2 (nI jn)]) hx hb dX5_firstOtherwise_47 hl (by decide +kernel) rfl (fun ls hl => ?_)
        refine lv_aload_n hx hb dX5_firstOtherwise_49 rfl (lv_at hl 3 rfl) ?_
        refine va_get (D := G.1) (ci := 5) (v := .ref th) (C := RX5) (T := TX5) (N := 8) hx hb hts hiX5 hown hK hP 0 rfl rfl 3 (by decide +kernel) kf32 (fun _ h9 => h9) rfl dX5_firstOtherwise_50 ?_
        refine lv_iload_n hx hb dX5_firstOtherwise_53 rfl (lv_at hl 5 rfl) ?_
        refine lv_aload_n hx hb dX5_firstOtherwise_54 rfl (lv_at hl 2 rfl) ?_
        refine lv_iload hx hb dX5_firstOtherwise_55 (lv_at hl 1 rfl) ?_
        refine va_iald (D := G.1) hx hb hK hP 5 0 rfl rfl (i := (nI (3 * i13))) (vp_in_nI (by omega) (by omega)) dX5_firstOtherwise_57 ?_
        refine lv_topi (fun v_11 ev_11 => ?_)
        have ev_11 : v_11 = nI (nC (frr (3 * i13))) := ev_11.trans (by rw [nI_clamp (by omega)]; exact hq1)
        subst ev_11
        refine lv_iload hx hb dX5_firstOtherwise_58 (lv_at hl 0 rfl) ?_
        have hz9 : gPD G A [zo0 th tt t1 t2 t3 t4 t5 t6 t7 t8 tj tb (nI lw), zi G t1 6 yn1_9, zi G t2 4 (m_X0_go_n2 jn (nC (frr (3 * i13))) (nC (frr (3 * i13 + 1))) y13t2 y13t3 y13t4 uki umo y13t7 urd fct fet), zi G t3 4 (m_X0_go_n3 jn (nC (frr (3 * i13))) (nC (frr (3 * i13 + 1))) y13t2 y13t3 y13t4 uki umo y13t7 urd fct fet), zi G t6 6 umo, zi G t7 6 (m_X0_go_n7 jn (nC (frr (3 * i13))) (nC (frr (3 * i13 + 1))) y13t2 y13t3 y13t4 uki umo y13t7 urd fct fet), zi G t8 6 urd, zo3 tt co en sk wr (nI tx), zr G co 6 fc, zr G en 6 fe, zi G ct 160 fct, zi G et 3 (nF fet), zi G sk 32 ysk_10] H := ⟨hP.sub [6, 7, 8, 9, 12, 13, 14, 15, 16, 17, 18, 19, 20] rfl, hD.sub [6, 7, 8, 9, 12, 13, 14, 15, 16, 17, 18, 19, 20] (by decide +kernel) rfl⟩
        have hPc := hz9.1
        have hDc := hz9.2
        have hFc := gFree hPc hD hS hA [6, 7, 8, 9, 12, 13, 14, 15, 16, 17, 18, 19, 20] rfl
        refine va_calli (va_runV (As := [.int (nI jn), .int (nI (nC (frr (3 * i13)))), .int (m_X0_go jn (nC (frr (3 * i13))) (nC (frr (3 * i13 + 1))) y13t2 y13t3 y13t4 uki umo y13t7 urd fct fet)]) (rest := []) ⟨hx, hb, hml, hown, hts⟩ (c_X0_verdict l G th tt t1 t2 t3 t4 t5 t6 t7 t8 co en sk ct et lw jn (nC (frr (3 * i13))) tx tj tb wr yn1_9 (m_X0_go_n2 jn (nC (frr (3 * i13))) (nC (frr (3 * i13 + 1))) y13t2 y13t3 y13t4 uki umo y13t7 urd fct fet) (m_X0_go_n3 jn (nC (frr (3 * i13))) (nC (frr (3 * i13 + 1))) y13t2 y13t3 y13t4 uki umo y13t7 urd fct fet) umo (m_X0_go_n7 jn (nC (frr (3 * i13))) (nC (frr (3 * i13 + 1))) y13t2 y13t3 y13t4 uki umo y13t7 urd fct fet) urd fc fe fct fet ysk_10 (m_X0_go jn (nC (frr (3 * i13))) (nC (frr (3 * i13 + 1))) y13t2 y13t3 y13t4 uki umo y13t7 urd fct fet) H.size (by first | exact hj | assumption | omega) (by first | exact hp | assumption | omega) (by first | exact htn | assumption | omega) (by first | exact hc | assumption | omega) (by first | exact he | assumption | omega) (by first | exact hwx | assumption | omega)) (cwV 3 hts gX5_firstOtherwise_X0_verdict rfl rfl rfl (by decide +kernel) ⟨Nat.le_of_ble_eq_true rfl, Nat.le_of_ble_eq_true rfl⟩) ⟨gPre_blind, va_recv hK hPc (ci := 0) (q0 := 0) rfl rfl, fun U hU hW => gPre_of hU hW hK hPc hDc⟩ rfl rfl hl.1 rfl (lv_room (Nat.le_of_ble_eq_true rfl)) dX5_firstOtherwise_60 ⟨Nat.le_of_ble_eq_true rfl, Nat.le_of_ble_eq_true rfl⟩) hS (fun q _ h => hFc q h) hFc (fun r_12 u t H locs ht hvm w_13 hB hz1 hk1 hS => ?_)
        obtain ⟨yn1_14, ysk_15⟩ := u
        obtain ⟨hP1, hK1, hD1⟩ := hB
        rw [ht] at hP1
        have hz9 : gPD G (va_A _ _) [zo0 th tt t1 t2 t3 t4 t5 t6 t7 t8 tj tb (nI lw), zi G t1 6 yn1_14, zi G t2 4 (m_X0_go_n2 jn (nC (frr (3 * i13))) (nC (frr (3 * i13 + 1))) y13t2 y13t3 y13t4 uki umo y13t7 urd fct fet), zi G t3 4 (m_X0_go_n3 jn (nC (frr (3 * i13))) (nC (frr (3 * i13 + 1))) y13t2 y13t3 y13t4 uki umo y13t7 urd fct fet), zi G t6 6 umo, zi G t7 6 (m_X0_go_n7 jn (nC (frr (3 * i13))) (nC (frr (3 * i13 + 1))) y13t2 y13t3 y13t4 uki umo y13t7 urd fct fet), zi G t8 6 urd, zo3 tt co en sk wr (nI tx), zr G co 6 fc, zr G en 6 fe, zi G ct 160 fct, zi G et 3 (nF fet), zi G sk 32 ysk_15] H := ⟨hP1, hD1⟩
        have hP1 := hz9.1
        have hD1 := hz9.2
        have w_13 : r_12 = m_X0_verdict jn (nC (frr (3 * i13))) (m_X0_go_n2 jn (nC (frr (3 * i13))) (nC (frr (3 * i13 + 1))) y13t2 y13t3 y13t4 uki umo y13t7 urd fct fet) (m_X0_go_n3 jn (nC (frr (3 * i13))) (nC (frr (3 * i13 + 1))) y13t2 y13t3 y13t4 uki umo y13t7 urd fct fet) umo (m_X0_go_n7 jn (nC (frr (3 * i13))) (nC (frr (3 * i13 + 1))) y13t2 y13t3 y13t4 uki umo y13t7 urd fct fet) urd fct fet (m_X0_go jn (nC (frr (3 * i13))) (nC (frr (3 * i13 + 1))) y13t2 y13t3 y13t4 uki umo y13t7 urd fct fet) := w_13
        have hz9 : gPD G A [zo5 h0 tt rd nw th kp sh tu him, zo2 sh qn qo ql, zr G qn 4 fn, zi G qo 4 fqo, zi G ql 4 (nF fql), zi G rr 40 frr, zi G t4 4 (m_X0_go_n4 jn (nC (frr (3 * i13))) (nC (frr (3 * i13 + 1))) y13t2 y13t3 y13t4 uki umo y13t7 urd fct fet), zi G t5 6 uki, zo0 th tt t1 t2 t3 t4 t5 t6 t7 t8 tj tb (nI lw), zi G t1 6 yn1_14, zi G t2 4 (m_X0_go_n2 jn (nC (frr (3 * i13))) (nC (frr (3 * i13 + 1))) y13t2 y13t3 y13t4 uki umo y13t7 urd fct fet), zi G t3 4 (m_X0_go_n3 jn (nC (frr (3 * i13))) (nC (frr (3 * i13 + 1))) y13t2 y13t3 y13t4 uki umo y13t7 urd fct fet), zi G t6 6 umo, zi G t7 6 (m_X0_go_n7 jn (nC (frr (3 * i13))) (nC (frr (3 * i13 + 1))) y13t2 y13t3 y13t4 uki umo y13t7 urd fct fet), zi G t8 6 urd, zo3 tt co en sk wr (nI tx), zr G co 6 fc, zr G en 6 fe, zi G ct 160 fct, zi G et 3 (nF fet), zi G sk 32 ysk_15] H := gJoin hP hD hk1 hFc hP1 hD1 [6, 7, 8, 9, 12, 13, 14, 15, 16, 17, 18, 19, 20] [0, 1, 2, 3, 4, 5, 10, 11] rfl rfl rfl (by decide +kernel) (by decide +kernel)
        have hP := hz9.1
        have hD := hz9.2
        subst w_13
        refine lv_aload_n hx hb dX5_firstOtherwise_63 rfl (lv_at hl 2 rfl) ?_
        refine lv_iload hx hb dX5_firstOtherwise_64 (lv_at hl 1 rfl) ?_
        refine lv_iconst (v := 2) hx hb dX5_firstOtherwise_66 (by decide +kernel) ?_
        refine lv_iadd hx hb dX5_firstOtherwise_67 ?_
        refine lv_topi (fun v_16 ev_16 => ?_)
        have ev_16 : v_16 = nI ((3 * i13) + 2) := ev_16.trans (nI_add (3 * i13) 2)
        subst ev_16
        refine va_iald (D := G.1) hx hb hK hP 5 0 rfl rfl (i := (nI ((3 * i13) + 2))) (vp_in_nI (by omega) (by omega)) dX5_firstOtherwise_68 ?_
        refine lv_topi (fun v_17 ev_17 => ?_)
        have ev_17 : v_17 = frr ((3 * i13) + 2) := ev_17.trans (by rw [nI_clamp (by omega)])
        subst ev_17
        refine lv_icmp_eq (tgt := 77) hx hb dX5_firstOtherwise_69 (by decide +kernel) (fun c_18 => ?_) (fun c_18 => ?_)
        · skip
          refine lv_iinc (v := nI ((3 * i13) + 3)) (lv' := [zI 4 (nI ((3 * i13) + 3)), zI 5 (m_X0_go jn (nC (frr (3 * i13))) (nC (frr (3 * i13 + 1))) y13t2 y13t3 y13t4 uki umo y13t7 urd fct fet), zR 3 rr, zR 0 h0, zI 1 (nI sn), zI 2 (nI jn)]) hx hb dX5_firstOtherwise_77 hl (k := 1) rfl (nI_add (3 * i13) 3) (by decide +kernel) rfl (fun ls hl => ?_)
          refine lv_goto (tgt := 13) hx hb dX5_firstOtherwise_80 (by decide +kernel) ?_
          exact ih9_13 (i13 + 1) (m_X0_go_n2 jn (nC (frr (3 * i13))) (nC (frr (3 * i13 + 1))) y13t2 y13t3 y13t4 uki umo y13t7 urd fct fet) (m_X0_go_n3 jn (nC (frr (3 * i13))) (nC (frr (3 * i13 + 1))) y13t2 y13t3 y13t4 uki umo y13t7 urd fct fet) (m_X0_go_n4 jn (nC (frr (3 * i13))) (nC (frr (3 * i13 + 1))) y13t2 y13t3 y13t4 uki umo y13t7 urd fct fet) (m_X0_go_n7 jn (nC (frr (3 * i13))) (nC (frr (3 * i13 + 1))) y13t2 y13t3 y13t4 uki umo y13t7 urd fct fet) yn1_14 ysk_15 (by omega) (Eq.trans (Eq.symm ((congrArg (fun z9 => p_X5_firstOtherwise_13 fet uki umo urd fct frr jn (z9) i13 y13t2 y13t3 y13t4 y13t7) (show (fql sn / 3) - i13 = (fql sn / 3) - (i13 + 1) + 1 by omega)).trans (by show p_X5_firstOtherwise_13 fet uki umo urd fct frr jn ((fql sn / 3) - (i13 + 1) + 1) i13 y13t2 y13t3 y13t4 y13t7 = _; rw [p_X5_firstOtherwise_13, if_pos c_18]))) R13) (by omega) _ _ (hP.sub [0, 8, 9, 10, 11, 6, 7, 12, 13, 14, 15, 16, 17, 18, 19, 20, 1, 2, 3, 4, 5] rfl) (hD.sub [0, 8, 9, 10, 11, 6, 7, 12, 13, 14, 15, 16, 17, 18, 19, 20, 1, 2, 3, 4, 5] (by decide +kernel) rfl) hS ls (lv_sub hl [0, 2, 3, 4, 5] rfl)
        · skip
          refine lv_iload hx hb dX5_firstOtherwise_72 (lv_at hl 1 rfl) ?_
          refine lv_iconst (v := 3) hx hb dX5_firstOtherwise_74 (by decide +kernel) ?_
          refine lv_idiv hx hb dX5_firstOtherwise_75 (by decide +kernel) ?_
          refine lv_topi (fun v_19 ev_19 => ?_)
          have ev_19 : v_19 = nI ((3 * i13) / 3) := ev_19.trans (pk_div (a := (3 * i13)) (d := 3) (by omega) (by omega) (by omega))
          subst ev_19
          have hF13 : (g_X5_firstOtherwise_13 fet fql uso umi upa uki umo usz urd fct frr sn jn) = (i13, y13t2, y13t3, y13t4, y13t7) := R13.symm.trans ((congrArg (fun z9 => p_X5_firstOtherwise_13 fet uki umo urd fct frr jn (z9) i13 y13t2 y13t3 y13t4 y13t7) (show (fql sn / 3) - i13 = (fql sn / 3) - (i13 + 1) + 1 by omega)).trans (by show p_X5_firstOtherwise_13 fet uki umo urd fct frr jn ((fql sn / 3) - (i13 + 1) + 1) i13 y13t2 y13t3 y13t4 y13t7 = _; rw [p_X5_firstOtherwise_13, if_neg c_18]))
          have hE13_0 : i13 = ((g_X5_firstOtherwise_13 fet fql uso umi upa uki umo usz urd fct frr sn jn).1) := by rw [hF13]
          have hE13_1 : y13t2 = ((g_X5_firstOtherwise_13 fet fql uso umi upa uki umo usz urd fct frr sn jn).2.1) := by rw [hF13]
          have hE13_2 : y13t3 = ((g_X5_firstOtherwise_13 fet fql uso umi upa uki umo usz urd fct frr sn jn).2.2.1) := by rw [hF13]
          have hE13_3 : y13t4 = ((g_X5_firstOtherwise_13 fet fql uso umi upa uki umo usz urd fct frr sn jn).2.2.2.1) := by rw [hF13]
          have hE13_4 : y13t7 = ((g_X5_firstOtherwise_13 fet fql uso umi upa uki umo usz urd fct frr sn jn).2.2.2.2) := by rw [hF13]
          clear hF13 R13
          subst hE13_0
          subst hE13_1
          subst hE13_2
          subst hE13_3
          subst hE13_4
          have hpost : (fun (r : Int32) (u : (Nat → Int32) × (Nat → Int32) × (Nat → Int32) × (Nat → Int32) × (Nat → Int32) × (Nat → Int32) × (Nat → Int32) × (Nat → Int32) × (Nat → Int32)) => match u with | (yt1, yt2, yt3, yt4, yt5, yt6, yt7, yt8, ysk) => r = m_X5_firstOtherwise fet fql uso umi upa uki umo usz urd fct frr sn jn) (nI ((3 * ((g_X5_firstOtherwise_13 fet fql uso umi upa uki umo usz urd fct frr sn jn).1)) / 3)) (yn1_14, (m_X0_go_n2 jn (nC (frr (3 * ((g_X5_firstOtherwise_13 fet fql uso umi upa uki umo usz urd fct frr sn jn).1)))) (nC (frr (3 * ((g_X5_firstOtherwise_13 fet fql uso umi upa uki umo usz urd fct frr sn jn).1) + 1))) ((g_X5_firstOtherwise_13 fet fql uso umi upa uki umo usz urd fct frr sn jn).2.1) ((g_X5_firstOtherwise_13 fet fql uso umi upa uki umo usz urd fct frr sn jn).2.2.1) ((g_X5_firstOtherwise_13 fet fql uso umi upa uki umo usz urd fct frr sn jn).2.2.2.1) uki umo ((g_X5_firstOtherwise_13 fet fql uso umi upa uki umo usz urd fct frr sn jn).2.2.2.2) urd fct fet), (m_X0_go_n3 jn (nC (frr (3 * ((g_X5_firstOtherwise_13 fet fql uso umi upa uki umo usz urd fct frr sn jn).1)))) (nC (frr (3 * ((g_X5_firstOtherwise_13 fet fql uso umi upa uki umo usz urd fct frr sn jn).1) + 1))) ((g_X5_firstOtherwise_13 fet fql uso umi upa uki umo usz urd fct frr sn jn).2.1) ((g_X5_firstOtherwise_13 fet fql uso umi upa uki umo usz urd fct frr sn jn).2.2.1) ((g_X5_firstOtherwise_13 fet fql uso umi upa uki umo usz urd fct frr sn jn).2.2.2.1) uki umo ((g_X5_firstOtherwise_13 fet fql uso umi upa uki umo usz urd fct frr sn jn).2.2.2.2) urd fct fet), (m_X0_go_n4 jn (nC (frr (3 * ((g_X5_firstOtherwise_13 fet fql uso umi upa uki umo usz urd fct frr sn jn).1)))) (nC (frr (3 * ((g_X5_firstOtherwise_13 fet fql uso umi upa uki umo usz urd fct frr sn jn).1) + 1))) ((g_X5_firstOtherwise_13 fet fql uso umi upa uki umo usz urd fct frr sn jn).2.1) ((g_X5_firstOtherwise_13 fet fql uso umi upa uki umo usz urd fct frr sn jn).2.2.1) ((g_X5_firstOtherwise_13 fet fql uso umi upa uki umo usz urd fct frr sn jn).2.2.2.1) uki umo ((g_X5_firstOtherwise_13 fet fql uso umi upa uki umo usz urd fct frr sn jn).2.2.2.2) urd fct fet), uki, umo, (m_X0_go_n7 jn (nC (frr (3 * ((g_X5_firstOtherwise_13 fet fql uso umi upa uki umo usz urd fct frr sn jn).1)))) (nC (frr (3 * ((g_X5_firstOtherwise_13 fet fql uso umi upa uki umo usz urd fct frr sn jn).1) + 1))) ((g_X5_firstOtherwise_13 fet fql uso umi upa uki umo usz urd fct frr sn jn).2.1) ((g_X5_firstOtherwise_13 fet fql uso umi upa uki umo usz urd fct frr sn jn).2.2.1) ((g_X5_firstOtherwise_13 fet fql uso umi upa uki umo usz urd fct frr sn jn).2.2.2.1) uki umo ((g_X5_firstOtherwise_13 fet fql uso umi upa uki umo usz urd fct frr sn jn).2.2.2.2) urd fct fet), urd, ysk_15) := (show m_X5_firstOtherwise fet fql uso umi upa uki umo usz urd fct frr sn jn = (nI ((3 * ((g_X5_firstOtherwise_13 fet fql uso umi upa uki umo usz urd fct frr sn jn).1)) / 3)) from by unfold m_X5_firstOtherwise; rw [if_neg c_3]).symm
          exact W.iret (v := (nI ((3 * ((g_X5_firstOtherwise_13 fet fql uso umi upa uki umo usz urd fct frr sn jn).1)) / 3))) hx hb hr (fun t ht hW => ⟨⟨(nI ((3 * ((g_X5_firstOtherwise_13 fet fql uso umi upa uki umo usz urd fct frr sn jn).1)) / 3)), (yn1_14, (m_X0_go_n2 jn (nC (frr (3 * ((g_X5_firstOtherwise_13 fet fql uso umi upa uki umo usz urd fct frr sn jn).1)))) (nC (frr (3 * ((g_X5_firstOtherwise_13 fet fql uso umi upa uki umo usz urd fct frr sn jn).1) + 1))) ((g_X5_firstOtherwise_13 fet fql uso umi upa uki umo usz urd fct frr sn jn).2.1) ((g_X5_firstOtherwise_13 fet fql uso umi upa uki umo usz urd fct frr sn jn).2.2.1) ((g_X5_firstOtherwise_13 fet fql uso umi upa uki umo usz urd fct frr sn jn).2.2.2.1) uki umo ((g_X5_firstOtherwise_13 fet fql uso umi upa uki umo usz urd fct frr sn jn).2.2.2.2) urd fct fet), (m_X0_go_n3 jn (nC (frr (3 * ((g_X5_firstOtherwise_13 fet fql uso umi upa uki umo usz urd fct frr sn jn).1)))) (nC (frr (3 * ((g_X5_firstOtherwise_13 fet fql uso umi upa uki umo usz urd fct frr sn jn).1) + 1))) ((g_X5_firstOtherwise_13 fet fql uso umi upa uki umo usz urd fct frr sn jn).2.1) ((g_X5_firstOtherwise_13 fet fql uso umi upa uki umo usz urd fct frr sn jn).2.2.1) ((g_X5_firstOtherwise_13 fet fql uso umi upa uki umo usz urd fct frr sn jn).2.2.2.1) uki umo ((g_X5_firstOtherwise_13 fet fql uso umi upa uki umo usz urd fct frr sn jn).2.2.2.2) urd fct fet), (m_X0_go_n4 jn (nC (frr (3 * ((g_X5_firstOtherwise_13 fet fql uso umi upa uki umo usz urd fct frr sn jn).1)))) (nC (frr (3 * ((g_X5_firstOtherwise_13 fet fql uso umi upa uki umo usz urd fct frr sn jn).1) + 1))) ((g_X5_firstOtherwise_13 fet fql uso umi upa uki umo usz urd fct frr sn jn).2.1) ((g_X5_firstOtherwise_13 fet fql uso umi upa uki umo usz urd fct frr sn jn).2.2.1) ((g_X5_firstOtherwise_13 fet fql uso umi upa uki umo usz urd fct frr sn jn).2.2.2.1) uki umo ((g_X5_firstOtherwise_13 fet fql uso umi upa uki umo usz urd fct frr sn jn).2.2.2.2) urd fct fet), uki, umo, (m_X0_go_n7 jn (nC (frr (3 * ((g_X5_firstOtherwise_13 fet fql uso umi upa uki umo usz urd fct frr sn jn).1)))) (nC (frr (3 * ((g_X5_firstOtherwise_13 fet fql uso umi upa uki umo usz urd fct frr sn jn).1) + 1))) ((g_X5_firstOtherwise_13 fet fql uso umi upa uki umo usz urd fct frr sn jn).2.1) ((g_X5_firstOtherwise_13 fet fql uso umi upa uki umo usz urd fct frr sn jn).2.2.1) ((g_X5_firstOtherwise_13 fet fql uso umi upa uki umo usz urd fct frr sn jn).2.2.2.1) uki umo ((g_X5_firstOtherwise_13 fet fql uso umi upa uki umo usz urd fct frr sn jn).2.2.2.2) urd fct fet), urd, ysk_15), rfl, hpost, by rw [ht]; exact hP.sub [0, 8, 9, 10, 11, 6, 7, 12, 13, 14, 15, 16, 17, 18, 19, 20, 1, 2, 3, 4, 5] rfl, va_K.moved hW.alike hK, hD.sub [0, 8, 9, 10, 11, 6, 7, 12, 13, 14, 15, 16, 17, 18, 19, 20, 1, 2, 3, 4, 5] (by decide +kernel) rfl⟩, hS.F ht⟩) hS.2.2 dX5_firstOtherwise_76
  exact loop_13 ((fql sn / 3) - 0 + 1) 0 uso umi upa usz unm fsk (by omega) (rfl) (by omega) _ _ (hP.sub [0, 1, 2, 3, 4, 5, 6, 7, 8, 9, 10, 11, 12, 13, 14, 15, 16, 17, 18, 19, 20] rfl) (hD.sub [0, 1, 2, 3, 4, 5, 6, 7, 8, 9, 10, 11, 12, 13, 14, 15, 16, 17, 18, 19, 20] (by decide +kernel) rfl) hS ls (lv_sub hl [0, 1, 2, 3, 4] rfl)
noncomputable def m_X5_reversed_A (jg : Nat) (pb : Nat) (fet : Nat → Nat) (fql : Nat → Nat) (fso : Nat → Int32) (fmi : Nat → Int32) (fpa : Nat → Int32) (fki : Nat → Int32) (fmo : Nat → Int32) (fsz : Nat → Int32) (frd : Nat → Int32) (fct : Nat → Int32) (fqo : Nat → Int32) (frr : Nat → Int32) (sn : Nat) (v1 : Int32) : Int32 := if (m_X5_refusalOf_A jg pb fql fqo frr sn v1) = 0 then m_X5_firstOtherwise fet fql fso fmi fpa fki fmo fsz frd fct frr sn (nC v1) else m_X5_refusalOf_A jg pb fql fqo frr sn v1
noncomputable def m_X5_reversed_A_th9 (jg : Nat) (pb : Nat) (tj : Int32) (fql : Nat → Nat) (fqo : Nat → Int32) (frr : Nat → Int32) (sn : Nat) (v1 : Int32) : Int32 := if (m_X5_refusalOf_A jg pb fql fqo frr sn v1) = 0 then (nI jg) else tj
noncomputable def m_X5_reversed_A_th10 (jg : Nat) (pb : Nat) (tb : Int32) (fql : Nat → Nat) (fqo : Nat → Int32) (frr : Nat → Int32) (sn : Nat) (v1 : Int32) : Int32 := if (m_X5_refusalOf_A jg pb fql fqo frr sn v1) = 0 then (nI pb) else tb
noncomputable def m_X5_reversed_A_th11 (jg : Nat) (pb : Nat) (lw : Nat) (tl : Int32) (fql : Nat → Nat) (fqo : Nat → Int32) (frr : Nat → Int32) (sn : Nat) (v1 : Int32) : Int32 := if (m_X5_refusalOf_A jg pb fql fqo frr sn v1) = 0 then nI lw else tl
abbrev q_X5_reversed_A (G : gG) (E : gS) (h0 tt rd nw th kp sh tu n1 n2 n3 n4 n5 n6 n7 n8 t1 t2 t3 t4 t5 t6 t7 t8 co en sk ct et qn qo ql rr : Nat) (jg : Nat) (pb : Nat) (lw : Nat) (tx : Nat) (him : Int32) (wr : Int32) (tj : Int32) (tb : Int32) (tl : Int32) (fc : Nat → Option Nat) (fe : Nat → Option Nat) (fn : Nat → Option Nat) (fet : Nat → Nat) (fql : Nat → Nat) (fso : Nat → Int32) (fmi : Nat → Int32) (fpa : Nat → Int32) (fki : Nat → Int32) (fmo : Nat → Int32) (fsz : Nat → Int32) (frd : Nat → Int32) (unm : Nat → Int32) (uso : Nat → Int32) (umi : Nat → Int32) (upa : Nat → Int32) (uki : Nat → Int32) (umo : Nat → Int32) (usz : Nat → Int32) (urd : Nat → Int32) (fct : Nat → Int32) (fsk : Nat → Int32) (fqo : Nat → Int32) (frr : Nat → Int32) (sn : Nat) (v1 : Int32) (A : Nat → Prop) : Array Value → State → Outcome → State → Prop := va_Qi (fun (r : Int32) (u : (Nat → Int32) × (Nat → Int32) × (Nat → Int32) × (Nat → Int32) × (Nat → Int32) × (Nat → Int32) × (Nat → Int32) × (Nat → Int32) × (Nat → Int32)) => match u with | (yt1, yt2, yt3, yt4, yt5, yt6, yt7, yt8, ysk) => r = m_X5_reversed_A jg pb fet fql fso fmi fpa fki fmo fsz frd fct fqo frr sn v1) (fun (u : (Nat → Int32) × (Nat → Int32) × (Nat → Int32) × (Nat → Int32) × (Nat → Int32) × (Nat → Int32) × (Nat → Int32) × (Nat → Int32) × (Nat → Int32)) t => match u with | (yt1, yt2, yt3, yt4, yt5, yt6, yt7, yt8, ysk) => va_P G.1 vwCl [zo5 h0 tt rd nw th kp sh tu him, zo0 nw tt n1 n2 n3 n4 n5 n6 n7 n8 (nI jg) (nI pb) (nI lw), zi G n2 4 fso, zi G n3 4 fmi, zi G n4 4 fpa, zi G n5 6 fki, zi G n6 6 fmo, zi G n7 6 fsz, zi G n8 6 frd, zo0 th tt t1 t2 t3 t4 t5 t6 t7 t8 (m_X5_reversed_A_th9 jg pb tj fql fqo frr sn v1) (m_X5_reversed_A_th10 jg pb tb fql fqo frr sn v1) (m_X5_reversed_A_th11 jg pb lw tl fql fqo frr sn v1), zi G t1 6 yt1, zi G t2 4 yt2, zi G t3 4 yt3, zi G t4 4 yt4, zi G t5 6 yt5, zi G t6 6 yt6, zi G t7 6 yt7, zi G t8 6 yt8, zo3 tt co en sk wr (nI tx), zr G co 6 fc, zr G en 6 fe, zi G ct 160 fct, zi G et 3 (nF fet), zi G sk 32 ysk, zo2 sh qn qo ql, zr G qn 4 fn, zi G qo 4 fqo, zi G ql 4 (nF fql), zi G rr 40 frr] t.heap ∧ gK G t ∧ va_D A [zo5 h0 tt rd nw th kp sh tu him, zo0 nw tt n1 n2 n3 n4 n5 n6 n7 n8 (nI jg) (nI pb) (nI lw), zi G n2 4 fso, zi G n3 4 fmi, zi G n4 4 fpa, zi G n5 6 fki, zi G n6 6 fmo, zi G n7 6 fsz, zi G n8 6 frd, zo0 th tt t1 t2 t3 t4 t5 t6 t7 t8 (m_X5_reversed_A_th9 jg pb tj fql fqo frr sn v1) (m_X5_reversed_A_th10 jg pb tb fql fqo frr sn v1) (m_X5_reversed_A_th11 jg pb lw tl fql fqo frr sn v1), zi G t1 6 yt1, zi G t2 4 yt2, zi G t3 4 yt3, zi G t4 4 yt4, zi G t5 6 yt5, zi G t6 6 yt6, zi G t7 6 yt7, zi G t8 6 yt8, zo3 tt co en sk wr (nI tx), zr G co 6 fc, zr G en 6 fe, zi G ct 160 fct, zi G et 3 (nF fet), zi G sk 32 ysk, zo2 sh qn qo ql, zr G qn 4 fn, zi G qo 4 fqo, zi G ql 4 (nF fql), zi G rr 40 frr]) A
set_option maxHeartbeats 4000000 in
set_option maxRecDepth 100000 in
theorem c_X5_reversed_A (l : Launch) (G : gG) (E : gS) (h0 tt rd nw th kp sh tu n1 n2 n3 n4 n5 n6 n7 n8 t1 t2 t3 t4 t5 t6 t7 t8 co en sk ct et qn qo ql rr : Nat) (jg : Nat) (pb : Nat) (lw : Nat) (tx : Nat) (him : Int32) (wr : Int32) (tj : Int32) (tb : Int32) (tl : Int32) (fc : Nat → Option Nat) (fe : Nat → Option Nat) (fn : Nat → Option Nat) (fet : Nat → Nat) (fql : Nat → Nat) (fso : Nat → Int32) (fmi : Nat → Int32) (fpa : Nat → Int32) (fki : Nat → Int32) (fmo : Nat → Int32) (fsz : Nat → Int32) (frd : Nat → Int32) (unm : Nat → Int32) (uso : Nat → Int32) (umi : Nat → Int32) (upa : Nat → Int32) (uki : Nat → Int32) (umo : Nat → Int32) (usz : Nat → Int32) (urd : Nat → Int32) (fct : Nat → Int32) (fsk : Nat → Int32) (fqo : Nat → Int32) (frr : Nat → Int32) (sn : Nat) (v1 : Int32) (sz : Nat) (hsn : sn < 4) (hrw : fn sn = some rr) (hql : ∀ q9, q9 < 4 → fql q9 ≤ 40) (htn : lw < tx ∧ tx ≤ 6) (hc : fc lw = some ct) (he : fe lw = some et) (hwx : mWx fct fet) (hjg : jg ≤ 4) (hpb : pb ≤ 6) : Met l yX5_reversed wsX5_reversed ({ frames := 6, cells := 0, slots := 0, locals := 441 }) (gPreE G E [.ref h0, .int (nI sn), .int v1] [zo5 h0 tt rd nw th kp sh tu him, zo0 nw tt n1 n2 n3 n4 n5 n6 n7 n8 (nI jg) (nI pb) (nI lw), zi G n2 4 fso, zi G n3 4 fmi, zi G n4 4 fpa, zi G n5 6 fki, zi G n6 6 fmo, zi G n7 6 fsz, zi G n8 6 frd, zo0 th tt t1 t2 t3 t4 t5 t6 t7 t8 tj tb tl, zi G t1 6 unm, zi G t2 4 uso, zi G t3 4 umi, zi G t4 4 upa, zi G t5 6 uki, zi G t6 6 umo, zi G t7 6 usz, zi G t8 6 urd, zo3 tt co en sk wr (nI tx), zr G co 6 fc, zr G en 6 fe, zi G ct 160 fct, zi G et 3 (nF fet), zi G sk 32 fsk, zo2 sh qn qo ql, zr G qn 4 fn, zi G qo 4 fqo, zi G ql 4 (nF fql), zi G rr 40 frr] sz) (q_X5_reversed_A G E h0 tt rd nw th kp sh tu n1 n2 n3 n4 n5 n6 n7 n8 t1 t2 t3 t4 t5 t6 t7 t8 co en sk ct et qn qo ql rr jg pb lw tx him wr tj tb tl fc fe fn fet fql fso fmi fpa fki fmo fsz frd unm uso umi upa uki umo usz urd fct fsk fqo frr sn v1 (va_A [zo5 h0 tt rd nw th kp sh tu him, zo0 nw tt n1 n2 n3 n4 n5 n6 n7 n8 (nI jg) (nI pb) (nI lw), zi G n2 4 fso, zi G n3 4 fmi, zi G n4 4 fpa, zi G n5 6 fki, zi G n6 6 fmo, zi G n7 6 fsz, zi G n8 6 frd, zo0 th tt t1 t2 t3 t4 t5 t6 t7 t8 tj tb tl, zi G t1 6 unm, zi G t2 4 uso, zi G t3 4 umi, zi G t4 4 upa, zi G t5 6 uki, zi G t6 6 umo, zi G t7 6 usz, zi G t8 6 urd, zo3 tt co en sk wr (nI tx), zr G co 6 fc, zr G en 6 fe, zi G ct 160 fct, zi G et 3 (nF fet), zi G sk 32 fsk, zo2 sh qn qo ql, zr G qn 4 fn, zi G qo 4 fqo, zi G ql 4 (nF fql), zi G rr 40 frr] sz)) 0 0 (va_A [zo5 h0 tt rd nw th kp sh tu him, zo0 nw tt n1 n2 n3 n4 n5 n6 n7 n8 (nI jg) (nI pb) (nI lw), zi G n2 4 fso, zi G n3 4 fmi, zi G n4 4 fpa, zi G n5 6 fki, zi G n6 6 fmo, zi G n7 6 fsz, zi G n8 6 frd, zo0 th tt t1 t2 t3 t4 t5 t6 t7 t8 tj tb tl, zi G t1 6 unm, zi G t2 4 uso, zi G t3 4 umi, zi G t4 4 upa, zi G t5 6 uki, zi G t6 6 umo, zi G t7 6 usz, zi G t8 6 urd, zo3 tt co en sk wr (nI tx), zr G co 6 fc, zr G en 6 fe, zi G ct 160 fct, zi G et 3 (nF fet), zi G sk 32 fsk, zo2 sh qn qo ql, zr G qn 4 fn, zi G qo 4 fqo, zi G ql 4 (nF fql), zi G rr 40 frr] sz) := by
  refine Met.ofW (cc := cX5_reversed) (maxL := 4) (ret := (some .int)) (by decide +kernel) rfl ?_
  intro p e s m args below meth c s₁ B hml hv
  obtain ⟨rfl, hsz, hP, hK, hD0, hE⟩ := hv
  have hx := B.exec
  have hb := B.bytes
  have hr := B.returns
  have hts := atoms_spec (ws := wsX5_reversed) B.pre
  have hown : s.vm.findClass RX5 = some m.cls := findClass_of_methodNamed B.named
  have hlocks := B.notSynchronized
  subst hsz
  have hD := hD0.self (sz := s.heap.size)
  generalize hAe : va_A [zo5 h0 tt rd nw th kp sh tu him, zo0 nw tt n1 n2 n3 n4 n5 n6 n7 n8 (nI jg) (nI pb) (nI lw), zi G n2 4 fso, zi G n3 4 fmi, zi G n4 4 fpa, zi G n5 6 fki, zi G n6 6 fmo, zi G n7 6 fsz, zi G n8 6 frd, zo0 th tt t1 t2 t3 t4 t5 t6 t7 t8 tj tb tl, zi G t1 6 unm, zi G t2 4 uso, zi G t3 4 umi, zi G t4 4 upa, zi G t5 6 uki, zi G t6 6 umo, zi G t7 6 usz, zi G t8 6 urd, zo3 tt co en sk wr (nI tx), zr G co 6 fc, zr G en 6 fe, zi G ct 160 fct, zi G et 3 (nF fet), zi G sk 32 fsk, zo2 sh qn qo ql, zr G qn 4 fn, zi G qo 4 fqo, zi G ql 4 (nF fql), zi G rr 40 frr] s.heap.size = A at hD hE ⊢
  have hA : ∀ q : Nat, s.heap.size ≤ q → A q := fun q h => by rw [← hAe]; exact Or.inr h
  have hS : va_S A s.heap s.heap [] := va_S.rf
  have hz9 : gPD G A [zo5 h0 tt rd nw th kp sh tu him, zo0 nw tt n1 n2 n3 n4 n5 n6 n7 n8 (nI jg) (nI pb) (nI lw), zi G n2 4 fso, zi G n3 4 fmi, zi G n4 4 fpa, zi G n5 6 fki, zi G n6 6 fmo, zi G n7 6 fsz, zi G n8 6 frd, zo0 th tt t1 t2 t3 t4 t5 t6 t7 t8 tj tb tl, zi G t1 6 unm, zi G t2 4 uso, zi G t3 4 umi, zi G t4 4 upa, zi G t5 6 uki, zi G t6 6 umo, zi G t7 6 usz, zi G t8 6 urd, zo3 tt co en sk wr (nI tx), zr G co 6 fc, zr G en 6 fe, zi G ct 160 fct, zi G et 3 (nF fet), zi G sk 32 fsk, zo2 sh qn qo ql, zr G qn 4 fn, zi G qo 4 fqo, zi G ql 4 (nF fql), zi G rr 40 frr] s.heap := ⟨hP, hD⟩
  have hP := hz9.1
  have hD := hz9.2
  have hl := lv_entry ([.ref h0, .int (nI sn), .int v1]) (n := 4) (Nat.le_of_ble_eq_true rfl)
  rw [lg_entry_eq]
  generalize (lg_sl ([.ref h0, .int (nI sn), .int v1]) ++ List.replicate (4 - (lg_sl ([.ref h0, .int (nI sn), .int v1])).length) Slot.unset).toArray = ls at hl ⊢
  have hl : lv_has ls 4 [zR 0 h0, zI 1 (nI sn), zI 2 v1] := hl
  refine lv_aload_n hx hb dX5_reversed_0 rfl (lv_at hl 0 rfl) ?_
  refine lv_iload_n hx hb dX5_reversed_1 rfl (lv_at hl 1 rfl) ?_
  refine lv_iload_n hx hb dX5_reversed_2 rfl (lv_at hl 2 rfl) ?_
  have hz9 : gPD G A [zo5 h0 tt rd nw th kp sh tu him, zo0 nw tt n1 n2 n3 n4 n5 n6 n7 n8 (nI jg) (nI pb) (nI lw), zo2 sh qn qo ql, zr G qn 4 fn, zi G qo 4 fqo, zi G ql 4 (nF fql), zi G rr 40 frr] s.heap := ⟨hP.sub [0, 1, 24, 25, 26, 27, 28] rfl, hD.sub [0, 1, 24, 25, 26, 27, 28] (by decide +kernel) rfl⟩
  have hPc := hz9.1
  have hDc := hz9.2
  have hFc := gFree hPc hD hS hA [0, 1, 24, 25, 26, 27, 28] rfl
  refine va_calli (va_runV (As := [.int (nI sn), .int v1]) (rest := []) ⟨hx, hb, hml, hown, hts⟩ (c_X5_refusalOf_A l G E h0 tt rd nw th kp sh tu n1 n2 n3 n4 n5 n6 n7 n8 qn qo ql rr jg pb lw him fn fql fqo frr sn v1 s.heap.size (by first | exact hsn | assumption | omega) (by first | exact hrw | assumption | omega) (by first | exact hql | assumption | omega) (by first | exact hjg | assumption | omega) (by first | exact hpb | assumption | omega)) (cwV 2 hts gX5_reversed_X5_refusalOf rfl rfl rfl (by decide +kernel) ⟨Nat.le_of_ble_eq_true rfl, Nat.le_of_ble_eq_true rfl⟩) ⟨gPreE_blind, va_recv hK hPc (ci := 5) (q0 := 0) rfl rfl, fun U hU hW => gPreE_of hU hW hK hPc hDc hE hS hFc⟩ rfl rfl hl.1 rfl (lv_room (Nat.le_of_ble_eq_true rfl)) dX5_reversed_3 ⟨Nat.le_of_ble_eq_true rfl, Nat.le_of_ble_eq_true rfl⟩) hS (fun q _ h => hFc q h) hFc (fun r_1 u t H locs ht hvm w_2 hB hz1 hk1 hS => ?_)
  obtain ⟨hP1, hK1, hD1⟩ := hB
  rw [ht] at hP1
  have hz9 : gPD G (va_A _ s.heap.size) [zo5 h0 tt rd nw th kp sh tu him, zo0 nw tt n1 n2 n3 n4 n5 n6 n7 n8 (nI jg) (nI pb) (nI lw), zo2 sh qn qo ql, zr G qn 4 fn, zi G qo 4 fqo, zi G ql 4 (nF fql), zi G rr 40 frr] H := ⟨hP1, hD1⟩
  have hP1 := hz9.1
  have hD1 := hz9.2
  have w_2 : r_1 = m_X5_refusalOf_A jg pb fql fqo frr sn v1 := w_2
  have hz9 : gPD G A [zi G n2 4 fso, zi G n3 4 fmi, zi G n4 4 fpa, zi G n5 6 fki, zi G n6 6 fmo, zi G n7 6 fsz, zi G n8 6 frd, zo0 th tt t1 t2 t3 t4 t5 t6 t7 t8 tj tb tl, zi G t1 6 unm, zi G t2 4 uso, zi G t3 4 umi, zi G t4 4 upa, zi G t5 6 uki, zi G t6 6 umo, zi G t7 6 usz, zi G t8 6 urd, zo3 tt co en sk wr (nI tx), zr G co 6 fc, zr G en 6 fe, zi G ct 160 fct, zi G et 3 (nF fet), zi G sk 32 fsk, zo5 h0 tt rd nw th kp sh tu him, zo0 nw tt n1 n2 n3 n4 n5 n6 n7 n8 (nI jg) (nI pb) (nI lw), zo2 sh qn qo ql, zr G qn 4 fn, zi G qo 4 fqo, zi G ql 4 (nF fql), zi G rr 40 frr] H := gJoin hP hD hk1 hFc hP1 hD1 [0, 1, 24, 25, 26, 27, 28] [2, 3, 4, 5, 6, 7, 8, 9, 10, 11, 12, 13, 14, 15, 16, 17, 18, 19, 20, 21, 22, 23] rfl rfl rfl (by decide +kernel) (by decide +kernel)
  have hP := hz9.1
  have hD := hz9.2
  subst w_2
  refine lv_istore_n (lv' := [zI 3 (m_X5_refusalOf_A jg pb fql fqo frr sn v1), zR 0 h0, zI 1 (nI sn), zI 2 v1]) hx hb dX5_reversed_6 rfl hl (by decide +kernel) rfl (fun ls hl => ?_)
  refine lv_iload_n hx hb dX5_reversed_7 rfl (lv_at hl 0 rfl) ?_
  refine lv_if_eq (tgt := 13) hx hb dX5_reversed_8 (by decide +kernel) (fun c_3 => ?_) (fun c_3 => ?_)
  · skip
    obtain ⟨hjw, hvl⟩ := refusalOf_0 (hql sn hsn) c_3
    have hv_4 : v1 = nI (nC v1) := mHas_eq hjw
    have hk_5 : nC v1 < jg := mHas_lt (by omega) hjw
    refine lv_aload_n hx hb dX5_reversed_13 rfl (lv_at hl 1 rfl) ?_
    have hz9 : gPD G A [zo5 h0 tt rd nw th kp sh tu him, zo0 nw tt n1 n2 n3 n4 n5 n6 n7 n8 (nI jg) (nI pb) (nI lw), zi G n2 4 fso, zi G n3 4 fmi, zi G n4 4 fpa, zi G n5 6 fki, zi G n6 6 fmo, zi G n7 6 fsz, zi G n8 6 frd, zo0 th tt t1 t2 t3 t4 t5 t6 t7 t8 tj tb tl, zi G t2 4 uso, zi G t3 4 umi, zi G t4 4 upa, zi G t5 6 uki, zi G t6 6 umo, zi G t7 6 usz, zi G t8 6 urd] H := ⟨hP.sub [22, 23, 0, 1, 2, 3, 4, 5, 6, 7, 9, 10, 11, 12, 13, 14, 15] rfl, hD.sub [22, 23, 0, 1, 2, 3, 4, 5, 6, 7, 9, 10, 11, 12, 13, 14, 15] (by decide +kernel) rfl⟩
    have hPc := hz9.1
    have hDc := hz9.2
    have hFc := gFree hPc hD hS hA [22, 23, 0, 1, 2, 3, 4, 5, 6, 7, 9, 10, 11, 12, 13, 14, 15] rfl
    refine va_callv (va_runV (As := []) (rest := []) ⟨hx, hb, hml, hown, hts⟩ (c_X5_think l G h0 tt rd nw th kp sh tu n1 n2 n3 n4 n5 n6 n7 n8 t1 t2 t3 t4 t5 t6 t7 t8 jg pb lw him tj tb tl fso fmi fpa fki fmo fsz frd uso umi upa uki umo usz urd H.size (by first | exact hjg | assumption | omega) (by first | exact hpb | assumption | omega)) (cwV 0 hts gX5_reversed_X5_think rfl rfl rfl (by decide +kernel) ⟨Nat.le_of_ble_eq_true rfl, Nat.le_of_ble_eq_true rfl⟩) ⟨gPre_blind, va_recv hK hPc (ci := 5) (q0 := 0) rfl rfl, fun U hU hW => gPre_of hU hW hK hPc hDc⟩ rfl rfl hl.1 rfl (lv_room (Nat.le_of_ble_eq_true rfl)) dX5_reversed_14 ⟨Nat.le_of_ble_eq_true rfl, Nat.le_of_ble_eq_true rfl⟩) hS (fun q _ h => hFc q h) hFc (fun u t H locs ht hvm w_7 hB hz1 hk1 hS => ?_)
    obtain ⟨hP1, hK1, hD1⟩ := hB
    rw [ht] at hP1
    have hz9 : gPD G (va_A _ _) [zo5 h0 tt rd nw th kp sh tu him, zo0 nw tt n1 n2 n3 n4 n5 n6 n7 n8 (nI jg) (nI pb) (nI lw), zi G n2 4 fso, zi G n3 4 fmi, zi G n4 4 fpa, zi G n5 6 fki, zi G n6 6 fmo, zi G n7 6 fsz, zi G n8 6 frd, zo0 th tt t1 t2 t3 t4 t5 t6 t7 t8 (nI jg) (nI pb) (nI lw), zi G t2 4 fso, zi G t3 4 fmi, zi G t4 4 fpa, zi G t5 6 fki, zi G t6 6 fmo, zi G t7 6 fsz, zi G t8 6 frd] H := ⟨hP1, hD1⟩
    have hP1 := hz9.1
    have hD1 := hz9.2
    have hz9 : gPD G A [zi G t1 6 unm, zo3 tt co en sk wr (nI tx), zr G co 6 fc, zr G en 6 fe, zi G ct 160 fct, zi G et 3 (nF fet), zi G sk 32 fsk, zo2 sh qn qo ql, zr G qn 4 fn, zi G qo 4 fqo, zi G ql 4 (nF fql), zi G rr 40 frr, zo5 h0 tt rd nw th kp sh tu him, zo0 nw tt n1 n2 n3 n4 n5 n6 n7 n8 (nI jg) (nI pb) (nI lw), zi G n2 4 fso, zi G n3 4 fmi, zi G n4 4 fpa, zi G n5 6 fki, zi G n6 6 fmo, zi G n7 6 fsz, zi G n8 6 frd, zo0 th tt t1 t2 t3 t4 t5 t6 t7 t8 (nI jg) (nI pb) (nI lw), zi G t2 4 fso, zi G t3 4 fmi, zi G t4 4 fpa, zi G t5 6 fki, zi G t6 6 fmo, zi G t7 6 fsz, zi G t8 6 frd] H := gJoin hP hD hk1 hFc hP1 hD1 [22, 23, 0, 1, 2, 3, 4, 5, 6, 7, 9, 10, 11, 12, 13, 14, 15] [8, 16, 17, 18, 19, 20, 21, 24, 25, 26, 27, 28] rfl rfl rfl (by decide +kernel) (by decide +kernel)
    have hP := hz9.1
    have hD := hz9.2
    refine lv_aload_n hx hb dX5_reversed_17 rfl (lv_at hl 1 rfl) ?_
    refine lv_iload_n hx hb dX5_reversed_18 rfl (lv_at hl 2 rfl) ?_
    refine lv_iload_n hx hb dX5_reversed_19 rfl (lv_at hl 3 rfl) ?_
    refine lv_topi (fun v_8 ev_8 => ?_)
    have ev_8 : v_8 = nI (nC v1) := ev_8.trans hv_4
    subst ev_8
    have hz9 : gPD G A [zo5 h0 tt rd nw th kp sh tu him, zo0 th tt t1 t2 t3 t4 t5 t6 t7 t8 (nI jg) (nI pb) (nI lw), zi G t1 6 unm, zi G t2 4 fso, zi G t3 4 fmi, zi G t4 4 fpa, zi G t5 6 fki, zi G t6 6 fmo, zi G t7 6 fsz, zi G t8 6 frd, zo3 tt co en sk wr (nI tx), zr G co 6 fc, zr G en 6 fe, zi G ct 160 fct, zi G et 3 (nF fet), zi G sk 32 fsk, zo2 sh qn qo ql, zr G qn 4 fn, zi G qo 4 fqo, zi G ql 4 (nF fql), zi G rr 40 frr] H := ⟨hP.sub [12, 21, 0, 22, 23, 24, 25, 26, 27, 28, 1, 2, 3, 4, 5, 6, 7, 8, 9, 10, 11] rfl, hD.sub [12, 21, 0, 22, 23, 24, 25, 26, 27, 28, 1, 2, 3, 4, 5, 6, 7, 8, 9, 10, 11] (by decide +kernel) rfl⟩
    have hPc := hz9.1
    have hDc := hz9.2
    have hFc := gFree hPc hD hS hA [12, 21, 0, 22, 23, 24, 25, 26, 27, 28, 1, 2, 3, 4, 5, 6, 7, 8, 9, 10, 11] rfl
    refine va_calli (va_runV (As := [.int (nI sn), .int (nI (nC v1))]) (rest := []) ⟨hx, hb, hml, hown, hts⟩ (c_X5_firstOtherwise l G h0 tt rd nw th kp sh tu t1 t2 t3 t4 t5 t6 t7 t8 co en sk ct et qn qo ql rr lw tx him wr (nI jg) (nI pb) fc fe fn fet fql unm fso fmi fpa fki fmo fsz frd fct fsk fqo frr sn (nC v1) pb H.size (by first | exact hsn | assumption | omega) (by first | exact hrw | assumption | omega) (by first | exact hql | assumption | omega) (by first | exact hj | assumption | omega) (hvl) (hpb) (by first | exact htn | assumption | omega) (by first | exact hc | assumption | omega) (by first | exact he | assumption | omega) (by first | exact hwx | assumption | omega)) (cwV 2 hts gX5_reversed_X5_firstOtherwise rfl rfl rfl (by decide +kernel) ⟨Nat.le_of_ble_eq_true rfl, Nat.le_of_ble_eq_true rfl⟩) ⟨gPre_blind, va_recv hK hPc (ci := 5) (q0 := 0) rfl rfl, fun U hU hW => gPre_of hU hW hK hPc hDc⟩ rfl rfl hl.1 rfl (lv_room (Nat.le_of_ble_eq_true rfl)) dX5_reversed_20 ⟨Nat.le_of_ble_eq_true rfl, Nat.le_of_ble_eq_true rfl⟩) hS (fun q _ h => hFc q h) hFc (fun r_9 u t H locs ht hvm w_10 hB hz1 hk1 hS => ?_)
    obtain ⟨yt1_11, yt2_12, yt3_13, yt4_14, yt5_15, yt6_16, yt7_17, yt8_18, ysk_19⟩ := u
    obtain ⟨hP1, hK1, hD1⟩ := hB
    rw [ht] at hP1
    have hz9 : gPD G (va_A _ _) [zo5 h0 tt rd nw th kp sh tu him, zo0 th tt t1 t2 t3 t4 t5 t6 t7 t8 (nI jg) (nI pb) (nI lw), zi G t1 6 yt1_11, zi G t2 4 yt2_12, zi G t3 4 yt3_13, zi G t4 4 yt4_14, zi G t5 6 yt5_15, zi G t6 6 yt6_16, zi G t7 6 yt7_17, zi G t8 6 yt8_18, zo3 tt co en sk wr (nI tx), zr G co 6 fc, zr G en 6 fe, zi G ct 160 fct, zi G et 3 (nF fet), zi G sk 32 ysk_19, zo2 sh qn qo ql, zr G qn 4 fn, zi G qo 4 fqo, zi G ql 4 (nF fql), zi G rr 40 frr] H := ⟨hP1, hD1⟩
    have hP1 := hz9.1
    have hD1 := hz9.2
    have w_10 : r_9 = m_X5_firstOtherwise fet fql fso fmi fpa fki fmo fsz frd fct frr sn (nC v1) := w_10
    have hz9 : gPD G A [zo0 nw tt n1 n2 n3 n4 n5 n6 n7 n8 (nI jg) (nI pb) (nI lw), zi G n2 4 fso, zi G n3 4 fmi, zi G n4 4 fpa, zi G n5 6 fki, zi G n6 6 fmo, zi G n7 6 fsz, zi G n8 6 frd, zo5 h0 tt rd nw th kp sh tu him, zo0 th tt t1 t2 t3 t4 t5 t6 t7 t8 (nI jg) (nI pb) (nI lw), zi G t1 6 yt1_11, zi G t2 4 yt2_12, zi G t3 4 yt3_13, zi G t4 4 yt4_14, zi G t5 6 yt5_15, zi G t6 6 yt6_16, zi G t7 6 yt7_17, zi G t8 6 yt8_18, zo3 tt co en sk wr (nI tx), zr G co 6 fc, zr G en 6 fe, zi G ct 160 fct, zi G et 3 (nF fet), zi G sk 32 ysk_19, zo2 sh qn qo ql, zr G qn 4 fn, zi G qo 4 fqo, zi G ql 4 (nF fql), zi G rr 40 frr] H := gJoin hP hD hk1 hFc hP1 hD1 [12, 21, 0, 22, 23, 24, 25, 26, 27, 28, 1, 2, 3, 4, 5, 6, 7, 8, 9, 10, 11] [13, 14, 15, 16, 17, 18, 19, 20] rfl rfl rfl (by decide +kernel) (by decide +kernel)
    have hP := hz9.1
    have hD := hz9.2
    subst w_10
    have q_20 : m_X5_reversed_A_th9 jg pb tj fql fqo frr sn v1 = (nI jg) := by unfold m_X5_reversed_A_th9; rw [if_pos c_3]
    have q_21 : m_X5_reversed_A_th10 jg pb tb fql fqo frr sn v1 = (nI pb) := by unfold m_X5_reversed_A_th10; rw [if_pos c_3]
    have q_22 : m_X5_reversed_A_th11 jg pb lw tl fql fqo frr sn v1 = nI lw := by unfold m_X5_reversed_A_th11; rw [if_pos c_3]
    have hz9 : gPD G A [zo5 h0 tt rd nw th kp sh tu him, zo0 nw tt n1 n2 n3 n4 n5 n6 n7 n8 (nI jg) (nI pb) (nI lw), zi G n2 4 fso, zi G n3 4 fmi, zi G n4 4 fpa, zi G n5 6 fki, zi G n6 6 fmo, zi G n7 6 fsz, zi G n8 6 frd, zo0 th tt t1 t2 t3 t4 t5 t6 t7 t8 (m_X5_reversed_A_th9 jg pb tj fql fqo frr sn v1) (m_X5_reversed_A_th10 jg pb tb fql fqo frr sn v1) (m_X5_reversed_A_th11 jg pb lw tl fql fqo frr sn v1), zi G t1 6 yt1_11, zi G t2 4 yt2_12, zi G t3 4 yt3_13, zi G t4 4 yt4_14, zi G t5 6 yt5_15, zi G t6 6 yt6_16, zi G t7 6 yt7_17, zi G t8 6 yt8_18, zo3 tt co en sk wr (nI tx), zr G co 6 fc, zr G en 6 fe, zi G ct 160 fct, zi G et 3 (nF fet), zi G sk 32 ysk_19, zo2 sh qn qo ql, zr G qn 4 fn, zi G qo 4 fqo, zi G ql 4 (nF fql), zi G rr 40 frr] H := ⟨by rw [q_20, q_21, q_22]; exact hP.sub [8, 0, 1, 2, 3, 4, 5, 6, 7, 9, 10, 11, 12, 13, 14, 15, 16, 17, 18, 19, 20, 21, 22, 23, 24, 25, 26, 27, 28] rfl, by rw [q_20, q_21, q_22]; exact hD.sub [8, 0, 1, 2, 3, 4, 5, 6, 7, 9, 10, 11, 12, 13, 14, 15, 16, 17, 18, 19, 20, 21, 22, 23, 24, 25, 26, 27, 28] (by decide +kernel) rfl⟩
    have hP9 := hz9.1
    have hD9 := hz9.2
    have hpost : (fun (r : Int32) (u : (Nat → Int32) × (Nat → Int32) × (Nat → Int32) × (Nat → Int32) × (Nat → Int32) × (Nat → Int32) × (Nat → Int32) × (Nat → Int32) × (Nat → Int32)) => match u with | (yt1, yt2, yt3, yt4, yt5, yt6, yt7, yt8, ysk) => r = m_X5_reversed_A jg pb fet fql fso fmi fpa fki fmo fsz frd fct fqo frr sn v1) (m_X5_firstOtherwise fet fql fso fmi fpa fki fmo fsz frd fct frr sn (nC v1)) (yt1_11, yt2_12, yt3_13, yt4_14, yt5_15, yt6_16, yt7_17, yt8_18, ysk_19) := (show m_X5_reversed_A jg pb fet fql fso fmi fpa fki fmo fsz frd fct fqo frr sn v1 = (m_X5_firstOtherwise fet fql fso fmi fpa fki fmo fsz frd fct frr sn (nC v1)) from by unfold m_X5_reversed_A; rw [if_pos c_3]).symm
    exact W.iret (v := (m_X5_firstOtherwise fet fql fso fmi fpa fki fmo fsz frd fct frr sn (nC v1))) hx hb hr (fun t ht hW => ⟨⟨(m_X5_firstOtherwise fet fql fso fmi fpa fki fmo fsz frd fct frr sn (nC v1)), (yt1_11, yt2_12, yt3_13, yt4_14, yt5_15, yt6_16, yt7_17, yt8_18, ysk_19), rfl, hpost, by rw [ht]; exact hP9, va_K.moved hW.alike hK, hD9⟩, hS.F ht⟩) hS.2.2 dX5_reversed_23
  · skip
    refine lv_iload_n hx hb dX5_reversed_11 rfl (lv_at hl 0 rfl) ?_
    have q_23 : m_X5_reversed_A_th9 jg pb tj fql fqo frr sn v1 = tj := by unfold m_X5_reversed_A_th9; rw [if_neg c_3]
    have q_24 : m_X5_reversed_A_th10 jg pb tb fql fqo frr sn v1 = tb := by unfold m_X5_reversed_A_th10; rw [if_neg c_3]
    have q_25 : m_X5_reversed_A_th11 jg pb lw tl fql fqo frr sn v1 = tl := by unfold m_X5_reversed_A_th11; rw [if_neg c_3]
    have hz9 : gPD G A [zo5 h0 tt rd nw th kp sh tu him, zo0 nw tt n1 n2 n3 n4 n5 n6 n7 n8 (nI jg) (nI pb) (nI lw), zi G n2 4 fso, zi G n3 4 fmi, zi G n4 4 fpa, zi G n5 6 fki, zi G n6 6 fmo, zi G n7 6 fsz, zi G n8 6 frd, zo0 th tt t1 t2 t3 t4 t5 t6 t7 t8 (m_X5_reversed_A_th9 jg pb tj fql fqo frr sn v1) (m_X5_reversed_A_th10 jg pb tb fql fqo frr sn v1) (m_X5_reversed_A_th11 jg pb lw tl fql fqo frr sn v1), zi G t1 6 unm, zi G t2 4 uso, zi G t3 4 umi, zi G t4 4 upa, zi G t5 6 uki, zi G t6 6 umo, zi G t7 6 usz, zi G t8 6 urd, zo3 tt co en sk wr (nI tx), zr G co 6 fc, zr G en 6 fe, zi G ct 160 fct, zi G et 3 (nF fet), zi G sk 32 fsk, zo2 sh qn qo ql, zr G qn 4 fn, zi G qo 4 fqo, zi G ql 4 (nF fql), zi G rr 40 frr] H := ⟨by rw [q_23, q_24, q_25]; exact hP.sub [22, 23, 0, 1, 2, 3, 4, 5, 6, 7, 8, 9, 10, 11, 12, 13, 14, 15, 16, 17, 18, 19, 20, 21, 24, 25, 26, 27, 28] rfl, by rw [q_23, q_24, q_25]; exact hD.sub [22, 23, 0, 1, 2, 3, 4, 5, 6, 7, 8, 9, 10, 11, 12, 13, 14, 15, 16, 17, 18, 19, 20, 21, 24, 25, 26, 27, 28] (by decide +kernel) rfl⟩
    have hP9 := hz9.1
    have hD9 := hz9.2
    have hpost : (fun (r : Int32) (u : (Nat → Int32) × (Nat → Int32) × (Nat → Int32) × (Nat → Int32) × (Nat → Int32) × (Nat → Int32) × (Nat → Int32) × (Nat → Int32) × (Nat → Int32)) => match u with | (yt1, yt2, yt3, yt4, yt5, yt6, yt7, yt8, ysk) => r = m_X5_reversed_A jg pb fet fql fso fmi fpa fki fmo fsz frd fct fqo frr sn v1) (m_X5_refusalOf_A jg pb fql fqo frr sn v1) (unm, uso, umi, upa, uki, umo, usz, urd, fsk) := (show m_X5_reversed_A jg pb fet fql fso fmi fpa fki fmo fsz frd fct fqo frr sn v1 = (m_X5_refusalOf_A jg pb fql fqo frr sn v1) from by unfold m_X5_reversed_A; rw [if_neg c_3]).symm
    exact W.iret (v := (m_X5_refusalOf_A jg pb fql fqo frr sn v1)) hx hb hr (fun t ht hW => ⟨⟨(m_X5_refusalOf_A jg pb fql fqo frr sn v1), (unm, uso, umi, upa, uki, umo, usz, urd, fsk), rfl, hpost, by rw [ht]; exact hP9, va_K.moved hW.alike hK, hD9⟩, hS.F ht⟩) hS.2.2 dX5_reversed_12
abbrev q_X5_reversed_B (G : gG) (E : gS) (h0 tt rd nw th kp sh tu qn qo ql : Nat) (him : Int32) (v0 : Int32) (v1 : Int32) (A : Nat → Prop) : Array Value → State → Outcome → State → Prop := va_Qi (fun (r : Int32) (u : Unit) => match u with | _ => r = -2) (fun (u : Unit) t => match u with | _ => va_P G.1 vwCl [zo5 h0 tt rd nw th kp sh tu him, zo2 sh qn qo ql] t.heap ∧ gK G t ∧ va_D A [zo5 h0 tt rd nw th kp sh tu him, zo2 sh qn qo ql]) A
set_option maxHeartbeats 4000000 in
set_option maxRecDepth 100000 in
theorem c_X5_reversed_B (l : Launch) (G : gG) (E : gS) (h0 tt rd nw th kp sh tu qn qo ql : Nat) (him : Int32) (v0 : Int32) (v1 : Int32) (sz : Nat) (hno : ¬ (0 ≤ v0 ∧ v0 ≤ 3)) : Met l yX5_reversed wsX5_reversed ({ frames := 4, cells := 0, slots := 0, locals := 89 }) (gPreE G E [.ref h0, .int v0, .int v1] [zo5 h0 tt rd nw th kp sh tu him, zo2 sh qn qo ql] sz) (q_X5_reversed_B G E h0 tt rd nw th kp sh tu qn qo ql him v0 v1 (va_A [zo5 h0 tt rd nw th kp sh tu him, zo2 sh qn qo ql] sz)) 0 0 (va_A [zo5 h0 tt rd nw th kp sh tu him, zo2 sh qn qo ql] sz) := by
  refine Met.ofW (cc := cX5_reversed) (maxL := 4) (ret := (some .int)) (by decide +kernel) rfl ?_
  intro p e s m args below meth c s₁ B hml hv
  obtain ⟨rfl, hsz, hP, hK, hD0, hE⟩ := hv
  have hx := B.exec
  have hb := B.bytes
  have hr := B.returns
  have hts := atoms_spec (ws := wsX5_reversed) B.pre
  have hown : s.vm.findClass RX5 = some m.cls := findClass_of_methodNamed B.named
  have hlocks := B.notSynchronized
  subst hsz
  have hD := hD0.self (sz := s.heap.size)
  generalize hAe : va_A [zo5 h0 tt rd nw th kp sh tu him, zo2 sh qn qo ql] s.heap.size = A at hD hE ⊢
  have hA : ∀ q : Nat, s.heap.size ≤ q → A q := fun q h => by rw [← hAe]; exact Or.inr h
  have hS : va_S A s.heap s.heap [] := va_S.rf
  have hz9 : gPD G A [zo5 h0 tt rd nw th kp sh tu him, zo2 sh qn qo ql] s.heap := ⟨hP, hD⟩
  have hP := hz9.1
  have hD := hz9.2
  have hl := lv_entry ([.ref h0, .int v0, .int v1]) (n := 4) (Nat.le_of_ble_eq_true rfl)
  rw [lg_entry_eq]
  generalize (lg_sl ([.ref h0, .int v0, .int v1]) ++ List.replicate (4 - (lg_sl ([.ref h0, .int v0, .int v1])).length) Slot.unset).toArray = ls at hl ⊢
  have hl : lv_has ls 4 [zR 0 h0, zI 1 v0, zI 2 v1] := hl
  refine lv_aload_n hx hb dX5_reversed_0 rfl (lv_at hl 0 rfl) ?_
  refine lv_iload_n hx hb dX5_reversed_1 rfl (lv_at hl 1 rfl) ?_
  refine lv_iload_n hx hb dX5_reversed_2 rfl (lv_at hl 2 rfl) ?_
  have hz9 : gPD G A [zo5 h0 tt rd nw th kp sh tu him, zo2 sh qn qo ql] s.heap := ⟨hP.sub [0, 1] rfl, hD.sub [0, 1] (by decide +kernel) rfl⟩
  have hPc := hz9.1
  have hDc := hz9.2
  have hFc := gFree hPc hD hS hA [0, 1] rfl
  refine va_calli (va_runV (As := [.int v0, .int v1]) (rest := []) ⟨hx, hb, hml, hown, hts⟩ (c_X5_refusalOf_B l G E h0 tt rd nw th kp sh tu qn qo ql him v0 v1 s.heap.size (by first | exact hno | assumption | omega)) (cwV 2 hts gX5_reversed_X5_refusalOf rfl rfl rfl (by decide +kernel) ⟨Nat.le_of_ble_eq_true rfl, Nat.le_of_ble_eq_true rfl⟩) ⟨gPreE_blind, va_recv hK hPc (ci := 5) (q0 := 0) rfl rfl, fun U hU hW => gPreE_of hU hW hK hPc hDc hE hS hFc⟩ rfl rfl hl.1 rfl (lv_room (Nat.le_of_ble_eq_true rfl)) dX5_reversed_3 ⟨Nat.le_of_ble_eq_true rfl, Nat.le_of_ble_eq_true rfl⟩) hS (fun q _ h => hFc q h) hFc (fun r_1 u t H locs ht hvm w_2 hB hz1 hk1 hS => ?_)
  obtain ⟨hP1, hK1, hD1⟩ := hB
  rw [ht] at hP1
  have hz9 : gPD G (va_A _ s.heap.size) [zo5 h0 tt rd nw th kp sh tu him, zo2 sh qn qo ql] H := ⟨hP1, hD1⟩
  have hP1 := hz9.1
  have hD1 := hz9.2
  have w_2 : r_1 = -2 := w_2
  have hz9 : gPD G A [zo5 h0 tt rd nw th kp sh tu him, zo2 sh qn qo ql] H := gJoin hP hD hk1 hFc hP1 hD1 [0, 1] [] rfl rfl rfl (by decide +kernel) (by decide +kernel)
  have hP := hz9.1
  have hD := hz9.2
  subst w_2
  refine lv_istore_n (lv' := [zI 3 (-2), zR 0 h0, zI 1 v0, zI 2 v1]) hx hb dX5_reversed_6 rfl hl (by decide +kernel) rfl (fun ls hl => ?_)
  refine lv_iload_n hx hb dX5_reversed_7 rfl (lv_at hl 0 rfl) ?_
  refine lv_if_eq (tgt := 13) hx hb dX5_reversed_8 (by decide +kernel) (fun c_3 => ?_) (fun c_3 => ?_)
  · exact absurd c_3 (by decide +kernel)
  refine lv_iload_n hx hb dX5_reversed_11 rfl (lv_at hl 0 rfl) ?_
  have hP9 := hP.sub (ws' := [zo5 h0 tt rd nw th kp sh tu him, zo2 sh qn qo ql]) [0, 1] rfl
  have hD9 := hD.sub (ws' := [zo5 h0 tt rd nw th kp sh tu him, zo2 sh qn qo ql]) [0, 1] (by decide +kernel) rfl
  have hpost : (fun (r : Int32) (u : Unit) => match u with | _ => r = -2) (-2) () := rfl
  exact W.iret (v := (-2)) hx hb hr (fun t ht hW => ⟨⟨(-2), (), rfl, hpost, by rw [ht]; exact hP9, va_K.moved hW.alike hK, hD9⟩, hS.F ht⟩) hS.2.2 dX5_reversed_12
noncomputable def p_X5_soled_A_19 (fet : Nat → Nat) (fql : Nat → Nat) (fso : Nat → Int32) (fmi : Nat → Int32) (fpa : Nat → Int32) (fki : Nat → Int32) (fmo : Nat → Int32) (fsz : Nat → Int32) (frd : Nat → Int32) (fct : Nat → Int32) (frr : Nat → Int32) (sn : Nat) (v1 : Int32) : Nat → Nat → Int32 → Nat × Int32
  | 0, w19, bi => (w19, bi)
  | q9 + 1, w19, bi => if (m_X5_firstOtherwise fet fql (upd fso (nC v1) (nI w19)) fmi fpa fki fmo fsz frd fct frr sn (nC v1)) = (-1) then p_X5_soled_A_19 fet fql fso fmi fpa fki fmo fsz frd fct frr sn v1 q9 (w19 + 1) (bi ||| (1 <<< ((nI w19) &&& 31))) else p_X5_soled_A_19 fet fql fso fmi fpa fki fmo fsz frd fct frr sn v1 q9 (w19 + 1) bi
noncomputable def g_X5_soled_A_19 (fet : Nat → Nat) (fql : Nat → Nat) (fso : Nat → Int32) (fmi : Nat → Int32) (fpa : Nat → Int32) (fki : Nat → Int32) (fmo : Nat → Int32) (fsz : Nat → Int32) (frd : Nat → Int32) (fct : Nat → Int32) (frr : Nat → Int32) (sn : Nat) (v1 : Int32) : Nat × Int32 := p_X5_soled_A_19 fet fql fso fmi fpa fki fmo fsz frd fct frr sn v1 (21 - 0) 0 0
noncomputable def m_X5_soled_A (jg : Nat) (pb : Nat) (fet : Nat → Nat) (fql : Nat → Nat) (fso : Nat → Int32) (fmi : Nat → Int32) (fpa : Nat → Int32) (fki : Nat → Int32) (fmo : Nat → Int32) (fsz : Nat → Int32) (frd : Nat → Int32) (fct : Nat → Int32) (fqo : Nat → Int32) (frr : Nat → Int32) (sn : Nat) (v1 : Int32) : Int32 := if (m_X5_refusalOf_A jg pb fql fqo frr sn v1) = 0 then ((g_X5_soled_A_19 fet fql fso fmi fpa fki fmo fsz frd fct frr sn v1).2) else m_X5_refusalOf_A jg pb fql fqo frr sn v1
abbrev q_X5_soled_A (G : gG) (E : gS) (h0 tt rd nw th kp sh tu n1 n2 n3 n4 n5 n6 n7 n8 t1 t2 t3 t4 t5 t6 t7 t8 co en sk ct et qn qo ql rr : Nat) (jg : Nat) (pb : Nat) (lw : Nat) (tx : Nat) (him : Int32) (wr : Int32) (tj : Int32) (tb : Int32) (tl : Int32) (fc : Nat → Option Nat) (fe : Nat → Option Nat) (fn : Nat → Option Nat) (fet : Nat → Nat) (fql : Nat → Nat) (fso : Nat → Int32) (fmi : Nat → Int32) (fpa : Nat → Int32) (fki : Nat → Int32) (fmo : Nat → Int32) (fsz : Nat → Int32) (frd : Nat → Int32) (unm : Nat → Int32) (uso : Nat → Int32) (umi : Nat → Int32) (upa : Nat → Int32) (uki : Nat → Int32) (umo : Nat → Int32) (usz : Nat → Int32) (urd : Nat → Int32) (fct : Nat → Int32) (fsk : Nat → Int32) (fqo : Nat → Int32) (frr : Nat → Int32) (sn : Nat) (v1 : Int32) (A : Nat → Prop) : Array Value → State → Outcome → State → Prop := va_Qi (fun (r : Int32) (u : Int32 × Int32 × Int32 × (Nat → Int32) × (Nat → Int32) × (Nat → Int32) × (Nat → Int32) × (Nat → Int32) × (Nat → Int32) × (Nat → Int32) × (Nat → Int32) × (Nat → Int32)) => match u with | (zj9, zb9, zl9, yt1, yt2, yt3, yt4, yt5, yt6, yt7, yt8, ysk) => r = m_X5_soled_A jg pb fet fql fso fmi fpa fki fmo fsz frd fct fqo frr sn v1) (fun (u : Int32 × Int32 × Int32 × (Nat → Int32) × (Nat → Int32) × (Nat → Int32) × (Nat → Int32) × (Nat → Int32) × (Nat → Int32) × (Nat → Int32) × (Nat → Int32) × (Nat → Int32)) t => match u with | (zj9, zb9, zl9, yt1, yt2, yt3, yt4, yt5, yt6, yt7, yt8, ysk) => va_P G.1 vwCl [zo5 h0 tt rd nw th kp sh tu him, zo0 nw tt n1 n2 n3 n4 n5 n6 n7 n8 (nI jg) (nI pb) (nI lw), zi G n2 4 fso, zi G n3 4 fmi, zi G n4 4 fpa, zi G n5 6 fki, zi G n6 6 fmo, zi G n7 6 fsz, zi G n8 6 frd, zo0 th tt t1 t2 t3 t4 t5 t6 t7 t8 zj9 zb9 zl9, zi G t1 6 yt1, zi G t2 4 yt2, zi G t3 4 yt3, zi G t4 4 yt4, zi G t5 6 yt5, zi G t6 6 yt6, zi G t7 6 yt7, zi G t8 6 yt8, zo3 tt co en sk wr (nI tx), zr G co 6 fc, zr G en 6 fe, zi G ct 160 fct, zi G et 3 (nF fet), zi G sk 32 ysk, zo2 sh qn qo ql, zr G qn 4 fn, zi G qo 4 fqo, zi G ql 4 (nF fql), zi G rr 40 frr] t.heap ∧ gK G t ∧ va_D A [zo5 h0 tt rd nw th kp sh tu him, zo0 nw tt n1 n2 n3 n4 n5 n6 n7 n8 (nI jg) (nI pb) (nI lw), zi G n2 4 fso, zi G n3 4 fmi, zi G n4 4 fpa, zi G n5 6 fki, zi G n6 6 fmo, zi G n7 6 fsz, zi G n8 6 frd, zo0 th tt t1 t2 t3 t4 t5 t6 t7 t8 zj9 zb9 zl9, zi G t1 6 yt1, zi G t2 4 yt2, zi G t3 4 yt3, zi G t4 4 yt4, zi G t5 6 yt5, zi G t6 6 yt6, zi G t7 6 yt7, zi G t8 6 yt8, zo3 tt co en sk wr (nI tx), zr G co 6 fc, zr G en 6 fe, zi G ct 160 fct, zi G et 3 (nF fet), zi G sk 32 ysk, zo2 sh qn qo ql, zr G qn 4 fn, zi G qo 4 fqo, zi G ql 4 (nF fql), zi G rr 40 frr]) A
set_option maxHeartbeats 4000000 in
set_option maxRecDepth 100000 in
theorem c_X5_soled_A (l : Launch) (G : gG) (E : gS) (h0 tt rd nw th kp sh tu n1 n2 n3 n4 n5 n6 n7 n8 t1 t2 t3 t4 t5 t6 t7 t8 co en sk ct et qn qo ql rr : Nat) (jg : Nat) (pb : Nat) (lw : Nat) (tx : Nat) (him : Int32) (wr : Int32) (tj : Int32) (tb : Int32) (tl : Int32) (fc : Nat → Option Nat) (fe : Nat → Option Nat) (fn : Nat → Option Nat) (fet : Nat → Nat) (fql : Nat → Nat) (fso : Nat → Int32) (fmi : Nat → Int32) (fpa : Nat → Int32) (fki : Nat → Int32) (fmo : Nat → Int32) (fsz : Nat → Int32) (frd : Nat → Int32) (unm : Nat → Int32) (uso : Nat → Int32) (umi : Nat → Int32) (upa : Nat → Int32) (uki : Nat → Int32) (umo : Nat → Int32) (usz : Nat → Int32) (urd : Nat → Int32) (fct : Nat → Int32) (fsk : Nat → Int32) (fqo : Nat → Int32) (frr : Nat → Int32) (sn : Nat) (v1 : Int32) (sz : Nat) (hsn : sn < 4) (hrw : fn sn = some rr) (hql : ∀ q9, q9 < 4 → fql q9 ≤ 40) (htn : lw < tx ∧ tx ≤ 6) (hc : fc lw = some ct) (he : fe lw = some et) (hwx : mWx fct fet) (hjg : jg ≤ 4) (hpb : pb ≤ 6) : Met l yX5_soled wsX5_soled ({ frames := 6, cells := 0, slots := 0, locals := 441 }) (gPreE G E [.ref h0, .int (nI sn), .int v1] [zo5 h0 tt rd nw th kp sh tu him, zo0 nw tt n1 n2 n3 n4 n5 n6 n7 n8 (nI jg) (nI pb) (nI lw), zi G n2 4 fso, zi G n3 4 fmi, zi G n4 4 fpa, zi G n5 6 fki, zi G n6 6 fmo, zi G n7 6 fsz, zi G n8 6 frd, zo0 th tt t1 t2 t3 t4 t5 t6 t7 t8 tj tb tl, zi G t1 6 unm, zi G t2 4 uso, zi G t3 4 umi, zi G t4 4 upa, zi G t5 6 uki, zi G t6 6 umo, zi G t7 6 usz, zi G t8 6 urd, zo3 tt co en sk wr (nI tx), zr G co 6 fc, zr G en 6 fe, zi G ct 160 fct, zi G et 3 (nF fet), zi G sk 32 fsk, zo2 sh qn qo ql, zr G qn 4 fn, zi G qo 4 fqo, zi G ql 4 (nF fql), zi G rr 40 frr] sz) (q_X5_soled_A G E h0 tt rd nw th kp sh tu n1 n2 n3 n4 n5 n6 n7 n8 t1 t2 t3 t4 t5 t6 t7 t8 co en sk ct et qn qo ql rr jg pb lw tx him wr tj tb tl fc fe fn fet fql fso fmi fpa fki fmo fsz frd unm uso umi upa uki umo usz urd fct fsk fqo frr sn v1 (va_A [zo5 h0 tt rd nw th kp sh tu him, zo0 nw tt n1 n2 n3 n4 n5 n6 n7 n8 (nI jg) (nI pb) (nI lw), zi G n2 4 fso, zi G n3 4 fmi, zi G n4 4 fpa, zi G n5 6 fki, zi G n6 6 fmo, zi G n7 6 fsz, zi G n8 6 frd, zo0 th tt t1 t2 t3 t4 t5 t6 t7 t8 tj tb tl, zi G t1 6 unm, zi G t2 4 uso, zi G t3 4 umi, zi G t4 4 upa, zi G t5 6 uki, zi G t6 6 umo, zi G t7 6 usz, zi G t8 6 urd, zo3 tt co en sk wr (nI tx), zr G co 6 fc, zr G en 6 fe, zi G ct 160 fct, zi G et 3 (nF fet), zi G sk 32 fsk, zo2 sh qn qo ql, zr G qn 4 fn, zi G qo 4 fqo, zi G ql 4 (nF fql), zi G rr 40 frr] sz)) 0 0 (va_A [zo5 h0 tt rd nw th kp sh tu him, zo0 nw tt n1 n2 n3 n4 n5 n6 n7 n8 (nI jg) (nI pb) (nI lw), zi G n2 4 fso, zi G n3 4 fmi, zi G n4 4 fpa, zi G n5 6 fki, zi G n6 6 fmo, zi G n7 6 fsz, zi G n8 6 frd, zo0 th tt t1 t2 t3 t4 t5 t6 t7 t8 tj tb tl, zi G t1 6 unm, zi G t2 4 uso, zi G t3 4 umi, zi G t4 4 upa, zi G t5 6 uki, zi G t6 6 umo, zi G t7 6 usz, zi G t8 6 urd, zo3 tt co en sk wr (nI tx), zr G co 6 fc, zr G en 6 fe, zi G ct 160 fct, zi G et 3 (nF fet), zi G sk 32 fsk, zo2 sh qn qo ql, zr G qn 4 fn, zi G qo 4 fqo, zi G ql 4 (nF fql), zi G rr 40 frr] sz) := by
  refine Met.ofW (cc := cX5_soled) (maxL := 6) (ret := (some .int)) (by decide +kernel) rfl ?_
  intro p e s m args below meth c s₁ B hml hv
  obtain ⟨rfl, hsz, hP, hK, hD0, hE⟩ := hv
  have hx := B.exec
  have hb := B.bytes
  have hr := B.returns
  have hts := atoms_spec (ws := wsX5_soled) B.pre
  have hown : s.vm.findClass RX5 = some m.cls := findClass_of_methodNamed B.named
  have hlocks := B.notSynchronized
  subst hsz
  have hD := hD0.self (sz := s.heap.size)
  generalize hAe : va_A [zo5 h0 tt rd nw th kp sh tu him, zo0 nw tt n1 n2 n3 n4 n5 n6 n7 n8 (nI jg) (nI pb) (nI lw), zi G n2 4 fso, zi G n3 4 fmi, zi G n4 4 fpa, zi G n5 6 fki, zi G n6 6 fmo, zi G n7 6 fsz, zi G n8 6 frd, zo0 th tt t1 t2 t3 t4 t5 t6 t7 t8 tj tb tl, zi G t1 6 unm, zi G t2 4 uso, zi G t3 4 umi, zi G t4 4 upa, zi G t5 6 uki, zi G t6 6 umo, zi G t7 6 usz, zi G t8 6 urd, zo3 tt co en sk wr (nI tx), zr G co 6 fc, zr G en 6 fe, zi G ct 160 fct, zi G et 3 (nF fet), zi G sk 32 fsk, zo2 sh qn qo ql, zr G qn 4 fn, zi G qo 4 fqo, zi G ql 4 (nF fql), zi G rr 40 frr] s.heap.size = A at hD hE ⊢
  have hA : ∀ q : Nat, s.heap.size ≤ q → A q := fun q h => by rw [← hAe]; exact Or.inr h
  have hS : va_S A s.heap s.heap [] := va_S.rf
  have hz9 : gPD G A [zo5 h0 tt rd nw th kp sh tu him, zo0 nw tt n1 n2 n3 n4 n5 n6 n7 n8 (nI jg) (nI pb) (nI lw), zi G n2 4 fso, zi G n3 4 fmi, zi G n4 4 fpa, zi G n5 6 fki, zi G n6 6 fmo, zi G n7 6 fsz, zi G n8 6 frd, zo0 th tt t1 t2 t3 t4 t5 t6 t7 t8 tj tb tl, zi G t1 6 unm, zi G t2 4 uso, zi G t3 4 umi, zi G t4 4 upa, zi G t5 6 uki, zi G t6 6 umo, zi G t7 6 usz, zi G t8 6 urd, zo3 tt co en sk wr (nI tx), zr G co 6 fc, zr G en 6 fe, zi G ct 160 fct, zi G et 3 (nF fet), zi G sk 32 fsk, zo2 sh qn qo ql, zr G qn 4 fn, zi G qo 4 fqo, zi G ql 4 (nF fql), zi G rr 40 frr] s.heap := ⟨hP, hD⟩
  have hP := hz9.1
  have hD := hz9.2
  have hl := lv_entry ([.ref h0, .int (nI sn), .int v1]) (n := 6) (Nat.le_of_ble_eq_true rfl)
  rw [lg_entry_eq]
  generalize (lg_sl ([.ref h0, .int (nI sn), .int v1]) ++ List.replicate (6 - (lg_sl ([.ref h0, .int (nI sn), .int v1])).length) Slot.unset).toArray = ls at hl ⊢
  have hl : lv_has ls 6 [zR 0 h0, zI 1 (nI sn), zI 2 v1] := hl
  have kf32 := hts (.fieldLink RX5 32 "PebbleInShoe" "thought" "LPebbleInShoe$Court;") (by decide +kernel)
  have hiX5 := (by decide +kernel : ∀ w ∈ wsX50, w ∈ wsX5_soled)
  have kf98 := hts (.fieldLink RX5 98 "PebbleInShoe$Court" "soles" "[I") (by decide +kernel)
  have hiX0 := (by decide +kernel : ∀ w ∈ wsX00, w ∈ wsX5_soled)
  refine lv_aload_n hx hb dX5_soled_0 rfl (lv_at hl 0 rfl) ?_
  refine lv_iload_n hx hb dX5_soled_1 rfl (lv_at hl 1 rfl) ?_
  refine lv_iload_n hx hb dX5_soled_2 rfl (lv_at hl 2 rfl) ?_
  have hz9 : gPD G A [zo5 h0 tt rd nw th kp sh tu him, zo0 nw tt n1 n2 n3 n4 n5 n6 n7 n8 (nI jg) (nI pb) (nI lw), zo2 sh qn qo ql, zr G qn 4 fn, zi G qo 4 fqo, zi G ql 4 (nF fql), zi G rr 40 frr] s.heap := ⟨hP.sub [0, 1, 24, 25, 26, 27, 28] rfl, hD.sub [0, 1, 24, 25, 26, 27, 28] (by decide +kernel) rfl⟩
  have hPc := hz9.1
  have hDc := hz9.2
  have hFc := gFree hPc hD hS hA [0, 1, 24, 25, 26, 27, 28] rfl
  refine va_calli (va_runV (As := [.int (nI sn), .int v1]) (rest := []) ⟨hx, hb, hml, hown, hts⟩ (c_X5_refusalOf_A l G E h0 tt rd nw th kp sh tu n1 n2 n3 n4 n5 n6 n7 n8 qn qo ql rr jg pb lw him fn fql fqo frr sn v1 s.heap.size (by first | exact hsn | assumption | omega) (by first | exact hrw | assumption | omega) (by first | exact hql | assumption | omega) (by first | exact hjg | assumption | omega) (by first | exact hpb | assumption | omega)) (cwV 2 hts gX5_soled_X5_refusalOf rfl rfl rfl (by decide +kernel) ⟨Nat.le_of_ble_eq_true rfl, Nat.le_of_ble_eq_true rfl⟩) ⟨gPreE_blind, va_recv hK hPc (ci := 5) (q0 := 0) rfl rfl, fun U hU hW => gPreE_of hU hW hK hPc hDc hE hS hFc⟩ rfl rfl hl.1 rfl (lv_room (Nat.le_of_ble_eq_true rfl)) dX5_soled_3 ⟨Nat.le_of_ble_eq_true rfl, Nat.le_of_ble_eq_true rfl⟩) hS (fun q _ h => hFc q h) hFc (fun r_1 u t H locs ht hvm w_2 hB hz1 hk1 hS => ?_)
  obtain ⟨hP1, hK1, hD1⟩ := hB
  rw [ht] at hP1
  have hz9 : gPD G (va_A _ s.heap.size) [zo5 h0 tt rd nw th kp sh tu him, zo0 nw tt n1 n2 n3 n4 n5 n6 n7 n8 (nI jg) (nI pb) (nI lw), zo2 sh qn qo ql, zr G qn 4 fn, zi G qo 4 fqo, zi G ql 4 (nF fql), zi G rr 40 frr] H := ⟨hP1, hD1⟩
  have hP1 := hz9.1
  have hD1 := hz9.2
  have w_2 : r_1 = m_X5_refusalOf_A jg pb fql fqo frr sn v1 := w_2
  have hz9 : gPD G A [zi G n2 4 fso, zi G n3 4 fmi, zi G n4 4 fpa, zi G n5 6 fki, zi G n6 6 fmo, zi G n7 6 fsz, zi G n8 6 frd, zo0 th tt t1 t2 t3 t4 t5 t6 t7 t8 tj tb tl, zi G t1 6 unm, zi G t2 4 uso, zi G t3 4 umi, zi G t4 4 upa, zi G t5 6 uki, zi G t6 6 umo, zi G t7 6 usz, zi G t8 6 urd, zo3 tt co en sk wr (nI tx), zr G co 6 fc, zr G en 6 fe, zi G ct 160 fct, zi G et 3 (nF fet), zi G sk 32 fsk, zo5 h0 tt rd nw th kp sh tu him, zo0 nw tt n1 n2 n3 n4 n5 n6 n7 n8 (nI jg) (nI pb) (nI lw), zo2 sh qn qo ql, zr G qn 4 fn, zi G qo 4 fqo, zi G ql 4 (nF fql), zi G rr 40 frr] H := gJoin hP hD hk1 hFc hP1 hD1 [0, 1, 24, 25, 26, 27, 28] [2, 3, 4, 5, 6, 7, 8, 9, 10, 11, 12, 13, 14, 15, 16, 17, 18, 19, 20, 21, 22, 23] rfl rfl rfl (by decide +kernel) (by decide +kernel)
  have hP := hz9.1
  have hD := hz9.2
  subst w_2
  refine lv_istore_n (lv' := [zI 3 (m_X5_refusalOf_A jg pb fql fqo frr sn v1), zR 0 h0, zI 1 (nI sn), zI 2 v1]) hx hb dX5_soled_6 rfl hl (by decide +kernel) rfl (fun ls hl => ?_)
  refine lv_iload_n hx hb dX5_soled_7 rfl (lv_at hl 0 rfl) ?_
  refine lv_if_eq (tgt := 13) hx hb dX5_soled_8 (by decide +kernel) (fun c_3 => ?_) (fun c_3 => ?_)
  · skip
    obtain ⟨hjw, hvl⟩ := refusalOf_0 (hql sn hsn) c_3
    have hv_4 : v1 = nI (nC v1) := mHas_eq hjw
    have hk_5 : nC v1 < jg := mHas_lt (by omega) hjw
    refine lv_iconst (v := 0) hx hb dX5_soled_13 (by decide +kernel) ?_
    refine lv_istore (lv' := [zI 4 0, zI 3 (m_X5_refusalOf_A jg pb fql fqo frr sn v1), zR 0 h0, zI 1 (nI sn), zI 2 v1]) hx hb dX5_soled_14 hl (by decide +kernel) rfl (fun ls hl => ?_)
    refine lv_iconst (v := 0) hx hb dX5_soled_16 (by decide +kernel) ?_
    refine lv_istore (lv' := [zI 5 0, zI 4 0, zI 3 (m_X5_refusalOf_A jg pb fql fqo frr sn v1), zR 0 h0, zI 1 (nI sn), zI 2 v1]) hx hb dX5_soled_17 hl (by decide +kernel) rfl (fun ls hl => ?_)
    have loop_19 : ∀ (n9 : Nat) (w19 : Nat) (bi : Int32) (x19t1 : Nat → Int32) (x19sk : Nat → Int32) (x19t2 : Nat → Int32) (x19t3 : Nat → Int32) (x19t4 : Nat → Int32) (x19t5 : Nat → Int32) (x19t6 : Nat → Int32) (x19t7 : Nat → Int32) (x19t8 : Nat → Int32) (zj9l : Int32) (zb9l : Int32) (zl9l : Int32), (w19 ≤ 21) → (p_X5_soled_A_19 fet fql fso fmi fpa fki fmo fsz frd fct frr sn v1 (21 - w19) w19 bi = (g_X5_soled_A_19 fet fql fso fmi fpa fki fmo fsz frd fct frr sn v1)) → (21 - w19) < n9 → ∀ (H : Heap) (locs : List Loc), va_P G.1 vwCl [zi G n2 4 fso, zi G n3 4 fmi, zi G n4 4 fpa, zi G n5 6 fki, zi G n6 6 fmo, zi G n7 6 fsz, zi G n8 6 frd, zo0 th tt t1 t2 t3 t4 t5 t6 t7 t8 zj9l zb9l zl9l, zi G t1 6 x19t1, zi G t2 4 x19t2, zi G t3 4 x19t3, zi G t4 4 x19t4, zi G t5 6 x19t5, zi G t6 6 x19t6, zi G t7 6 x19t7, zi G t8 6 x19t8, zo3 tt co en sk wr (nI tx), zr G co 6 fc, zr G en 6 fe, zi G ct 160 fct, zi G et 3 (nF fet), zi G sk 32 x19sk, zo5 h0 tt rd nw th kp sh tu him, zo0 nw tt n1 n2 n3 n4 n5 n6 n7 n8 (nI jg) (nI pb) (nI lw), zo2 sh qn qo ql, zr G qn 4 fn, zi G qo 4 fqo, zi G ql 4 (nF fql), zi G rr 40 frr] H → va_D A [zi G n2 4 fso, zi G n3 4 fmi, zi G n4 4 fpa, zi G n5 6 fki, zi G n6 6 fmo, zi G n7 6 fsz, zi G n8 6 frd, zo0 th tt t1 t2 t3 t4 t5 t6 t7 t8 zj9l zb9l zl9l, zi G t1 6 x19t1, zi G t2 4 x19t2, zi G t3 4 x19t3, zi G t4 4 x19t4, zi G t5 6 x19t5, zi G t6 6 x19t6, zi G t7 6 x19t7, zi G t8 6 x19t8, zo3 tt co en sk wr (nI tx), zr G co 6 fc, zr G en 6 fe, zi G ct 160 fct, zi G et 3 (nF fet), zi G sk 32 x19sk, zo5 h0 tt rd nw th kp sh tu him, zo0 nw tt n1 n2 n3 n4 n5 n6 n7 n8 (nI jg) (nI pb) (nI lw), zo2 sh qn qo ql, zr G qn 4 fn, zi G qo 4 fqo, zi G ql 4 (nF fql), zi G rr 40 frr] → va_S A s.heap H locs → ∀ ls : Array Slot, lv_has ls 6 [zI 5 (nI w19), zI 4 bi, zI 3 (m_X5_refusalOf_A jg pb fql fqo frr sn v1), zR 0 h0, zI 1 (nI sn), zI 2 v1] → W p l e (headSpec wsX5_soled ({ frames := 6, cells := 0, slots := 0, locals := 441 })).room s m ([.ref h0, .int (nI sn), .int v1] : List Value).toArray below meth c H locs 0 0 (MQ below (q_X5_soled_A G E h0 tt rd nw th kp sh tu n1 n2 n3 n4 n5 n6 n7 n8 t1 t2 t3 t4 t5 t6 t7 t8 co en sk ct et qn qo ql rr jg pb lw tx him wr tj tb tl fc fe fn fet fql fso fmi fpa fki fmo fsz frd unm uso umi upa uki umo usz urd fct fsk fqo frr sn v1 A) ([.ref h0, .int (nI sn), .int v1] : List Value).toArray s 0 0 A) (F0 m 19 ls []) := by
      intro n9
      induction n9 with
      | zero => intro w19 bi x19t1 x19sk x19t2 x19t3 x19t4 x19t5 x19t6 x19t7 x19t8 zj9l zb9l zl9l hw19 R19 hm9_19; exact absurd hm9_19 (Nat.not_lt_zero _)
      | succ n9 ih9_19 =>
        intro w19 bi x19t1 x19sk x19t2 x19t3 x19t4 x19t5 x19t6 x19t7 x19t8 zj9l zb9l zl9l hw19 R19 hm9_19 H locs hP hD hS ls hl
        refine lv_iload hx hb dX5_soled_19 (lv_at hl 0 rfl) ?_
        refine lv_bipush (v := 20) hx hb dX5_soled_21 (by decide +kernel) ?_
        refine lv_icmp_gt (tgt := 66) hx hb dX5_soled_23 (by decide +kernel) (fun c_6 => ?_) (fun c_6 => ?_)
        · skip
          have c_6N : 20 < w19 := nI_lt1 (a := 20) (b := w19) (by omega) (by omega) c_6
          have hF19 : (g_X5_soled_A_19 fet fql fso fmi fpa fki fmo fsz frd fct frr sn v1) = (w19, bi) := by rw [← R19, show 21 - w19 = 0 by omega]; rfl
          have hE19_0 : w19 = ((g_X5_soled_A_19 fet fql fso fmi fpa fki fmo fsz frd fct frr sn v1).1) := by rw [hF19]
          have hE19_1 : bi = ((g_X5_soled_A_19 fet fql fso fmi fpa fki fmo fsz frd fct frr sn v1).2) := by rw [hF19]
          clear hF19 R19
          subst hE19_0
          subst hE19_1
          refine lv_iload hx hb dX5_soled_66 (lv_at hl 1 rfl) ?_
          have hpost : (fun (r : Int32) (u : Int32 × Int32 × Int32 × (Nat → Int32) × (Nat → Int32) × (Nat → Int32) × (Nat → Int32) × (Nat → Int32) × (Nat → Int32) × (Nat → Int32) × (Nat → Int32) × (Nat → Int32)) => match u with | (zj9, zb9, zl9, yt1, yt2, yt3, yt4, yt5, yt6, yt7, yt8, ysk) => r = m_X5_soled_A jg pb fet fql fso fmi fpa fki fmo fsz frd fct fqo frr sn v1) ((g_X5_soled_A_19 fet fql fso fmi fpa fki fmo fsz frd fct frr sn v1).2) (zj9l, zb9l, zl9l, x19t1, x19t2, x19t3, x19t4, x19t5, x19t6, x19t7, x19t8, x19sk) := (show m_X5_soled_A jg pb fet fql fso fmi fpa fki fmo fsz frd fct fqo frr sn v1 = ((g_X5_soled_A_19 fet fql fso fmi fpa fki fmo fsz frd fct frr sn v1).2) from by unfold m_X5_soled_A; rw [if_pos c_3]).symm
          exact W.iret (v := ((g_X5_soled_A_19 fet fql fso fmi fpa fki fmo fsz frd fct frr sn v1).2)) hx hb hr (fun t ht hW => ⟨⟨((g_X5_soled_A_19 fet fql fso fmi fpa fki fmo fsz frd fct frr sn v1).2), (zj9l, zb9l, zl9l, x19t1, x19t2, x19t3, x19t4, x19t5, x19t6, x19t7, x19t8, x19sk), rfl, hpost, by rw [ht]; exact hP.sub [22, 23, 0, 1, 2, 3, 4, 5, 6, 7, 8, 9, 10, 11, 12, 13, 14, 15, 16, 17, 18, 19, 20, 21, 24, 25, 26, 27, 28] rfl, va_K.moved hW.alike hK, hD.sub [22, 23, 0, 1, 2, 3, 4, 5, 6, 7, 8, 9, 10, 11, 12, 13, 14, 15, 16, 17, 18, 19, 20, 21, 24, 25, 26, 27, 28] (by decide +kernel) rfl⟩, hS.F ht⟩) hS.2.2 dX5_soled_68
        · skip
          have c_6N : w19 ≤ 20 := nI_lt0 (a := 20) (b := w19) (by omega) (by omega) c_6
          refine lv_aload_n hx hb dX5_soled_26 rfl (lv_at hl 3 rfl) ?_
          have hz9 : gPD G A [zo5 h0 tt rd nw th kp sh tu him, zo0 nw tt n1 n2 n3 n4 n5 n6 n7 n8 (nI jg) (nI pb) (nI lw), zi G n2 4 fso, zi G n3 4 fmi, zi G n4 4 fpa, zi G n5 6 fki, zi G n6 6 fmo, zi G n7 6 fsz, zi G n8 6 frd, zo0 th tt t1 t2 t3 t4 t5 t6 t7 t8 zj9l zb9l zl9l, zi G t2 4 x19t2, zi G t3 4 x19t3, zi G t4 4 x19t4, zi G t5 6 x19t5, zi G t6 6 x19t6, zi G t7 6 x19t7, zi G t8 6 x19t8] H := ⟨hP.sub [22, 23, 0, 1, 2, 3, 4, 5, 6, 7, 9, 10, 11, 12, 13, 14, 15] rfl, hD.sub [22, 23, 0, 1, 2, 3, 4, 5, 6, 7, 9, 10, 11, 12, 13, 14, 15] (by decide +kernel) rfl⟩
          have hPc := hz9.1
          have hDc := hz9.2
          have hFc := gFree hPc hD hS hA [22, 23, 0, 1, 2, 3, 4, 5, 6, 7, 9, 10, 11, 12, 13, 14, 15] rfl
          refine va_callv (va_runV (As := []) (rest := []) ⟨hx, hb, hml, hown, hts⟩ (c_X5_think l G h0 tt rd nw th kp sh tu n1 n2 n3 n4 n5 n6 n7 n8 t1 t2 t3 t4 t5 t6 t7 t8 jg pb lw him zj9l zb9l zl9l fso fmi fpa fki fmo fsz frd x19t2 x19t3 x19t4 x19t5 x19t6 x19t7 x19t8 H.size (by first | exact hjg | assumption | omega) (by first | exact hpb | assumption | omega)) (cwV 0 hts gX5_soled_X5_think rfl rfl rfl (by decide +kernel) ⟨Nat.le_of_ble_eq_true rfl, Nat.le_of_ble_eq_true rfl⟩) ⟨gPre_blind, va_recv hK hPc (ci := 5) (q0 := 0) rfl rfl, fun U hU hW => gPre_of hU hW hK hPc hDc⟩ rfl rfl hl.1 rfl (lv_room (Nat.le_of_ble_eq_true rfl)) dX5_soled_27 ⟨Nat.le_of_ble_eq_true rfl, Nat.le_of_ble_eq_true rfl⟩) hS (fun q _ h => hFc q h) hFc (fun u t H locs ht hvm w_8 hB hz1 hk1 hS => ?_)
          obtain ⟨hP1, hK1, hD1⟩ := hB
          rw [ht] at hP1
          have hz9 : gPD G (va_A _ _) [zo5 h0 tt rd nw th kp sh tu him, zo0 nw tt n1 n2 n3 n4 n5 n6 n7 n8 (nI jg) (nI pb) (nI lw), zi G n2 4 fso, zi G n3 4 fmi, zi G n4 4 fpa, zi G n5 6 fki, zi G n6 6 fmo, zi G n7 6 fsz, zi G n8 6 frd, zo0 th tt t1 t2 t3 t4 t5 t6 t7 t8 (nI jg) (nI pb) (nI lw), zi G t2 4 fso, zi G t3 4 fmi, zi G t4 4 fpa, zi G t5 6 fki, zi G t6 6 fmo, zi G t7 6 fsz, zi G t8 6 frd] H := ⟨hP1, hD1⟩
          have hP1 := hz9.1
          have hD1 := hz9.2
          have hz9 : gPD G A [zi G t1 6 x19t1, zo3 tt co en sk wr (nI tx), zr G co 6 fc, zr G en 6 fe, zi G ct 160 fct, zi G et 3 (nF fet), zi G sk 32 x19sk, zo2 sh qn qo ql, zr G qn 4 fn, zi G qo 4 fqo, zi G ql 4 (nF fql), zi G rr 40 frr, zo5 h0 tt rd nw th kp sh tu him, zo0 nw tt n1 n2 n3 n4 n5 n6 n7 n8 (nI jg) (nI pb) (nI lw), zi G n2 4 fso, zi G n3 4 fmi, zi G n4 4 fpa, zi G n5 6 fki, zi G n6 6 fmo, zi G n7 6 fsz, zi G n8 6 frd, zo0 th tt t1 t2 t3 t4 t5 t6 t7 t8 (nI jg) (nI pb) (nI lw), zi G t2 4 fso, zi G t3 4 fmi, zi G t4 4 fpa, zi G t5 6 fki, zi G t6 6 fmo, zi G t7 6 fsz, zi G t8 6 frd] H := gJoin hP hD hk1 hFc hP1 hD1 [22, 23, 0, 1, 2, 3, 4, 5, 6, 7, 9, 10, 11, 12, 13, 14, 15] [8, 16, 17, 18, 19, 20, 21, 24, 25, 26, 27, 28] rfl rfl rfl (by decide +kernel) (by decide +kernel)
          have hP := hz9.1
          have hD := hz9.2
          refine lv_aload_n hx hb dX5_soled_30 rfl (lv_at hl 3 rfl) ?_
          refine va_get (D := G.1) (ci := 5) (v := .ref th) (C := RX5) (T := TX5) (N := 8) hx hb hts hiX5 hown hK hP 12 rfl rfl 3 (by decide +kernel) kf32 (fun _ h9 => h9) rfl dX5_soled_31 ?_
          refine va_get (D := G.1) (ci := 0) (v := .ref t2) (C := RX0) (T := TX0) (N := 12) hx hb hts hiX0 hown hK hP 21 rfl rfl 2 (by decide +kernel) kf98 (fun _ h9 => h9) rfl dX5_soled_34 ?_
          refine lv_iload_n hx hb dX5_soled_37 rfl (lv_at hl 5 rfl) ?_
          refine lv_topi (fun v_9 ev_9 => ?_)
          have ev_9 : v_9 = nI (nC v1) := ev_9.trans hv_4
          subst ev_9
          refine lv_iload hx hb dX5_soled_38 (lv_at hl 0 rfl) ?_
          refine va_iast (D := G.1) hx hb hK hP hD hS 22 0 rfl rfl (i := (nI (nC v1))) (x := (nI w19)) (vp_in_nI (by omega) (by omega)) dX5_soled_40 (fun H locs hP hD hS => ?_)
          have hz9 : gPD G A [zi G t1 6 x19t1, zo3 tt co en sk wr (nI tx), zr G co 6 fc, zr G en 6 fe, zi G ct 160 fct, zi G et 3 (nF fet), zi G sk 32 x19sk, zo2 sh qn qo ql, zr G qn 4 fn, zi G qo 4 fqo, zi G ql 4 (nF fql), zi G rr 40 frr, zo5 h0 tt rd nw th kp sh tu him, zo0 nw tt n1 n2 n3 n4 n5 n6 n7 n8 (nI jg) (nI pb) (nI lw), zi G n2 4 fso, zi G n3 4 fmi, zi G n4 4 fpa, zi G n5 6 fki, zi G n6 6 fmo, zi G n7 6 fsz, zi G n8 6 frd, zo0 th tt t1 t2 t3 t4 t5 t6 t7 t8 (nI jg) (nI pb) (nI lw), zi G t2 4 (upd fso (nC v1) (nI w19)), zi G t3 4 fmi, zi G t4 4 fpa, zi G t5 6 fki, zi G t6 6 fmo, zi G t7 6 fsz, zi G t8 6 frd] H := ⟨by rw [nI_clamp (by omega)] at hP; exact hP, by rw [nI_clamp (by omega)] at hD; exact hD⟩
          have hP := hz9.1
          have hD := hz9.2
          refine lv_aload_n hx hb dX5_soled_41 rfl (lv_at hl 3 rfl) ?_
          refine lv_iload_n hx hb dX5_soled_42 rfl (lv_at hl 4 rfl) ?_
          refine lv_iload_n hx hb dX5_soled_43 rfl (lv_at hl 5 rfl) ?_
          refine lv_topi (fun v_10 ev_10 => ?_)
          have ev_10 : v_10 = nI (nC v1) := ev_10.trans hv_4
          subst ev_10
          have hz9 : gPD G A [zo5 h0 tt rd nw th kp sh tu him, zo0 th tt t1 t2 t3 t4 t5 t6 t7 t8 (nI jg) (nI pb) (nI lw), zi G t1 6 x19t1, zi G t2 4 (upd fso (nC v1) (nI w19)), zi G t3 4 fmi, zi G t4 4 fpa, zi G t5 6 fki, zi G t6 6 fmo, zi G t7 6 fsz, zi G t8 6 frd, zo3 tt co en sk wr (nI tx), zr G co 6 fc, zr G en 6 fe, zi G ct 160 fct, zi G et 3 (nF fet), zi G sk 32 x19sk, zo2 sh qn qo ql, zr G qn 4 fn, zi G qo 4 fqo, zi G ql 4 (nF fql), zi G rr 40 frr] H := ⟨hP.sub [12, 21, 0, 22, 23, 24, 25, 26, 27, 28, 1, 2, 3, 4, 5, 6, 7, 8, 9, 10, 11] rfl, hD.sub [12, 21, 0, 22, 23, 24, 25, 26, 27, 28, 1, 2, 3, 4, 5, 6, 7, 8, 9, 10, 11] (by decide +kernel) rfl⟩
          have hPc := hz9.1
          have hDc := hz9.2
          have hFc := gFree hPc hD hS hA [12, 21, 0, 22, 23, 24, 25, 26, 27, 28, 1, 2, 3, 4, 5, 6, 7, 8, 9, 10, 11] rfl
          refine va_calli (va_runV (As := [.int (nI sn), .int (nI (nC v1))]) (rest := []) ⟨hx, hb, hml, hown, hts⟩ (c_X5_firstOtherwise l G h0 tt rd nw th kp sh tu t1 t2 t3 t4 t5 t6 t7 t8 co en sk ct et qn qo ql rr lw tx him wr (nI jg) (nI pb) fc fe fn fet fql x19t1 (upd fso (nC v1) (nI w19)) fmi fpa fki fmo fsz frd fct x19sk fqo frr sn (nC v1) pb H.size (by first | exact hsn | assumption | omega) (by first | exact hrw | assumption | omega) (by first | exact hql | assumption | omega) (by first | exact hj | assumption | omega) (hvl) (hpb) (by first | exact htn | assumption | omega) (by first | exact hc | assumption | omega) (by first | exact he | assumption | omega) (by first | exact hwx | assumption | omega)) (cwV 2 hts gX5_soled_X5_firstOtherwise rfl rfl rfl (by decide +kernel) ⟨Nat.le_of_ble_eq_true rfl, Nat.le_of_ble_eq_true rfl⟩) ⟨gPre_blind, va_recv hK hPc (ci := 5) (q0 := 0) rfl rfl, fun U hU hW => gPre_of hU hW hK hPc hDc⟩ rfl rfl hl.1 rfl (lv_room (Nat.le_of_ble_eq_true rfl)) dX5_soled_44 ⟨Nat.le_of_ble_eq_true rfl, Nat.le_of_ble_eq_true rfl⟩) hS (fun q _ h => hFc q h) hFc (fun r_11 u t H locs ht hvm w_12 hB hz1 hk1 hS => ?_)
          obtain ⟨yt1_13, yt2_14, yt3_15, yt4_16, yt5_17, yt6_18, yt7_19, yt8_20, ysk_21⟩ := u
          obtain ⟨hP1, hK1, hD1⟩ := hB
          rw [ht] at hP1
          have hz9 : gPD G (va_A _ _) [zo5 h0 tt rd nw th kp sh tu him, zo0 th tt t1 t2 t3 t4 t5 t6 t7 t8 (nI jg) (nI pb) (nI lw), zi G t1 6 yt1_13, zi G t2 4 yt2_14, zi G t3 4 yt3_15, zi G t4 4 yt4_16, zi G t5 6 yt5_17, zi G t6 6 yt6_18, zi G t7 6 yt7_19, zi G t8 6 yt8_20, zo3 tt co en sk wr (nI tx), zr G co 6 fc, zr G en 6 fe, zi G ct 160 fct, zi G et 3 (nF fet), zi G sk 32 ysk_21, zo2 sh qn qo ql, zr G qn 4 fn, zi G qo 4 fqo, zi G ql 4 (nF fql), zi G rr 40 frr] H := ⟨hP1, hD1⟩
          have hP1 := hz9.1
          have hD1 := hz9.2
          have w_12 : r_11 = m_X5_firstOtherwise fet fql (upd fso (nC v1) (nI w19)) fmi fpa fki fmo fsz frd fct frr sn (nC v1) := w_12
          have hz9 : gPD G A [zo0 nw tt n1 n2 n3 n4 n5 n6 n7 n8 (nI jg) (nI pb) (nI lw), zi G n2 4 fso, zi G n3 4 fmi, zi G n4 4 fpa, zi G n5 6 fki, zi G n6 6 fmo, zi G n7 6 fsz, zi G n8 6 frd, zo5 h0 tt rd nw th kp sh tu him, zo0 th tt t1 t2 t3 t4 t5 t6 t7 t8 (nI jg) (nI pb) (nI lw), zi G t1 6 yt1_13, zi G t2 4 yt2_14, zi G t3 4 yt3_15, zi G t4 4 yt4_16, zi G t5 6 yt5_17, zi G t6 6 yt6_18, zi G t7 6 yt7_19, zi G t8 6 yt8_20, zo3 tt co en sk wr (nI tx), zr G co 6 fc, zr G en 6 fe, zi G ct 160 fct, zi G et 3 (nF fet), zi G sk 32 ysk_21, zo2 sh qn qo ql, zr G qn 4 fn, zi G qo 4 fqo, zi G ql 4 (nF fql), zi G rr 40 frr] H := gJoin hP hD hk1 hFc hP1 hD1 [12, 21, 0, 22, 23, 24, 25, 26, 27, 28, 1, 2, 3, 4, 5, 6, 7, 8, 9, 10, 11] [13, 14, 15, 16, 17, 18, 19, 20] rfl rfl rfl (by decide +kernel) (by decide +kernel)
          have hP := hz9.1
          have hD := hz9.2
          subst w_12
          refine lv_iconst (v := -1) hx hb dX5_soled_47 (by decide +kernel) ?_
          refine lv_icmp_ne (tgt := 60) hx hb dX5_soled_48 (by decide +kernel) (fun c_22 => ?_) (fun c_22 => ?_)
          · skip
            refine lv_iinc (v := nI (w19 + 1)) (lv' := [zI 5 (nI (w19 + 1)), zI 4 bi, zI 3 (m_X5_refusalOf_A jg pb fql fqo frr sn v1), zR 0 h0, zI 1 (nI sn), zI 2 v1]) hx hb dX5_soled_60 hl (k := 0) rfl (nI_add w19 1) (by decide +kernel) rfl (fun ls hl => ?_)
            refine lv_goto (tgt := 19) hx hb dX5_soled_63 (by decide +kernel) ?_
            exact ih9_19 (w19 + 1) bi yt1_13 ysk_21 yt2_14 yt3_15 yt4_16 yt5_17 yt6_18 yt7_19 yt8_20 (nI jg) (nI pb) (nI lw) (by omega) (Eq.trans (Eq.symm ((congrArg (fun z9 => p_X5_soled_A_19 fet fql fso fmi fpa fki fmo fsz frd fct frr sn v1 (z9) w19 bi) (show 21 - w19 = 21 - (w19 + 1) + 1 by omega)).trans (by show p_X5_soled_A_19 fet fql fso fmi fpa fki fmo fsz frd fct frr sn v1 (21 - (w19 + 1) + 1) w19 bi = _; rw [p_X5_soled_A_19, if_neg c_22]))) R19) (by omega) _ _ (hP.sub [1, 2, 3, 4, 5, 6, 7, 9, 10, 11, 12, 13, 14, 15, 16, 17, 18, 19, 20, 21, 22, 23, 8, 0, 24, 25, 26, 27, 28] rfl) (hD.sub [1, 2, 3, 4, 5, 6, 7, 9, 10, 11, 12, 13, 14, 15, 16, 17, 18, 19, 20, 21, 22, 23, 8, 0, 24, 25, 26, 27, 28] (by decide +kernel) rfl) hS ls (lv_sub hl [0, 1, 2, 3, 4, 5] rfl)
          · skip
            refine lv_iload hx hb dX5_soled_51 (lv_at hl 1 rfl) ?_
            refine lv_iconst (v := 1) hx hb dX5_soled_53 (by decide +kernel) ?_
            refine lv_iload hx hb dX5_soled_54 (lv_at hl 0 rfl) ?_
            refine lv_ishl hx hb dX5_soled_56 ?_
            refine lv_ior hx hb dX5_soled_57 ?_
            refine lv_istore (lv' := [zI 4 (bi ||| (1 <<< ((nI w19) &&& 31))), zI 5 (nI w19), zI 3 (m_X5_refusalOf_A jg pb fql fqo frr sn v1), zR 0 h0, zI 1 (nI sn), zI 2 v1]) hx hb dX5_soled_58 hl (by decide +kernel) rfl (fun ls hl => ?_)
            refine lv_iinc (v := nI (w19 + 1)) (lv' := [zI 5 (nI (w19 + 1)), zI 4 (bi ||| (1 <<< ((nI w19) &&& 31))), zI 3 (m_X5_refusalOf_A jg pb fql fqo frr sn v1), zR 0 h0, zI 1 (nI sn), zI 2 v1]) hx hb dX5_soled_60 hl (k := 1) rfl (nI_add w19 1) (by decide +kernel) rfl (fun ls hl => ?_)
            refine lv_goto (tgt := 19) hx hb dX5_soled_63 (by decide +kernel) ?_
            exact ih9_19 (w19 + 1) (bi ||| (1 <<< ((nI w19) &&& 31))) yt1_13 ysk_21 yt2_14 yt3_15 yt4_16 yt5_17 yt6_18 yt7_19 yt8_20 (nI jg) (nI pb) (nI lw) (by omega) (Eq.trans (Eq.symm ((congrArg (fun z9 => p_X5_soled_A_19 fet fql fso fmi fpa fki fmo fsz frd fct frr sn v1 (z9) w19 bi) (show 21 - w19 = 21 - (w19 + 1) + 1 by omega)).trans (by show p_X5_soled_A_19 fet fql fso fmi fpa fki fmo fsz frd fct frr sn v1 (21 - (w19 + 1) + 1) w19 bi = _; rw [p_X5_soled_A_19, if_pos c_22]))) R19) (by omega) _ _ (hP.sub [1, 2, 3, 4, 5, 6, 7, 9, 10, 11, 12, 13, 14, 15, 16, 17, 18, 19, 20, 21, 22, 23, 8, 0, 24, 25, 26, 27, 28] rfl) (hD.sub [1, 2, 3, 4, 5, 6, 7, 9, 10, 11, 12, 13, 14, 15, 16, 17, 18, 19, 20, 21, 22, 23, 8, 0, 24, 25, 26, 27, 28] (by decide +kernel) rfl) hS ls (lv_sub hl [0, 1, 2, 3, 4, 5] rfl)
    exact loop_19 (21 - 0 + 1) 0 0 unm fsk uso umi upa uki umo usz urd tj tb tl (by omega) (rfl) (by omega) _ _ (hP.sub [0, 1, 2, 3, 4, 5, 6, 7, 8, 9, 10, 11, 12, 13, 14, 15, 16, 17, 18, 19, 20, 21, 22, 23, 24, 25, 26, 27, 28] rfl) (hD.sub [0, 1, 2, 3, 4, 5, 6, 7, 8, 9, 10, 11, 12, 13, 14, 15, 16, 17, 18, 19, 20, 21, 22, 23, 24, 25, 26, 27, 28] (by decide +kernel) rfl) hS ls (lv_sub hl [0, 1, 2, 3, 4, 5] rfl)
  · skip
    refine lv_iload_n hx hb dX5_soled_11 rfl (lv_at hl 0 rfl) ?_
    have hpost : (fun (r : Int32) (u : Int32 × Int32 × Int32 × (Nat → Int32) × (Nat → Int32) × (Nat → Int32) × (Nat → Int32) × (Nat → Int32) × (Nat → Int32) × (Nat → Int32) × (Nat → Int32) × (Nat → Int32)) => match u with | (zj9, zb9, zl9, yt1, yt2, yt3, yt4, yt5, yt6, yt7, yt8, ysk) => r = m_X5_soled_A jg pb fet fql fso fmi fpa fki fmo fsz frd fct fqo frr sn v1) (m_X5_refusalOf_A jg pb fql fqo frr sn v1) (tj, tb, tl, unm, uso, umi, upa, uki, umo, usz, urd, fsk) := (show m_X5_soled_A jg pb fet fql fso fmi fpa fki fmo fsz frd fct fqo frr sn v1 = (m_X5_refusalOf_A jg pb fql fqo frr sn v1) from by unfold m_X5_soled_A; rw [if_neg c_3]).symm
    exact W.iret (v := (m_X5_refusalOf_A jg pb fql fqo frr sn v1)) hx hb hr (fun t ht hW => ⟨⟨(m_X5_refusalOf_A jg pb fql fqo frr sn v1), (tj, tb, tl, unm, uso, umi, upa, uki, umo, usz, urd, fsk), rfl, hpost, by rw [ht]; exact hP.sub [22, 23, 0, 1, 2, 3, 4, 5, 6, 7, 8, 9, 10, 11, 12, 13, 14, 15, 16, 17, 18, 19, 20, 21, 24, 25, 26, 27, 28] rfl, va_K.moved hW.alike hK, hD.sub [22, 23, 0, 1, 2, 3, 4, 5, 6, 7, 8, 9, 10, 11, 12, 13, 14, 15, 16, 17, 18, 19, 20, 21, 24, 25, 26, 27, 28] (by decide +kernel) rfl⟩, hS.F ht⟩) hS.2.2 dX5_soled_12
abbrev q_X5_soled_B (G : gG) (E : gS) (h0 tt rd nw th kp sh tu qn qo ql : Nat) (him : Int32) (v0 : Int32) (v1 : Int32) (A : Nat → Prop) : Array Value → State → Outcome → State → Prop := va_Qi (fun (r : Int32) (u : Unit) => match u with | _ => r = -2) (fun (u : Unit) t => match u with | _ => va_P G.1 vwCl [zo5 h0 tt rd nw th kp sh tu him, zo2 sh qn qo ql] t.heap ∧ gK G t ∧ va_D A [zo5 h0 tt rd nw th kp sh tu him, zo2 sh qn qo ql]) A
set_option maxHeartbeats 4000000 in
set_option maxRecDepth 100000 in
theorem c_X5_soled_B (l : Launch) (G : gG) (E : gS) (h0 tt rd nw th kp sh tu qn qo ql : Nat) (him : Int32) (v0 : Int32) (v1 : Int32) (sz : Nat) (hno : ¬ (0 ≤ v0 ∧ v0 ≤ 3)) : Met l yX5_soled wsX5_soled ({ frames := 4, cells := 0, slots := 0, locals := 89 }) (gPreE G E [.ref h0, .int v0, .int v1] [zo5 h0 tt rd nw th kp sh tu him, zo2 sh qn qo ql] sz) (q_X5_soled_B G E h0 tt rd nw th kp sh tu qn qo ql him v0 v1 (va_A [zo5 h0 tt rd nw th kp sh tu him, zo2 sh qn qo ql] sz)) 0 0 (va_A [zo5 h0 tt rd nw th kp sh tu him, zo2 sh qn qo ql] sz) := by
  refine Met.ofW (cc := cX5_soled) (maxL := 6) (ret := (some .int)) (by decide +kernel) rfl ?_
  intro p e s m args below meth c s₁ B hml hv
  obtain ⟨rfl, hsz, hP, hK, hD0, hE⟩ := hv
  have hx := B.exec
  have hb := B.bytes
  have hr := B.returns
  have hts := atoms_spec (ws := wsX5_soled) B.pre
  have hown : s.vm.findClass RX5 = some m.cls := findClass_of_methodNamed B.named
  have hlocks := B.notSynchronized
  subst hsz
  have hD := hD0.self (sz := s.heap.size)
  generalize hAe : va_A [zo5 h0 tt rd nw th kp sh tu him, zo2 sh qn qo ql] s.heap.size = A at hD hE ⊢
  have hA : ∀ q : Nat, s.heap.size ≤ q → A q := fun q h => by rw [← hAe]; exact Or.inr h
  have hS : va_S A s.heap s.heap [] := va_S.rf
  have hz9 : gPD G A [zo5 h0 tt rd nw th kp sh tu him, zo2 sh qn qo ql] s.heap := ⟨hP, hD⟩
  have hP := hz9.1
  have hD := hz9.2
  have hl := lv_entry ([.ref h0, .int v0, .int v1]) (n := 6) (Nat.le_of_ble_eq_true rfl)
  rw [lg_entry_eq]
  generalize (lg_sl ([.ref h0, .int v0, .int v1]) ++ List.replicate (6 - (lg_sl ([.ref h0, .int v0, .int v1])).length) Slot.unset).toArray = ls at hl ⊢
  have hl : lv_has ls 6 [zR 0 h0, zI 1 v0, zI 2 v1] := hl
  refine lv_aload_n hx hb dX5_soled_0 rfl (lv_at hl 0 rfl) ?_
  refine lv_iload_n hx hb dX5_soled_1 rfl (lv_at hl 1 rfl) ?_
  refine lv_iload_n hx hb dX5_soled_2 rfl (lv_at hl 2 rfl) ?_
  have hz9 : gPD G A [zo5 h0 tt rd nw th kp sh tu him, zo2 sh qn qo ql] s.heap := ⟨hP.sub [0, 1] rfl, hD.sub [0, 1] (by decide +kernel) rfl⟩
  have hPc := hz9.1
  have hDc := hz9.2
  have hFc := gFree hPc hD hS hA [0, 1] rfl
  refine va_calli (va_runV (As := [.int v0, .int v1]) (rest := []) ⟨hx, hb, hml, hown, hts⟩ (c_X5_refusalOf_B l G E h0 tt rd nw th kp sh tu qn qo ql him v0 v1 s.heap.size (by first | exact hno | assumption | omega)) (cwV 2 hts gX5_soled_X5_refusalOf rfl rfl rfl (by decide +kernel) ⟨Nat.le_of_ble_eq_true rfl, Nat.le_of_ble_eq_true rfl⟩) ⟨gPreE_blind, va_recv hK hPc (ci := 5) (q0 := 0) rfl rfl, fun U hU hW => gPreE_of hU hW hK hPc hDc hE hS hFc⟩ rfl rfl hl.1 rfl (lv_room (Nat.le_of_ble_eq_true rfl)) dX5_soled_3 ⟨Nat.le_of_ble_eq_true rfl, Nat.le_of_ble_eq_true rfl⟩) hS (fun q _ h => hFc q h) hFc (fun r_1 u t H locs ht hvm w_2 hB hz1 hk1 hS => ?_)
  obtain ⟨hP1, hK1, hD1⟩ := hB
  rw [ht] at hP1
  have hz9 : gPD G (va_A _ s.heap.size) [zo5 h0 tt rd nw th kp sh tu him, zo2 sh qn qo ql] H := ⟨hP1, hD1⟩
  have hP1 := hz9.1
  have hD1 := hz9.2
  have w_2 : r_1 = -2 := w_2
  have hz9 : gPD G A [zo5 h0 tt rd nw th kp sh tu him, zo2 sh qn qo ql] H := gJoin hP hD hk1 hFc hP1 hD1 [0, 1] [] rfl rfl rfl (by decide +kernel) (by decide +kernel)
  have hP := hz9.1
  have hD := hz9.2
  subst w_2
  refine lv_istore_n (lv' := [zI 3 (-2), zR 0 h0, zI 1 v0, zI 2 v1]) hx hb dX5_soled_6 rfl hl (by decide +kernel) rfl (fun ls hl => ?_)
  refine lv_iload_n hx hb dX5_soled_7 rfl (lv_at hl 0 rfl) ?_
  refine lv_if_eq (tgt := 13) hx hb dX5_soled_8 (by decide +kernel) (fun c_3 => ?_) (fun c_3 => ?_)
  · exact absurd c_3 (by decide +kernel)
  refine lv_iload_n hx hb dX5_soled_11 rfl (lv_at hl 0 rfl) ?_
  have hP9 := hP.sub (ws' := [zo5 h0 tt rd nw th kp sh tu him, zo2 sh qn qo ql]) [0, 1] rfl
  have hD9 := hD.sub (ws' := [zo5 h0 tt rd nw th kp sh tu him, zo2 sh qn qo ql]) [0, 1] (by decide +kernel) rfl
  have hpost : (fun (r : Int32) (u : Unit) => match u with | _ => r = -2) (-2) () := rfl
  exact W.iret (v := (-2)) hx hb hr (fun t ht hW => ⟨⟨(-2), (), rfl, hpost, by rw [ht]; exact hP9, va_K.moved hW.alike hK, hD9⟩, hS.F ht⟩) hS.2.2 dX5_soled_12
noncomputable def p_X5_kinds_A_85 (fet : Nat → Nat) (fql : Nat → Nat) (fso : Nat → Int32) (fmi : Nat → Int32) (fpa : Nat → Int32) (fki : Nat → Int32) (fmo : Nat → Int32) (fsz : Nat → Int32) (frd : Nat → Int32) (fct : Nat → Int32) (frr : Nat → Int32) (sn : Nat) (v1 : Int32) (v2 : Int32) : Nat → Nat → Int32 → Nat × Int32
  | 0, w85, bi => (w85, bi)
  | q9 + 1, w85, bi => if (m_X5_firstOtherwise fet fql fso fmi fpa fki (upd fmo (nC v2) (nI w85)) fsz frd fct frr sn (nC v1)) = (-1) then p_X5_kinds_A_85 fet fql fso fmi fpa fki fmo fsz frd fct frr sn v1 v2 q9 (w85 + 1) (bi ||| (1 <<< ((nI w85) &&& 31))) else p_X5_kinds_A_85 fet fql fso fmi fpa fki fmo fsz frd fct frr sn v1 v2 q9 (w85 + 1) bi
noncomputable def g_X5_kinds_A_85 (fet : Nat → Nat) (fql : Nat → Nat) (fso : Nat → Int32) (fmi : Nat → Int32) (fpa : Nat → Int32) (fki : Nat → Int32) (fmo : Nat → Int32) (fsz : Nat → Int32) (frd : Nat → Int32) (fct : Nat → Int32) (frr : Nat → Int32) (sn : Nat) (v1 : Int32) (v2 : Int32) : Nat × Int32 := p_X5_kinds_A_85 fet fql fso fmi fpa fki fmo fsz frd fct frr sn v1 v2 (10 - 0) 0 0
noncomputable def p_X5_kinds_A_85q1 (fet : Nat → Nat) (fql : Nat → Nat) (fso : Nat → Int32) (fmi : Nat → Int32) (fpa : Nat → Int32) (fki : Nat → Int32) (fmo : Nat → Int32) (fsz : Nat → Int32) (frd : Nat → Int32) (fct : Nat → Int32) (frr : Nat → Int32) (sn : Nat) (v1 : Int32) (v2 : Int32) : Nat → Nat → Int32 → Nat × Int32
  | 0, w85, bi => (w85, bi)
  | q9 + 1, w85, bi => if (m_X5_firstOtherwise fet fql fso fmi fpa (upd fki (nC v2) (nI w85)) fmo fsz frd fct frr sn (nC v1)) = (-1) then p_X5_kinds_A_85q1 fet fql fso fmi fpa fki fmo fsz frd fct frr sn v1 v2 q9 (w85 + 1) (bi ||| (1 <<< ((nI w85) &&& 31))) else p_X5_kinds_A_85q1 fet fql fso fmi fpa fki fmo fsz frd fct frr sn v1 v2 q9 (w85 + 1) bi
noncomputable def g_X5_kinds_A_85q1 (fet : Nat → Nat) (fql : Nat → Nat) (fso : Nat → Int32) (fmi : Nat → Int32) (fpa : Nat → Int32) (fki : Nat → Int32) (fmo : Nat → Int32) (fsz : Nat → Int32) (frd : Nat → Int32) (fct : Nat → Int32) (frr : Nat → Int32) (sn : Nat) (v1 : Int32) (v2 : Int32) : Nat × Int32 := p_X5_kinds_A_85q1 fet fql fso fmi fpa fki fmo fsz frd fct frr sn v1 v2 (6 - 0) 0 0
noncomputable def m_X5_kinds_A (jg : Nat) (pb : Nat) (fet : Nat → Nat) (fql : Nat → Nat) (fso : Nat → Int32) (fmi : Nat → Int32) (fpa : Nat → Int32) (fki : Nat → Int32) (fmo : Nat → Int32) (fsz : Nat → Int32) (frd : Nat → Int32) (fct : Nat → Int32) (fqo : Nat → Int32) (frr : Nat → Int32) (sn : Nat) (v1 : Int32) (v2 : Int32) (v3 : Int32) : Int32 := if (m_X5_refusalOf_A jg pb fql fqo frr sn v1) = 0 then (if (mHas pb v2) = true then (if 0 ≤ v3 ∧ v3 ≤ 1 then (if (nI (nC v3)) = 0 then ((g_X5_kinds_A_85q1 fet fql fso fmi fpa fki fmo fsz frd fct frr sn v1 v2).2) else ((g_X5_kinds_A_85 fet fql fso fmi fpa fki fmo fsz frd fct frr sn v1 v2).2)) else -7) else -6) else m_X5_refusalOf_A jg pb fql fqo frr sn v1
abbrev q_X5_kinds_A (G : gG) (E : gS) (h0 tt rd nw th kp sh tu n1 n2 n3 n4 n5 n6 n7 n8 t1 t2 t3 t4 t5 t6 t7 t8 co en sk ct et qn qo ql rr : Nat) (jg : Nat) (pb : Nat) (lw : Nat) (tx : Nat) (him : Int32) (wr : Int32) (tj : Int32) (tb : Int32) (tl : Int32) (fc : Nat → Option Nat) (fe : Nat → Option Nat) (fn : Nat → Option Nat) (fet : Nat → Nat) (fql : Nat → Nat) (fso : Nat → Int32) (fmi : Nat → Int32) (fpa : Nat → Int32) (fki : Nat → Int32) (fmo : Nat → Int32) (fsz : Nat → Int32) (frd : Nat → Int32) (unm : Nat → Int32) (uso : Nat → Int32) (umi : Nat → Int32) (upa : Nat → Int32) (uki : Nat → Int32) (umo : Nat → Int32) (usz : Nat → Int32) (urd : Nat → Int32) (fct : Nat → Int32) (fsk : Nat → Int32) (fqo : Nat → Int32) (frr : Nat → Int32) (sn : Nat) (v1 : Int32) (v2 : Int32) (v3 : Int32) (A : Nat → Prop) : Array Value → State → Outcome → State → Prop := va_Qi (fun (r : Int32) (u : Int32 × Int32 × Int32 × (Nat → Int32) × (Nat → Int32) × (Nat → Int32) × (Nat → Int32) × (Nat → Int32) × (Nat → Int32) × (Nat → Int32) × (Nat → Int32) × (Nat → Int32)) => match u with | (zj9, zb9, zl9, yt1, yt2, yt3, yt4, yt5, yt6, yt7, yt8, ysk) => r = m_X5_kinds_A jg pb fet fql fso fmi fpa fki fmo fsz frd fct fqo frr sn v1 v2 v3) (fun (u : Int32 × Int32 × Int32 × (Nat → Int32) × (Nat → Int32) × (Nat → Int32) × (Nat → Int32) × (Nat → Int32) × (Nat → Int32) × (Nat → Int32) × (Nat → Int32) × (Nat → Int32)) t => match u with | (zj9, zb9, zl9, yt1, yt2, yt3, yt4, yt5, yt6, yt7, yt8, ysk) => va_P G.1 vwCl [zo5 h0 tt rd nw th kp sh tu him, zo0 nw tt n1 n2 n3 n4 n5 n6 n7 n8 (nI jg) (nI pb) (nI lw), zi G n2 4 fso, zi G n3 4 fmi, zi G n4 4 fpa, zi G n5 6 fki, zi G n6 6 fmo, zi G n7 6 fsz, zi G n8 6 frd, zo0 th tt t1 t2 t3 t4 t5 t6 t7 t8 zj9 zb9 zl9, zi G t1 6 yt1, zi G t2 4 yt2, zi G t3 4 yt3, zi G t4 4 yt4, zi G t5 6 yt5, zi G t6 6 yt6, zi G t7 6 yt7, zi G t8 6 yt8, zo3 tt co en sk wr (nI tx), zr G co 6 fc, zr G en 6 fe, zi G ct 160 fct, zi G et 3 (nF fet), zi G sk 32 ysk, zo2 sh qn qo ql, zr G qn 4 fn, zi G qo 4 fqo, zi G ql 4 (nF fql), zi G rr 40 frr] t.heap ∧ gK G t ∧ va_D A [zo5 h0 tt rd nw th kp sh tu him, zo0 nw tt n1 n2 n3 n4 n5 n6 n7 n8 (nI jg) (nI pb) (nI lw), zi G n2 4 fso, zi G n3 4 fmi, zi G n4 4 fpa, zi G n5 6 fki, zi G n6 6 fmo, zi G n7 6 fsz, zi G n8 6 frd, zo0 th tt t1 t2 t3 t4 t5 t6 t7 t8 zj9 zb9 zl9, zi G t1 6 yt1, zi G t2 4 yt2, zi G t3 4 yt3, zi G t4 4 yt4, zi G t5 6 yt5, zi G t6 6 yt6, zi G t7 6 yt7, zi G t8 6 yt8, zo3 tt co en sk wr (nI tx), zr G co 6 fc, zr G en 6 fe, zi G ct 160 fct, zi G et 3 (nF fet), zi G sk 32 ysk, zo2 sh qn qo ql, zr G qn 4 fn, zi G qo 4 fqo, zi G ql 4 (nF fql), zi G rr 40 frr]) A
set_option maxHeartbeats 4000000 in
set_option maxRecDepth 100000 in
theorem c_X5_kinds_A (l : Launch) (G : gG) (E : gS) (h0 tt rd nw th kp sh tu n1 n2 n3 n4 n5 n6 n7 n8 t1 t2 t3 t4 t5 t6 t7 t8 co en sk ct et qn qo ql rr : Nat) (jg : Nat) (pb : Nat) (lw : Nat) (tx : Nat) (him : Int32) (wr : Int32) (tj : Int32) (tb : Int32) (tl : Int32) (fc : Nat → Option Nat) (fe : Nat → Option Nat) (fn : Nat → Option Nat) (fet : Nat → Nat) (fql : Nat → Nat) (fso : Nat → Int32) (fmi : Nat → Int32) (fpa : Nat → Int32) (fki : Nat → Int32) (fmo : Nat → Int32) (fsz : Nat → Int32) (frd : Nat → Int32) (unm : Nat → Int32) (uso : Nat → Int32) (umi : Nat → Int32) (upa : Nat → Int32) (uki : Nat → Int32) (umo : Nat → Int32) (usz : Nat → Int32) (urd : Nat → Int32) (fct : Nat → Int32) (fsk : Nat → Int32) (fqo : Nat → Int32) (frr : Nat → Int32) (sn : Nat) (v1 : Int32) (v2 : Int32) (v3 : Int32) (sz : Nat) (hsn : sn < 4) (hrw : fn sn = some rr) (hql : ∀ q9, q9 < 4 → fql q9 ≤ 40) (htn : lw < tx ∧ tx ≤ 6) (hc : fc lw = some ct) (he : fe lw = some et) (hwx : mWx fct fet) (hjg : jg ≤ 4) (hpb : pb ≤ 6) : Met l yX5_kinds wsX5_kinds ({ frames := 6, cells := 0, slots := 0, locals := 441 }) (gPreE G E [.ref h0, .int (nI sn), .int v1, .int v2, .int v3] [zo5 h0 tt rd nw th kp sh tu him, zo0 nw tt n1 n2 n3 n4 n5 n6 n7 n8 (nI jg) (nI pb) (nI lw), zi G n2 4 fso, zi G n3 4 fmi, zi G n4 4 fpa, zi G n5 6 fki, zi G n6 6 fmo, zi G n7 6 fsz, zi G n8 6 frd, zo0 th tt t1 t2 t3 t4 t5 t6 t7 t8 tj tb tl, zi G t1 6 unm, zi G t2 4 uso, zi G t3 4 umi, zi G t4 4 upa, zi G t5 6 uki, zi G t6 6 umo, zi G t7 6 usz, zi G t8 6 urd, zo3 tt co en sk wr (nI tx), zr G co 6 fc, zr G en 6 fe, zi G ct 160 fct, zi G et 3 (nF fet), zi G sk 32 fsk, zo2 sh qn qo ql, zr G qn 4 fn, zi G qo 4 fqo, zi G ql 4 (nF fql), zi G rr 40 frr] sz) (q_X5_kinds_A G E h0 tt rd nw th kp sh tu n1 n2 n3 n4 n5 n6 n7 n8 t1 t2 t3 t4 t5 t6 t7 t8 co en sk ct et qn qo ql rr jg pb lw tx him wr tj tb tl fc fe fn fet fql fso fmi fpa fki fmo fsz frd unm uso umi upa uki umo usz urd fct fsk fqo frr sn v1 v2 v3 (va_A [zo5 h0 tt rd nw th kp sh tu him, zo0 nw tt n1 n2 n3 n4 n5 n6 n7 n8 (nI jg) (nI pb) (nI lw), zi G n2 4 fso, zi G n3 4 fmi, zi G n4 4 fpa, zi G n5 6 fki, zi G n6 6 fmo, zi G n7 6 fsz, zi G n8 6 frd, zo0 th tt t1 t2 t3 t4 t5 t6 t7 t8 tj tb tl, zi G t1 6 unm, zi G t2 4 uso, zi G t3 4 umi, zi G t4 4 upa, zi G t5 6 uki, zi G t6 6 umo, zi G t7 6 usz, zi G t8 6 urd, zo3 tt co en sk wr (nI tx), zr G co 6 fc, zr G en 6 fe, zi G ct 160 fct, zi G et 3 (nF fet), zi G sk 32 fsk, zo2 sh qn qo ql, zr G qn 4 fn, zi G qo 4 fqo, zi G ql 4 (nF fql), zi G rr 40 frr] sz)) 0 0 (va_A [zo5 h0 tt rd nw th kp sh tu him, zo0 nw tt n1 n2 n3 n4 n5 n6 n7 n8 (nI jg) (nI pb) (nI lw), zi G n2 4 fso, zi G n3 4 fmi, zi G n4 4 fpa, zi G n5 6 fki, zi G n6 6 fmo, zi G n7 6 fsz, zi G n8 6 frd, zo0 th tt t1 t2 t3 t4 t5 t6 t7 t8 tj tb tl, zi G t1 6 unm, zi G t2 4 uso, zi G t3 4 umi, zi G t4 4 upa, zi G t5 6 uki, zi G t6 6 umo, zi G t7 6 usz, zi G t8 6 urd, zo3 tt co en sk wr (nI tx), zr G co 6 fc, zr G en 6 fe, zi G ct 160 fct, zi G et 3 (nF fet), zi G sk 32 fsk, zo2 sh qn qo ql, zr G qn 4 fn, zi G qo 4 fqo, zi G ql 4 (nF fql), zi G rr 40 frr] sz) := by
  refine Met.ofW (cc := cX5_kinds) (maxL := 10) (ret := (some .int)) (by decide +kernel) rfl ?_
  intro p e s m args below meth c s₁ B hml hv
  obtain ⟨rfl, hsz, hP, hK, hD0, hE⟩ := hv
  have hx := B.exec
  have hb := B.bytes
  have hr := B.returns
  have hts := atoms_spec (ws := wsX5_kinds) B.pre
  have hown : s.vm.findClass RX5 = some m.cls := findClass_of_methodNamed B.named
  have hlocks := B.notSynchronized
  subst hsz
  have hD := hD0.self (sz := s.heap.size)
  generalize hAe : va_A [zo5 h0 tt rd nw th kp sh tu him, zo0 nw tt n1 n2 n3 n4 n5 n6 n7 n8 (nI jg) (nI pb) (nI lw), zi G n2 4 fso, zi G n3 4 fmi, zi G n4 4 fpa, zi G n5 6 fki, zi G n6 6 fmo, zi G n7 6 fsz, zi G n8 6 frd, zo0 th tt t1 t2 t3 t4 t5 t6 t7 t8 tj tb tl, zi G t1 6 unm, zi G t2 4 uso, zi G t3 4 umi, zi G t4 4 upa, zi G t5 6 uki, zi G t6 6 umo, zi G t7 6 usz, zi G t8 6 urd, zo3 tt co en sk wr (nI tx), zr G co 6 fc, zr G en 6 fe, zi G ct 160 fct, zi G et 3 (nF fet), zi G sk 32 fsk, zo2 sh qn qo ql, zr G qn 4 fn, zi G qo 4 fqo, zi G ql 4 (nF fql), zi G rr 40 frr] s.heap.size = A at hD hE ⊢
  have hA : ∀ q : Nat, s.heap.size ≤ q → A q := fun q h => by rw [← hAe]; exact Or.inr h
  have hS : va_S A s.heap s.heap [] := va_S.rf
  have hz9 : gPD G A [zo5 h0 tt rd nw th kp sh tu him, zo0 nw tt n1 n2 n3 n4 n5 n6 n7 n8 (nI jg) (nI pb) (nI lw), zi G n2 4 fso, zi G n3 4 fmi, zi G n4 4 fpa, zi G n5 6 fki, zi G n6 6 fmo, zi G n7 6 fsz, zi G n8 6 frd, zo0 th tt t1 t2 t3 t4 t5 t6 t7 t8 tj tb tl, zi G t1 6 unm, zi G t2 4 uso, zi G t3 4 umi, zi G t4 4 upa, zi G t5 6 uki, zi G t6 6 umo, zi G t7 6 usz, zi G t8 6 urd, zo3 tt co en sk wr (nI tx), zr G co 6 fc, zr G en 6 fe, zi G ct 160 fct, zi G et 3 (nF fet), zi G sk 32 fsk, zo2 sh qn qo ql, zr G qn 4 fn, zi G qo 4 fqo, zi G ql 4 (nF fql), zi G rr 40 frr] s.heap := ⟨hP, hD⟩
  have hP := hz9.1
  have hD := hz9.2
  have hl := lv_entry ([.ref h0, .int (nI sn), .int v1, .int v2, .int v3]) (n := 10) (Nat.le_of_ble_eq_true rfl)
  rw [lg_entry_eq]
  generalize (lg_sl ([.ref h0, .int (nI sn), .int v1, .int v2, .int v3]) ++ List.replicate (10 - (lg_sl ([.ref h0, .int (nI sn), .int v1, .int v2, .int v3])).length) Slot.unset).toArray = ls at hl ⊢
  have hl : lv_has ls 10 [zR 0 h0, zI 1 (nI sn), zI 2 v1, zI 3 v2, zI 4 v3] := hl
  have kf28 := hts (.fieldLink RX5 28 "PebbleInShoe" "now" "LPebbleInShoe$Court;") (by decide +kernel)
  have hiX5 := (by decide +kernel : ∀ w ∈ wsX50, w ∈ wsX5_kinds)
  have kf32 := hts (.fieldLink RX5 32 "PebbleInShoe" "thought" "LPebbleInShoe$Court;") (by decide +kernel)
  have kf131 := hts (.fieldLink RX5 131 "PebbleInShoe$Court" "more" "[I") (by decide +kernel)
  have hiX0 := (by decide +kernel : ∀ w ∈ wsX00, w ∈ wsX5_kinds)
  have kf128 := hts (.fieldLink RX5 128 "PebbleInShoe$Court" "kind" "[I") (by decide +kernel)
  refine lv_aload_n hx hb dX5_kinds_0 rfl (lv_at hl 0 rfl) ?_
  refine lv_iload_n hx hb dX5_kinds_1 rfl (lv_at hl 1 rfl) ?_
  refine lv_iload_n hx hb dX5_kinds_2 rfl (lv_at hl 2 rfl) ?_
  have hz9 : gPD G A [zo5 h0 tt rd nw th kp sh tu him, zo0 nw tt n1 n2 n3 n4 n5 n6 n7 n8 (nI jg) (nI pb) (nI lw), zo2 sh qn qo ql, zr G qn 4 fn, zi G qo 4 fqo, zi G ql 4 (nF fql), zi G rr 40 frr] s.heap := ⟨hP.sub [0, 1, 24, 25, 26, 27, 28] rfl, hD.sub [0, 1, 24, 25, 26, 27, 28] (by decide +kernel) rfl⟩
  have hPc := hz9.1
  have hDc := hz9.2
  have hFc := gFree hPc hD hS hA [0, 1, 24, 25, 26, 27, 28] rfl
  refine va_calli (va_runV (As := [.int (nI sn), .int v1]) (rest := []) ⟨hx, hb, hml, hown, hts⟩ (c_X5_refusalOf_A l G E h0 tt rd nw th kp sh tu n1 n2 n3 n4 n5 n6 n7 n8 qn qo ql rr jg pb lw him fn fql fqo frr sn v1 s.heap.size (by first | exact hsn | assumption | omega) (by first | exact hrw | assumption | omega) (by first | exact hql | assumption | omega) (by first | exact hjg | assumption | omega) (by first | exact hpb | assumption | omega)) (cwV 2 hts gX5_kinds_X5_refusalOf rfl rfl rfl (by decide +kernel) ⟨Nat.le_of_ble_eq_true rfl, Nat.le_of_ble_eq_true rfl⟩) ⟨gPreE_blind, va_recv hK hPc (ci := 5) (q0 := 0) rfl rfl, fun U hU hW => gPreE_of hU hW hK hPc hDc hE hS hFc⟩ rfl rfl hl.1 rfl (lv_room (Nat.le_of_ble_eq_true rfl)) dX5_kinds_3 ⟨Nat.le_of_ble_eq_true rfl, Nat.le_of_ble_eq_true rfl⟩) hS (fun q _ h => hFc q h) hFc (fun r_1 u t H locs ht hvm w_2 hB hz1 hk1 hS => ?_)
  obtain ⟨hP1, hK1, hD1⟩ := hB
  rw [ht] at hP1
  have hz9 : gPD G (va_A _ s.heap.size) [zo5 h0 tt rd nw th kp sh tu him, zo0 nw tt n1 n2 n3 n4 n5 n6 n7 n8 (nI jg) (nI pb) (nI lw), zo2 sh qn qo ql, zr G qn 4 fn, zi G qo 4 fqo, zi G ql 4 (nF fql), zi G rr 40 frr] H := ⟨hP1, hD1⟩
  have hP1 := hz9.1
  have hD1 := hz9.2
  have w_2 : r_1 = m_X5_refusalOf_A jg pb fql fqo frr sn v1 := w_2
  have hz9 : gPD G A [zi G n2 4 fso, zi G n3 4 fmi, zi G n4 4 fpa, zi G n5 6 fki, zi G n6 6 fmo, zi G n7 6 fsz, zi G n8 6 frd, zo0 th tt t1 t2 t3 t4 t5 t6 t7 t8 tj tb tl, zi G t1 6 unm, zi G t2 4 uso, zi G t3 4 umi, zi G t4 4 upa, zi G t5 6 uki, zi G t6 6 umo, zi G t7 6 usz, zi G t8 6 urd, zo3 tt co en sk wr (nI tx), zr G co 6 fc, zr G en 6 fe, zi G ct 160 fct, zi G et 3 (nF fet), zi G sk 32 fsk, zo5 h0 tt rd nw th kp sh tu him, zo0 nw tt n1 n2 n3 n4 n5 n6 n7 n8 (nI jg) (nI pb) (nI lw), zo2 sh qn qo ql, zr G qn 4 fn, zi G qo 4 fqo, zi G ql 4 (nF fql), zi G rr 40 frr] H := gJoin hP hD hk1 hFc hP1 hD1 [0, 1, 24, 25, 26, 27, 28] [2, 3, 4, 5, 6, 7, 8, 9, 10, 11, 12, 13, 14, 15, 16, 17, 18, 19, 20, 21, 22, 23] rfl rfl rfl (by decide +kernel) (by decide +kernel)
  have hP := hz9.1
  have hD := hz9.2
  subst w_2
  refine lv_istore (lv' := [zI 5 (m_X5_refusalOf_A jg pb fql fqo frr sn v1), zR 0 h0, zI 1 (nI sn), zI 2 v1, zI 3 v2, zI 4 v3]) hx hb dX5_kinds_6 hl (by decide +kernel) rfl (fun ls hl => ?_)
  refine lv_iload hx hb dX5_kinds_8 (lv_at hl 0 rfl) ?_
  refine lv_if_eq (tgt := 16) hx hb dX5_kinds_10 (by decide +kernel) (fun c_3 => ?_) (fun c_3 => ?_)
  · skip
    obtain ⟨hjw, hvl⟩ := refusalOf_0 (hql sn hsn) c_3
    have hv_4 : v1 = nI (nC v1) := mHas_eq hjw
    have hk_5 : nC v1 < jg := mHas_lt (by omega) hjw
    refine lv_aload_n hx hb dX5_kinds_16 rfl (lv_at hl 1 rfl) ?_
    refine va_get (D := G.1) (ci := 5) (v := .ref nw) (C := RX5) (T := TX5) (N := 8) hx hb hts hiX5 hown hK hP 22 rfl rfl 2 (by decide +kernel) kf28 (fun _ h9 => h9) rfl dX5_kinds_17 ?_
    refine lv_iload_n hx hb dX5_kinds_20 rfl (lv_at hl 4 rfl) ?_
    have hz9 : gPD G A [zo0 nw tt n1 n2 n3 n4 n5 n6 n7 n8 (nI jg) (nI pb) (nI lw)] H := ⟨hP.sub [23] rfl, hD.sub [23] (by decide +kernel) rfl⟩
    have hPc := hz9.1
    have hDc := hz9.2
    have hFc := gFree hPc hD hS hA [23] rfl
    refine va_calli (va_runV (As := [.int v2]) (rest := []) ⟨hx, hb, hml, hown, hts⟩ (c_X0_hasPebble_g l G nw tt n1 n2 n3 n4 n5 n6 n7 n8 jg pb lw v2 H.size (by first | exact hjg | assumption | omega) (by first | exact hpb | assumption | omega)) (cwV 1 hts gX5_kinds_X0_hasPebble rfl rfl rfl (by decide +kernel) ⟨Nat.le_of_ble_eq_true rfl, Nat.le_of_ble_eq_true rfl⟩) ⟨gPre_blind, va_recv hK hPc (ci := 0) (q0 := 0) rfl rfl, fun U hU hW => gPre_of hU hW hK hPc hDc⟩ rfl rfl hl.1 rfl (lv_room (Nat.le_of_ble_eq_true rfl)) dX5_kinds_21 ⟨Nat.le_of_ble_eq_true rfl, Nat.le_of_ble_eq_true rfl⟩) hS (fun q _ h => hFc q h) hFc (fun r_6 u t H locs ht hvm w_7 hB hz1 hk1 hS => ?_)
    obtain ⟨hP1, hK1, hD1⟩ := hB
    rw [ht] at hP1
    have hz9 : gPD G (va_A _ _) [zo0 nw tt n1 n2 n3 n4 n5 n6 n7 n8 (nI jg) (nI pb) (nI lw)] H := ⟨hP1, hD1⟩
    have hP1 := hz9.1
    have hD1 := hz9.2
    have w_7 : r_6 = bz (mHas pb v2) := w_7
    have hz9 : gPD G A [zi G n2 4 fso, zi G n3 4 fmi, zi G n4 4 fpa, zi G n5 6 fki, zi G n6 6 fmo, zi G n7 6 fsz, zi G n8 6 frd, zo0 th tt t1 t2 t3 t4 t5 t6 t7 t8 tj tb tl, zi G t1 6 unm, zi G t2 4 uso, zi G t3 4 umi, zi G t4 4 upa, zi G t5 6 uki, zi G t6 6 umo, zi G t7 6 usz, zi G t8 6 urd, zo3 tt co en sk wr (nI tx), zr G co 6 fc, zr G en 6 fe, zi G ct 160 fct, zi G et 3 (nF fet), zi G sk 32 fsk, zo5 h0 tt rd nw th kp sh tu him, zo2 sh qn qo ql, zr G qn 4 fn, zi G qo 4 fqo, zi G ql 4 (nF fql), zi G rr 40 frr, zo0 nw tt n1 n2 n3 n4 n5 n6 n7 n8 (nI jg) (nI pb) (nI lw)] H := gJoin hP hD hk1 hFc hP1 hD1 [23] [0, 1, 2, 3, 4, 5, 6, 7, 8, 9, 10, 11, 12, 13, 14, 15, 16, 17, 18, 19, 20, 21, 22, 24, 25, 26, 27, 28] rfl rfl rfl (by decide +kernel) (by decide +kernel)
    have hP := hz9.1
    have hD := hz9.2
    subst w_7
    refine lv_if_ne (tgt := 30) hx hb dX5_kinds_24 (by decide +kernel) (fun c_8 => ?_) (fun c_8 => ?_)
    · skip
      have p_9 : (mHas pb v2) = true := bz_ne rfl c_8
      have hv_11 : v2 = nI (nC v2) := mHas_eq p_9
      have hk_12 : nC v2 < pb := mHas_lt (by omega) p_9
      refine lv_iload hx hb dX5_kinds_30 (lv_at hl 5 rfl) ?_
      refine lv_iconst (v := 1) hx hb dX5_kinds_32 (by decide +kernel) ?_
      have hz9 : gPD G A [] H := ⟨hP.sub [] rfl, hD.sub [] (by decide +kernel) rfl⟩
      have hPc := hz9.1
      have hDc := hz9.2
      have hFc := gFree hPc hD hS hA [] rfl
      refine va_calli (va_runS (As := [.int v3, .int 1]) (rest := []) ⟨hx, hb, hml, hown, hts⟩ (c_X5_within_g l G v3 1 H.size) (va_cwS 2 hts gX5_kinds_X5_within rfl rfl rfl (by decide +kernel) ⟨Nat.le_of_ble_eq_true rfl, Nat.le_of_ble_eq_true rfl⟩) ⟨gPre_blind, fun U hU hW => gPre_of hU hW hK hPc hDc⟩ rfl rfl hl.1 rfl (lv_room (Nat.le_of_ble_eq_true rfl)) dX5_kinds_33 ⟨Nat.le_of_ble_eq_true rfl, Nat.le_of_ble_eq_true rfl⟩) hS (fun q _ h => hFc q h) hFc (fun r_13 u t H locs ht hvm w_14 hB hz1 hk1 hS => ?_)
      obtain ⟨hP1, hK1, hD1⟩ := hB
      rw [ht] at hP1
      have hz9 : gPD G (va_A _ _) [] H := ⟨hP1, hD1⟩
      have hP1 := hz9.1
      have hD1 := hz9.2
      have w_14 : r_13 = bz (decide (0 ≤ v3 ∧ v3 ≤ 1)) := w_14
      have hz9 : gPD G A [zi G n2 4 fso, zi G n3 4 fmi, zi G n4 4 fpa, zi G n5 6 fki, zi G n6 6 fmo, zi G n7 6 fsz, zi G n8 6 frd, zo0 th tt t1 t2 t3 t4 t5 t6 t7 t8 tj tb tl, zi G t1 6 unm, zi G t2 4 uso, zi G t3 4 umi, zi G t4 4 upa, zi G t5 6 uki, zi G t6 6 umo, zi G t7 6 usz, zi G t8 6 urd, zo3 tt co en sk wr (nI tx), zr G co 6 fc, zr G en 6 fe, zi G ct 160 fct, zi G et 3 (nF fet), zi G sk 32 fsk, zo5 h0 tt rd nw th kp sh tu him, zo2 sh qn qo ql, zr G qn 4 fn, zi G qo 4 fqo, zi G ql 4 (nF fql), zi G rr 40 frr, zo0 nw tt n1 n2 n3 n4 n5 n6 n7 n8 (nI jg) (nI pb) (nI lw)] H := gJoin hP hD hk1 hFc hP1 hD1 [] [0, 1, 2, 3, 4, 5, 6, 7, 8, 9, 10, 11, 12, 13, 14, 15, 16, 17, 18, 19, 20, 21, 22, 23, 24, 25, 26, 27, 28] rfl rfl rfl (by decide +kernel) (by decide +kernel)
      have hP := hz9.1
      have hD := hz9.2
      subst w_14
      refine lv_if_ne (tgt := 42) hx hb dX5_kinds_36 (by decide +kernel) (fun c_15 => ?_) (fun c_15 => ?_)
      · skip
        have p_16 : 0 ≤ v3 ∧ v3 ≤ 1 := of_decide_eq_true (bz_ne rfl c_15)
        have hv_18 : v3 = nI (nC v3) := nC_eq p_16.1
        have hk_19 : nC v3 ≤ 1 := nC_le (n := 1) (by omega) p_16
        refine lv_iload hx hb dX5_kinds_42 (lv_at hl 5 rfl) ?_
        refine lv_topi (fun v_20 ev_20 => ?_)
        have ev_20 : v_20 = nI (nC v3) := ev_20.trans hv_18
        subst ev_20
        refine lv_if_ne (tgt := 57) hx hb dX5_kinds_44 (by decide +kernel) (fun c_21 => ?_) (fun c_21 => ?_)
        · skip
          have c_21N : ¬ (nC v3) = 0 := nI_eq0 (a := (nC v3)) (b := 0) (by omega) (by omega) c_21
          refine lv_aload_n hx hb dX5_kinds_57 rfl (lv_at hl 1 rfl) ?_
          refine va_get (D := G.1) (ci := 5) (v := .ref th) (C := RX5) (T := TX5) (N := 8) hx hb hts hiX5 hown hK hP 22 rfl rfl 3 (by decide +kernel) kf32 (fun _ h9 => h9) rfl dX5_kinds_58 ?_
          refine va_get (D := G.1) (ci := 0) (v := .ref t6) (C := RX0) (T := TX0) (N := 12) hx hb hts hiX0 hown hK hP 7 rfl rfl 6 (by decide +kernel) kf131 (fun _ h9 => h9) rfl dX5_kinds_61 ?_
          refine lv_astore (lv' := [zR 6 t6, zI 5 (m_X5_refusalOf_A jg pb fql fqo frr sn v1), zR 0 h0, zI 1 (nI sn), zI 2 v1, zI 3 v2, zI 4 v3]) hx hb dX5_kinds_64 hl (by decide +kernel) rfl (fun ls hl => ?_)
          refine lv_iload hx hb dX5_kinds_66 (lv_at hl 6 rfl) ?_
          refine lv_topi (fun v_22 ev_22 => ?_)
          have ev_22 : v_22 = nI (nC v3) := ev_22.trans hv_18
          subst ev_22
          refine lv_if_ne (tgt := 75) hx hb dX5_kinds_68 (by decide +kernel) (fun c_23 => ?_) (fun c_23 => ?_)
          rotate_left
          · exact absurd c_23 (c_21)
          refine lv_bipush (v := 9) hx hb dX5_kinds_75 (by decide +kernel) ?_
          refine lv_istore (lv' := [zI 7 9, zR 6 t6, zI 5 (m_X5_refusalOf_A jg pb fql fqo frr sn v1), zR 0 h0, zI 1 (nI sn), zI 2 v1, zI 3 v2, zI 4 v3]) hx hb dX5_kinds_77 hl (by decide +kernel) rfl (fun ls hl => ?_)
          refine lv_iconst (v := 0) hx hb dX5_kinds_79 (by decide +kernel) ?_
          refine lv_istore (lv' := [zI 8 0, zI 7 9, zR 6 t6, zI 5 (m_X5_refusalOf_A jg pb fql fqo frr sn v1), zR 0 h0, zI 1 (nI sn), zI 2 v1, zI 3 v2, zI 4 v3]) hx hb dX5_kinds_80 hl (by decide +kernel) rfl (fun ls hl => ?_)
          refine lv_iconst (v := 0) hx hb dX5_kinds_82 (by decide +kernel) ?_
          refine lv_istore (lv' := [zI 9 0, zI 8 0, zI 7 9, zR 6 t6, zI 5 (m_X5_refusalOf_A jg pb fql fqo frr sn v1), zR 0 h0, zI 1 (nI sn), zI 2 v1, zI 3 v2, zI 4 v3]) hx hb dX5_kinds_83 hl (by decide +kernel) rfl (fun ls hl => ?_)
          have loop_85 : ∀ (n9 : Nat) (w85 : Nat) (bi : Int32) (x85t1 : Nat → Int32) (x85sk : Nat → Int32) (x85t2 : Nat → Int32) (x85t3 : Nat → Int32) (x85t4 : Nat → Int32) (x85t5 : Nat → Int32) (x85t6 : Nat → Int32) (x85t7 : Nat → Int32) (x85t8 : Nat → Int32) (zj9l : Int32) (zb9l : Int32) (zl9l : Int32), (w85 ≤ 10) → (p_X5_kinds_A_85 fet fql fso fmi fpa fki fmo fsz frd fct frr sn v1 v2 (10 - w85) w85 bi = (g_X5_kinds_A_85 fet fql fso fmi fpa fki fmo fsz frd fct frr sn v1 v2)) → (10 - w85) < n9 → ∀ (H : Heap) (locs : List Loc), va_P G.1 vwCl [zi G n2 4 fso, zi G n3 4 fmi, zi G n4 4 fpa, zi G n5 6 fki, zi G n6 6 fmo, zi G n7 6 fsz, zi G n8 6 frd, zo0 th tt t1 t2 t3 t4 t5 t6 t7 t8 zj9l zb9l zl9l, zi G t1 6 x85t1, zi G t2 4 x85t2, zi G t3 4 x85t3, zi G t4 4 x85t4, zi G t5 6 x85t5, zi G t6 6 x85t6, zi G t7 6 x85t7, zi G t8 6 x85t8, zo3 tt co en sk wr (nI tx), zr G co 6 fc, zr G en 6 fe, zi G ct 160 fct, zi G et 3 (nF fet), zi G sk 32 x85sk, zo5 h0 tt rd nw th kp sh tu him, zo2 sh qn qo ql, zr G qn 4 fn, zi G qo 4 fqo, zi G ql 4 (nF fql), zi G rr 40 frr, zo0 nw tt n1 n2 n3 n4 n5 n6 n7 n8 (nI jg) (nI pb) (nI lw)] H → va_D A [zi G n2 4 fso, zi G n3 4 fmi, zi G n4 4 fpa, zi G n5 6 fki, zi G n6 6 fmo, zi G n7 6 fsz, zi G n8 6 frd, zo0 th tt t1 t2 t3 t4 t5 t6 t7 t8 zj9l zb9l zl9l, zi G t1 6 x85t1, zi G t2 4 x85t2, zi G t3 4 x85t3, zi G t4 4 x85t4, zi G t5 6 x85t5, zi G t6 6 x85t6, zi G t7 6 x85t7, zi G t8 6 x85t8, zo3 tt co en sk wr (nI tx), zr G co 6 fc, zr G en 6 fe, zi G ct 160 fct, zi G et 3 (nF fet), zi G sk 32 x85sk, zo5 h0 tt rd nw th kp sh tu him, zo2 sh qn qo ql, zr G qn 4 fn, zi G qo 4 fqo, zi G ql 4 (nF fql), zi G rr 40 frr, zo0 nw tt n1 n2 n3 n4 n5 n6 n7 n8 (nI jg) (nI pb) (nI lw)] → va_S A s.heap H locs → ∀ ls : Array Slot, lv_has ls 10 [zI 9 (nI w85), zI 8 bi, zI 7 9, zR 6 t6, zI 5 (m_X5_refusalOf_A jg pb fql fqo frr sn v1), zR 0 h0, zI 1 (nI sn), zI 2 v1, zI 3 v2, zI 4 v3] → W p l e (headSpec wsX5_kinds ({ frames := 6, cells := 0, slots := 0, locals := 441 })).room s m ([.ref h0, .int (nI sn), .int v1, .int v2, .int v3] : List Value).toArray below meth c H locs 0 0 (MQ below (q_X5_kinds_A G E h0 tt rd nw th kp sh tu n1 n2 n3 n4 n5 n6 n7 n8 t1 t2 t3 t4 t5 t6 t7 t8 co en sk ct et qn qo ql rr jg pb lw tx him wr tj tb tl fc fe fn fet fql fso fmi fpa fki fmo fsz frd unm uso umi upa uki umo usz urd fct fsk fqo frr sn v1 v2 v3 A) ([.ref h0, .int (nI sn), .int v1, .int v2, .int v3] : List Value).toArray s 0 0 A) (F0 m 85 ls []) := by
            intro n9
            induction n9 with
            | zero => intro w85 bi x85t1 x85sk x85t2 x85t3 x85t4 x85t5 x85t6 x85t7 x85t8 zj9l zb9l zl9l hw85 R85 hm9_85; exact absurd hm9_85 (Nat.not_lt_zero _)
            | succ n9 ih9_85 =>
              intro w85 bi x85t1 x85sk x85t2 x85t3 x85t4 x85t5 x85t6 x85t7 x85t8 zj9l zb9l zl9l hw85 R85 hm9_85 H locs hP hD hS ls hl
              refine lv_iload hx hb dX5_kinds_85 (lv_at hl 0 rfl) ?_
              refine lv_iload hx hb dX5_kinds_87 (lv_at hl 2 rfl) ?_
              refine lv_icmp_gt (tgt := 127) hx hb dX5_kinds_89 (by decide +kernel) (fun c_24 => ?_) (fun c_24 => ?_)
              · skip
                have c_24N : 9 < w85 := nI_lt1 (a := 9) (b := w85) (by omega) (by omega) c_24
                have hF85 : (g_X5_kinds_A_85 fet fql fso fmi fpa fki fmo fsz frd fct frr sn v1 v2) = (w85, bi) := by rw [← R85, show 10 - w85 = 0 by omega]; rfl
                have hE85_0 : w85 = ((g_X5_kinds_A_85 fet fql fso fmi fpa fki fmo fsz frd fct frr sn v1 v2).1) := by rw [hF85]
                have hE85_1 : bi = ((g_X5_kinds_A_85 fet fql fso fmi fpa fki fmo fsz frd fct frr sn v1 v2).2) := by rw [hF85]
                clear hF85 R85
                subst hE85_0
                subst hE85_1
                refine lv_iload hx hb dX5_kinds_127 (lv_at hl 1 rfl) ?_
                have hpost : (fun (r : Int32) (u : Int32 × Int32 × Int32 × (Nat → Int32) × (Nat → Int32) × (Nat → Int32) × (Nat → Int32) × (Nat → Int32) × (Nat → Int32) × (Nat → Int32) × (Nat → Int32) × (Nat → Int32)) => match u with | (zj9, zb9, zl9, yt1, yt2, yt3, yt4, yt5, yt6, yt7, yt8, ysk) => r = m_X5_kinds_A jg pb fet fql fso fmi fpa fki fmo fsz frd fct fqo frr sn v1 v2 v3) ((g_X5_kinds_A_85 fet fql fso fmi fpa fki fmo fsz frd fct frr sn v1 v2).2) (zj9l, zb9l, zl9l, x85t1, x85t2, x85t3, x85t4, x85t5, x85t6, x85t7, x85t8, x85sk) := (show m_X5_kinds_A jg pb fet fql fso fmi fpa fki fmo fsz frd fct fqo frr sn v1 v2 v3 = ((g_X5_kinds_A_85 fet fql fso fmi fpa fki fmo fsz frd fct frr sn v1 v2).2) from by unfold m_X5_kinds_A; rw [if_pos c_3, if_pos p_9, if_pos p_16, if_neg c_21]).symm
                exact W.iret (v := ((g_X5_kinds_A_85 fet fql fso fmi fpa fki fmo fsz frd fct frr sn v1 v2).2)) hx hb hr (fun t ht hW => ⟨⟨((g_X5_kinds_A_85 fet fql fso fmi fpa fki fmo fsz frd fct frr sn v1 v2).2), (zj9l, zb9l, zl9l, x85t1, x85t2, x85t3, x85t4, x85t5, x85t6, x85t7, x85t8, x85sk), rfl, hpost, by rw [ht]; exact hP.sub [22, 28, 0, 1, 2, 3, 4, 5, 6, 7, 8, 9, 10, 11, 12, 13, 14, 15, 16, 17, 18, 19, 20, 21, 23, 24, 25, 26, 27] rfl, va_K.moved hW.alike hK, hD.sub [22, 28, 0, 1, 2, 3, 4, 5, 6, 7, 8, 9, 10, 11, 12, 13, 14, 15, 16, 17, 18, 19, 20, 21, 23, 24, 25, 26, 27] (by decide +kernel) rfl⟩, hS.F ht⟩) hS.2.2 dX5_kinds_129
              · skip
                have c_24N : w85 ≤ 9 := nI_lt0 (a := 9) (b := w85) (by omega) (by omega) c_24
                refine lv_aload_n hx hb dX5_kinds_92 rfl (lv_at hl 5 rfl) ?_
                have hz9 : gPD G A [zo5 h0 tt rd nw th kp sh tu him, zo0 nw tt n1 n2 n3 n4 n5 n6 n7 n8 (nI jg) (nI pb) (nI lw), zi G n2 4 fso, zi G n3 4 fmi, zi G n4 4 fpa, zi G n5 6 fki, zi G n6 6 fmo, zi G n7 6 fsz, zi G n8 6 frd, zo0 th tt t1 t2 t3 t4 t5 t6 t7 t8 zj9l zb9l zl9l, zi G t2 4 x85t2, zi G t3 4 x85t3, zi G t4 4 x85t4, zi G t5 6 x85t5, zi G t6 6 x85t6, zi G t7 6 x85t7, zi G t8 6 x85t8] H := ⟨hP.sub [22, 28, 0, 1, 2, 3, 4, 5, 6, 7, 9, 10, 11, 12, 13, 14, 15] rfl, hD.sub [22, 28, 0, 1, 2, 3, 4, 5, 6, 7, 9, 10, 11, 12, 13, 14, 15] (by decide +kernel) rfl⟩
                have hPc := hz9.1
                have hDc := hz9.2
                have hFc := gFree hPc hD hS hA [22, 28, 0, 1, 2, 3, 4, 5, 6, 7, 9, 10, 11, 12, 13, 14, 15] rfl
                refine va_callv (va_runV (As := []) (rest := []) ⟨hx, hb, hml, hown, hts⟩ (c_X5_think l G h0 tt rd nw th kp sh tu n1 n2 n3 n4 n5 n6 n7 n8 t1 t2 t3 t4 t5 t6 t7 t8 jg pb lw him zj9l zb9l zl9l fso fmi fpa fki fmo fsz frd x85t2 x85t3 x85t4 x85t5 x85t6 x85t7 x85t8 H.size (by first | exact hjg | assumption | omega) (by first | exact hpb | assumption | omega)) (cwV 0 hts gX5_kinds_X5_think rfl rfl rfl (by decide +kernel) ⟨Nat.le_of_ble_eq_true rfl, Nat.le_of_ble_eq_true rfl⟩) ⟨gPre_blind, va_recv hK hPc (ci := 5) (q0 := 0) rfl rfl, fun U hU hW => gPre_of hU hW hK hPc hDc⟩ rfl rfl hl.1 rfl (lv_room (Nat.le_of_ble_eq_true rfl)) dX5_kinds_93 ⟨Nat.le_of_ble_eq_true rfl, Nat.le_of_ble_eq_true rfl⟩) hS (fun q _ h => hFc q h) hFc (fun u t H locs ht hvm w_26 hB hz1 hk1 hS => ?_)
                obtain ⟨hP1, hK1, hD1⟩ := hB
                rw [ht] at hP1
                have hz9 : gPD G (va_A _ _) [zo5 h0 tt rd nw th kp sh tu him, zo0 nw tt n1 n2 n3 n4 n5 n6 n7 n8 (nI jg) (nI pb) (nI lw), zi G n2 4 fso, zi G n3 4 fmi, zi G n4 4 fpa, zi G n5 6 fki, zi G n6 6 fmo, zi G n7 6 fsz, zi G n8 6 frd, zo0 th tt t1 t2 t3 t4 t5 t6 t7 t8 (nI jg) (nI pb) (nI lw), zi G t2 4 fso, zi G t3 4 fmi, zi G t4 4 fpa, zi G t5 6 fki, zi G t6 6 fmo, zi G t7 6 fsz, zi G t8 6 frd] H := ⟨hP1, hD1⟩
                have hP1 := hz9.1
                have hD1 := hz9.2
                have hz9 : gPD G A [zi G t1 6 x85t1, zo3 tt co en sk wr (nI tx), zr G co 6 fc, zr G en 6 fe, zi G ct 160 fct, zi G et 3 (nF fet), zi G sk 32 x85sk, zo2 sh qn qo ql, zr G qn 4 fn, zi G qo 4 fqo, zi G ql 4 (nF fql), zi G rr 40 frr, zo5 h0 tt rd nw th kp sh tu him, zo0 nw tt n1 n2 n3 n4 n5 n6 n7 n8 (nI jg) (nI pb) (nI lw), zi G n2 4 fso, zi G n3 4 fmi, zi G n4 4 fpa, zi G n5 6 fki, zi G n6 6 fmo, zi G n7 6 fsz, zi G n8 6 frd, zo0 th tt t1 t2 t3 t4 t5 t6 t7 t8 (nI jg) (nI pb) (nI lw), zi G t2 4 fso, zi G t3 4 fmi, zi G t4 4 fpa, zi G t5 6 fki, zi G t6 6 fmo, zi G t7 6 fsz, zi G t8 6 frd] H := gJoin hP hD hk1 hFc hP1 hD1 [22, 28, 0, 1, 2, 3, 4, 5, 6, 7, 9, 10, 11, 12, 13, 14, 15] [8, 16, 17, 18, 19, 20, 21, 23, 24, 25, 26, 27] rfl rfl rfl (by decide +kernel) (by decide +kernel)
                have hP := hz9.1
                have hD := hz9.2
                refine lv_aload hx hb dX5_kinds_96 (lv_at hl 3 rfl) ?_
                refine lv_iload_n hx hb dX5_kinds_98 rfl (lv_at hl 8 rfl) ?_
                refine lv_topi (fun v_27 ev_27 => ?_)
                have ev_27 : v_27 = nI (nC v2) := ev_27.trans hv_11
                subst ev_27
                refine lv_iload hx hb dX5_kinds_99 (lv_at hl 0 rfl) ?_
                refine va_iast (D := G.1) hx hb hK hP hD hS 26 0 rfl rfl (i := (nI (nC v2))) (x := (nI w85)) (vp_in_nI (by omega) (by omega)) dX5_kinds_101 (fun H locs hP hD hS => ?_)
                have hz9 : gPD G A [zi G t1 6 x85t1, zo3 tt co en sk wr (nI tx), zr G co 6 fc, zr G en 6 fe, zi G ct 160 fct, zi G et 3 (nF fet), zi G sk 32 x85sk, zo2 sh qn qo ql, zr G qn 4 fn, zi G qo 4 fqo, zi G ql 4 (nF fql), zi G rr 40 frr, zo5 h0 tt rd nw th kp sh tu him, zo0 nw tt n1 n2 n3 n4 n5 n6 n7 n8 (nI jg) (nI pb) (nI lw), zi G n2 4 fso, zi G n3 4 fmi, zi G n4 4 fpa, zi G n5 6 fki, zi G n6 6 fmo, zi G n7 6 fsz, zi G n8 6 frd, zo0 th tt t1 t2 t3 t4 t5 t6 t7 t8 (nI jg) (nI pb) (nI lw), zi G t2 4 fso, zi G t3 4 fmi, zi G t4 4 fpa, zi G t5 6 fki, zi G t6 6 (upd fmo (nC v2) (nI w85)), zi G t7 6 fsz, zi G t8 6 frd] H := ⟨by rw [nI_clamp (by omega)] at hP; exact hP, by rw [nI_clamp (by omega)] at hD; exact hD⟩
                have hP := hz9.1
                have hD := hz9.2
                refine lv_aload_n hx hb dX5_kinds_102 rfl (lv_at hl 5 rfl) ?_
                refine lv_iload_n hx hb dX5_kinds_103 rfl (lv_at hl 6 rfl) ?_
                refine lv_iload_n hx hb dX5_kinds_104 rfl (lv_at hl 7 rfl) ?_
                refine lv_topi (fun v_28 ev_28 => ?_)
                have ev_28 : v_28 = nI (nC v1) := ev_28.trans hv_4
                subst ev_28
                have hz9 : gPD G A [zo5 h0 tt rd nw th kp sh tu him, zo0 th tt t1 t2 t3 t4 t5 t6 t7 t8 (nI jg) (nI pb) (nI lw), zi G t1 6 x85t1, zi G t2 4 fso, zi G t3 4 fmi, zi G t4 4 fpa, zi G t5 6 fki, zi G t6 6 (upd fmo (nC v2) (nI w85)), zi G t7 6 fsz, zi G t8 6 frd, zo3 tt co en sk wr (nI tx), zr G co 6 fc, zr G en 6 fe, zi G ct 160 fct, zi G et 3 (nF fet), zi G sk 32 x85sk, zo2 sh qn qo ql, zr G qn 4 fn, zi G qo 4 fqo, zi G ql 4 (nF fql), zi G rr 40 frr] H := ⟨hP.sub [12, 21, 0, 22, 23, 24, 25, 26, 27, 28, 1, 2, 3, 4, 5, 6, 7, 8, 9, 10, 11] rfl, hD.sub [12, 21, 0, 22, 23, 24, 25, 26, 27, 28, 1, 2, 3, 4, 5, 6, 7, 8, 9, 10, 11] (by decide +kernel) rfl⟩
                have hPc := hz9.1
                have hDc := hz9.2
                have hFc := gFree hPc hD hS hA [12, 21, 0, 22, 23, 24, 25, 26, 27, 28, 1, 2, 3, 4, 5, 6, 7, 8, 9, 10, 11] rfl
                refine va_calli (va_runV (As := [.int (nI sn), .int (nI (nC v1))]) (rest := []) ⟨hx, hb, hml, hown, hts⟩ (c_X5_firstOtherwise l G h0 tt rd nw th kp sh tu t1 t2 t3 t4 t5 t6 t7 t8 co en sk ct et qn qo ql rr lw tx him wr (nI jg) (nI pb) fc fe fn fet fql x85t1 fso fmi fpa fki (upd fmo (nC v2) (nI w85)) fsz frd fct x85sk fqo frr sn (nC v1) pb H.size (by first | exact hsn | assumption | omega) (by first | exact hrw | assumption | omega) (by first | exact hql | assumption | omega) (by first | exact hj | assumption | omega) (hvl) (hpb) (by first | exact htn | assumption | omega) (by first | exact hc | assumption | omega) (by first | exact he | assumption | omega) (by first | exact hwx | assumption | omega)) (cwV 2 hts gX5_kinds_X5_firstOtherwise rfl rfl rfl (by decide +kernel) ⟨Nat.le_of_ble_eq_true rfl, Nat.le_of_ble_eq_true rfl⟩) ⟨gPre_blind, va_recv hK hPc (ci := 5) (q0 := 0) rfl rfl, fun U hU hW => gPre_of hU hW hK hPc hDc⟩ rfl rfl hl.1 rfl (lv_room (Nat.le_of_ble_eq_true rfl)) dX5_kinds_105 ⟨Nat.le_of_ble_eq_true rfl, Nat.le_of_ble_eq_true rfl⟩) hS (fun q _ h => hFc q h) hFc (fun r_29 u t H locs ht hvm w_30 hB hz1 hk1 hS => ?_)
                obtain ⟨yt1_31, yt2_32, yt3_33, yt4_34, yt5_35, yt6_36, yt7_37, yt8_38, ysk_39⟩ := u
                obtain ⟨hP1, hK1, hD1⟩ := hB
                rw [ht] at hP1
                have hz9 : gPD G (va_A _ _) [zo5 h0 tt rd nw th kp sh tu him, zo0 th tt t1 t2 t3 t4 t5 t6 t7 t8 (nI jg) (nI pb) (nI lw), zi G t1 6 yt1_31, zi G t2 4 yt2_32, zi G t3 4 yt3_33, zi G t4 4 yt4_34, zi G t5 6 yt5_35, zi G t6 6 yt6_36, zi G t7 6 yt7_37, zi G t8 6 yt8_38, zo3 tt co en sk wr (nI tx), zr G co 6 fc, zr G en 6 fe, zi G ct 160 fct, zi G et 3 (nF fet), zi G sk 32 ysk_39, zo2 sh qn qo ql, zr G qn 4 fn, zi G qo 4 fqo, zi G ql 4 (nF fql), zi G rr 40 frr] H := ⟨hP1, hD1⟩
                have hP1 := hz9.1
                have hD1 := hz9.2
                have w_30 : r_29 = m_X5_firstOtherwise fet fql fso fmi fpa fki (upd fmo (nC v2) (nI w85)) fsz frd fct frr sn (nC v1) := w_30
                have hz9 : gPD G A [zo0 nw tt n1 n2 n3 n4 n5 n6 n7 n8 (nI jg) (nI pb) (nI lw), zi G n2 4 fso, zi G n3 4 fmi, zi G n4 4 fpa, zi G n5 6 fki, zi G n6 6 fmo, zi G n7 6 fsz, zi G n8 6 frd, zo5 h0 tt rd nw th kp sh tu him, zo0 th tt t1 t2 t3 t4 t5 t6 t7 t8 (nI jg) (nI pb) (nI lw), zi G t1 6 yt1_31, zi G t2 4 yt2_32, zi G t3 4 yt3_33, zi G t4 4 yt4_34, zi G t5 6 yt5_35, zi G t6 6 yt6_36, zi G t7 6 yt7_37, zi G t8 6 yt8_38, zo3 tt co en sk wr (nI tx), zr G co 6 fc, zr G en 6 fe, zi G ct 160 fct, zi G et 3 (nF fet), zi G sk 32 ysk_39, zo2 sh qn qo ql, zr G qn 4 fn, zi G qo 4 fqo, zi G ql 4 (nF fql), zi G rr 40 frr] H := gJoin hP hD hk1 hFc hP1 hD1 [12, 21, 0, 22, 23, 24, 25, 26, 27, 28, 1, 2, 3, 4, 5, 6, 7, 8, 9, 10, 11] [13, 14, 15, 16, 17, 18, 19, 20] rfl rfl rfl (by decide +kernel) (by decide +kernel)
                have hP := hz9.1
                have hD := hz9.2
                subst w_30
                refine lv_iconst (v := -1) hx hb dX5_kinds_108 (by decide +kernel) ?_
                refine lv_icmp_ne (tgt := 121) hx hb dX5_kinds_109 (by decide +kernel) (fun c_40 => ?_) (fun c_40 => ?_)
                · skip
                  refine lv_iinc (v := nI (w85 + 1)) (lv' := [zI 9 (nI (w85 + 1)), zI 8 bi, zI 7 9, zR 6 t6, zI 5 (m_X5_refusalOf_A jg pb fql fqo frr sn v1), zR 0 h0, zI 1 (nI sn), zI 2 v1, zI 3 v2, zI 4 v3]) hx hb dX5_kinds_121 hl (k := 0) rfl (nI_add w85 1) (by decide +kernel) rfl (fun ls hl => ?_)
                  refine lv_goto (tgt := 85) hx hb dX5_kinds_124 (by decide +kernel) ?_
                  exact ih9_85 (w85 + 1) bi yt1_31 ysk_39 yt2_32 yt3_33 yt4_34 yt5_35 yt6_36 yt7_37 yt8_38 (nI jg) (nI pb) (nI lw) (by omega) (Eq.trans (Eq.symm ((congrArg (fun z9 => p_X5_kinds_A_85 fet fql fso fmi fpa fki fmo fsz frd fct frr sn v1 v2 (z9) w85 bi) (show 10 - w85 = 10 - (w85 + 1) + 1 by omega)).trans (by show p_X5_kinds_A_85 fet fql fso fmi fpa fki fmo fsz frd fct frr sn v1 v2 (10 - (w85 + 1) + 1) w85 bi = _; rw [p_X5_kinds_A_85, if_neg c_40]))) R85) (by omega) _ _ (hP.sub [1, 2, 3, 4, 5, 6, 7, 9, 10, 11, 12, 13, 14, 15, 16, 17, 18, 19, 20, 21, 22, 23, 8, 24, 25, 26, 27, 28, 0] rfl) (hD.sub [1, 2, 3, 4, 5, 6, 7, 9, 10, 11, 12, 13, 14, 15, 16, 17, 18, 19, 20, 21, 22, 23, 8, 24, 25, 26, 27, 28, 0] (by decide +kernel) rfl) hS ls (lv_sub hl [0, 1, 2, 3, 4, 5, 6, 7, 8, 9] rfl)
                · skip
                  refine lv_iload hx hb dX5_kinds_112 (lv_at hl 1 rfl) ?_
                  refine lv_iconst (v := 1) hx hb dX5_kinds_114 (by decide +kernel) ?_
                  refine lv_iload hx hb dX5_kinds_115 (lv_at hl 0 rfl) ?_
                  refine lv_ishl hx hb dX5_kinds_117 ?_
                  refine lv_ior hx hb dX5_kinds_118 ?_
                  refine lv_istore (lv' := [zI 8 (bi ||| (1 <<< ((nI w85) &&& 31))), zI 9 (nI w85), zI 7 9, zR 6 t6, zI 5 (m_X5_refusalOf_A jg pb fql fqo frr sn v1), zR 0 h0, zI 1 (nI sn), zI 2 v1, zI 3 v2, zI 4 v3]) hx hb dX5_kinds_119 hl (by decide +kernel) rfl (fun ls hl => ?_)
                  refine lv_iinc (v := nI (w85 + 1)) (lv' := [zI 9 (nI (w85 + 1)), zI 8 (bi ||| (1 <<< ((nI w85) &&& 31))), zI 7 9, zR 6 t6, zI 5 (m_X5_refusalOf_A jg pb fql fqo frr sn v1), zR 0 h0, zI 1 (nI sn), zI 2 v1, zI 3 v2, zI 4 v3]) hx hb dX5_kinds_121 hl (k := 1) rfl (nI_add w85 1) (by decide +kernel) rfl (fun ls hl => ?_)
                  refine lv_goto (tgt := 85) hx hb dX5_kinds_124 (by decide +kernel) ?_
                  exact ih9_85 (w85 + 1) (bi ||| (1 <<< ((nI w85) &&& 31))) yt1_31 ysk_39 yt2_32 yt3_33 yt4_34 yt5_35 yt6_36 yt7_37 yt8_38 (nI jg) (nI pb) (nI lw) (by omega) (Eq.trans (Eq.symm ((congrArg (fun z9 => p_X5_kinds_A_85 fet fql fso fmi fpa fki fmo fsz frd fct frr sn v1 v2 (z9) w85 bi) (show 10 - w85 = 10 - (w85 + 1) + 1 by omega)).trans (by show p_X5_kinds_A_85 fet fql fso fmi fpa fki fmo fsz frd fct frr sn v1 v2 (10 - (w85 + 1) + 1) w85 bi = _; rw [p_X5_kinds_A_85, if_pos c_40]))) R85) (by omega) _ _ (hP.sub [1, 2, 3, 4, 5, 6, 7, 9, 10, 11, 12, 13, 14, 15, 16, 17, 18, 19, 20, 21, 22, 23, 8, 24, 25, 26, 27, 28, 0] rfl) (hD.sub [1, 2, 3, 4, 5, 6, 7, 9, 10, 11, 12, 13, 14, 15, 16, 17, 18, 19, 20, 21, 22, 23, 8, 24, 25, 26, 27, 28, 0] (by decide +kernel) rfl) hS ls (lv_sub hl [0, 1, 2, 3, 4, 5, 6, 7, 8, 9] rfl)
          exact loop_85 (10 - 0 + 1) 0 0 unm fsk uso umi upa uki umo usz urd tj tb tl (by omega) (rfl) (by omega) _ _ (hP.sub [0, 1, 2, 3, 4, 5, 6, 7, 8, 9, 10, 11, 12, 13, 14, 15, 16, 17, 18, 19, 20, 21, 22, 23, 24, 25, 26, 27, 28] rfl) (hD.sub [0, 1, 2, 3, 4, 5, 6, 7, 8, 9, 10, 11, 12, 13, 14, 15, 16, 17, 18, 19, 20, 21, 22, 23, 24, 25, 26, 27, 28] (by decide +kernel) rfl) hS ls (lv_sub hl [0, 1, 2, 3, 4, 5, 6, 7, 8, 9] rfl)
        · skip
          have c_21N : (nC v3) = 0 := nI_eq1 (a := (nC v3)) (b := 0) (by omega) (by omega) c_21
          refine lv_aload_n hx hb dX5_kinds_47 rfl (lv_at hl 1 rfl) ?_
          refine va_get (D := G.1) (ci := 5) (v := .ref th) (C := RX5) (T := TX5) (N := 8) hx hb hts hiX5 hown hK hP 22 rfl rfl 3 (by decide +kernel) kf32 (fun _ h9 => h9) rfl dX5_kinds_48 ?_
          refine va_get (D := G.1) (ci := 0) (v := .ref t5) (C := RX0) (T := TX0) (N := 12) hx hb hts hiX0 hown hK hP 7 rfl rfl 5 (by decide +kernel) kf128 (fun _ h9 => h9) rfl dX5_kinds_51 ?_
          refine lv_goto (tgt := 64) hx hb dX5_kinds_54 (by decide +kernel) ?_
          refine lv_astore (lv' := [zR 6 t5, zI 5 (m_X5_refusalOf_A jg pb fql fqo frr sn v1), zR 0 h0, zI 1 (nI sn), zI 2 v1, zI 3 v2, zI 4 v3]) hx hb dX5_kinds_64 hl (by decide +kernel) rfl (fun ls hl => ?_)
          refine lv_iload hx hb dX5_kinds_66 (lv_at hl 6 rfl) ?_
          refine lv_topi (fun v_41 ev_41 => ?_)
          have ev_41 : v_41 = nI (nC v3) := ev_41.trans hv_18
          subst ev_41
          refine lv_if_ne (tgt := 75) hx hb dX5_kinds_68 (by decide +kernel) (fun c_42 => ?_) (fun c_42 => ?_)
          · exact absurd (c_21) c_42
          refine lv_iconst (v := 5) hx hb dX5_kinds_71 (by decide +kernel) ?_
          refine lv_goto (tgt := 77) hx hb dX5_kinds_72 (by decide +kernel) ?_
          refine lv_istore (lv' := [zI 7 5, zR 6 t5, zI 5 (m_X5_refusalOf_A jg pb fql fqo frr sn v1), zR 0 h0, zI 1 (nI sn), zI 2 v1, zI 3 v2, zI 4 v3]) hx hb dX5_kinds_77 hl (by decide +kernel) rfl (fun ls hl => ?_)
          refine lv_iconst (v := 0) hx hb dX5_kinds_79 (by decide +kernel) ?_
          refine lv_istore (lv' := [zI 8 0, zI 7 5, zR 6 t5, zI 5 (m_X5_refusalOf_A jg pb fql fqo frr sn v1), zR 0 h0, zI 1 (nI sn), zI 2 v1, zI 3 v2, zI 4 v3]) hx hb dX5_kinds_80 hl (by decide +kernel) rfl (fun ls hl => ?_)
          refine lv_iconst (v := 0) hx hb dX5_kinds_82 (by decide +kernel) ?_
          refine lv_istore (lv' := [zI 9 0, zI 8 0, zI 7 5, zR 6 t5, zI 5 (m_X5_refusalOf_A jg pb fql fqo frr sn v1), zR 0 h0, zI 1 (nI sn), zI 2 v1, zI 3 v2, zI 4 v3]) hx hb dX5_kinds_83 hl (by decide +kernel) rfl (fun ls hl => ?_)
          have loop_85 : ∀ (n9 : Nat) (w85 : Nat) (bi : Int32) (x85t1 : Nat → Int32) (x85sk : Nat → Int32) (x85t2 : Nat → Int32) (x85t3 : Nat → Int32) (x85t4 : Nat → Int32) (x85t5 : Nat → Int32) (x85t6 : Nat → Int32) (x85t7 : Nat → Int32) (x85t8 : Nat → Int32) (zj9l : Int32) (zb9l : Int32) (zl9l : Int32), (w85 ≤ 6) → (p_X5_kinds_A_85q1 fet fql fso fmi fpa fki fmo fsz frd fct frr sn v1 v2 (6 - w85) w85 bi = (g_X5_kinds_A_85q1 fet fql fso fmi fpa fki fmo fsz frd fct frr sn v1 v2)) → (6 - w85) < n9 → ∀ (H : Heap) (locs : List Loc), va_P G.1 vwCl [zi G n2 4 fso, zi G n3 4 fmi, zi G n4 4 fpa, zi G n5 6 fki, zi G n6 6 fmo, zi G n7 6 fsz, zi G n8 6 frd, zo0 th tt t1 t2 t3 t4 t5 t6 t7 t8 zj9l zb9l zl9l, zi G t1 6 x85t1, zi G t2 4 x85t2, zi G t3 4 x85t3, zi G t4 4 x85t4, zi G t5 6 x85t5, zi G t6 6 x85t6, zi G t7 6 x85t7, zi G t8 6 x85t8, zo3 tt co en sk wr (nI tx), zr G co 6 fc, zr G en 6 fe, zi G ct 160 fct, zi G et 3 (nF fet), zi G sk 32 x85sk, zo5 h0 tt rd nw th kp sh tu him, zo2 sh qn qo ql, zr G qn 4 fn, zi G qo 4 fqo, zi G ql 4 (nF fql), zi G rr 40 frr, zo0 nw tt n1 n2 n3 n4 n5 n6 n7 n8 (nI jg) (nI pb) (nI lw)] H → va_D A [zi G n2 4 fso, zi G n3 4 fmi, zi G n4 4 fpa, zi G n5 6 fki, zi G n6 6 fmo, zi G n7 6 fsz, zi G n8 6 frd, zo0 th tt t1 t2 t3 t4 t5 t6 t7 t8 zj9l zb9l zl9l, zi G t1 6 x85t1, zi G t2 4 x85t2, zi G t3 4 x85t3, zi G t4 4 x85t4, zi G t5 6 x85t5, zi G t6 6 x85t6, zi G t7 6 x85t7, zi G t8 6 x85t8, zo3 tt co en sk wr (nI tx), zr G co 6 fc, zr G en 6 fe, zi G ct 160 fct, zi G et 3 (nF fet), zi G sk 32 x85sk, zo5 h0 tt rd nw th kp sh tu him, zo2 sh qn qo ql, zr G qn 4 fn, zi G qo 4 fqo, zi G ql 4 (nF fql), zi G rr 40 frr, zo0 nw tt n1 n2 n3 n4 n5 n6 n7 n8 (nI jg) (nI pb) (nI lw)] → va_S A s.heap H locs → ∀ ls : Array Slot, lv_has ls 10 [zI 9 (nI w85), zI 8 bi, zI 7 5, zR 6 t5, zI 5 (m_X5_refusalOf_A jg pb fql fqo frr sn v1), zR 0 h0, zI 1 (nI sn), zI 2 v1, zI 3 v2, zI 4 v3] → W p l e (headSpec wsX5_kinds ({ frames := 6, cells := 0, slots := 0, locals := 441 })).room s m ([.ref h0, .int (nI sn), .int v1, .int v2, .int v3] : List Value).toArray below meth c H locs 0 0 (MQ below (q_X5_kinds_A G E h0 tt rd nw th kp sh tu n1 n2 n3 n4 n5 n6 n7 n8 t1 t2 t3 t4 t5 t6 t7 t8 co en sk ct et qn qo ql rr jg pb lw tx him wr tj tb tl fc fe fn fet fql fso fmi fpa fki fmo fsz frd unm uso umi upa uki umo usz urd fct fsk fqo frr sn v1 v2 v3 A) ([.ref h0, .int (nI sn), .int v1, .int v2, .int v3] : List Value).toArray s 0 0 A) (F0 m 85 ls []) := by
            intro n9
            induction n9 with
            | zero => intro w85 bi x85t1 x85sk x85t2 x85t3 x85t4 x85t5 x85t6 x85t7 x85t8 zj9l zb9l zl9l hw85 R85 hm9_85; exact absurd hm9_85 (Nat.not_lt_zero _)
            | succ n9 ih9_85 =>
              intro w85 bi x85t1 x85sk x85t2 x85t3 x85t4 x85t5 x85t6 x85t7 x85t8 zj9l zb9l zl9l hw85 R85 hm9_85 H locs hP hD hS ls hl
              refine lv_iload hx hb dX5_kinds_85 (lv_at hl 0 rfl) ?_
              refine lv_iload hx hb dX5_kinds_87 (lv_at hl 2 rfl) ?_
              refine lv_icmp_gt (tgt := 127) hx hb dX5_kinds_89 (by decide +kernel) (fun c_43 => ?_) (fun c_43 => ?_)
              · skip
                have c_43N : 5 < w85 := nI_lt1 (a := 5) (b := w85) (by omega) (by omega) c_43
                have hF85 : (g_X5_kinds_A_85q1 fet fql fso fmi fpa fki fmo fsz frd fct frr sn v1 v2) = (w85, bi) := by rw [← R85, show 6 - w85 = 0 by omega]; rfl
                have hE85_0 : w85 = ((g_X5_kinds_A_85q1 fet fql fso fmi fpa fki fmo fsz frd fct frr sn v1 v2).1) := by rw [hF85]
                have hE85_1 : bi = ((g_X5_kinds_A_85q1 fet fql fso fmi fpa fki fmo fsz frd fct frr sn v1 v2).2) := by rw [hF85]
                clear hF85 R85
                subst hE85_0
                subst hE85_1
                refine lv_iload hx hb dX5_kinds_127 (lv_at hl 1 rfl) ?_
                have hpost : (fun (r : Int32) (u : Int32 × Int32 × Int32 × (Nat → Int32) × (Nat → Int32) × (Nat → Int32) × (Nat → Int32) × (Nat → Int32) × (Nat → Int32) × (Nat → Int32) × (Nat → Int32) × (Nat → Int32)) => match u with | (zj9, zb9, zl9, yt1, yt2, yt3, yt4, yt5, yt6, yt7, yt8, ysk) => r = m_X5_kinds_A jg pb fet fql fso fmi fpa fki fmo fsz frd fct fqo frr sn v1 v2 v3) ((g_X5_kinds_A_85q1 fet fql fso fmi fpa fki fmo fsz frd fct frr sn v1 v2).2) (zj9l, zb9l, zl9l, x85t1, x85t2, x85t3, x85t4, x85t5, x85t6, x85t7, x85t8, x85sk) := (show m_X5_kinds_A jg pb fet fql fso fmi fpa fki fmo fsz frd fct fqo frr sn v1 v2 v3 = ((g_X5_kinds_A_85q1 fet fql fso fmi fpa fki fmo fsz frd fct frr sn v1 v2).2) from by unfold m_X5_kinds_A; rw [if_pos c_3, if_pos p_9, if_pos p_16, if_pos c_21]).symm
                exact W.iret (v := ((g_X5_kinds_A_85q1 fet fql fso fmi fpa fki fmo fsz frd fct frr sn v1 v2).2)) hx hb hr (fun t ht hW => ⟨⟨((g_X5_kinds_A_85q1 fet fql fso fmi fpa fki fmo fsz frd fct frr sn v1 v2).2), (zj9l, zb9l, zl9l, x85t1, x85t2, x85t3, x85t4, x85t5, x85t6, x85t7, x85t8, x85sk), rfl, hpost, by rw [ht]; exact hP.sub [22, 28, 0, 1, 2, 3, 4, 5, 6, 7, 8, 9, 10, 11, 12, 13, 14, 15, 16, 17, 18, 19, 20, 21, 23, 24, 25, 26, 27] rfl, va_K.moved hW.alike hK, hD.sub [22, 28, 0, 1, 2, 3, 4, 5, 6, 7, 8, 9, 10, 11, 12, 13, 14, 15, 16, 17, 18, 19, 20, 21, 23, 24, 25, 26, 27] (by decide +kernel) rfl⟩, hS.F ht⟩) hS.2.2 dX5_kinds_129
              · skip
                have c_43N : w85 ≤ 5 := nI_lt0 (a := 5) (b := w85) (by omega) (by omega) c_43
                refine lv_aload_n hx hb dX5_kinds_92 rfl (lv_at hl 5 rfl) ?_
                have hz9 : gPD G A [zo5 h0 tt rd nw th kp sh tu him, zo0 nw tt n1 n2 n3 n4 n5 n6 n7 n8 (nI jg) (nI pb) (nI lw), zi G n2 4 fso, zi G n3 4 fmi, zi G n4 4 fpa, zi G n5 6 fki, zi G n6 6 fmo, zi G n7 6 fsz, zi G n8 6 frd, zo0 th tt t1 t2 t3 t4 t5 t6 t7 t8 zj9l zb9l zl9l, zi G t2 4 x85t2, zi G t3 4 x85t3, zi G t4 4 x85t4, zi G t5 6 x85t5, zi G t6 6 x85t6, zi G t7 6 x85t7, zi G t8 6 x85t8] H := ⟨hP.sub [22, 28, 0, 1, 2, 3, 4, 5, 6, 7, 9, 10, 11, 12, 13, 14, 15] rfl, hD.sub [22, 28, 0, 1, 2, 3, 4, 5, 6, 7, 9, 10, 11, 12, 13, 14, 15] (by decide +kernel) rfl⟩
                have hPc := hz9.1
                have hDc := hz9.2
                have hFc := gFree hPc hD hS hA [22, 28, 0, 1, 2, 3, 4, 5, 6, 7, 9, 10, 11, 12, 13, 14, 15] rfl
                refine va_callv (va_runV (As := []) (rest := []) ⟨hx, hb, hml, hown, hts⟩ (c_X5_think l G h0 tt rd nw th kp sh tu n1 n2 n3 n4 n5 n6 n7 n8 t1 t2 t3 t4 t5 t6 t7 t8 jg pb lw him zj9l zb9l zl9l fso fmi fpa fki fmo fsz frd x85t2 x85t3 x85t4 x85t5 x85t6 x85t7 x85t8 H.size (by first | exact hjg | assumption | omega) (by first | exact hpb | assumption | omega)) (cwV 0 hts gX5_kinds_X5_think rfl rfl rfl (by decide +kernel) ⟨Nat.le_of_ble_eq_true rfl, Nat.le_of_ble_eq_true rfl⟩) ⟨gPre_blind, va_recv hK hPc (ci := 5) (q0 := 0) rfl rfl, fun U hU hW => gPre_of hU hW hK hPc hDc⟩ rfl rfl hl.1 rfl (lv_room (Nat.le_of_ble_eq_true rfl)) dX5_kinds_93 ⟨Nat.le_of_ble_eq_true rfl, Nat.le_of_ble_eq_true rfl⟩) hS (fun q _ h => hFc q h) hFc (fun u t H locs ht hvm w_45 hB hz1 hk1 hS => ?_)
                obtain ⟨hP1, hK1, hD1⟩ := hB
                rw [ht] at hP1
                have hz9 : gPD G (va_A _ _) [zo5 h0 tt rd nw th kp sh tu him, zo0 nw tt n1 n2 n3 n4 n5 n6 n7 n8 (nI jg) (nI pb) (nI lw), zi G n2 4 fso, zi G n3 4 fmi, zi G n4 4 fpa, zi G n5 6 fki, zi G n6 6 fmo, zi G n7 6 fsz, zi G n8 6 frd, zo0 th tt t1 t2 t3 t4 t5 t6 t7 t8 (nI jg) (nI pb) (nI lw), zi G t2 4 fso, zi G t3 4 fmi, zi G t4 4 fpa, zi G t5 6 fki, zi G t6 6 fmo, zi G t7 6 fsz, zi G t8 6 frd] H := ⟨hP1, hD1⟩
                have hP1 := hz9.1
                have hD1 := hz9.2
                have hz9 : gPD G A [zi G t1 6 x85t1, zo3 tt co en sk wr (nI tx), zr G co 6 fc, zr G en 6 fe, zi G ct 160 fct, zi G et 3 (nF fet), zi G sk 32 x85sk, zo2 sh qn qo ql, zr G qn 4 fn, zi G qo 4 fqo, zi G ql 4 (nF fql), zi G rr 40 frr, zo5 h0 tt rd nw th kp sh tu him, zo0 nw tt n1 n2 n3 n4 n5 n6 n7 n8 (nI jg) (nI pb) (nI lw), zi G n2 4 fso, zi G n3 4 fmi, zi G n4 4 fpa, zi G n5 6 fki, zi G n6 6 fmo, zi G n7 6 fsz, zi G n8 6 frd, zo0 th tt t1 t2 t3 t4 t5 t6 t7 t8 (nI jg) (nI pb) (nI lw), zi G t2 4 fso, zi G t3 4 fmi, zi G t4 4 fpa, zi G t5 6 fki, zi G t6 6 fmo, zi G t7 6 fsz, zi G t8 6 frd] H := gJoin hP hD hk1 hFc hP1 hD1 [22, 28, 0, 1, 2, 3, 4, 5, 6, 7, 9, 10, 11, 12, 13, 14, 15] [8, 16, 17, 18, 19, 20, 21, 23, 24, 25, 26, 27] rfl rfl rfl (by decide +kernel) (by decide +kernel)
                have hP := hz9.1
                have hD := hz9.2
                refine lv_aload hx hb dX5_kinds_96 (lv_at hl 3 rfl) ?_
                refine lv_iload_n hx hb dX5_kinds_98 rfl (lv_at hl 8 rfl) ?_
                refine lv_topi (fun v_46 ev_46 => ?_)
                have ev_46 : v_46 = nI (nC v2) := ev_46.trans hv_11
                subst ev_46
                refine lv_iload hx hb dX5_kinds_99 (lv_at hl 0 rfl) ?_
                refine va_iast (D := G.1) hx hb hK hP hD hS 25 0 rfl rfl (i := (nI (nC v2))) (x := (nI w85)) (vp_in_nI (by omega) (by omega)) dX5_kinds_101 (fun H locs hP hD hS => ?_)
                have hz9 : gPD G A [zi G t1 6 x85t1, zo3 tt co en sk wr (nI tx), zr G co 6 fc, zr G en 6 fe, zi G ct 160 fct, zi G et 3 (nF fet), zi G sk 32 x85sk, zo2 sh qn qo ql, zr G qn 4 fn, zi G qo 4 fqo, zi G ql 4 (nF fql), zi G rr 40 frr, zo5 h0 tt rd nw th kp sh tu him, zo0 nw tt n1 n2 n3 n4 n5 n6 n7 n8 (nI jg) (nI pb) (nI lw), zi G n2 4 fso, zi G n3 4 fmi, zi G n4 4 fpa, zi G n5 6 fki, zi G n6 6 fmo, zi G n7 6 fsz, zi G n8 6 frd, zo0 th tt t1 t2 t3 t4 t5 t6 t7 t8 (nI jg) (nI pb) (nI lw), zi G t2 4 fso, zi G t3 4 fmi, zi G t4 4 fpa, zi G t5 6 (upd fki (nC v2) (nI w85)), zi G t6 6 fmo, zi G t7 6 fsz, zi G t8 6 frd] H := ⟨by rw [nI_clamp (by omega)] at hP; exact hP, by rw [nI_clamp (by omega)] at hD; exact hD⟩
                have hP := hz9.1
                have hD := hz9.2
                refine lv_aload_n hx hb dX5_kinds_102 rfl (lv_at hl 5 rfl) ?_
                refine lv_iload_n hx hb dX5_kinds_103 rfl (lv_at hl 6 rfl) ?_
                refine lv_iload_n hx hb dX5_kinds_104 rfl (lv_at hl 7 rfl) ?_
                refine lv_topi (fun v_47 ev_47 => ?_)
                have ev_47 : v_47 = nI (nC v1) := ev_47.trans hv_4
                subst ev_47
                have hz9 : gPD G A [zo5 h0 tt rd nw th kp sh tu him, zo0 th tt t1 t2 t3 t4 t5 t6 t7 t8 (nI jg) (nI pb) (nI lw), zi G t1 6 x85t1, zi G t2 4 fso, zi G t3 4 fmi, zi G t4 4 fpa, zi G t5 6 (upd fki (nC v2) (nI w85)), zi G t6 6 fmo, zi G t7 6 fsz, zi G t8 6 frd, zo3 tt co en sk wr (nI tx), zr G co 6 fc, zr G en 6 fe, zi G ct 160 fct, zi G et 3 (nF fet), zi G sk 32 x85sk, zo2 sh qn qo ql, zr G qn 4 fn, zi G qo 4 fqo, zi G ql 4 (nF fql), zi G rr 40 frr] H := ⟨hP.sub [12, 21, 0, 22, 23, 24, 25, 26, 27, 28, 1, 2, 3, 4, 5, 6, 7, 8, 9, 10, 11] rfl, hD.sub [12, 21, 0, 22, 23, 24, 25, 26, 27, 28, 1, 2, 3, 4, 5, 6, 7, 8, 9, 10, 11] (by decide +kernel) rfl⟩
                have hPc := hz9.1
                have hDc := hz9.2
                have hFc := gFree hPc hD hS hA [12, 21, 0, 22, 23, 24, 25, 26, 27, 28, 1, 2, 3, 4, 5, 6, 7, 8, 9, 10, 11] rfl
                refine va_calli (va_runV (As := [.int (nI sn), .int (nI (nC v1))]) (rest := []) ⟨hx, hb, hml, hown, hts⟩ (c_X5_firstOtherwise l G h0 tt rd nw th kp sh tu t1 t2 t3 t4 t5 t6 t7 t8 co en sk ct et qn qo ql rr lw tx him wr (nI jg) (nI pb) fc fe fn fet fql x85t1 fso fmi fpa (upd fki (nC v2) (nI w85)) fmo fsz frd fct x85sk fqo frr sn (nC v1) pb H.size (by first | exact hsn | assumption | omega) (by first | exact hrw | assumption | omega) (by first | exact hql | assumption | omega) (by first | exact hj | assumption | omega) (hvl) (hpb) (by first | exact htn | assumption | omega) (by first | exact hc | assumption | omega) (by first | exact he | assumption | omega) (by first | exact hwx | assumption | omega)) (cwV 2 hts gX5_kinds_X5_firstOtherwise rfl rfl rfl (by decide +kernel) ⟨Nat.le_of_ble_eq_true rfl, Nat.le_of_ble_eq_true rfl⟩) ⟨gPre_blind, va_recv hK hPc (ci := 5) (q0 := 0) rfl rfl, fun U hU hW => gPre_of hU hW hK hPc hDc⟩ rfl rfl hl.1 rfl (lv_room (Nat.le_of_ble_eq_true rfl)) dX5_kinds_105 ⟨Nat.le_of_ble_eq_true rfl, Nat.le_of_ble_eq_true rfl⟩) hS (fun q _ h => hFc q h) hFc (fun r_48 u t H locs ht hvm w_49 hB hz1 hk1 hS => ?_)
                obtain ⟨yt1_50, yt2_51, yt3_52, yt4_53, yt5_54, yt6_55, yt7_56, yt8_57, ysk_58⟩ := u
                obtain ⟨hP1, hK1, hD1⟩ := hB
                rw [ht] at hP1
                have hz9 : gPD G (va_A _ _) [zo5 h0 tt rd nw th kp sh tu him, zo0 th tt t1 t2 t3 t4 t5 t6 t7 t8 (nI jg) (nI pb) (nI lw), zi G t1 6 yt1_50, zi G t2 4 yt2_51, zi G t3 4 yt3_52, zi G t4 4 yt4_53, zi G t5 6 yt5_54, zi G t6 6 yt6_55, zi G t7 6 yt7_56, zi G t8 6 yt8_57, zo3 tt co en sk wr (nI tx), zr G co 6 fc, zr G en 6 fe, zi G ct 160 fct, zi G et 3 (nF fet), zi G sk 32 ysk_58, zo2 sh qn qo ql, zr G qn 4 fn, zi G qo 4 fqo, zi G ql 4 (nF fql), zi G rr 40 frr] H := ⟨hP1, hD1⟩
                have hP1 := hz9.1
                have hD1 := hz9.2
                have w_49 : r_48 = m_X5_firstOtherwise fet fql fso fmi fpa (upd fki (nC v2) (nI w85)) fmo fsz frd fct frr sn (nC v1) := w_49
                have hz9 : gPD G A [zo0 nw tt n1 n2 n3 n4 n5 n6 n7 n8 (nI jg) (nI pb) (nI lw), zi G n2 4 fso, zi G n3 4 fmi, zi G n4 4 fpa, zi G n5 6 fki, zi G n6 6 fmo, zi G n7 6 fsz, zi G n8 6 frd, zo5 h0 tt rd nw th kp sh tu him, zo0 th tt t1 t2 t3 t4 t5 t6 t7 t8 (nI jg) (nI pb) (nI lw), zi G t1 6 yt1_50, zi G t2 4 yt2_51, zi G t3 4 yt3_52, zi G t4 4 yt4_53, zi G t5 6 yt5_54, zi G t6 6 yt6_55, zi G t7 6 yt7_56, zi G t8 6 yt8_57, zo3 tt co en sk wr (nI tx), zr G co 6 fc, zr G en 6 fe, zi G ct 160 fct, zi G et 3 (nF fet), zi G sk 32 ysk_58, zo2 sh qn qo ql, zr G qn 4 fn, zi G qo 4 fqo, zi G ql 4 (nF fql), zi G rr 40 frr] H := gJoin hP hD hk1 hFc hP1 hD1 [12, 21, 0, 22, 23, 24, 25, 26, 27, 28, 1, 2, 3, 4, 5, 6, 7, 8, 9, 10, 11] [13, 14, 15, 16, 17, 18, 19, 20] rfl rfl rfl (by decide +kernel) (by decide +kernel)
                have hP := hz9.1
                have hD := hz9.2
                subst w_49
                refine lv_iconst (v := -1) hx hb dX5_kinds_108 (by decide +kernel) ?_
                refine lv_icmp_ne (tgt := 121) hx hb dX5_kinds_109 (by decide +kernel) (fun c_59 => ?_) (fun c_59 => ?_)
                · skip
                  refine lv_iinc (v := nI (w85 + 1)) (lv' := [zI 9 (nI (w85 + 1)), zI 8 bi, zI 7 5, zR 6 t5, zI 5 (m_X5_refusalOf_A jg pb fql fqo frr sn v1), zR 0 h0, zI 1 (nI sn), zI 2 v1, zI 3 v2, zI 4 v3]) hx hb dX5_kinds_121 hl (k := 0) rfl (nI_add w85 1) (by decide +kernel) rfl (fun ls hl => ?_)
                  refine lv_goto (tgt := 85) hx hb dX5_kinds_124 (by decide +kernel) ?_
                  exact ih9_85 (w85 + 1) bi yt1_50 ysk_58 yt2_51 yt3_52 yt4_53 yt5_54 yt6_55 yt7_56 yt8_57 (nI jg) (nI pb) (nI lw) (by omega) (Eq.trans (Eq.symm ((congrArg (fun z9 => p_X5_kinds_A_85q1 fet fql fso fmi fpa fki fmo fsz frd fct frr sn v1 v2 (z9) w85 bi) (show 6 - w85 = 6 - (w85 + 1) + 1 by omega)).trans (by show p_X5_kinds_A_85q1 fet fql fso fmi fpa fki fmo fsz frd fct frr sn v1 v2 (6 - (w85 + 1) + 1) w85 bi = _; rw [p_X5_kinds_A_85q1, if_neg c_59]))) R85) (by omega) _ _ (hP.sub [1, 2, 3, 4, 5, 6, 7, 9, 10, 11, 12, 13, 14, 15, 16, 17, 18, 19, 20, 21, 22, 23, 8, 24, 25, 26, 27, 28, 0] rfl) (hD.sub [1, 2, 3, 4, 5, 6, 7, 9, 10, 11, 12, 13, 14, 15, 16, 17, 18, 19, 20, 21, 22, 23, 8, 24, 25, 26, 27, 28, 0] (by decide +kernel) rfl) hS ls (lv_sub hl [0, 1, 2, 3, 4, 5, 6, 7, 8, 9] rfl)
                · skip
                  refine lv_iload hx hb dX5_kinds_112 (lv_at hl 1 rfl) ?_
                  refine lv_iconst (v := 1) hx hb dX5_kinds_114 (by decide +kernel) ?_
                  refine lv_iload hx hb dX5_kinds_115 (lv_at hl 0 rfl) ?_
                  refine lv_ishl hx hb dX5_kinds_117 ?_
                  refine lv_ior hx hb dX5_kinds_118 ?_
                  refine lv_istore (lv' := [zI 8 (bi ||| (1 <<< ((nI w85) &&& 31))), zI 9 (nI w85), zI 7 5, zR 6 t5, zI 5 (m_X5_refusalOf_A jg pb fql fqo frr sn v1), zR 0 h0, zI 1 (nI sn), zI 2 v1, zI 3 v2, zI 4 v3]) hx hb dX5_kinds_119 hl (by decide +kernel) rfl (fun ls hl => ?_)
                  refine lv_iinc (v := nI (w85 + 1)) (lv' := [zI 9 (nI (w85 + 1)), zI 8 (bi ||| (1 <<< ((nI w85) &&& 31))), zI 7 5, zR 6 t5, zI 5 (m_X5_refusalOf_A jg pb fql fqo frr sn v1), zR 0 h0, zI 1 (nI sn), zI 2 v1, zI 3 v2, zI 4 v3]) hx hb dX5_kinds_121 hl (k := 1) rfl (nI_add w85 1) (by decide +kernel) rfl (fun ls hl => ?_)
                  refine lv_goto (tgt := 85) hx hb dX5_kinds_124 (by decide +kernel) ?_
                  exact ih9_85 (w85 + 1) (bi ||| (1 <<< ((nI w85) &&& 31))) yt1_50 ysk_58 yt2_51 yt3_52 yt4_53 yt5_54 yt6_55 yt7_56 yt8_57 (nI jg) (nI pb) (nI lw) (by omega) (Eq.trans (Eq.symm ((congrArg (fun z9 => p_X5_kinds_A_85q1 fet fql fso fmi fpa fki fmo fsz frd fct frr sn v1 v2 (z9) w85 bi) (show 6 - w85 = 6 - (w85 + 1) + 1 by omega)).trans (by show p_X5_kinds_A_85q1 fet fql fso fmi fpa fki fmo fsz frd fct frr sn v1 v2 (6 - (w85 + 1) + 1) w85 bi = _; rw [p_X5_kinds_A_85q1, if_pos c_59]))) R85) (by omega) _ _ (hP.sub [1, 2, 3, 4, 5, 6, 7, 9, 10, 11, 12, 13, 14, 15, 16, 17, 18, 19, 20, 21, 22, 23, 8, 24, 25, 26, 27, 28, 0] rfl) (hD.sub [1, 2, 3, 4, 5, 6, 7, 9, 10, 11, 12, 13, 14, 15, 16, 17, 18, 19, 20, 21, 22, 23, 8, 24, 25, 26, 27, 28, 0] (by decide +kernel) rfl) hS ls (lv_sub hl [0, 1, 2, 3, 4, 5, 6, 7, 8, 9] rfl)
          exact loop_85 (6 - 0 + 1) 0 0 unm fsk uso umi upa uki umo usz urd tj tb tl (by omega) (rfl) (by omega) _ _ (hP.sub [0, 1, 2, 3, 4, 5, 6, 7, 8, 9, 10, 11, 12, 13, 14, 15, 16, 17, 18, 19, 20, 21, 22, 23, 24, 25, 26, 27, 28] rfl) (hD.sub [0, 1, 2, 3, 4, 5, 6, 7, 8, 9, 10, 11, 12, 13, 14, 15, 16, 17, 18, 19, 20, 21, 22, 23, 24, 25, 26, 27, 28] (by decide +kernel) rfl) hS ls (lv_sub hl [0, 1, 2, 3, 4, 5, 6, 7, 8, 9] rfl)
      · skip
        have n_17 : ¬ (0 ≤ v3 ∧ v3 ≤ 1) := of_decide_eq_false (bz_eq rfl c_15)
        refine lv_bipush (v := -7) hx hb dX5_kinds_39 (by decide +kernel) ?_
        have hpost : (fun (r : Int32) (u : Int32 × Int32 × Int32 × (Nat → Int32) × (Nat → Int32) × (Nat → Int32) × (Nat → Int32) × (Nat → Int32) × (Nat → Int32) × (Nat → Int32) × (Nat → Int32) × (Nat → Int32)) => match u with | (zj9, zb9, zl9, yt1, yt2, yt3, yt4, yt5, yt6, yt7, yt8, ysk) => r = m_X5_kinds_A jg pb fet fql fso fmi fpa fki fmo fsz frd fct fqo frr sn v1 v2 v3) (-7) (tj, tb, tl, unm, uso, umi, upa, uki, umo, usz, urd, fsk) := (show m_X5_kinds_A jg pb fet fql fso fmi fpa fki fmo fsz frd fct fqo frr sn v1 v2 v3 = (-7) from by unfold m_X5_kinds_A; rw [if_pos c_3, if_pos p_9, if_neg n_17]).symm
        exact W.iret (v := (-7)) hx hb hr (fun t ht hW => ⟨⟨(-7), (tj, tb, tl, unm, uso, umi, upa, uki, umo, usz, urd, fsk), rfl, hpost, by rw [ht]; exact hP.sub [22, 28, 0, 1, 2, 3, 4, 5, 6, 7, 8, 9, 10, 11, 12, 13, 14, 15, 16, 17, 18, 19, 20, 21, 23, 24, 25, 26, 27] rfl, va_K.moved hW.alike hK, hD.sub [22, 28, 0, 1, 2, 3, 4, 5, 6, 7, 8, 9, 10, 11, 12, 13, 14, 15, 16, 17, 18, 19, 20, 21, 23, 24, 25, 26, 27] (by decide +kernel) rfl⟩, hS.F ht⟩) hS.2.2 dX5_kinds_41
    · skip
      have n_10 : (mHas pb v2) = false := bz_eq rfl c_8
      have n_10N : ¬ ((mHas pb v2) = true) := by rw [n_10]; decide
      refine lv_bipush (v := -6) hx hb dX5_kinds_27 (by decide +kernel) ?_
      have hpost : (fun (r : Int32) (u : Int32 × Int32 × Int32 × (Nat → Int32) × (Nat → Int32) × (Nat → Int32) × (Nat → Int32) × (Nat → Int32) × (Nat → Int32) × (Nat → Int32) × (Nat → Int32) × (Nat → Int32)) => match u with | (zj9, zb9, zl9, yt1, yt2, yt3, yt4, yt5, yt6, yt7, yt8, ysk) => r = m_X5_kinds_A jg pb fet fql fso fmi fpa fki fmo fsz frd fct fqo frr sn v1 v2 v3) (-6) (tj, tb, tl, unm, uso, umi, upa, uki, umo, usz, urd, fsk) := (show m_X5_kinds_A jg pb fet fql fso fmi fpa fki fmo fsz frd fct fqo frr sn v1 v2 v3 = (-6) from by unfold m_X5_kinds_A; rw [if_pos c_3, if_neg n_10N]).symm
      exact W.iret (v := (-6)) hx hb hr (fun t ht hW => ⟨⟨(-6), (tj, tb, tl, unm, uso, umi, upa, uki, umo, usz, urd, fsk), rfl, hpost, by rw [ht]; exact hP.sub [22, 28, 0, 1, 2, 3, 4, 5, 6, 7, 8, 9, 10, 11, 12, 13, 14, 15, 16, 17, 18, 19, 20, 21, 23, 24, 25, 26, 27] rfl, va_K.moved hW.alike hK, hD.sub [22, 28, 0, 1, 2, 3, 4, 5, 6, 7, 8, 9, 10, 11, 12, 13, 14, 15, 16, 17, 18, 19, 20, 21, 23, 24, 25, 26, 27] (by decide +kernel) rfl⟩, hS.F ht⟩) hS.2.2 dX5_kinds_29
  · skip
    refine lv_iload hx hb dX5_kinds_13 (lv_at hl 0 rfl) ?_
    have hpost : (fun (r : Int32) (u : Int32 × Int32 × Int32 × (Nat → Int32) × (Nat → Int32) × (Nat → Int32) × (Nat → Int32) × (Nat → Int32) × (Nat → Int32) × (Nat → Int32) × (Nat → Int32) × (Nat → Int32)) => match u with | (zj9, zb9, zl9, yt1, yt2, yt3, yt4, yt5, yt6, yt7, yt8, ysk) => r = m_X5_kinds_A jg pb fet fql fso fmi fpa fki fmo fsz frd fct fqo frr sn v1 v2 v3) (m_X5_refusalOf_A jg pb fql fqo frr sn v1) (tj, tb, tl, unm, uso, umi, upa, uki, umo, usz, urd, fsk) := (show m_X5_kinds_A jg pb fet fql fso fmi fpa fki fmo fsz frd fct fqo frr sn v1 v2 v3 = (m_X5_refusalOf_A jg pb fql fqo frr sn v1) from by unfold m_X5_kinds_A; rw [if_neg c_3]).symm
    exact W.iret (v := (m_X5_refusalOf_A jg pb fql fqo frr sn v1)) hx hb hr (fun t ht hW => ⟨⟨(m_X5_refusalOf_A jg pb fql fqo frr sn v1), (tj, tb, tl, unm, uso, umi, upa, uki, umo, usz, urd, fsk), rfl, hpost, by rw [ht]; exact hP.sub [22, 23, 0, 1, 2, 3, 4, 5, 6, 7, 8, 9, 10, 11, 12, 13, 14, 15, 16, 17, 18, 19, 20, 21, 24, 25, 26, 27, 28] rfl, va_K.moved hW.alike hK, hD.sub [22, 23, 0, 1, 2, 3, 4, 5, 6, 7, 8, 9, 10, 11, 12, 13, 14, 15, 16, 17, 18, 19, 20, 21, 24, 25, 26, 27, 28] (by decide +kernel) rfl⟩, hS.F ht⟩) hS.2.2 dX5_kinds_15
abbrev q_X5_kinds_B (G : gG) (E : gS) (h0 tt rd nw th kp sh tu qn qo ql : Nat) (him : Int32) (v0 : Int32) (v1 : Int32) (v2 : Int32) (v3 : Int32) (A : Nat → Prop) : Array Value → State → Outcome → State → Prop := va_Qi (fun (r : Int32) (u : Unit) => match u with | _ => r = -2) (fun (u : Unit) t => match u with | _ => va_P G.1 vwCl [zo5 h0 tt rd nw th kp sh tu him, zo2 sh qn qo ql] t.heap ∧ gK G t ∧ va_D A [zo5 h0 tt rd nw th kp sh tu him, zo2 sh qn qo ql]) A
set_option maxHeartbeats 4000000 in
set_option maxRecDepth 100000 in
theorem c_X5_kinds_B (l : Launch) (G : gG) (E : gS) (h0 tt rd nw th kp sh tu qn qo ql : Nat) (him : Int32) (v0 : Int32) (v1 : Int32) (v2 : Int32) (v3 : Int32) (sz : Nat) (hno : ¬ (0 ≤ v0 ∧ v0 ≤ 3)) : Met l yX5_kinds wsX5_kinds ({ frames := 4, cells := 0, slots := 0, locals := 89 }) (gPreE G E [.ref h0, .int v0, .int v1, .int v2, .int v3] [zo5 h0 tt rd nw th kp sh tu him, zo2 sh qn qo ql] sz) (q_X5_kinds_B G E h0 tt rd nw th kp sh tu qn qo ql him v0 v1 v2 v3 (va_A [zo5 h0 tt rd nw th kp sh tu him, zo2 sh qn qo ql] sz)) 0 0 (va_A [zo5 h0 tt rd nw th kp sh tu him, zo2 sh qn qo ql] sz) := by
  refine Met.ofW (cc := cX5_kinds) (maxL := 10) (ret := (some .int)) (by decide +kernel) rfl ?_
  intro p e s m args below meth c s₁ B hml hv
  obtain ⟨rfl, hsz, hP, hK, hD0, hE⟩ := hv
  have hx := B.exec
  have hb := B.bytes
  have hr := B.returns
  have hts := atoms_spec (ws := wsX5_kinds) B.pre
  have hown : s.vm.findClass RX5 = some m.cls := findClass_of_methodNamed B.named
  have hlocks := B.notSynchronized
  subst hsz
  have hD := hD0.self (sz := s.heap.size)
  generalize hAe : va_A [zo5 h0 tt rd nw th kp sh tu him, zo2 sh qn qo ql] s.heap.size = A at hD hE ⊢
  have hA : ∀ q : Nat, s.heap.size ≤ q → A q := fun q h => by rw [← hAe]; exact Or.inr h
  have hS : va_S A s.heap s.heap [] := va_S.rf
  have hz9 : gPD G A [zo5 h0 tt rd nw th kp sh tu him, zo2 sh qn qo ql] s.heap := ⟨hP, hD⟩
  have hP := hz9.1
  have hD := hz9.2
  have hl := lv_entry ([.ref h0, .int v0, .int v1, .int v2, .int v3]) (n := 10) (Nat.le_of_ble_eq_true rfl)
  rw [lg_entry_eq]
  generalize (lg_sl ([.ref h0, .int v0, .int v1, .int v2, .int v3]) ++ List.replicate (10 - (lg_sl ([.ref h0, .int v0, .int v1, .int v2, .int v3])).length) Slot.unset).toArray = ls at hl ⊢
  have hl : lv_has ls 10 [zR 0 h0, zI 1 v0, zI 2 v1, zI 3 v2, zI 4 v3] := hl
  refine lv_aload_n hx hb dX5_kinds_0 rfl (lv_at hl 0 rfl) ?_
  refine lv_iload_n hx hb dX5_kinds_1 rfl (lv_at hl 1 rfl) ?_
  refine lv_iload_n hx hb dX5_kinds_2 rfl (lv_at hl 2 rfl) ?_
  have hz9 : gPD G A [zo5 h0 tt rd nw th kp sh tu him, zo2 sh qn qo ql] s.heap := ⟨hP.sub [0, 1] rfl, hD.sub [0, 1] (by decide +kernel) rfl⟩
  have hPc := hz9.1
  have hDc := hz9.2
  have hFc := gFree hPc hD hS hA [0, 1] rfl
  refine va_calli (va_runV (As := [.int v0, .int v1]) (rest := []) ⟨hx, hb, hml, hown, hts⟩ (c_X5_refusalOf_B l G E h0 tt rd nw th kp sh tu qn qo ql him v0 v1 s.heap.size (by first | exact hno | assumption | omega)) (cwV 2 hts gX5_kinds_X5_refusalOf rfl rfl rfl (by decide +kernel) ⟨Nat.le_of_ble_eq_true rfl, Nat.le_of_ble_eq_true rfl⟩) ⟨gPreE_blind, va_recv hK hPc (ci := 5) (q0 := 0) rfl rfl, fun U hU hW => gPreE_of hU hW hK hPc hDc hE hS hFc⟩ rfl rfl hl.1 rfl (lv_room (Nat.le_of_ble_eq_true rfl)) dX5_kinds_3 ⟨Nat.le_of_ble_eq_true rfl, Nat.le_of_ble_eq_true rfl⟩) hS (fun q _ h => hFc q h) hFc (fun r_1 u t H locs ht hvm w_2 hB hz1 hk1 hS => ?_)
  obtain ⟨hP1, hK1, hD1⟩ := hB
  rw [ht] at hP1
  have hz9 : gPD G (va_A _ s.heap.size) [zo5 h0 tt rd nw th kp sh tu him, zo2 sh qn qo ql] H := ⟨hP1, hD1⟩
  have hP1 := hz9.1
  have hD1 := hz9.2
  have w_2 : r_1 = -2 := w_2
  have hz9 : gPD G A [zo5 h0 tt rd nw th kp sh tu him, zo2 sh qn qo ql] H := gJoin hP hD hk1 hFc hP1 hD1 [0, 1] [] rfl rfl rfl (by decide +kernel) (by decide +kernel)
  have hP := hz9.1
  have hD := hz9.2
  subst w_2
  refine lv_istore (lv' := [zI 5 (-2), zR 0 h0, zI 1 v0, zI 2 v1, zI 3 v2, zI 4 v3]) hx hb dX5_kinds_6 hl (by decide +kernel) rfl (fun ls hl => ?_)
  refine lv_iload hx hb dX5_kinds_8 (lv_at hl 0 rfl) ?_
  refine lv_if_eq (tgt := 16) hx hb dX5_kinds_10 (by decide +kernel) (fun c_3 => ?_) (fun c_3 => ?_)
  · exact absurd c_3 (by decide +kernel)
  refine lv_iload hx hb dX5_kinds_13 (lv_at hl 0 rfl) ?_
  have hP9 := hP.sub (ws' := [zo5 h0 tt rd nw th kp sh tu him, zo2 sh qn qo ql]) [0, 1] rfl
  have hD9 := hD.sub (ws' := [zo5 h0 tt rd nw th kp sh tu him, zo2 sh qn qo ql]) [0, 1] (by decide +kernel) rfl
  have hpost : (fun (r : Int32) (u : Unit) => match u with | _ => r = -2) (-2) () := rfl
  exact W.iret (v := (-2)) hx hb hr (fun t ht hW => ⟨⟨(-2), (), rfl, hpost, by rw [ht]; exact hP9, va_K.moved hW.alike hK, hD9⟩, hS.F ht⟩) hS.2.2 dX5_kinds_15
noncomputable def p_X5_sizes_A_78 (fet : Nat → Nat) (fql : Nat → Nat) (fso : Nat → Int32) (fmi : Nat → Int32) (fpa : Nat → Int32) (fki : Nat → Int32) (fmo : Nat → Int32) (fsz : Nat → Int32) (frd : Nat → Int32) (fct : Nat → Int32) (frr : Nat → Int32) (sn : Nat) (v1 : Int32) (v2 : Int32) : Nat → Nat → Int32 → Int32 → Nat × Int32 × Int32
  | 0, w78, mn, le => (w78, mn, le)
  | q9 + 1, w78, mn, le => if (m_X5_firstOtherwise fet fql fso fmi fpa fki fmo fsz (upd frd (nC v2) (nI (100 - w78 - 1))) fct frr sn (nC v1)) = (-1) then p_X5_sizes_A_78 fet fql fso fmi fpa fki fmo fsz frd fct frr sn v1 v2 q9 (w78 + 1) (mn + 1) (nI (100 - w78 - 1)) else p_X5_sizes_A_78 fet fql fso fmi fpa fki fmo fsz frd fct frr sn v1 v2 q9 (w78 + 1) mn le
noncomputable def g_X5_sizes_A_78 (fet : Nat → Nat) (fql : Nat → Nat) (fso : Nat → Int32) (fmi : Nat → Int32) (fpa : Nat → Int32) (fki : Nat → Int32) (fmo : Nat → Int32) (fsz : Nat → Int32) (frd : Nat → Int32) (fct : Nat → Int32) (frr : Nat → Int32) (sn : Nat) (v1 : Int32) (v2 : Int32) : Nat × Int32 × Int32 := p_X5_sizes_A_78 fet fql fso fmi fpa fki fmo fsz frd fct frr sn v1 v2 (100 - 0) 0 0 (-1)
noncomputable def p_X5_sizes_A_78q1 (fet : Nat → Nat) (fql : Nat → Nat) (fso : Nat → Int32) (fmi : Nat → Int32) (fpa : Nat → Int32) (fki : Nat → Int32) (fmo : Nat → Int32) (fsz : Nat → Int32) (frd : Nat → Int32) (fct : Nat → Int32) (frr : Nat → Int32) (sn : Nat) (v1 : Int32) (v2 : Int32) : Nat → Nat → Int32 → Int32 → Nat × Int32 × Int32
  | 0, w78, mn, le => (w78, mn, le)
  | q9 + 1, w78, mn, le => if (m_X5_firstOtherwise fet fql fso fmi fpa fki fmo (upd fsz (nC v2) (nI (100 - w78 - 1))) frd fct frr sn (nC v1)) = (-1) then p_X5_sizes_A_78q1 fet fql fso fmi fpa fki fmo fsz frd fct frr sn v1 v2 q9 (w78 + 1) (mn + 1) (nI (100 - w78 - 1)) else p_X5_sizes_A_78q1 fet fql fso fmi fpa fki fmo fsz frd fct frr sn v1 v2 q9 (w78 + 1) mn le
noncomputable def g_X5_sizes_A_78q1 (fet : Nat → Nat) (fql : Nat → Nat) (fso : Nat → Int32) (fmi : Nat → Int32) (fpa : Nat → Int32) (fki : Nat → Int32) (fmo : Nat → Int32) (fsz : Nat → Int32) (frd : Nat → Int32) (fct : Nat → Int32) (frr : Nat → Int32) (sn : Nat) (v1 : Int32) (v2 : Int32) : Nat × Int32 × Int32 := p_X5_sizes_A_78q1 fet fql fso fmi fpa fki fmo fsz frd fct frr sn v1 v2 (100 - 0) 0 0 (-1)
noncomputable def m_X5_sizes_A (jg : Nat) (pb : Nat) (fet : Nat → Nat) (fql : Nat → Nat) (fso : Nat → Int32) (fmi : Nat → Int32) (fpa : Nat → Int32) (fki : Nat → Int32) (fmo : Nat → Int32) (fsz : Nat → Int32) (frd : Nat → Int32) (fct : Nat → Int32) (fqo : Nat → Int32) (frr : Nat → Int32) (sn : Nat) (v1 : Int32) (v2 : Int32) (v3 : Int32) : Int32 := if (m_X5_refusalOf_A jg pb fql fqo frr sn v1) = 0 then (if (mHas pb v2) = true then (if (m_X5_isPairOfBits v3) = 0 then -7 else (if (v3 / 10) = 0 then (if (iRem v3 10) = 0 then ((g_X5_sizes_A_78q1 fet fql fso fmi fpa fki fmo fsz frd fct frr sn v1 v2).2.1) else ((g_X5_sizes_A_78q1 fet fql fso fmi fpa fki fmo fsz frd fct frr sn v1 v2).2.2)) else (if (iRem v3 10) = 0 then ((g_X5_sizes_A_78 fet fql fso fmi fpa fki fmo fsz frd fct frr sn v1 v2).2.1) else ((g_X5_sizes_A_78 fet fql fso fmi fpa fki fmo fsz frd fct frr sn v1 v2).2.2)))) else -6) else m_X5_refusalOf_A jg pb fql fqo frr sn v1
abbrev q_X5_sizes_A (G : gG) (E : gS) (h0 tt rd nw th kp sh tu n1 n2 n3 n4 n5 n6 n7 n8 t1 t2 t3 t4 t5 t6 t7 t8 co en sk ct et qn qo ql rr : Nat) (jg : Nat) (pb : Nat) (lw : Nat) (tx : Nat) (him : Int32) (wr : Int32) (tj : Int32) (tb : Int32) (tl : Int32) (fc : Nat → Option Nat) (fe : Nat → Option Nat) (fn : Nat → Option Nat) (fet : Nat → Nat) (fql : Nat → Nat) (fso : Nat → Int32) (fmi : Nat → Int32) (fpa : Nat → Int32) (fki : Nat → Int32) (fmo : Nat → Int32) (fsz : Nat → Int32) (frd : Nat → Int32) (unm : Nat → Int32) (uso : Nat → Int32) (umi : Nat → Int32) (upa : Nat → Int32) (uki : Nat → Int32) (umo : Nat → Int32) (usz : Nat → Int32) (urd : Nat → Int32) (fct : Nat → Int32) (fsk : Nat → Int32) (fqo : Nat → Int32) (frr : Nat → Int32) (sn : Nat) (v1 : Int32) (v2 : Int32) (v3 : Int32) (A : Nat → Prop) : Array Value → State → Outcome → State → Prop := va_Qi (fun (r : Int32) (u : Int32 × Int32 × Int32 × (Nat → Int32) × (Nat → Int32) × (Nat → Int32) × (Nat → Int32) × (Nat → Int32) × (Nat → Int32) × (Nat → Int32) × (Nat → Int32) × (Nat → Int32)) => match u with | (zj9, zb9, zl9, yt1, yt2, yt3, yt4, yt5, yt6, yt7, yt8, ysk) => r = m_X5_sizes_A jg pb fet fql fso fmi fpa fki fmo fsz frd fct fqo frr sn v1 v2 v3) (fun (u : Int32 × Int32 × Int32 × (Nat → Int32) × (Nat → Int32) × (Nat → Int32) × (Nat → Int32) × (Nat → Int32) × (Nat → Int32) × (Nat → Int32) × (Nat → Int32) × (Nat → Int32)) t => match u with | (zj9, zb9, zl9, yt1, yt2, yt3, yt4, yt5, yt6, yt7, yt8, ysk) => va_P G.1 vwCl [zo5 h0 tt rd nw th kp sh tu him, zo0 nw tt n1 n2 n3 n4 n5 n6 n7 n8 (nI jg) (nI pb) (nI lw), zi G n2 4 fso, zi G n3 4 fmi, zi G n4 4 fpa, zi G n5 6 fki, zi G n6 6 fmo, zi G n7 6 fsz, zi G n8 6 frd, zo0 th tt t1 t2 t3 t4 t5 t6 t7 t8 zj9 zb9 zl9, zi G t1 6 yt1, zi G t2 4 yt2, zi G t3 4 yt3, zi G t4 4 yt4, zi G t5 6 yt5, zi G t6 6 yt6, zi G t7 6 yt7, zi G t8 6 yt8, zo3 tt co en sk wr (nI tx), zr G co 6 fc, zr G en 6 fe, zi G ct 160 fct, zi G et 3 (nF fet), zi G sk 32 ysk, zo2 sh qn qo ql, zr G qn 4 fn, zi G qo 4 fqo, zi G ql 4 (nF fql), zi G rr 40 frr] t.heap ∧ gK G t ∧ va_D A [zo5 h0 tt rd nw th kp sh tu him, zo0 nw tt n1 n2 n3 n4 n5 n6 n7 n8 (nI jg) (nI pb) (nI lw), zi G n2 4 fso, zi G n3 4 fmi, zi G n4 4 fpa, zi G n5 6 fki, zi G n6 6 fmo, zi G n7 6 fsz, zi G n8 6 frd, zo0 th tt t1 t2 t3 t4 t5 t6 t7 t8 zj9 zb9 zl9, zi G t1 6 yt1, zi G t2 4 yt2, zi G t3 4 yt3, zi G t4 4 yt4, zi G t5 6 yt5, zi G t6 6 yt6, zi G t7 6 yt7, zi G t8 6 yt8, zo3 tt co en sk wr (nI tx), zr G co 6 fc, zr G en 6 fe, zi G ct 160 fct, zi G et 3 (nF fet), zi G sk 32 ysk, zo2 sh qn qo ql, zr G qn 4 fn, zi G qo 4 fqo, zi G ql 4 (nF fql), zi G rr 40 frr]) A
set_option maxHeartbeats 4000000 in
set_option maxRecDepth 100000 in
theorem c_X5_sizes_A (l : Launch) (G : gG) (E : gS) (h0 tt rd nw th kp sh tu n1 n2 n3 n4 n5 n6 n7 n8 t1 t2 t3 t4 t5 t6 t7 t8 co en sk ct et qn qo ql rr : Nat) (jg : Nat) (pb : Nat) (lw : Nat) (tx : Nat) (him : Int32) (wr : Int32) (tj : Int32) (tb : Int32) (tl : Int32) (fc : Nat → Option Nat) (fe : Nat → Option Nat) (fn : Nat → Option Nat) (fet : Nat → Nat) (fql : Nat → Nat) (fso : Nat → Int32) (fmi : Nat → Int32) (fpa : Nat → Int32) (fki : Nat → Int32) (fmo : Nat → Int32) (fsz : Nat → Int32) (frd : Nat → Int32) (unm : Nat → Int32) (uso : Nat → Int32) (umi : Nat → Int32) (upa : Nat → Int32) (uki : Nat → Int32) (umo : Nat → Int32) (usz : Nat → Int32) (urd : Nat → Int32) (fct : Nat → Int32) (fsk : Nat → Int32) (fqo : Nat → Int32) (frr : Nat → Int32) (sn : Nat) (v1 : Int32) (v2 : Int32) (v3 : Int32) (sz : Nat) (hsn : sn < 4) (hrw : fn sn = some rr) (hql : ∀ q9, q9 < 4 → fql q9 ≤ 40) (htn : lw < tx ∧ tx ≤ 6) (hc : fc lw = some ct) (he : fe lw = some et) (hwx : mWx fct fet) (hjg : jg ≤ 4) (hpb : pb ≤ 6) : Met l yX5_sizes wsX5_sizes ({ frames := 6, cells := 0, slots := 0, locals := 441 }) (gPreE G E [.ref h0, .int (nI sn), .int v1, .int v2, .int v3] [zo5 h0 tt rd nw th kp sh tu him, zo0 nw tt n1 n2 n3 n4 n5 n6 n7 n8 (nI jg) (nI pb) (nI lw), zi G n2 4 fso, zi G n3 4 fmi, zi G n4 4 fpa, zi G n5 6 fki, zi G n6 6 fmo, zi G n7 6 fsz, zi G n8 6 frd, zo0 th tt t1 t2 t3 t4 t5 t6 t7 t8 tj tb tl, zi G t1 6 unm, zi G t2 4 uso, zi G t3 4 umi, zi G t4 4 upa, zi G t5 6 uki, zi G t6 6 umo, zi G t7 6 usz, zi G t8 6 urd, zo3 tt co en sk wr (nI tx), zr G co 6 fc, zr G en 6 fe, zi G ct 160 fct, zi G et 3 (nF fet), zi G sk 32 fsk, zo2 sh qn qo ql, zr G qn 4 fn, zi G qo 4 fqo, zi G ql 4 (nF fql), zi G rr 40 frr] sz) (q_X5_sizes_A G E h0 tt rd nw th kp sh tu n1 n2 n3 n4 n5 n6 n7 n8 t1 t2 t3 t4 t5 t6 t7 t8 co en sk ct et qn qo ql rr jg pb lw tx him wr tj tb tl fc fe fn fet fql fso fmi fpa fki fmo fsz frd unm uso umi upa uki umo usz urd fct fsk fqo frr sn v1 v2 v3 (va_A [zo5 h0 tt rd nw th kp sh tu him, zo0 nw tt n1 n2 n3 n4 n5 n6 n7 n8 (nI jg) (nI pb) (nI lw), zi G n2 4 fso, zi G n3 4 fmi, zi G n4 4 fpa, zi G n5 6 fki, zi G n6 6 fmo, zi G n7 6 fsz, zi G n8 6 frd, zo0 th tt t1 t2 t3 t4 t5 t6 t7 t8 tj tb tl, zi G t1 6 unm, zi G t2 4 uso, zi G t3 4 umi, zi G t4 4 upa, zi G t5 6 uki, zi G t6 6 umo, zi G t7 6 usz, zi G t8 6 urd, zo3 tt co en sk wr (nI tx), zr G co 6 fc, zr G en 6 fe, zi G ct 160 fct, zi G et 3 (nF fet), zi G sk 32 fsk, zo2 sh qn qo ql, zr G qn 4 fn, zi G qo 4 fqo, zi G ql 4 (nF fql), zi G rr 40 frr] sz)) 0 0 (va_A [zo5 h0 tt rd nw th kp sh tu him, zo0 nw tt n1 n2 n3 n4 n5 n6 n7 n8 (nI jg) (nI pb) (nI lw), zi G n2 4 fso, zi G n3 4 fmi, zi G n4 4 fpa, zi G n5 6 fki, zi G n6 6 fmo, zi G n7 6 fsz, zi G n8 6 frd, zo0 th tt t1 t2 t3 t4 t5 t6 t7 t8 tj tb tl, zi G t1 6 unm, zi G t2 4 uso, zi G t3 4 umi, zi G t4 4 upa, zi G t5 6 uki, zi G t6 6 umo, zi G t7 6 usz, zi G t8 6 urd, zo3 tt co en sk wr (nI tx), zr G co 6 fc, zr G en 6 fe, zi G ct 160 fct, zi G et 3 (nF fet), zi G sk 32 fsk, zo2 sh qn qo ql, zr G qn 4 fn, zi G qo 4 fqo, zi G ql 4 (nF fql), zi G rr 40 frr] sz) := by
  refine Met.ofW (cc := cX5_sizes) (maxL := 10) (ret := (some .int)) (by decide +kernel) rfl ?_
  intro p e s m args below meth c s₁ B hml hv
  obtain ⟨rfl, hsz, hP, hK, hD0, hE⟩ := hv
  have hx := B.exec
  have hb := B.bytes
  have hr := B.returns
  have hts := atoms_spec (ws := wsX5_sizes) B.pre
  have hown : s.vm.findClass RX5 = some m.cls := findClass_of_methodNamed B.named
  have hlocks := B.notSynchronized
  subst hsz
  have hD := hD0.self (sz := s.heap.size)
  generalize hAe : va_A [zo5 h0 tt rd nw th kp sh tu him, zo0 nw tt n1 n2 n3 n4 n5 n6 n7 n8 (nI jg) (nI pb) (nI lw), zi G n2 4 fso, zi G n3 4 fmi, zi G n4 4 fpa, zi G n5 6 fki, zi G n6 6 fmo, zi G n7 6 fsz, zi G n8 6 frd, zo0 th tt t1 t2 t3 t4 t5 t6 t7 t8 tj tb tl, zi G t1 6 unm, zi G t2 4 uso, zi G t3 4 umi, zi G t4 4 upa, zi G t5 6 uki, zi G t6 6 umo, zi G t7 6 usz, zi G t8 6 urd, zo3 tt co en sk wr (nI tx), zr G co 6 fc, zr G en 6 fe, zi G ct 160 fct, zi G et 3 (nF fet), zi G sk 32 fsk, zo2 sh qn qo ql, zr G qn 4 fn, zi G qo 4 fqo, zi G ql 4 (nF fql), zi G rr 40 frr] s.heap.size = A at hD hE ⊢
  have hA : ∀ q : Nat, s.heap.size ≤ q → A q := fun q h => by rw [← hAe]; exact Or.inr h
  have hS : va_S A s.heap s.heap [] := va_S.rf
  have hz9 : gPD G A [zo5 h0 tt rd nw th kp sh tu him, zo0 nw tt n1 n2 n3 n4 n5 n6 n7 n8 (nI jg) (nI pb) (nI lw), zi G n2 4 fso, zi G n3 4 fmi, zi G n4 4 fpa, zi G n5 6 fki, zi G n6 6 fmo, zi G n7 6 fsz, zi G n8 6 frd, zo0 th tt t1 t2 t3 t4 t5 t6 t7 t8 tj tb tl, zi G t1 6 unm, zi G t2 4 uso, zi G t3 4 umi, zi G t4 4 upa, zi G t5 6 uki, zi G t6 6 umo, zi G t7 6 usz, zi G t8 6 urd, zo3 tt co en sk wr (nI tx), zr G co 6 fc, zr G en 6 fe, zi G ct 160 fct, zi G et 3 (nF fet), zi G sk 32 fsk, zo2 sh qn qo ql, zr G qn 4 fn, zi G qo 4 fqo, zi G ql 4 (nF fql), zi G rr 40 frr] s.heap := ⟨hP, hD⟩
  have hP := hz9.1
  have hD := hz9.2
  have hl := lv_entry ([.ref h0, .int (nI sn), .int v1, .int v2, .int v3]) (n := 10) (Nat.le_of_ble_eq_true rfl)
  rw [lg_entry_eq]
  generalize (lg_sl ([.ref h0, .int (nI sn), .int v1, .int v2, .int v3]) ++ List.replicate (10 - (lg_sl ([.ref h0, .int (nI sn), .int v1, .int v2, .int v3])).length) Slot.unset).toArray = ls at hl ⊢
  have hl : lv_has ls 10 [zR 0 h0, zI 1 (nI sn), zI 2 v1, zI 3 v2, zI 4 v3] := hl
  have kf28 := hts (.fieldLink RX5 28 "PebbleInShoe" "now" "LPebbleInShoe$Court;") (by decide +kernel)
  have hiX5 := (by decide +kernel : ∀ w ∈ wsX50, w ∈ wsX5_sizes)
  have kf32 := hts (.fieldLink RX5 32 "PebbleInShoe" "thought" "LPebbleInShoe$Court;") (by decide +kernel)
  have kf125 := hts (.fieldLink RX5 125 "PebbleInShoe$Court" "round" "[I") (by decide +kernel)
  have hiX0 := (by decide +kernel : ∀ w ∈ wsX00, w ∈ wsX5_sizes)
  have kf122 := hts (.fieldLink RX5 122 "PebbleInShoe$Court" "size" "[I") (by decide +kernel)
  refine lv_aload_n hx hb dX5_sizes_0 rfl (lv_at hl 0 rfl) ?_
  refine lv_iload_n hx hb dX5_sizes_1 rfl (lv_at hl 1 rfl) ?_
  refine lv_iload_n hx hb dX5_sizes_2 rfl (lv_at hl 2 rfl) ?_
  have hz9 : gPD G A [zo5 h0 tt rd nw th kp sh tu him, zo0 nw tt n1 n2 n3 n4 n5 n6 n7 n8 (nI jg) (nI pb) (nI lw), zo2 sh qn qo ql, zr G qn 4 fn, zi G qo 4 fqo, zi G ql 4 (nF fql), zi G rr 40 frr] s.heap := ⟨hP.sub [0, 1, 24, 25, 26, 27, 28] rfl, hD.sub [0, 1, 24, 25, 26, 27, 28] (by decide +kernel) rfl⟩
  have hPc := hz9.1
  have hDc := hz9.2
  have hFc := gFree hPc hD hS hA [0, 1, 24, 25, 26, 27, 28] rfl
  refine va_calli (va_runV (As := [.int (nI sn), .int v1]) (rest := []) ⟨hx, hb, hml, hown, hts⟩ (c_X5_refusalOf_A l G E h0 tt rd nw th kp sh tu n1 n2 n3 n4 n5 n6 n7 n8 qn qo ql rr jg pb lw him fn fql fqo frr sn v1 s.heap.size (by first | exact hsn | assumption | omega) (by first | exact hrw | assumption | omega) (by first | exact hql | assumption | omega) (by first | exact hjg | assumption | omega) (by first | exact hpb | assumption | omega)) (cwV 2 hts gX5_sizes_X5_refusalOf rfl rfl rfl (by decide +kernel) ⟨Nat.le_of_ble_eq_true rfl, Nat.le_of_ble_eq_true rfl⟩) ⟨gPreE_blind, va_recv hK hPc (ci := 5) (q0 := 0) rfl rfl, fun U hU hW => gPreE_of hU hW hK hPc hDc hE hS hFc⟩ rfl rfl hl.1 rfl (lv_room (Nat.le_of_ble_eq_true rfl)) dX5_sizes_3 ⟨Nat.le_of_ble_eq_true rfl, Nat.le_of_ble_eq_true rfl⟩) hS (fun q _ h => hFc q h) hFc (fun r_1 u t H locs ht hvm w_2 hB hz1 hk1 hS => ?_)
  obtain ⟨hP1, hK1, hD1⟩ := hB
  rw [ht] at hP1
  have hz9 : gPD G (va_A _ s.heap.size) [zo5 h0 tt rd nw th kp sh tu him, zo0 nw tt n1 n2 n3 n4 n5 n6 n7 n8 (nI jg) (nI pb) (nI lw), zo2 sh qn qo ql, zr G qn 4 fn, zi G qo 4 fqo, zi G ql 4 (nF fql), zi G rr 40 frr] H := ⟨hP1, hD1⟩
  have hP1 := hz9.1
  have hD1 := hz9.2
  have w_2 : r_1 = m_X5_refusalOf_A jg pb fql fqo frr sn v1 := w_2
  have hz9 : gPD G A [zi G n2 4 fso, zi G n3 4 fmi, zi G n4 4 fpa, zi G n5 6 fki, zi G n6 6 fmo, zi G n7 6 fsz, zi G n8 6 frd, zo0 th tt t1 t2 t3 t4 t5 t6 t7 t8 tj tb tl, zi G t1 6 unm, zi G t2 4 uso, zi G t3 4 umi, zi G t4 4 upa, zi G t5 6 uki, zi G t6 6 umo, zi G t7 6 usz, zi G t8 6 urd, zo3 tt co en sk wr (nI tx), zr G co 6 fc, zr G en 6 fe, zi G ct 160 fct, zi G et 3 (nF fet), zi G sk 32 fsk, zo5 h0 tt rd nw th kp sh tu him, zo0 nw tt n1 n2 n3 n4 n5 n6 n7 n8 (nI jg) (nI pb) (nI lw), zo2 sh qn qo ql, zr G qn 4 fn, zi G qo 4 fqo, zi G ql 4 (nF fql), zi G rr 40 frr] H := gJoin hP hD hk1 hFc hP1 hD1 [0, 1, 24, 25, 26, 27, 28] [2, 3, 4, 5, 6, 7, 8, 9, 10, 11, 12, 13, 14, 15, 16, 17, 18, 19, 20, 21, 22, 23] rfl rfl rfl (by decide +kernel) (by decide +kernel)
  have hP := hz9.1
  have hD := hz9.2
  subst w_2
  refine lv_istore (lv' := [zI 5 (m_X5_refusalOf_A jg pb fql fqo frr sn v1), zR 0 h0, zI 1 (nI sn), zI 2 v1, zI 3 v2, zI 4 v3]) hx hb dX5_sizes_6 hl (by decide +kernel) rfl (fun ls hl => ?_)
  refine lv_iload hx hb dX5_sizes_8 (lv_at hl 0 rfl) ?_
  refine lv_if_eq (tgt := 16) hx hb dX5_sizes_10 (by decide +kernel) (fun c_3 => ?_) (fun c_3 => ?_)
  · skip
    obtain ⟨hjw, hvl⟩ := refusalOf_0 (hql sn hsn) c_3
    have hv_4 : v1 = nI (nC v1) := mHas_eq hjw
    have hk_5 : nC v1 < jg := mHas_lt (by omega) hjw
    refine lv_aload_n hx hb dX5_sizes_16 rfl (lv_at hl 1 rfl) ?_
    refine va_get (D := G.1) (ci := 5) (v := .ref nw) (C := RX5) (T := TX5) (N := 8) hx hb hts hiX5 hown hK hP 22 rfl rfl 2 (by decide +kernel) kf28 (fun _ h9 => h9) rfl dX5_sizes_17 ?_
    refine lv_iload_n hx hb dX5_sizes_20 rfl (lv_at hl 4 rfl) ?_
    have hz9 : gPD G A [zo0 nw tt n1 n2 n3 n4 n5 n6 n7 n8 (nI jg) (nI pb) (nI lw)] H := ⟨hP.sub [23] rfl, hD.sub [23] (by decide +kernel) rfl⟩
    have hPc := hz9.1
    have hDc := hz9.2
    have hFc := gFree hPc hD hS hA [23] rfl
    refine va_calli (va_runV (As := [.int v2]) (rest := []) ⟨hx, hb, hml, hown, hts⟩ (c_X0_hasPebble_g l G nw tt n1 n2 n3 n4 n5 n6 n7 n8 jg pb lw v2 H.size (by first | exact hjg | assumption | omega) (by first | exact hpb | assumption | omega)) (cwV 1 hts gX5_sizes_X0_hasPebble rfl rfl rfl (by decide +kernel) ⟨Nat.le_of_ble_eq_true rfl, Nat.le_of_ble_eq_true rfl⟩) ⟨gPre_blind, va_recv hK hPc (ci := 0) (q0 := 0) rfl rfl, fun U hU hW => gPre_of hU hW hK hPc hDc⟩ rfl rfl hl.1 rfl (lv_room (Nat.le_of_ble_eq_true rfl)) dX5_sizes_21 ⟨Nat.le_of_ble_eq_true rfl, Nat.le_of_ble_eq_true rfl⟩) hS (fun q _ h => hFc q h) hFc (fun r_6 u t H locs ht hvm w_7 hB hz1 hk1 hS => ?_)
    obtain ⟨hP1, hK1, hD1⟩ := hB
    rw [ht] at hP1
    have hz9 : gPD G (va_A _ _) [zo0 nw tt n1 n2 n3 n4 n5 n6 n7 n8 (nI jg) (nI pb) (nI lw)] H := ⟨hP1, hD1⟩
    have hP1 := hz9.1
    have hD1 := hz9.2
    have w_7 : r_6 = bz (mHas pb v2) := w_7
    have hz9 : gPD G A [zi G n2 4 fso, zi G n3 4 fmi, zi G n4 4 fpa, zi G n5 6 fki, zi G n6 6 fmo, zi G n7 6 fsz, zi G n8 6 frd, zo0 th tt t1 t2 t3 t4 t5 t6 t7 t8 tj tb tl, zi G t1 6 unm, zi G t2 4 uso, zi G t3 4 umi, zi G t4 4 upa, zi G t5 6 uki, zi G t6 6 umo, zi G t7 6 usz, zi G t8 6 urd, zo3 tt co en sk wr (nI tx), zr G co 6 fc, zr G en 6 fe, zi G ct 160 fct, zi G et 3 (nF fet), zi G sk 32 fsk, zo5 h0 tt rd nw th kp sh tu him, zo2 sh qn qo ql, zr G qn 4 fn, zi G qo 4 fqo, zi G ql 4 (nF fql), zi G rr 40 frr, zo0 nw tt n1 n2 n3 n4 n5 n6 n7 n8 (nI jg) (nI pb) (nI lw)] H := gJoin hP hD hk1 hFc hP1 hD1 [23] [0, 1, 2, 3, 4, 5, 6, 7, 8, 9, 10, 11, 12, 13, 14, 15, 16, 17, 18, 19, 20, 21, 22, 24, 25, 26, 27, 28] rfl rfl rfl (by decide +kernel) (by decide +kernel)
    have hP := hz9.1
    have hD := hz9.2
    subst w_7
    refine lv_if_ne (tgt := 30) hx hb dX5_sizes_24 (by decide +kernel) (fun c_8 => ?_) (fun c_8 => ?_)
    · skip
      have p_9 : (mHas pb v2) = true := bz_ne rfl c_8
      have hv_11 : v2 = nI (nC v2) := mHas_eq p_9
      have hk_12 : nC v2 < pb := mHas_lt (by omega) p_9
      refine lv_iload hx hb dX5_sizes_30 (lv_at hl 5 rfl) ?_
      have hz9 : gPD G A [] H := ⟨hP.sub [] rfl, hD.sub [] (by decide +kernel) rfl⟩
      have hPc := hz9.1
      have hDc := hz9.2
      have hFc := gFree hPc hD hS hA [] rfl
      refine va_calli (va_runS (As := [.int v3]) (rest := []) ⟨hx, hb, hml, hown, hts⟩ (c_X5_isPairOfBits l G v3 H.size) (va_cwS 1 hts gX5_sizes_X5_isPairOfBits rfl rfl rfl (by decide +kernel) ⟨Nat.le_of_ble_eq_true rfl, Nat.le_of_ble_eq_true rfl⟩) ⟨gPre_blind, fun U hU hW => gPre_of hU hW hK hPc hDc⟩ rfl rfl hl.1 rfl (lv_room (Nat.le_of_ble_eq_true rfl)) dX5_sizes_32 ⟨Nat.le_of_ble_eq_true rfl, Nat.le_of_ble_eq_true rfl⟩) hS (fun q _ h => hFc q h) hFc (fun r_13 u t H locs ht hvm w_14 hB hz1 hk1 hS => ?_)
      obtain ⟨hP1, hK1, hD1⟩ := hB
      rw [ht] at hP1
      have hz9 : gPD G (va_A _ _) [] H := ⟨hP1, hD1⟩
      have hP1 := hz9.1
      have hD1 := hz9.2
      have w_14 : r_13 = m_X5_isPairOfBits v3 := w_14
      have hz9 : gPD G A [zi G n2 4 fso, zi G n3 4 fmi, zi G n4 4 fpa, zi G n5 6 fki, zi G n6 6 fmo, zi G n7 6 fsz, zi G n8 6 frd, zo0 th tt t1 t2 t3 t4 t5 t6 t7 t8 tj tb tl, zi G t1 6 unm, zi G t2 4 uso, zi G t3 4 umi, zi G t4 4 upa, zi G t5 6 uki, zi G t6 6 umo, zi G t7 6 usz, zi G t8 6 urd, zo3 tt co en sk wr (nI tx), zr G co 6 fc, zr G en 6 fe, zi G ct 160 fct, zi G et 3 (nF fet), zi G sk 32 fsk, zo5 h0 tt rd nw th kp sh tu him, zo2 sh qn qo ql, zr G qn 4 fn, zi G qo 4 fqo, zi G ql 4 (nF fql), zi G rr 40 frr, zo0 nw tt n1 n2 n3 n4 n5 n6 n7 n8 (nI jg) (nI pb) (nI lw)] H := gJoin hP hD hk1 hFc hP1 hD1 [] [0, 1, 2, 3, 4, 5, 6, 7, 8, 9, 10, 11, 12, 13, 14, 15, 16, 17, 18, 19, 20, 21, 22, 23, 24, 25, 26, 27, 28] rfl rfl rfl (by decide +kernel) (by decide +kernel)
      have hP := hz9.1
      have hD := hz9.2
      subst w_14
      refine lv_if_ne (tgt := 41) hx hb dX5_sizes_35 (by decide +kernel) (fun c_15 => ?_) (fun c_15 => ?_)
      · skip
        refine lv_iload hx hb dX5_sizes_41 (lv_at hl 5 rfl) ?_
        refine lv_bipush (v := 10) hx hb dX5_sizes_43 (by decide +kernel) ?_
        refine lv_idiv hx hb dX5_sizes_45 (by decide +kernel) ?_
        refine lv_if_ne (tgt := 59) hx hb dX5_sizes_46 (by decide +kernel) (fun c_16 => ?_) (fun c_16 => ?_)
        · skip
          refine lv_aload_n hx hb dX5_sizes_59 rfl (lv_at hl 1 rfl) ?_
          refine va_get (D := G.1) (ci := 5) (v := .ref th) (C := RX5) (T := TX5) (N := 8) hx hb hts hiX5 hown hK hP 22 rfl rfl 3 (by decide +kernel) kf32 (fun _ h9 => h9) rfl dX5_sizes_60 ?_
          refine va_get (D := G.1) (ci := 0) (v := .ref t8) (C := RX0) (T := TX0) (N := 12) hx hb hts hiX0 hown hK hP 7 rfl rfl 8 (by decide +kernel) kf125 (fun _ h9 => h9) rfl dX5_sizes_63 ?_
          refine lv_astore (lv' := [zR 6 t8, zI 5 (m_X5_refusalOf_A jg pb fql fqo frr sn v1), zR 0 h0, zI 1 (nI sn), zI 2 v1, zI 3 v2, zI 4 v3]) hx hb dX5_sizes_66 hl (by decide +kernel) rfl (fun ls hl => ?_)
          refine lv_iconst (v := 0) hx hb dX5_sizes_68 (by decide +kernel) ?_
          refine lv_istore (lv' := [zI 7 0, zR 6 t8, zI 5 (m_X5_refusalOf_A jg pb fql fqo frr sn v1), zR 0 h0, zI 1 (nI sn), zI 2 v1, zI 3 v2, zI 4 v3]) hx hb dX5_sizes_69 hl (by decide +kernel) rfl (fun ls hl => ?_)
          refine lv_iconst (v := -1) hx hb dX5_sizes_71 (by decide +kernel) ?_
          refine lv_istore (lv' := [zI 8 (-1), zI 7 0, zR 6 t8, zI 5 (m_X5_refusalOf_A jg pb fql fqo frr sn v1), zR 0 h0, zI 1 (nI sn), zI 2 v1, zI 3 v2, zI 4 v3]) hx hb dX5_sizes_72 hl (by decide +kernel) rfl (fun ls hl => ?_)
          refine lv_bipush (v := 99) hx hb dX5_sizes_74 (by decide +kernel) ?_
          refine lv_istore (lv' := [zI 9 99, zI 8 (-1), zI 7 0, zR 6 t8, zI 5 (m_X5_refusalOf_A jg pb fql fqo frr sn v1), zR 0 h0, zI 1 (nI sn), zI 2 v1, zI 3 v2, zI 4 v3]) hx hb dX5_sizes_76 hl (by decide +kernel) rfl (fun ls hl => ?_)
          have e9 : (99 : Int32) = nI (100 - 0) - 1 := by decide
          rw [e9] at hl
          have loop_78 : ∀ (n9 : Nat) (w78 : Nat) (mn : Int32) (le : Int32) (x78t1 : Nat → Int32) (x78sk : Nat → Int32) (x78t2 : Nat → Int32) (x78t3 : Nat → Int32) (x78t4 : Nat → Int32) (x78t5 : Nat → Int32) (x78t6 : Nat → Int32) (x78t7 : Nat → Int32) (x78t8 : Nat → Int32) (zj9l : Int32) (zb9l : Int32) (zl9l : Int32), (w78 ≤ 100) → (p_X5_sizes_A_78 fet fql fso fmi fpa fki fmo fsz frd fct frr sn v1 v2 (100 - w78) w78 mn le = (g_X5_sizes_A_78 fet fql fso fmi fpa fki fmo fsz frd fct frr sn v1 v2)) → (100 - w78) < n9 → ∀ (H : Heap) (locs : List Loc), va_P G.1 vwCl [zi G n2 4 fso, zi G n3 4 fmi, zi G n4 4 fpa, zi G n5 6 fki, zi G n6 6 fmo, zi G n7 6 fsz, zi G n8 6 frd, zo0 th tt t1 t2 t3 t4 t5 t6 t7 t8 zj9l zb9l zl9l, zi G t1 6 x78t1, zi G t2 4 x78t2, zi G t3 4 x78t3, zi G t4 4 x78t4, zi G t5 6 x78t5, zi G t6 6 x78t6, zi G t7 6 x78t7, zi G t8 6 x78t8, zo3 tt co en sk wr (nI tx), zr G co 6 fc, zr G en 6 fe, zi G ct 160 fct, zi G et 3 (nF fet), zi G sk 32 x78sk, zo5 h0 tt rd nw th kp sh tu him, zo2 sh qn qo ql, zr G qn 4 fn, zi G qo 4 fqo, zi G ql 4 (nF fql), zi G rr 40 frr, zo0 nw tt n1 n2 n3 n4 n5 n6 n7 n8 (nI jg) (nI pb) (nI lw)] H → va_D A [zi G n2 4 fso, zi G n3 4 fmi, zi G n4 4 fpa, zi G n5 6 fki, zi G n6 6 fmo, zi G n7 6 fsz, zi G n8 6 frd, zo0 th tt t1 t2 t3 t4 t5 t6 t7 t8 zj9l zb9l zl9l, zi G t1 6 x78t1, zi G t2 4 x78t2, zi G t3 4 x78t3, zi G t4 4 x78t4, zi G t5 6 x78t5, zi G t6 6 x78t6, zi G t7 6 x78t7, zi G t8 6 x78t8, zo3 tt co en sk wr (nI tx), zr G co 6 fc, zr G en 6 fe, zi G ct 160 fct, zi G et 3 (nF fet), zi G sk 32 x78sk, zo5 h0 tt rd nw th kp sh tu him, zo2 sh qn qo ql, zr G qn 4 fn, zi G qo 4 fqo, zi G ql 4 (nF fql), zi G rr 40 frr, zo0 nw tt n1 n2 n3 n4 n5 n6 n7 n8 (nI jg) (nI pb) (nI lw)] → va_S A s.heap H locs → ∀ ls : Array Slot, lv_has ls 10 [zI 9 (nI (100 - w78) - 1), zI 8 le, zI 7 mn, zR 6 t8, zI 5 (m_X5_refusalOf_A jg pb fql fqo frr sn v1), zR 0 h0, zI 1 (nI sn), zI 2 v1, zI 3 v2, zI 4 v3] → W p l e (headSpec wsX5_sizes ({ frames := 6, cells := 0, slots := 0, locals := 441 })).room s m ([.ref h0, .int (nI sn), .int v1, .int v2, .int v3] : List Value).toArray below meth c H locs 0 0 (MQ below (q_X5_sizes_A G E h0 tt rd nw th kp sh tu n1 n2 n3 n4 n5 n6 n7 n8 t1 t2 t3 t4 t5 t6 t7 t8 co en sk ct et qn qo ql rr jg pb lw tx him wr tj tb tl fc fe fn fet fql fso fmi fpa fki fmo fsz frd unm uso umi upa uki umo usz urd fct fsk fqo frr sn v1 v2 v3 A) ([.ref h0, .int (nI sn), .int v1, .int v2, .int v3] : List Value).toArray s 0 0 A) (F0 m 78 ls []) := by
            intro n9
            induction n9 with
            | zero => intro w78 mn le x78t1 x78sk x78t2 x78t3 x78t4 x78t5 x78t6 x78t7 x78t8 zj9l zb9l zl9l hw78 R78 hm9_78; exact absurd hm9_78 (Nat.not_lt_zero _)
            | succ n9 ih9_78 =>
              intro w78 mn le x78t1 x78sk x78t2 x78t3 x78t4 x78t5 x78t6 x78t7 x78t8 zj9l zb9l zl9l hw78 R78 hm9_78 H locs hP hD hS ls hl
              refine lv_iload hx hb dX5_sizes_78 (lv_at hl 0 rfl) ?_
              refine lv_if_lt (tgt := 116) hx hb dX5_sizes_80 (by decide +kernel) (fun c_17 => ?_) (fun c_17 => ?_)
              · skip
                have hxd : 100 - w78 = 0 := nI_neg1 (by omega) c_17
                have hF78 : (g_X5_sizes_A_78 fet fql fso fmi fpa fki fmo fsz frd fct frr sn v1 v2) = (w78, mn, le) := by rw [← R78, show 100 - w78 = 0 by omega]; rfl
                have hE78_0 : w78 = ((g_X5_sizes_A_78 fet fql fso fmi fpa fki fmo fsz frd fct frr sn v1 v2).1) := by rw [hF78]
                have hE78_1 : mn = ((g_X5_sizes_A_78 fet fql fso fmi fpa fki fmo fsz frd fct frr sn v1 v2).2.1) := by rw [hF78]
                have hE78_2 : le = ((g_X5_sizes_A_78 fet fql fso fmi fpa fki fmo fsz frd fct frr sn v1 v2).2.2) := by rw [hF78]
                clear hF78 R78
                subst hE78_0
                subst hE78_1
                subst hE78_2
                refine lv_iload hx hb dX5_sizes_116 (lv_at hl 9 rfl) ?_
                refine lv_bipush (v := 10) hx hb dX5_sizes_118 (by decide +kernel) ?_
                refine lv_irem hx hb dX5_sizes_120 (by decide +kernel) ?_
                refine lv_topi (fun v_18 ev_18 => ?_)
                have ev_18 : v_18 = iRem v3 10 := ev_18.trans (rfl)
                subst ev_18
                refine lv_if_ne (tgt := 129) hx hb dX5_sizes_121 (by decide +kernel) (fun c_19 => ?_) (fun c_19 => ?_)
                · skip
                  refine lv_iload hx hb dX5_sizes_129 (lv_at hl 1 rfl) ?_
                  have hpost : (fun (r : Int32) (u : Int32 × Int32 × Int32 × (Nat → Int32) × (Nat → Int32) × (Nat → Int32) × (Nat → Int32) × (Nat → Int32) × (Nat → Int32) × (Nat → Int32) × (Nat → Int32) × (Nat → Int32)) => match u with | (zj9, zb9, zl9, yt1, yt2, yt3, yt4, yt5, yt6, yt7, yt8, ysk) => r = m_X5_sizes_A jg pb fet fql fso fmi fpa fki fmo fsz frd fct fqo frr sn v1 v2 v3) ((g_X5_sizes_A_78 fet fql fso fmi fpa fki fmo fsz frd fct frr sn v1 v2).2.2) (zj9l, zb9l, zl9l, x78t1, x78t2, x78t3, x78t4, x78t5, x78t6, x78t7, x78t8, x78sk) := (show m_X5_sizes_A jg pb fet fql fso fmi fpa fki fmo fsz frd fct fqo frr sn v1 v2 v3 = ((g_X5_sizes_A_78 fet fql fso fmi fpa fki fmo fsz frd fct frr sn v1 v2).2.2) from by unfold m_X5_sizes_A; rw [if_pos c_3, if_pos p_9, if_neg c_15, if_neg c_16, if_neg c_19]).symm
                  exact W.iret (v := ((g_X5_sizes_A_78 fet fql fso fmi fpa fki fmo fsz frd fct frr sn v1 v2).2.2)) hx hb hr (fun t ht hW => ⟨⟨((g_X5_sizes_A_78 fet fql fso fmi fpa fki fmo fsz frd fct frr sn v1 v2).2.2), (zj9l, zb9l, zl9l, x78t1, x78t2, x78t3, x78t4, x78t5, x78t6, x78t7, x78t8, x78sk), rfl, hpost, by rw [ht]; exact hP.sub [22, 28, 0, 1, 2, 3, 4, 5, 6, 7, 8, 9, 10, 11, 12, 13, 14, 15, 16, 17, 18, 19, 20, 21, 23, 24, 25, 26, 27] rfl, va_K.moved hW.alike hK, hD.sub [22, 28, 0, 1, 2, 3, 4, 5, 6, 7, 8, 9, 10, 11, 12, 13, 14, 15, 16, 17, 18, 19, 20, 21, 23, 24, 25, 26, 27] (by decide +kernel) rfl⟩, hS.F ht⟩) hS.2.2 dX5_sizes_131
                · skip
                  refine lv_iload hx hb dX5_sizes_124 (lv_at hl 2 rfl) ?_
                  refine lv_goto (tgt := 131) hx hb dX5_sizes_126 (by decide +kernel) ?_
                  have hpost : (fun (r : Int32) (u : Int32 × Int32 × Int32 × (Nat → Int32) × (Nat → Int32) × (Nat → Int32) × (Nat → Int32) × (Nat → Int32) × (Nat → Int32) × (Nat → Int32) × (Nat → Int32) × (Nat → Int32)) => match u with | (zj9, zb9, zl9, yt1, yt2, yt3, yt4, yt5, yt6, yt7, yt8, ysk) => r = m_X5_sizes_A jg pb fet fql fso fmi fpa fki fmo fsz frd fct fqo frr sn v1 v2 v3) ((g_X5_sizes_A_78 fet fql fso fmi fpa fki fmo fsz frd fct frr sn v1 v2).2.1) (zj9l, zb9l, zl9l, x78t1, x78t2, x78t3, x78t4, x78t5, x78t6, x78t7, x78t8, x78sk) := (show m_X5_sizes_A jg pb fet fql fso fmi fpa fki fmo fsz frd fct fqo frr sn v1 v2 v3 = ((g_X5_sizes_A_78 fet fql fso fmi fpa fki fmo fsz frd fct frr sn v1 v2).2.1) from by unfold m_X5_sizes_A; rw [if_pos c_3, if_pos p_9, if_neg c_15, if_neg c_16, if_pos c_19]).symm
                  exact W.iret (v := ((g_X5_sizes_A_78 fet fql fso fmi fpa fki fmo fsz frd fct frr sn v1 v2).2.1)) hx hb hr (fun t ht hW => ⟨⟨((g_X5_sizes_A_78 fet fql fso fmi fpa fki fmo fsz frd fct frr sn v1 v2).2.1), (zj9l, zb9l, zl9l, x78t1, x78t2, x78t3, x78t4, x78t5, x78t6, x78t7, x78t8, x78sk), rfl, hpost, by rw [ht]; exact hP.sub [22, 28, 0, 1, 2, 3, 4, 5, 6, 7, 8, 9, 10, 11, 12, 13, 14, 15, 16, 17, 18, 19, 20, 21, 23, 24, 25, 26, 27] rfl, va_K.moved hW.alike hK, hD.sub [22, 28, 0, 1, 2, 3, 4, 5, 6, 7, 8, 9, 10, 11, 12, 13, 14, 15, 16, 17, 18, 19, 20, 21, 23, 24, 25, 26, 27] (by decide +kernel) rfl⟩, hS.F ht⟩) hS.2.2 dX5_sizes_131
              · skip
                have hxd : 0 < 100 - w78 := nI_nneg1 c_17
                have e9 : nI (100 - w78) - 1 = nI (100 - w78 - 1) := pk_sub (a := 100 - w78) (b := 1) (by omega)
                rw [e9] at hl
                have hl : lv_has ls 10 [zI 9 (nI (100 - w78 - 1)), zI 8 le, zI 7 mn, zR 6 t8, zI 5 (m_X5_refusalOf_A jg pb fql fqo frr sn v1), zR 0 h0, zI 1 (nI sn), zI 2 v1, zI 3 v2, zI 4 v3] := hl
                refine lv_aload_n hx hb dX5_sizes_83 rfl (lv_at hl 5 rfl) ?_
                have hz9 : gPD G A [zo5 h0 tt rd nw th kp sh tu him, zo0 nw tt n1 n2 n3 n4 n5 n6 n7 n8 (nI jg) (nI pb) (nI lw), zi G n2 4 fso, zi G n3 4 fmi, zi G n4 4 fpa, zi G n5 6 fki, zi G n6 6 fmo, zi G n7 6 fsz, zi G n8 6 frd, zo0 th tt t1 t2 t3 t4 t5 t6 t7 t8 zj9l zb9l zl9l, zi G t2 4 x78t2, zi G t3 4 x78t3, zi G t4 4 x78t4, zi G t5 6 x78t5, zi G t6 6 x78t6, zi G t7 6 x78t7, zi G t8 6 x78t8] H := ⟨hP.sub [22, 28, 0, 1, 2, 3, 4, 5, 6, 7, 9, 10, 11, 12, 13, 14, 15] rfl, hD.sub [22, 28, 0, 1, 2, 3, 4, 5, 6, 7, 9, 10, 11, 12, 13, 14, 15] (by decide +kernel) rfl⟩
                have hPc := hz9.1
                have hDc := hz9.2
                have hFc := gFree hPc hD hS hA [22, 28, 0, 1, 2, 3, 4, 5, 6, 7, 9, 10, 11, 12, 13, 14, 15] rfl
                refine va_callv (va_runV (As := []) (rest := []) ⟨hx, hb, hml, hown, hts⟩ (c_X5_think l G h0 tt rd nw th kp sh tu n1 n2 n3 n4 n5 n6 n7 n8 t1 t2 t3 t4 t5 t6 t7 t8 jg pb lw him zj9l zb9l zl9l fso fmi fpa fki fmo fsz frd x78t2 x78t3 x78t4 x78t5 x78t6 x78t7 x78t8 H.size (by first | exact hjg | assumption | omega) (by first | exact hpb | assumption | omega)) (cwV 0 hts gX5_sizes_X5_think rfl rfl rfl (by decide +kernel) ⟨Nat.le_of_ble_eq_true rfl, Nat.le_of_ble_eq_true rfl⟩) ⟨gPre_blind, va_recv hK hPc (ci := 5) (q0 := 0) rfl rfl, fun U hU hW => gPre_of hU hW hK hPc hDc⟩ rfl rfl hl.1 rfl (lv_room (Nat.le_of_ble_eq_true rfl)) dX5_sizes_84 ⟨Nat.le_of_ble_eq_true rfl, Nat.le_of_ble_eq_true rfl⟩) hS (fun q _ h => hFc q h) hFc (fun u t H locs ht hvm w_21 hB hz1 hk1 hS => ?_)
                obtain ⟨hP1, hK1, hD1⟩ := hB
                rw [ht] at hP1
                have hz9 : gPD G (va_A _ _) [zo5 h0 tt rd nw th kp sh tu him, zo0 nw tt n1 n2 n3 n4 n5 n6 n7 n8 (nI jg) (nI pb) (nI lw), zi G n2 4 fso, zi G n3 4 fmi, zi G n4 4 fpa, zi G n5 6 fki, zi G n6 6 fmo, zi G n7 6 fsz, zi G n8 6 frd, zo0 th tt t1 t2 t3 t4 t5 t6 t7 t8 (nI jg) (nI pb) (nI lw), zi G t2 4 fso, zi G t3 4 fmi, zi G t4 4 fpa, zi G t5 6 fki, zi G t6 6 fmo, zi G t7 6 fsz, zi G t8 6 frd] H := ⟨hP1, hD1⟩
                have hP1 := hz9.1
                have hD1 := hz9.2
                have hz9 : gPD G A [zi G t1 6 x78t1, zo3 tt co en sk wr (nI tx), zr G co 6 fc, zr G en 6 fe, zi G ct 160 fct, zi G et 3 (nF fet), zi G sk 32 x78sk, zo2 sh qn qo ql, zr G qn 4 fn, zi G qo 4 fqo, zi G ql 4 (nF fql), zi G rr 40 frr, zo5 h0 tt rd nw th kp sh tu him, zo0 nw tt n1 n2 n3 n4 n5 n6 n7 n8 (nI jg) (nI pb) (nI lw), zi G n2 4 fso, zi G n3 4 fmi, zi G n4 4 fpa, zi G n5 6 fki, zi G n6 6 fmo, zi G n7 6 fsz, zi G n8 6 frd, zo0 th tt t1 t2 t3 t4 t5 t6 t7 t8 (nI jg) (nI pb) (nI lw), zi G t2 4 fso, zi G t3 4 fmi, zi G t4 4 fpa, zi G t5 6 fki, zi G t6 6 fmo, zi G t7 6 fsz, zi G t8 6 frd] H := gJoin hP hD hk1 hFc hP1 hD1 [22, 28, 0, 1, 2, 3, 4, 5, 6, 7, 9, 10, 11, 12, 13, 14, 15] [8, 16, 17, 18, 19, 20, 21, 23, 24, 25, 26, 27] rfl rfl rfl (by decide +kernel) (by decide +kernel)
                have hP := hz9.1
                have hD := hz9.2
                refine lv_aload hx hb dX5_sizes_87 (lv_at hl 3 rfl) ?_
                refine lv_iload_n hx hb dX5_sizes_89 rfl (lv_at hl 8 rfl) ?_
                refine lv_topi (fun v_22 ev_22 => ?_)
                have ev_22 : v_22 = nI (nC v2) := ev_22.trans hv_11
                subst ev_22
                refine lv_iload hx hb dX5_sizes_90 (lv_at hl 0 rfl) ?_
                refine va_iast (D := G.1) hx hb hK hP hD hS 28 0 rfl rfl (i := (nI (nC v2))) (x := (nI (100 - w78 - 1))) (vp_in_nI (by omega) (by omega)) dX5_sizes_92 (fun H locs hP hD hS => ?_)
                have hz9 : gPD G A [zi G t1 6 x78t1, zo3 tt co en sk wr (nI tx), zr G co 6 fc, zr G en 6 fe, zi G ct 160 fct, zi G et 3 (nF fet), zi G sk 32 x78sk, zo2 sh qn qo ql, zr G qn 4 fn, zi G qo 4 fqo, zi G ql 4 (nF fql), zi G rr 40 frr, zo5 h0 tt rd nw th kp sh tu him, zo0 nw tt n1 n2 n3 n4 n5 n6 n7 n8 (nI jg) (nI pb) (nI lw), zi G n2 4 fso, zi G n3 4 fmi, zi G n4 4 fpa, zi G n5 6 fki, zi G n6 6 fmo, zi G n7 6 fsz, zi G n8 6 frd, zo0 th tt t1 t2 t3 t4 t5 t6 t7 t8 (nI jg) (nI pb) (nI lw), zi G t2 4 fso, zi G t3 4 fmi, zi G t4 4 fpa, zi G t5 6 fki, zi G t6 6 fmo, zi G t7 6 fsz, zi G t8 6 (upd frd (nC v2) (nI (100 - w78 - 1)))] H := ⟨by rw [nI_clamp (by omega)] at hP; exact hP, by rw [nI_clamp (by omega)] at hD; exact hD⟩
                have hP := hz9.1
                have hD := hz9.2
                refine lv_aload_n hx hb dX5_sizes_93 rfl (lv_at hl 5 rfl) ?_
                refine lv_iload_n hx hb dX5_sizes_94 rfl (lv_at hl 6 rfl) ?_
                refine lv_iload_n hx hb dX5_sizes_95 rfl (lv_at hl 7 rfl) ?_
                refine lv_topi (fun v_23 ev_23 => ?_)
                have ev_23 : v_23 = nI (nC v1) := ev_23.trans hv_4
                subst ev_23
                have hz9 : gPD G A [zo5 h0 tt rd nw th kp sh tu him, zo0 th tt t1 t2 t3 t4 t5 t6 t7 t8 (nI jg) (nI pb) (nI lw), zi G t1 6 x78t1, zi G t2 4 fso, zi G t3 4 fmi, zi G t4 4 fpa, zi G t5 6 fki, zi G t6 6 fmo, zi G t7 6 fsz, zi G t8 6 (upd frd (nC v2) (nI (100 - w78 - 1))), zo3 tt co en sk wr (nI tx), zr G co 6 fc, zr G en 6 fe, zi G ct 160 fct, zi G et 3 (nF fet), zi G sk 32 x78sk, zo2 sh qn qo ql, zr G qn 4 fn, zi G qo 4 fqo, zi G ql 4 (nF fql), zi G rr 40 frr] H := ⟨hP.sub [12, 21, 0, 22, 23, 24, 25, 26, 27, 28, 1, 2, 3, 4, 5, 6, 7, 8, 9, 10, 11] rfl, hD.sub [12, 21, 0, 22, 23, 24, 25, 26, 27, 28, 1, 2, 3, 4, 5, 6, 7, 8, 9, 10, 11] (by decide +kernel) rfl⟩
                have hPc := hz9.1
                have hDc := hz9.2
                have hFc := gFree hPc hD hS hA [12, 21, 0, 22, 23, 24, 25, 26, 27, 28, 1, 2, 3, 4, 5, 6, 7, 8, 9, 10, 11] rfl
                refine va_calli (va_runV (As := [.int (nI sn), .int (nI (nC v1))]) (rest := []) ⟨hx, hb, hml, hown, hts⟩ (c_X5_firstOtherwise l G h0 tt rd nw th kp sh tu t1 t2 t3 t4 t5 t6 t7 t8 co en sk ct et qn qo ql rr lw tx him wr (nI jg) (nI pb) fc fe fn fet fql x78t1 fso fmi fpa fki fmo fsz (upd frd (nC v2) (nI (100 - w78 - 1))) fct x78sk fqo frr sn (nC v1) pb H.size (by first | exact hsn | assumption | omega) (by first | exact hrw | assumption | omega) (by first | exact hql | assumption | omega) (by first | exact hj | assumption | omega) (hvl) (hpb) (by first | exact htn | assumption | omega) (by first | exact hc | assumption | omega) (by first | exact he | assumption | omega) (by first | exact hwx | assumption | omega)) (cwV 2 hts gX5_sizes_X5_firstOtherwise rfl rfl rfl (by decide +kernel) ⟨Nat.le_of_ble_eq_true rfl, Nat.le_of_ble_eq_true rfl⟩) ⟨gPre_blind, va_recv hK hPc (ci := 5) (q0 := 0) rfl rfl, fun U hU hW => gPre_of hU hW hK hPc hDc⟩ rfl rfl hl.1 rfl (lv_room (Nat.le_of_ble_eq_true rfl)) dX5_sizes_96 ⟨Nat.le_of_ble_eq_true rfl, Nat.le_of_ble_eq_true rfl⟩) hS (fun q _ h => hFc q h) hFc (fun r_24 u t H locs ht hvm w_25 hB hz1 hk1 hS => ?_)
                obtain ⟨yt1_26, yt2_27, yt3_28, yt4_29, yt5_30, yt6_31, yt7_32, yt8_33, ysk_34⟩ := u
                obtain ⟨hP1, hK1, hD1⟩ := hB
                rw [ht] at hP1
                have hz9 : gPD G (va_A _ _) [zo5 h0 tt rd nw th kp sh tu him, zo0 th tt t1 t2 t3 t4 t5 t6 t7 t8 (nI jg) (nI pb) (nI lw), zi G t1 6 yt1_26, zi G t2 4 yt2_27, zi G t3 4 yt3_28, zi G t4 4 yt4_29, zi G t5 6 yt5_30, zi G t6 6 yt6_31, zi G t7 6 yt7_32, zi G t8 6 yt8_33, zo3 tt co en sk wr (nI tx), zr G co 6 fc, zr G en 6 fe, zi G ct 160 fct, zi G et 3 (nF fet), zi G sk 32 ysk_34, zo2 sh qn qo ql, zr G qn 4 fn, zi G qo 4 fqo, zi G ql 4 (nF fql), zi G rr 40 frr] H := ⟨hP1, hD1⟩
                have hP1 := hz9.1
                have hD1 := hz9.2
                have w_25 : r_24 = m_X5_firstOtherwise fet fql fso fmi fpa fki fmo fsz (upd frd (nC v2) (nI (100 - w78 - 1))) fct frr sn (nC v1) := w_25
                have hz9 : gPD G A [zo0 nw tt n1 n2 n3 n4 n5 n6 n7 n8 (nI jg) (nI pb) (nI lw), zi G n2 4 fso, zi G n3 4 fmi, zi G n4 4 fpa, zi G n5 6 fki, zi G n6 6 fmo, zi G n7 6 fsz, zi G n8 6 frd, zo5 h0 tt rd nw th kp sh tu him, zo0 th tt t1 t2 t3 t4 t5 t6 t7 t8 (nI jg) (nI pb) (nI lw), zi G t1 6 yt1_26, zi G t2 4 yt2_27, zi G t3 4 yt3_28, zi G t4 4 yt4_29, zi G t5 6 yt5_30, zi G t6 6 yt6_31, zi G t7 6 yt7_32, zi G t8 6 yt8_33, zo3 tt co en sk wr (nI tx), zr G co 6 fc, zr G en 6 fe, zi G ct 160 fct, zi G et 3 (nF fet), zi G sk 32 ysk_34, zo2 sh qn qo ql, zr G qn 4 fn, zi G qo 4 fqo, zi G ql 4 (nF fql), zi G rr 40 frr] H := gJoin hP hD hk1 hFc hP1 hD1 [12, 21, 0, 22, 23, 24, 25, 26, 27, 28, 1, 2, 3, 4, 5, 6, 7, 8, 9, 10, 11] [13, 14, 15, 16, 17, 18, 19, 20] rfl rfl rfl (by decide +kernel) (by decide +kernel)
                have hP := hz9.1
                have hD := hz9.2
                subst w_25
                refine lv_iconst (v := -1) hx hb dX5_sizes_99 (by decide +kernel) ?_
                refine lv_icmp_ne (tgt := 110) hx hb dX5_sizes_100 (by decide +kernel) (fun c_35 => ?_) (fun c_35 => ?_)
                · skip
                  refine lv_iinc (v := nI (100 - (w78 + 1)) - 1) (lv' := [zI 9 (nI (100 - (w78 + 1)) - 1), zI 8 le, zI 7 mn, zR 6 t8, zI 5 (m_X5_refusalOf_A jg pb fql fqo frr sn v1), zR 0 h0, zI 1 (nI sn), zI 2 v1, zI 3 v2, zI 4 v3]) hx hb dX5_sizes_110 hl (k := 0) rfl (show nI (100 - w78 - 1) + (-1) = nI (100 - (w78 + 1)) - 1 from by rw [nI_p1, show 100 - (w78 + 1) = 100 - w78 - 1 by omega]) (by decide +kernel) rfl (fun ls hl => ?_)
                  refine lv_goto (tgt := 78) hx hb dX5_sizes_113 (by decide +kernel) ?_
                  exact ih9_78 (w78 + 1) mn le yt1_26 ysk_34 yt2_27 yt3_28 yt4_29 yt5_30 yt6_31 yt7_32 yt8_33 (nI jg) (nI pb) (nI lw) (by omega) (Eq.trans (Eq.symm ((congrArg (fun z9 => p_X5_sizes_A_78 fet fql fso fmi fpa fki fmo fsz frd fct frr sn v1 v2 (z9) w78 mn le) (show 100 - w78 = 100 - (w78 + 1) + 1 by omega)).trans (by show p_X5_sizes_A_78 fet fql fso fmi fpa fki fmo fsz frd fct frr sn v1 v2 (100 - (w78 + 1) + 1) w78 mn le = _; rw [p_X5_sizes_A_78, if_neg c_35]))) R78) (by omega) _ _ (hP.sub [1, 2, 3, 4, 5, 6, 7, 9, 10, 11, 12, 13, 14, 15, 16, 17, 18, 19, 20, 21, 22, 23, 8, 24, 25, 26, 27, 28, 0] rfl) (hD.sub [1, 2, 3, 4, 5, 6, 7, 9, 10, 11, 12, 13, 14, 15, 16, 17, 18, 19, 20, 21, 22, 23, 8, 24, 25, 26, 27, 28, 0] (by decide +kernel) rfl) hS ls (lv_sub hl [0, 1, 2, 3, 4, 5, 6, 7, 8, 9] rfl)
                · skip
                  refine lv_iinc (v := mn + 1) (lv' := [zI 7 (mn + 1), zI 9 (nI (100 - w78 - 1)), zI 8 le, zR 6 t8, zI 5 (m_X5_refusalOf_A jg pb fql fqo frr sn v1), zR 0 h0, zI 1 (nI sn), zI 2 v1, zI 3 v2, zI 4 v3]) hx hb dX5_sizes_103 hl (k := 2) rfl (rfl) (by decide +kernel) rfl (fun ls hl => ?_)
                  refine lv_iload hx hb dX5_sizes_106 (lv_at hl 1 rfl) ?_
                  refine lv_istore (lv' := [zI 8 (nI (100 - w78 - 1)), zI 7 (mn + 1), zI 9 (nI (100 - w78 - 1)), zR 6 t8, zI 5 (m_X5_refusalOf_A jg pb fql fqo frr sn v1), zR 0 h0, zI 1 (nI sn), zI 2 v1, zI 3 v2, zI 4 v3]) hx hb dX5_sizes_108 hl (by decide +kernel) rfl (fun ls hl => ?_)
                  refine lv_iinc (v := nI (100 - (w78 + 1)) - 1) (lv' := [zI 9 (nI (100 - (w78 + 1)) - 1), zI 8 (nI (100 - w78 - 1)), zI 7 (mn + 1), zR 6 t8, zI 5 (m_X5_refusalOf_A jg pb fql fqo frr sn v1), zR 0 h0, zI 1 (nI sn), zI 2 v1, zI 3 v2, zI 4 v3]) hx hb dX5_sizes_110 hl (k := 2) rfl (show nI (100 - w78 - 1) + (-1) = nI (100 - (w78 + 1)) - 1 from by rw [nI_p1, show 100 - (w78 + 1) = 100 - w78 - 1 by omega]) (by decide +kernel) rfl (fun ls hl => ?_)
                  refine lv_goto (tgt := 78) hx hb dX5_sizes_113 (by decide +kernel) ?_
                  exact ih9_78 (w78 + 1) (mn + 1) (nI (100 - w78 - 1)) yt1_26 ysk_34 yt2_27 yt3_28 yt4_29 yt5_30 yt6_31 yt7_32 yt8_33 (nI jg) (nI pb) (nI lw) (by omega) (Eq.trans (Eq.symm ((congrArg (fun z9 => p_X5_sizes_A_78 fet fql fso fmi fpa fki fmo fsz frd fct frr sn v1 v2 (z9) w78 mn le) (show 100 - w78 = 100 - (w78 + 1) + 1 by omega)).trans (by show p_X5_sizes_A_78 fet fql fso fmi fpa fki fmo fsz frd fct frr sn v1 v2 (100 - (w78 + 1) + 1) w78 mn le = _; rw [p_X5_sizes_A_78, if_pos c_35]))) R78) (by omega) _ _ (hP.sub [1, 2, 3, 4, 5, 6, 7, 9, 10, 11, 12, 13, 14, 15, 16, 17, 18, 19, 20, 21, 22, 23, 8, 24, 25, 26, 27, 28, 0] rfl) (hD.sub [1, 2, 3, 4, 5, 6, 7, 9, 10, 11, 12, 13, 14, 15, 16, 17, 18, 19, 20, 21, 22, 23, 8, 24, 25, 26, 27, 28, 0] (by decide +kernel) rfl) hS ls (lv_sub hl [0, 1, 2, 3, 4, 5, 6, 7, 8, 9] rfl)
          exact loop_78 (100 - 0 + 1) 0 0 (-1) unm fsk uso umi upa uki umo usz urd tj tb tl (by omega) (rfl) (by omega) _ _ (hP.sub [0, 1, 2, 3, 4, 5, 6, 7, 8, 9, 10, 11, 12, 13, 14, 15, 16, 17, 18, 19, 20, 21, 22, 23, 24, 25, 26, 27, 28] rfl) (hD.sub [0, 1, 2, 3, 4, 5, 6, 7, 8, 9, 10, 11, 12, 13, 14, 15, 16, 17, 18, 19, 20, 21, 22, 23, 24, 25, 26, 27, 28] (by decide +kernel) rfl) hS ls (lv_sub hl [0, 1, 2, 3, 4, 5, 6, 7, 8, 9] rfl)
        · skip
          refine lv_aload_n hx hb dX5_sizes_49 rfl (lv_at hl 1 rfl) ?_
          refine va_get (D := G.1) (ci := 5) (v := .ref th) (C := RX5) (T := TX5) (N := 8) hx hb hts hiX5 hown hK hP 22 rfl rfl 3 (by decide +kernel) kf32 (fun _ h9 => h9) rfl dX5_sizes_50 ?_
          refine va_get (D := G.1) (ci := 0) (v := .ref t7) (C := RX0) (T := TX0) (N := 12) hx hb hts hiX0 hown hK hP 7 rfl rfl 7 (by decide +kernel) kf122 (fun _ h9 => h9) rfl dX5_sizes_53 ?_
          refine lv_goto (tgt := 66) hx hb dX5_sizes_56 (by decide +kernel) ?_
          refine lv_astore (lv' := [zR 6 t7, zI 5 (m_X5_refusalOf_A jg pb fql fqo frr sn v1), zR 0 h0, zI 1 (nI sn), zI 2 v1, zI 3 v2, zI 4 v3]) hx hb dX5_sizes_66 hl (by decide +kernel) rfl (fun ls hl => ?_)
          refine lv_iconst (v := 0) hx hb dX5_sizes_68 (by decide +kernel) ?_
          refine lv_istore (lv' := [zI 7 0, zR 6 t7, zI 5 (m_X5_refusalOf_A jg pb fql fqo frr sn v1), zR 0 h0, zI 1 (nI sn), zI 2 v1, zI 3 v2, zI 4 v3]) hx hb dX5_sizes_69 hl (by decide +kernel) rfl (fun ls hl => ?_)
          refine lv_iconst (v := -1) hx hb dX5_sizes_71 (by decide +kernel) ?_
          refine lv_istore (lv' := [zI 8 (-1), zI 7 0, zR 6 t7, zI 5 (m_X5_refusalOf_A jg pb fql fqo frr sn v1), zR 0 h0, zI 1 (nI sn), zI 2 v1, zI 3 v2, zI 4 v3]) hx hb dX5_sizes_72 hl (by decide +kernel) rfl (fun ls hl => ?_)
          refine lv_bipush (v := 99) hx hb dX5_sizes_74 (by decide +kernel) ?_
          refine lv_istore (lv' := [zI 9 99, zI 8 (-1), zI 7 0, zR 6 t7, zI 5 (m_X5_refusalOf_A jg pb fql fqo frr sn v1), zR 0 h0, zI 1 (nI sn), zI 2 v1, zI 3 v2, zI 4 v3]) hx hb dX5_sizes_76 hl (by decide +kernel) rfl (fun ls hl => ?_)
          have e9 : (99 : Int32) = nI (100 - 0) - 1 := by decide
          rw [e9] at hl
          have loop_78 : ∀ (n9 : Nat) (w78 : Nat) (mn : Int32) (le : Int32) (x78t1 : Nat → Int32) (x78sk : Nat → Int32) (x78t2 : Nat → Int32) (x78t3 : Nat → Int32) (x78t4 : Nat → Int32) (x78t5 : Nat → Int32) (x78t6 : Nat → Int32) (x78t7 : Nat → Int32) (x78t8 : Nat → Int32) (zj9l : Int32) (zb9l : Int32) (zl9l : Int32), (w78 ≤ 100) → (p_X5_sizes_A_78q1 fet fql fso fmi fpa fki fmo fsz frd fct frr sn v1 v2 (100 - w78) w78 mn le = (g_X5_sizes_A_78q1 fet fql fso fmi fpa fki fmo fsz frd fct frr sn v1 v2)) → (100 - w78) < n9 → ∀ (H : Heap) (locs : List Loc), va_P G.1 vwCl [zi G n2 4 fso, zi G n3 4 fmi, zi G n4 4 fpa, zi G n5 6 fki, zi G n6 6 fmo, zi G n7 6 fsz, zi G n8 6 frd, zo0 th tt t1 t2 t3 t4 t5 t6 t7 t8 zj9l zb9l zl9l, zi G t1 6 x78t1, zi G t2 4 x78t2, zi G t3 4 x78t3, zi G t4 4 x78t4, zi G t5 6 x78t5, zi G t6 6 x78t6, zi G t7 6 x78t7, zi G t8 6 x78t8, zo3 tt co en sk wr (nI tx), zr G co 6 fc, zr G en 6 fe, zi G ct 160 fct, zi G et 3 (nF fet), zi G sk 32 x78sk, zo5 h0 tt rd nw th kp sh tu him, zo2 sh qn qo ql, zr G qn 4 fn, zi G qo 4 fqo, zi G ql 4 (nF fql), zi G rr 40 frr, zo0 nw tt n1 n2 n3 n4 n5 n6 n7 n8 (nI jg) (nI pb) (nI lw)] H → va_D A [zi G n2 4 fso, zi G n3 4 fmi, zi G n4 4 fpa, zi G n5 6 fki, zi G n6 6 fmo, zi G n7 6 fsz, zi G n8 6 frd, zo0 th tt t1 t2 t3 t4 t5 t6 t7 t8 zj9l zb9l zl9l, zi G t1 6 x78t1, zi G t2 4 x78t2, zi G t3 4 x78t3, zi G t4 4 x78t4, zi G t5 6 x78t5, zi G t6 6 x78t6, zi G t7 6 x78t7, zi G t8 6 x78t8, zo3 tt co en sk wr (nI tx), zr G co 6 fc, zr G en 6 fe, zi G ct 160 fct, zi G et 3 (nF fet), zi G sk 32 x78sk, zo5 h0 tt rd nw th kp sh tu him, zo2 sh qn qo ql, zr G qn 4 fn, zi G qo 4 fqo, zi G ql 4 (nF fql), zi G rr 40 frr, zo0 nw tt n1 n2 n3 n4 n5 n6 n7 n8 (nI jg) (nI pb) (nI lw)] → va_S A s.heap H locs → ∀ ls : Array Slot, lv_has ls 10 [zI 9 (nI (100 - w78) - 1), zI 8 le, zI 7 mn, zR 6 t7, zI 5 (m_X5_refusalOf_A jg pb fql fqo frr sn v1), zR 0 h0, zI 1 (nI sn), zI 2 v1, zI 3 v2, zI 4 v3] → W p l e (headSpec wsX5_sizes ({ frames := 6, cells := 0, slots := 0, locals := 441 })).room s m ([.ref h0, .int (nI sn), .int v1, .int v2, .int v3] : List Value).toArray below meth c H locs 0 0 (MQ below (q_X5_sizes_A G E h0 tt rd nw th kp sh tu n1 n2 n3 n4 n5 n6 n7 n8 t1 t2 t3 t4 t5 t6 t7 t8 co en sk ct et qn qo ql rr jg pb lw tx him wr tj tb tl fc fe fn fet fql fso fmi fpa fki fmo fsz frd unm uso umi upa uki umo usz urd fct fsk fqo frr sn v1 v2 v3 A) ([.ref h0, .int (nI sn), .int v1, .int v2, .int v3] : List Value).toArray s 0 0 A) (F0 m 78 ls []) := by
            intro n9
            induction n9 with
            | zero => intro w78 mn le x78t1 x78sk x78t2 x78t3 x78t4 x78t5 x78t6 x78t7 x78t8 zj9l zb9l zl9l hw78 R78 hm9_78; exact absurd hm9_78 (Nat.not_lt_zero _)
            | succ n9 ih9_78 =>
              intro w78 mn le x78t1 x78sk x78t2 x78t3 x78t4 x78t5 x78t6 x78t7 x78t8 zj9l zb9l zl9l hw78 R78 hm9_78 H locs hP hD hS ls hl
              refine lv_iload hx hb dX5_sizes_78 (lv_at hl 0 rfl) ?_
              refine lv_if_lt (tgt := 116) hx hb dX5_sizes_80 (by decide +kernel) (fun c_36 => ?_) (fun c_36 => ?_)
              · skip
                have hxd : 100 - w78 = 0 := nI_neg1 (by omega) c_36
                have hF78 : (g_X5_sizes_A_78q1 fet fql fso fmi fpa fki fmo fsz frd fct frr sn v1 v2) = (w78, mn, le) := by rw [← R78, show 100 - w78 = 0 by omega]; rfl
                have hE78_0 : w78 = ((g_X5_sizes_A_78q1 fet fql fso fmi fpa fki fmo fsz frd fct frr sn v1 v2).1) := by rw [hF78]
                have hE78_1 : mn = ((g_X5_sizes_A_78q1 fet fql fso fmi fpa fki fmo fsz frd fct frr sn v1 v2).2.1) := by rw [hF78]
                have hE78_2 : le = ((g_X5_sizes_A_78q1 fet fql fso fmi fpa fki fmo fsz frd fct frr sn v1 v2).2.2) := by rw [hF78]
                clear hF78 R78
                subst hE78_0
                subst hE78_1
                subst hE78_2
                refine lv_iload hx hb dX5_sizes_116 (lv_at hl 9 rfl) ?_
                refine lv_bipush (v := 10) hx hb dX5_sizes_118 (by decide +kernel) ?_
                refine lv_irem hx hb dX5_sizes_120 (by decide +kernel) ?_
                refine lv_topi (fun v_37 ev_37 => ?_)
                have ev_37 : v_37 = iRem v3 10 := ev_37.trans (rfl)
                subst ev_37
                refine lv_if_ne (tgt := 129) hx hb dX5_sizes_121 (by decide +kernel) (fun c_38 => ?_) (fun c_38 => ?_)
                · skip
                  refine lv_iload hx hb dX5_sizes_129 (lv_at hl 1 rfl) ?_
                  have hpost : (fun (r : Int32) (u : Int32 × Int32 × Int32 × (Nat → Int32) × (Nat → Int32) × (Nat → Int32) × (Nat → Int32) × (Nat → Int32) × (Nat → Int32) × (Nat → Int32) × (Nat → Int32) × (Nat → Int32)) => match u with | (zj9, zb9, zl9, yt1, yt2, yt3, yt4, yt5, yt6, yt7, yt8, ysk) => r = m_X5_sizes_A jg pb fet fql fso fmi fpa fki fmo fsz frd fct fqo frr sn v1 v2 v3) ((g_X5_sizes_A_78q1 fet fql fso fmi fpa fki fmo fsz frd fct frr sn v1 v2).2.2) (zj9l, zb9l, zl9l, x78t1, x78t2, x78t3, x78t4, x78t5, x78t6, x78t7, x78t8, x78sk) := (show m_X5_sizes_A jg pb fet fql fso fmi fpa fki fmo fsz frd fct fqo frr sn v1 v2 v3 = ((g_X5_sizes_A_78q1 fet fql fso fmi fpa fki fmo fsz frd fct frr sn v1 v2).2.2) from by unfold m_X5_sizes_A; rw [if_pos c_3, if_pos p_9, if_neg c_15, if_pos c_16, if_neg c_38]).symm
                  exact W.iret (v := ((g_X5_sizes_A_78q1 fet fql fso fmi fpa fki fmo fsz frd fct frr sn v1 v2).2.2)) hx hb hr (fun t ht hW => ⟨⟨((g_X5_sizes_A_78q1 fet fql fso fmi fpa fki fmo fsz frd fct frr sn v1 v2).2.2), (zj9l, zb9l, zl9l, x78t1, x78t2, x78t3, x78t4, x78t5, x78t6, x78t7, x78t8, x78sk), rfl, hpost, by rw [ht]; exact hP.sub [22, 28, 0, 1, 2, 3, 4, 5, 6, 7, 8, 9, 10, 11, 12, 13, 14, 15, 16, 17, 18, 19, 20, 21, 23, 24, 25, 26, 27] rfl, va_K.moved hW.alike hK, hD.sub [22, 28, 0, 1, 2, 3, 4, 5, 6, 7, 8, 9, 10, 11, 12, 13, 14, 15, 16, 17, 18, 19, 20, 21, 23, 24, 25, 26, 27] (by decide +kernel) rfl⟩, hS.F ht⟩) hS.2.2 dX5_sizes_131
                · skip
                  refine lv_iload hx hb dX5_sizes_124 (lv_at hl 2 rfl) ?_
                  refine lv_goto (tgt := 131) hx hb dX5_sizes_126 (by decide +kernel) ?_
                  have hpost : (fun (r : Int32) (u : Int32 × Int32 × Int32 × (Nat → Int32) × (Nat → Int32) × (Nat → Int32) × (Nat → Int32) × (Nat → Int32) × (Nat → Int32) × (Nat → Int32) × (Nat → Int32) × (Nat → Int32)) => match u with | (zj9, zb9, zl9, yt1, yt2, yt3, yt4, yt5, yt6, yt7, yt8, ysk) => r = m_X5_sizes_A jg pb fet fql fso fmi fpa fki fmo fsz frd fct fqo frr sn v1 v2 v3) ((g_X5_sizes_A_78q1 fet fql fso fmi fpa fki fmo fsz frd fct frr sn v1 v2).2.1) (zj9l, zb9l, zl9l, x78t1, x78t2, x78t3, x78t4, x78t5, x78t6, x78t7, x78t8, x78sk) := (show m_X5_sizes_A jg pb fet fql fso fmi fpa fki fmo fsz frd fct fqo frr sn v1 v2 v3 = ((g_X5_sizes_A_78q1 fet fql fso fmi fpa fki fmo fsz frd fct frr sn v1 v2).2.1) from by unfold m_X5_sizes_A; rw [if_pos c_3, if_pos p_9, if_neg c_15, if_pos c_16, if_pos c_38]).symm
                  exact W.iret (v := ((g_X5_sizes_A_78q1 fet fql fso fmi fpa fki fmo fsz frd fct frr sn v1 v2).2.1)) hx hb hr (fun t ht hW => ⟨⟨((g_X5_sizes_A_78q1 fet fql fso fmi fpa fki fmo fsz frd fct frr sn v1 v2).2.1), (zj9l, zb9l, zl9l, x78t1, x78t2, x78t3, x78t4, x78t5, x78t6, x78t7, x78t8, x78sk), rfl, hpost, by rw [ht]; exact hP.sub [22, 28, 0, 1, 2, 3, 4, 5, 6, 7, 8, 9, 10, 11, 12, 13, 14, 15, 16, 17, 18, 19, 20, 21, 23, 24, 25, 26, 27] rfl, va_K.moved hW.alike hK, hD.sub [22, 28, 0, 1, 2, 3, 4, 5, 6, 7, 8, 9, 10, 11, 12, 13, 14, 15, 16, 17, 18, 19, 20, 21, 23, 24, 25, 26, 27] (by decide +kernel) rfl⟩, hS.F ht⟩) hS.2.2 dX5_sizes_131
              · skip
                have hxd : 0 < 100 - w78 := nI_nneg1 c_36
                have e9 : nI (100 - w78) - 1 = nI (100 - w78 - 1) := pk_sub (a := 100 - w78) (b := 1) (by omega)
                rw [e9] at hl
                have hl : lv_has ls 10 [zI 9 (nI (100 - w78 - 1)), zI 8 le, zI 7 mn, zR 6 t7, zI 5 (m_X5_refusalOf_A jg pb fql fqo frr sn v1), zR 0 h0, zI 1 (nI sn), zI 2 v1, zI 3 v2, zI 4 v3] := hl
                refine lv_aload_n hx hb dX5_sizes_83 rfl (lv_at hl 5 rfl) ?_
                have hz9 : gPD G A [zo5 h0 tt rd nw th kp sh tu him, zo0 nw tt n1 n2 n3 n4 n5 n6 n7 n8 (nI jg) (nI pb) (nI lw), zi G n2 4 fso, zi G n3 4 fmi, zi G n4 4 fpa, zi G n5 6 fki, zi G n6 6 fmo, zi G n7 6 fsz, zi G n8 6 frd, zo0 th tt t1 t2 t3 t4 t5 t6 t7 t8 zj9l zb9l zl9l, zi G t2 4 x78t2, zi G t3 4 x78t3, zi G t4 4 x78t4, zi G t5 6 x78t5, zi G t6 6 x78t6, zi G t7 6 x78t7, zi G t8 6 x78t8] H := ⟨hP.sub [22, 28, 0, 1, 2, 3, 4, 5, 6, 7, 9, 10, 11, 12, 13, 14, 15] rfl, hD.sub [22, 28, 0, 1, 2, 3, 4, 5, 6, 7, 9, 10, 11, 12, 13, 14, 15] (by decide +kernel) rfl⟩
                have hPc := hz9.1
                have hDc := hz9.2
                have hFc := gFree hPc hD hS hA [22, 28, 0, 1, 2, 3, 4, 5, 6, 7, 9, 10, 11, 12, 13, 14, 15] rfl
                refine va_callv (va_runV (As := []) (rest := []) ⟨hx, hb, hml, hown, hts⟩ (c_X5_think l G h0 tt rd nw th kp sh tu n1 n2 n3 n4 n5 n6 n7 n8 t1 t2 t3 t4 t5 t6 t7 t8 jg pb lw him zj9l zb9l zl9l fso fmi fpa fki fmo fsz frd x78t2 x78t3 x78t4 x78t5 x78t6 x78t7 x78t8 H.size (by first | exact hjg | assumption | omega) (by first | exact hpb | assumption | omega)) (cwV 0 hts gX5_sizes_X5_think rfl rfl rfl (by decide +kernel) ⟨Nat.le_of_ble_eq_true rfl, Nat.le_of_ble_eq_true rfl⟩) ⟨gPre_blind, va_recv hK hPc (ci := 5) (q0 := 0) rfl rfl, fun U hU hW => gPre_of hU hW hK hPc hDc⟩ rfl rfl hl.1 rfl (lv_room (Nat.le_of_ble_eq_true rfl)) dX5_sizes_84 ⟨Nat.le_of_ble_eq_true rfl, Nat.le_of_ble_eq_true rfl⟩) hS (fun q _ h => hFc q h) hFc (fun u t H locs ht hvm w_40 hB hz1 hk1 hS => ?_)
                obtain ⟨hP1, hK1, hD1⟩ := hB
                rw [ht] at hP1
                have hz9 : gPD G (va_A _ _) [zo5 h0 tt rd nw th kp sh tu him, zo0 nw tt n1 n2 n3 n4 n5 n6 n7 n8 (nI jg) (nI pb) (nI lw), zi G n2 4 fso, zi G n3 4 fmi, zi G n4 4 fpa, zi G n5 6 fki, zi G n6 6 fmo, zi G n7 6 fsz, zi G n8 6 frd, zo0 th tt t1 t2 t3 t4 t5 t6 t7 t8 (nI jg) (nI pb) (nI lw), zi G t2 4 fso, zi G t3 4 fmi, zi G t4 4 fpa, zi G t5 6 fki, zi G t6 6 fmo, zi G t7 6 fsz, zi G t8 6 frd] H := ⟨hP1, hD1⟩
                have hP1 := hz9.1
                have hD1 := hz9.2
                have hz9 : gPD G A [zi G t1 6 x78t1, zo3 tt co en sk wr (nI tx), zr G co 6 fc, zr G en 6 fe, zi G ct 160 fct, zi G et 3 (nF fet), zi G sk 32 x78sk, zo2 sh qn qo ql, zr G qn 4 fn, zi G qo 4 fqo, zi G ql 4 (nF fql), zi G rr 40 frr, zo5 h0 tt rd nw th kp sh tu him, zo0 nw tt n1 n2 n3 n4 n5 n6 n7 n8 (nI jg) (nI pb) (nI lw), zi G n2 4 fso, zi G n3 4 fmi, zi G n4 4 fpa, zi G n5 6 fki, zi G n6 6 fmo, zi G n7 6 fsz, zi G n8 6 frd, zo0 th tt t1 t2 t3 t4 t5 t6 t7 t8 (nI jg) (nI pb) (nI lw), zi G t2 4 fso, zi G t3 4 fmi, zi G t4 4 fpa, zi G t5 6 fki, zi G t6 6 fmo, zi G t7 6 fsz, zi G t8 6 frd] H := gJoin hP hD hk1 hFc hP1 hD1 [22, 28, 0, 1, 2, 3, 4, 5, 6, 7, 9, 10, 11, 12, 13, 14, 15] [8, 16, 17, 18, 19, 20, 21, 23, 24, 25, 26, 27] rfl rfl rfl (by decide +kernel) (by decide +kernel)
                have hP := hz9.1
                have hD := hz9.2
                refine lv_aload hx hb dX5_sizes_87 (lv_at hl 3 rfl) ?_
                refine lv_iload_n hx hb dX5_sizes_89 rfl (lv_at hl 8 rfl) ?_
                refine lv_topi (fun v_41 ev_41 => ?_)
                have ev_41 : v_41 = nI (nC v2) := ev_41.trans hv_11
                subst ev_41
                refine lv_iload hx hb dX5_sizes_90 (lv_at hl 0 rfl) ?_
                refine va_iast (D := G.1) hx hb hK hP hD hS 27 0 rfl rfl (i := (nI (nC v2))) (x := (nI (100 - w78 - 1))) (vp_in_nI (by omega) (by omega)) dX5_sizes_92 (fun H locs hP hD hS => ?_)
                have hz9 : gPD G A [zi G t1 6 x78t1, zo3 tt co en sk wr (nI tx), zr G co 6 fc, zr G en 6 fe, zi G ct 160 fct, zi G et 3 (nF fet), zi G sk 32 x78sk, zo2 sh qn qo ql, zr G qn 4 fn, zi G qo 4 fqo, zi G ql 4 (nF fql), zi G rr 40 frr, zo5 h0 tt rd nw th kp sh tu him, zo0 nw tt n1 n2 n3 n4 n5 n6 n7 n8 (nI jg) (nI pb) (nI lw), zi G n2 4 fso, zi G n3 4 fmi, zi G n4 4 fpa, zi G n5 6 fki, zi G n6 6 fmo, zi G n7 6 fsz, zi G n8 6 frd, zo0 th tt t1 t2 t3 t4 t5 t6 t7 t8 (nI jg) (nI pb) (nI lw), zi G t2 4 fso, zi G t3 4 fmi, zi G t4 4 fpa, zi G t5 6 fki, zi G t6 6 fmo, zi G t7 6 (upd fsz (nC v2) (nI (100 - w78 - 1))), zi G t8 6 frd] H := ⟨by rw [nI_clamp (by omega)] at hP; exact hP, by rw [nI_clamp (by omega)] at hD; exact hD⟩
                have hP := hz9.1
                have hD := hz9.2
                refine lv_aload_n hx hb dX5_sizes_93 rfl (lv_at hl 5 rfl) ?_
                refine lv_iload_n hx hb dX5_sizes_94 rfl (lv_at hl 6 rfl) ?_
                refine lv_iload_n hx hb dX5_sizes_95 rfl (lv_at hl 7 rfl) ?_
                refine lv_topi (fun v_42 ev_42 => ?_)
                have ev_42 : v_42 = nI (nC v1) := ev_42.trans hv_4
                subst ev_42
                have hz9 : gPD G A [zo5 h0 tt rd nw th kp sh tu him, zo0 th tt t1 t2 t3 t4 t5 t6 t7 t8 (nI jg) (nI pb) (nI lw), zi G t1 6 x78t1, zi G t2 4 fso, zi G t3 4 fmi, zi G t4 4 fpa, zi G t5 6 fki, zi G t6 6 fmo, zi G t7 6 (upd fsz (nC v2) (nI (100 - w78 - 1))), zi G t8 6 frd, zo3 tt co en sk wr (nI tx), zr G co 6 fc, zr G en 6 fe, zi G ct 160 fct, zi G et 3 (nF fet), zi G sk 32 x78sk, zo2 sh qn qo ql, zr G qn 4 fn, zi G qo 4 fqo, zi G ql 4 (nF fql), zi G rr 40 frr] H := ⟨hP.sub [12, 21, 0, 22, 23, 24, 25, 26, 27, 28, 1, 2, 3, 4, 5, 6, 7, 8, 9, 10, 11] rfl, hD.sub [12, 21, 0, 22, 23, 24, 25, 26, 27, 28, 1, 2, 3, 4, 5, 6, 7, 8, 9, 10, 11] (by decide +kernel) rfl⟩
                have hPc := hz9.1
                have hDc := hz9.2
                have hFc := gFree hPc hD hS hA [12, 21, 0, 22, 23, 24, 25, 26, 27, 28, 1, 2, 3, 4, 5, 6, 7, 8, 9, 10, 11] rfl
                refine va_calli (va_runV (As := [.int (nI sn), .int (nI (nC v1))]) (rest := []) ⟨hx, hb, hml, hown, hts⟩ (c_X5_firstOtherwise l G h0 tt rd nw th kp sh tu t1 t2 t3 t4 t5 t6 t7 t8 co en sk ct et qn qo ql rr lw tx him wr (nI jg) (nI pb) fc fe fn fet fql x78t1 fso fmi fpa fki fmo (upd fsz (nC v2) (nI (100 - w78 - 1))) frd fct x78sk fqo frr sn (nC v1) pb H.size (by first | exact hsn | assumption | omega) (by first | exact hrw | assumption | omega) (by first | exact hql | assumption | omega) (by first | exact hj | assumption | omega) (hvl) (hpb) (by first | exact htn | assumption | omega) (by first | exact hc | assumption | omega) (by first | exact he | assumption | omega) (by first | exact hwx | assumption | omega)) (cwV 2 hts gX5_sizes_X5_firstOtherwise rfl rfl rfl (by decide +kernel) ⟨Nat.le_of_ble_eq_true rfl, Nat.le_of_ble_eq_true rfl⟩) ⟨gPre_blind, va_recv hK hPc (ci := 5) (q0 := 0) rfl rfl, fun U hU hW => gPre_of hU hW hK hPc hDc⟩ rfl rfl hl.1 rfl (lv_room (Nat.le_of_ble_eq_true rfl)) dX5_sizes_96 ⟨Nat.le_of_ble_eq_true rfl, Nat.le_of_ble_eq_true rfl⟩) hS (fun q _ h => hFc q h) hFc (fun r_43 u t H locs ht hvm w_44 hB hz1 hk1 hS => ?_)
                obtain ⟨yt1_45, yt2_46, yt3_47, yt4_48, yt5_49, yt6_50, yt7_51, yt8_52, ysk_53⟩ := u
                obtain ⟨hP1, hK1, hD1⟩ := hB
                rw [ht] at hP1
                have hz9 : gPD G (va_A _ _) [zo5 h0 tt rd nw th kp sh tu him, zo0 th tt t1 t2 t3 t4 t5 t6 t7 t8 (nI jg) (nI pb) (nI lw), zi G t1 6 yt1_45, zi G t2 4 yt2_46, zi G t3 4 yt3_47, zi G t4 4 yt4_48, zi G t5 6 yt5_49, zi G t6 6 yt6_50, zi G t7 6 yt7_51, zi G t8 6 yt8_52, zo3 tt co en sk wr (nI tx), zr G co 6 fc, zr G en 6 fe, zi G ct 160 fct, zi G et 3 (nF fet), zi G sk 32 ysk_53, zo2 sh qn qo ql, zr G qn 4 fn, zi G qo 4 fqo, zi G ql 4 (nF fql), zi G rr 40 frr] H := ⟨hP1, hD1⟩
                have hP1 := hz9.1
                have hD1 := hz9.2
                have w_44 : r_43 = m_X5_firstOtherwise fet fql fso fmi fpa fki fmo (upd fsz (nC v2) (nI (100 - w78 - 1))) frd fct frr sn (nC v1) := w_44
                have hz9 : gPD G A [zo0 nw tt n1 n2 n3 n4 n5 n6 n7 n8 (nI jg) (nI pb) (nI lw), zi G n2 4 fso, zi G n3 4 fmi, zi G n4 4 fpa, zi G n5 6 fki, zi G n6 6 fmo, zi G n7 6 fsz, zi G n8 6 frd, zo5 h0 tt rd nw th kp sh tu him, zo0 th tt t1 t2 t3 t4 t5 t6 t7 t8 (nI jg) (nI pb) (nI lw), zi G t1 6 yt1_45, zi G t2 4 yt2_46, zi G t3 4 yt3_47, zi G t4 4 yt4_48, zi G t5 6 yt5_49, zi G t6 6 yt6_50, zi G t7 6 yt7_51, zi G t8 6 yt8_52, zo3 tt co en sk wr (nI tx), zr G co 6 fc, zr G en 6 fe, zi G ct 160 fct, zi G et 3 (nF fet), zi G sk 32 ysk_53, zo2 sh qn qo ql, zr G qn 4 fn, zi G qo 4 fqo, zi G ql 4 (nF fql), zi G rr 40 frr] H := gJoin hP hD hk1 hFc hP1 hD1 [12, 21, 0, 22, 23, 24, 25, 26, 27, 28, 1, 2, 3, 4, 5, 6, 7, 8, 9, 10, 11] [13, 14, 15, 16, 17, 18, 19, 20] rfl rfl rfl (by decide +kernel) (by decide +kernel)
                have hP := hz9.1
                have hD := hz9.2
                subst w_44
                refine lv_iconst (v := -1) hx hb dX5_sizes_99 (by decide +kernel) ?_
                refine lv_icmp_ne (tgt := 110) hx hb dX5_sizes_100 (by decide +kernel) (fun c_54 => ?_) (fun c_54 => ?_)
                · skip
                  refine lv_iinc (v := nI (100 - (w78 + 1)) - 1) (lv' := [zI 9 (nI (100 - (w78 + 1)) - 1), zI 8 le, zI 7 mn, zR 6 t7, zI 5 (m_X5_refusalOf_A jg pb fql fqo frr sn v1), zR 0 h0, zI 1 (nI sn), zI 2 v1, zI 3 v2, zI 4 v3]) hx hb dX5_sizes_110 hl (k := 0) rfl (show nI (100 - w78 - 1) + (-1) = nI (100 - (w78 + 1)) - 1 from by rw [nI_p1, show 100 - (w78 + 1) = 100 - w78 - 1 by omega]) (by decide +kernel) rfl (fun ls hl => ?_)
                  refine lv_goto (tgt := 78) hx hb dX5_sizes_113 (by decide +kernel) ?_
                  exact ih9_78 (w78 + 1) mn le yt1_45 ysk_53 yt2_46 yt3_47 yt4_48 yt5_49 yt6_50 yt7_51 yt8_52 (nI jg) (nI pb) (nI lw) (by omega) (Eq.trans (Eq.symm ((congrArg (fun z9 => p_X5_sizes_A_78q1 fet fql fso fmi fpa fki fmo fsz frd fct frr sn v1 v2 (z9) w78 mn le) (show 100 - w78 = 100 - (w78 + 1) + 1 by omega)).trans (by show p_X5_sizes_A_78q1 fet fql fso fmi fpa fki fmo fsz frd fct frr sn v1 v2 (100 - (w78 + 1) + 1) w78 mn le = _; rw [p_X5_sizes_A_78q1, if_neg c_54]))) R78) (by omega) _ _ (hP.sub [1, 2, 3, 4, 5, 6, 7, 9, 10, 11, 12, 13, 14, 15, 16, 17, 18, 19, 20, 21, 22, 23, 8, 24, 25, 26, 27, 28, 0] rfl) (hD.sub [1, 2, 3, 4, 5, 6, 7, 9, 10, 11, 12, 13, 14, 15, 16, 17, 18, 19, 20, 21, 22, 23, 8, 24, 25, 26, 27, 28, 0] (by decide +kernel) rfl) hS ls (lv_sub hl [0, 1, 2, 3, 4, 5, 6, 7, 8, 9] rfl)
                · skip
                  refine lv_iinc (v := mn + 1) (lv' := [zI 7 (mn + 1), zI 9 (nI (100 - w78 - 1)), zI 8 le, zR 6 t7, zI 5 (m_X5_refusalOf_A jg pb fql fqo frr sn v1), zR 0 h0, zI 1 (nI sn), zI 2 v1, zI 3 v2, zI 4 v3]) hx hb dX5_sizes_103 hl (k := 2) rfl (rfl) (by decide +kernel) rfl (fun ls hl => ?_)
                  refine lv_iload hx hb dX5_sizes_106 (lv_at hl 1 rfl) ?_
                  refine lv_istore (lv' := [zI 8 (nI (100 - w78 - 1)), zI 7 (mn + 1), zI 9 (nI (100 - w78 - 1)), zR 6 t7, zI 5 (m_X5_refusalOf_A jg pb fql fqo frr sn v1), zR 0 h0, zI 1 (nI sn), zI 2 v1, zI 3 v2, zI 4 v3]) hx hb dX5_sizes_108 hl (by decide +kernel) rfl (fun ls hl => ?_)
                  refine lv_iinc (v := nI (100 - (w78 + 1)) - 1) (lv' := [zI 9 (nI (100 - (w78 + 1)) - 1), zI 8 (nI (100 - w78 - 1)), zI 7 (mn + 1), zR 6 t7, zI 5 (m_X5_refusalOf_A jg pb fql fqo frr sn v1), zR 0 h0, zI 1 (nI sn), zI 2 v1, zI 3 v2, zI 4 v3]) hx hb dX5_sizes_110 hl (k := 2) rfl (show nI (100 - w78 - 1) + (-1) = nI (100 - (w78 + 1)) - 1 from by rw [nI_p1, show 100 - (w78 + 1) = 100 - w78 - 1 by omega]) (by decide +kernel) rfl (fun ls hl => ?_)
                  refine lv_goto (tgt := 78) hx hb dX5_sizes_113 (by decide +kernel) ?_
                  exact ih9_78 (w78 + 1) (mn + 1) (nI (100 - w78 - 1)) yt1_45 ysk_53 yt2_46 yt3_47 yt4_48 yt5_49 yt6_50 yt7_51 yt8_52 (nI jg) (nI pb) (nI lw) (by omega) (Eq.trans (Eq.symm ((congrArg (fun z9 => p_X5_sizes_A_78q1 fet fql fso fmi fpa fki fmo fsz frd fct frr sn v1 v2 (z9) w78 mn le) (show 100 - w78 = 100 - (w78 + 1) + 1 by omega)).trans (by show p_X5_sizes_A_78q1 fet fql fso fmi fpa fki fmo fsz frd fct frr sn v1 v2 (100 - (w78 + 1) + 1) w78 mn le = _; rw [p_X5_sizes_A_78q1, if_pos c_54]))) R78) (by omega) _ _ (hP.sub [1, 2, 3, 4, 5, 6, 7, 9, 10, 11, 12, 13, 14, 15, 16, 17, 18, 19, 20, 21, 22, 23, 8, 24, 25, 26, 27, 28, 0] rfl) (hD.sub [1, 2, 3, 4, 5, 6, 7, 9, 10, 11, 12, 13, 14, 15, 16, 17, 18, 19, 20, 21, 22, 23, 8, 24, 25, 26, 27, 28, 0] (by decide +kernel) rfl) hS ls (lv_sub hl [0, 1, 2, 3, 4, 5, 6, 7, 8, 9] rfl)
          exact loop_78 (100 - 0 + 1) 0 0 (-1) unm fsk uso umi upa uki umo usz urd tj tb tl (by omega) (rfl) (by omega) _ _ (hP.sub [0, 1, 2, 3, 4, 5, 6, 7, 8, 9, 10, 11, 12, 13, 14, 15, 16, 17, 18, 19, 20, 21, 22, 23, 24, 25, 26, 27, 28] rfl) (hD.sub [0, 1, 2, 3, 4, 5, 6, 7, 8, 9, 10, 11, 12, 13, 14, 15, 16, 17, 18, 19, 20, 21, 22, 23, 24, 25, 26, 27, 28] (by decide +kernel) rfl) hS ls (lv_sub hl [0, 1, 2, 3, 4, 5, 6, 7, 8, 9] rfl)
      · skip
        refine lv_bipush (v := -7) hx hb dX5_sizes_38 (by decide +kernel) ?_
        have hpost : (fun (r : Int32) (u : Int32 × Int32 × Int32 × (Nat → Int32) × (Nat → Int32) × (Nat → Int32) × (Nat → Int32) × (Nat → Int32) × (Nat → Int32) × (Nat → Int32) × (Nat → Int32) × (Nat → Int32)) => match u with | (zj9, zb9, zl9, yt1, yt2, yt3, yt4, yt5, yt6, yt7, yt8, ysk) => r = m_X5_sizes_A jg pb fet fql fso fmi fpa fki fmo fsz frd fct fqo frr sn v1 v2 v3) (-7) (tj, tb, tl, unm, uso, umi, upa, uki, umo, usz, urd, fsk) := (show m_X5_sizes_A jg pb fet fql fso fmi fpa fki fmo fsz frd fct fqo frr sn v1 v2 v3 = (-7) from by unfold m_X5_sizes_A; rw [if_pos c_3, if_pos p_9, if_pos c_15]).symm
        exact W.iret (v := (-7)) hx hb hr (fun t ht hW => ⟨⟨(-7), (tj, tb, tl, unm, uso, umi, upa, uki, umo, usz, urd, fsk), rfl, hpost, by rw [ht]; exact hP.sub [22, 28, 0, 1, 2, 3, 4, 5, 6, 7, 8, 9, 10, 11, 12, 13, 14, 15, 16, 17, 18, 19, 20, 21, 23, 24, 25, 26, 27] rfl, va_K.moved hW.alike hK, hD.sub [22, 28, 0, 1, 2, 3, 4, 5, 6, 7, 8, 9, 10, 11, 12, 13, 14, 15, 16, 17, 18, 19, 20, 21, 23, 24, 25, 26, 27] (by decide +kernel) rfl⟩, hS.F ht⟩) hS.2.2 dX5_sizes_40
    · skip
      have n_10 : (mHas pb v2) = false := bz_eq rfl c_8
      have n_10N : ¬ ((mHas pb v2) = true) := by rw [n_10]; decide
      refine lv_bipush (v := -6) hx hb dX5_sizes_27 (by decide +kernel) ?_
      have hpost : (fun (r : Int32) (u : Int32 × Int32 × Int32 × (Nat → Int32) × (Nat → Int32) × (Nat → Int32) × (Nat → Int32) × (Nat → Int32) × (Nat → Int32) × (Nat → Int32) × (Nat → Int32) × (Nat → Int32)) => match u with | (zj9, zb9, zl9, yt1, yt2, yt3, yt4, yt5, yt6, yt7, yt8, ysk) => r = m_X5_sizes_A jg pb fet fql fso fmi fpa fki fmo fsz frd fct fqo frr sn v1 v2 v3) (-6) (tj, tb, tl, unm, uso, umi, upa, uki, umo, usz, urd, fsk) := (show m_X5_sizes_A jg pb fet fql fso fmi fpa fki fmo fsz frd fct fqo frr sn v1 v2 v3 = (-6) from by unfold m_X5_sizes_A; rw [if_pos c_3, if_neg n_10N]).symm
      exact W.iret (v := (-6)) hx hb hr (fun t ht hW => ⟨⟨(-6), (tj, tb, tl, unm, uso, umi, upa, uki, umo, usz, urd, fsk), rfl, hpost, by rw [ht]; exact hP.sub [22, 28, 0, 1, 2, 3, 4, 5, 6, 7, 8, 9, 10, 11, 12, 13, 14, 15, 16, 17, 18, 19, 20, 21, 23, 24, 25, 26, 27] rfl, va_K.moved hW.alike hK, hD.sub [22, 28, 0, 1, 2, 3, 4, 5, 6, 7, 8, 9, 10, 11, 12, 13, 14, 15, 16, 17, 18, 19, 20, 21, 23, 24, 25, 26, 27] (by decide +kernel) rfl⟩, hS.F ht⟩) hS.2.2 dX5_sizes_29
  · skip
    refine lv_iload hx hb dX5_sizes_13 (lv_at hl 0 rfl) ?_
    have hpost : (fun (r : Int32) (u : Int32 × Int32 × Int32 × (Nat → Int32) × (Nat → Int32) × (Nat → Int32) × (Nat → Int32) × (Nat → Int32) × (Nat → Int32) × (Nat → Int32) × (Nat → Int32) × (Nat → Int32)) => match u with | (zj9, zb9, zl9, yt1, yt2, yt3, yt4, yt5, yt6, yt7, yt8, ysk) => r = m_X5_sizes_A jg pb fet fql fso fmi fpa fki fmo fsz frd fct fqo frr sn v1 v2 v3) (m_X5_refusalOf_A jg pb fql fqo frr sn v1) (tj, tb, tl, unm, uso, umi, upa, uki, umo, usz, urd, fsk) := (show m_X5_sizes_A jg pb fet fql fso fmi fpa fki fmo fsz frd fct fqo frr sn v1 v2 v3 = (m_X5_refusalOf_A jg pb fql fqo frr sn v1) from by unfold m_X5_sizes_A; rw [if_neg c_3]).symm
    exact W.iret (v := (m_X5_refusalOf_A jg pb fql fqo frr sn v1)) hx hb hr (fun t ht hW => ⟨⟨(m_X5_refusalOf_A jg pb fql fqo frr sn v1), (tj, tb, tl, unm, uso, umi, upa, uki, umo, usz, urd, fsk), rfl, hpost, by rw [ht]; exact hP.sub [22, 23, 0, 1, 2, 3, 4, 5, 6, 7, 8, 9, 10, 11, 12, 13, 14, 15, 16, 17, 18, 19, 20, 21, 24, 25, 26, 27, 28] rfl, va_K.moved hW.alike hK, hD.sub [22, 23, 0, 1, 2, 3, 4, 5, 6, 7, 8, 9, 10, 11, 12, 13, 14, 15, 16, 17, 18, 19, 20, 21, 24, 25, 26, 27, 28] (by decide +kernel) rfl⟩, hS.F ht⟩) hS.2.2 dX5_sizes_15
abbrev q_X5_sizes_B (G : gG) (E : gS) (h0 tt rd nw th kp sh tu qn qo ql : Nat) (him : Int32) (v0 : Int32) (v1 : Int32) (v2 : Int32) (v3 : Int32) (A : Nat → Prop) : Array Value → State → Outcome → State → Prop := va_Qi (fun (r : Int32) (u : Unit) => match u with | _ => r = -2) (fun (u : Unit) t => match u with | _ => va_P G.1 vwCl [zo5 h0 tt rd nw th kp sh tu him, zo2 sh qn qo ql] t.heap ∧ gK G t ∧ va_D A [zo5 h0 tt rd nw th kp sh tu him, zo2 sh qn qo ql]) A
set_option maxHeartbeats 4000000 in
set_option maxRecDepth 100000 in
theorem c_X5_sizes_B (l : Launch) (G : gG) (E : gS) (h0 tt rd nw th kp sh tu qn qo ql : Nat) (him : Int32) (v0 : Int32) (v1 : Int32) (v2 : Int32) (v3 : Int32) (sz : Nat) (hno : ¬ (0 ≤ v0 ∧ v0 ≤ 3)) : Met l yX5_sizes wsX5_sizes ({ frames := 4, cells := 0, slots := 0, locals := 89 }) (gPreE G E [.ref h0, .int v0, .int v1, .int v2, .int v3] [zo5 h0 tt rd nw th kp sh tu him, zo2 sh qn qo ql] sz) (q_X5_sizes_B G E h0 tt rd nw th kp sh tu qn qo ql him v0 v1 v2 v3 (va_A [zo5 h0 tt rd nw th kp sh tu him, zo2 sh qn qo ql] sz)) 0 0 (va_A [zo5 h0 tt rd nw th kp sh tu him, zo2 sh qn qo ql] sz) := by
  refine Met.ofW (cc := cX5_sizes) (maxL := 10) (ret := (some .int)) (by decide +kernel) rfl ?_
  intro p e s m args below meth c s₁ B hml hv
  obtain ⟨rfl, hsz, hP, hK, hD0, hE⟩ := hv
  have hx := B.exec
  have hb := B.bytes
  have hr := B.returns
  have hts := atoms_spec (ws := wsX5_sizes) B.pre
  have hown : s.vm.findClass RX5 = some m.cls := findClass_of_methodNamed B.named
  have hlocks := B.notSynchronized
  subst hsz
  have hD := hD0.self (sz := s.heap.size)
  generalize hAe : va_A [zo5 h0 tt rd nw th kp sh tu him, zo2 sh qn qo ql] s.heap.size = A at hD hE ⊢
  have hA : ∀ q : Nat, s.heap.size ≤ q → A q := fun q h => by rw [← hAe]; exact Or.inr h
  have hS : va_S A s.heap s.heap [] := va_S.rf
  have hz9 : gPD G A [zo5 h0 tt rd nw th kp sh tu him, zo2 sh qn qo ql] s.heap := ⟨hP, hD⟩
  have hP := hz9.1
  have hD := hz9.2
  have hl := lv_entry ([.ref h0, .int v0, .int v1, .int v2, .int v3]) (n := 10) (Nat.le_of_ble_eq_true rfl)
  rw [lg_entry_eq]
  generalize (lg_sl ([.ref h0, .int v0, .int v1, .int v2, .int v3]) ++ List.replicate (10 - (lg_sl ([.ref h0, .int v0, .int v1, .int v2, .int v3])).length) Slot.unset).toArray = ls at hl ⊢
  have hl : lv_has ls 10 [zR 0 h0, zI 1 v0, zI 2 v1, zI 3 v2, zI 4 v3] := hl
  refine lv_aload_n hx hb dX5_sizes_0 rfl (lv_at hl 0 rfl) ?_
  refine lv_iload_n hx hb dX5_sizes_1 rfl (lv_at hl 1 rfl) ?_
  refine lv_iload_n hx hb dX5_sizes_2 rfl (lv_at hl 2 rfl) ?_
  have hz9 : gPD G A [zo5 h0 tt rd nw th kp sh tu him, zo2 sh qn qo ql] s.heap := ⟨hP.sub [0, 1] rfl, hD.sub [0, 1] (by decide +kernel) rfl⟩
  have hPc := hz9.1
  have hDc := hz9.2
  have hFc := gFree hPc hD hS hA [0, 1] rfl
  refine va_calli (va_runV (As := [.int v0, .int v1]) (rest := []) ⟨hx, hb, hml, hown, hts⟩ (c_X5_refusalOf_B l G E h0 tt rd nw th kp sh tu qn qo ql him v0 v1 s.heap.size (by first | exact hno | assumption | omega)) (cwV 2 hts gX5_sizes_X5_refusalOf rfl rfl rfl (by decide +kernel) ⟨Nat.le_of_ble_eq_true rfl, Nat.le_of_ble_eq_true rfl⟩) ⟨gPreE_blind, va_recv hK hPc (ci := 5) (q0 := 0) rfl rfl, fun U hU hW => gPreE_of hU hW hK hPc hDc hE hS hFc⟩ rfl rfl hl.1 rfl (lv_room (Nat.le_of_ble_eq_true rfl)) dX5_sizes_3 ⟨Nat.le_of_ble_eq_true rfl, Nat.le_of_ble_eq_true rfl⟩) hS (fun q _ h => hFc q h) hFc (fun r_1 u t H locs ht hvm w_2 hB hz1 hk1 hS => ?_)
  obtain ⟨hP1, hK1, hD1⟩ := hB
  rw [ht] at hP1
  have hz9 : gPD G (va_A _ s.heap.size) [zo5 h0 tt rd nw th kp sh tu him, zo2 sh qn qo ql] H := ⟨hP1, hD1⟩
  have hP1 := hz9.1
  have hD1 := hz9.2
  have w_2 : r_1 = -2 := w_2
  have hz9 : gPD G A [zo5 h0 tt rd nw th kp sh tu him, zo2 sh qn qo ql] H := gJoin hP hD hk1 hFc hP1 hD1 [0, 1] [] rfl rfl rfl (by decide +kernel) (by decide +kernel)
  have hP := hz9.1
  have hD := hz9.2
  subst w_2
  refine lv_istore (lv' := [zI 5 (-2), zR 0 h0, zI 1 v0, zI 2 v1, zI 3 v2, zI 4 v3]) hx hb dX5_sizes_6 hl (by decide +kernel) rfl (fun ls hl => ?_)
  refine lv_iload hx hb dX5_sizes_8 (lv_at hl 0 rfl) ?_
  refine lv_if_eq (tgt := 16) hx hb dX5_sizes_10 (by decide +kernel) (fun c_3 => ?_) (fun c_3 => ?_)
  · exact absurd c_3 (by decide +kernel)
  refine lv_iload hx hb dX5_sizes_13 (lv_at hl 0 rfl) ?_
  have hP9 := hP.sub (ws' := [zo5 h0 tt rd nw th kp sh tu him, zo2 sh qn qo ql]) [0, 1] rfl
  have hD9 := hD.sub (ws' := [zo5 h0 tt rd nw th kp sh tu him, zo2 sh qn qo ql]) [0, 1] (by decide +kernel) rfl
  have hpost : (fun (r : Int32) (u : Unit) => match u with | _ => r = -2) (-2) () := rfl
  exact W.iret (v := (-2)) hx hb hr (fun t ht hW => ⟨⟨(-2), (), rfl, hpost, by rw [ht]; exact hP9, va_K.moved hW.alike hK, hD9⟩, hS.F ht⟩) hS.2.2 dX5_sizes_15
noncomputable def p_X5_whose_A_17 (fet : Nat → Nat) (fql : Nat → Nat) (fso : Nat → Int32) (fmi : Nat → Int32) (fpa : Nat → Int32) (fki : Nat → Int32) (fmo : Nat → Int32) (fsz : Nat → Int32) (frd : Nat → Int32) (fct : Nat → Int32) (frr : Nat → Int32) (sn : Nat) : Nat → Nat → Int32 → Nat × Int32
  | 0, j17, bi => (j17, bi)
  | q9 + 1, j17, bi => if (m_X5_firstOtherwise fet fql fso fmi fpa fki fmo fsz frd fct frr sn j17) = (-1) then p_X5_whose_A_17 fet fql fso fmi fpa fki fmo fsz frd fct frr sn q9 (j17 + 1) (bi ||| (1 <<< ((nI j17) &&& 31))) else p_X5_whose_A_17 fet fql fso fmi fpa fki fmo fsz frd fct frr sn q9 (j17 + 1) bi
noncomputable def g_X5_whose_A_17 (jg : Nat) (fet : Nat → Nat) (fql : Nat → Nat) (fso : Nat → Int32) (fmi : Nat → Int32) (fpa : Nat → Int32) (fki : Nat → Int32) (fmo : Nat → Int32) (fsz : Nat → Int32) (frd : Nat → Int32) (fct : Nat → Int32) (frr : Nat → Int32) (sn : Nat) : Nat × Int32 := p_X5_whose_A_17 fet fql fso fmi fpa fki fmo fsz frd fct frr sn (jg - 0) 0 0
noncomputable def m_X5_whose_A (jg : Nat) (pb : Nat) (fet : Nat → Nat) (fql : Nat → Nat) (fso : Nat → Int32) (fmi : Nat → Int32) (fpa : Nat → Int32) (fki : Nat → Int32) (fmo : Nat → Int32) (fsz : Nat → Int32) (frd : Nat → Int32) (fct : Nat → Int32) (fqo : Nat → Int32) (frr : Nat → Int32) (sn : Nat) : Int32 := if (m_X5_refusalOfSheet_A pb fql fqo frr sn) = 0 then ((g_X5_whose_A_17 jg fet fql fso fmi fpa fki fmo fsz frd fct frr sn).2) else m_X5_refusalOfSheet_A pb fql fqo frr sn
abbrev q_X5_whose_A (G : gG) (E : gS) (h0 tt rd nw th kp sh tu n1 n2 n3 n4 n5 n6 n7 n8 t1 t2 t3 t4 t5 t6 t7 t8 co en sk ct et qn qo ql rr : Nat) (jg : Nat) (pb : Nat) (lw : Nat) (tx : Nat) (him : Int32) (wr : Int32) (tj : Int32) (tb : Int32) (tl : Int32) (fc : Nat → Option Nat) (fe : Nat → Option Nat) (fn : Nat → Option Nat) (fet : Nat → Nat) (fql : Nat → Nat) (fso : Nat → Int32) (fmi : Nat → Int32) (fpa : Nat → Int32) (fki : Nat → Int32) (fmo : Nat → Int32) (fsz : Nat → Int32) (frd : Nat → Int32) (unm : Nat → Int32) (uso : Nat → Int32) (umi : Nat → Int32) (upa : Nat → Int32) (uki : Nat → Int32) (umo : Nat → Int32) (usz : Nat → Int32) (urd : Nat → Int32) (fct : Nat → Int32) (fsk : Nat → Int32) (fqo : Nat → Int32) (frr : Nat → Int32) (sn : Nat) (A : Nat → Prop) : Array Value → State → Outcome → State → Prop := va_Qi (fun (r : Int32) (u : Int32 × Int32 × Int32 × (Nat → Int32) × (Nat → Int32) × (Nat → Int32) × (Nat → Int32) × (Nat → Int32) × (Nat → Int32) × (Nat → Int32) × (Nat → Int32) × (Nat → Int32)) => match u with | (zj9, zb9, zl9, yt1, yt2, yt3, yt4, yt5, yt6, yt7, yt8, ysk) => r = m_X5_whose_A jg pb fet fql fso fmi fpa fki fmo fsz frd fct fqo frr sn) (fun (u : Int32 × Int32 × Int32 × (Nat → Int32) × (Nat → Int32) × (Nat → Int32) × (Nat → Int32) × (Nat → Int32) × (Nat → Int32) × (Nat → Int32) × (Nat → Int32) × (Nat → Int32)) t => match u with | (zj9, zb9, zl9, yt1, yt2, yt3, yt4, yt5, yt6, yt7, yt8, ysk) => va_P G.1 vwCl [zo5 h0 tt rd nw th kp sh tu him, zo0 nw tt n1 n2 n3 n4 n5 n6 n7 n8 (nI jg) (nI pb) (nI lw), zi G n2 4 fso, zi G n3 4 fmi, zi G n4 4 fpa, zi G n5 6 fki, zi G n6 6 fmo, zi G n7 6 fsz, zi G n8 6 frd, zo0 th tt t1 t2 t3 t4 t5 t6 t7 t8 zj9 zb9 zl9, zi G t1 6 yt1, zi G t2 4 yt2, zi G t3 4 yt3, zi G t4 4 yt4, zi G t5 6 yt5, zi G t6 6 yt6, zi G t7 6 yt7, zi G t8 6 yt8, zo3 tt co en sk wr (nI tx), zr G co 6 fc, zr G en 6 fe, zi G ct 160 fct, zi G et 3 (nF fet), zi G sk 32 ysk, zo2 sh qn qo ql, zr G qn 4 fn, zi G qo 4 fqo, zi G ql 4 (nF fql), zi G rr 40 frr] t.heap ∧ gK G t ∧ va_D A [zo5 h0 tt rd nw th kp sh tu him, zo0 nw tt n1 n2 n3 n4 n5 n6 n7 n8 (nI jg) (nI pb) (nI lw), zi G n2 4 fso, zi G n3 4 fmi, zi G n4 4 fpa, zi G n5 6 fki, zi G n6 6 fmo, zi G n7 6 fsz, zi G n8 6 frd, zo0 th tt t1 t2 t3 t4 t5 t6 t7 t8 zj9 zb9 zl9, zi G t1 6 yt1, zi G t2 4 yt2, zi G t3 4 yt3, zi G t4 4 yt4, zi G t5 6 yt5, zi G t6 6 yt6, zi G t7 6 yt7, zi G t8 6 yt8, zo3 tt co en sk wr (nI tx), zr G co 6 fc, zr G en 6 fe, zi G ct 160 fct, zi G et 3 (nF fet), zi G sk 32 ysk, zo2 sh qn qo ql, zr G qn 4 fn, zi G qo 4 fqo, zi G ql 4 (nF fql), zi G rr 40 frr]) A
set_option maxHeartbeats 4000000 in
set_option maxRecDepth 100000 in
theorem c_X5_whose_A (l : Launch) (G : gG) (E : gS) (h0 tt rd nw th kp sh tu n1 n2 n3 n4 n5 n6 n7 n8 t1 t2 t3 t4 t5 t6 t7 t8 co en sk ct et qn qo ql rr : Nat) (jg : Nat) (pb : Nat) (lw : Nat) (tx : Nat) (him : Int32) (wr : Int32) (tj : Int32) (tb : Int32) (tl : Int32) (fc : Nat → Option Nat) (fe : Nat → Option Nat) (fn : Nat → Option Nat) (fet : Nat → Nat) (fql : Nat → Nat) (fso : Nat → Int32) (fmi : Nat → Int32) (fpa : Nat → Int32) (fki : Nat → Int32) (fmo : Nat → Int32) (fsz : Nat → Int32) (frd : Nat → Int32) (unm : Nat → Int32) (uso : Nat → Int32) (umi : Nat → Int32) (upa : Nat → Int32) (uki : Nat → Int32) (umo : Nat → Int32) (usz : Nat → Int32) (urd : Nat → Int32) (fct : Nat → Int32) (fsk : Nat → Int32) (fqo : Nat → Int32) (frr : Nat → Int32) (sn : Nat) (sz : Nat) (hsn : sn < 4) (hrw : fn sn = some rr) (hql : ∀ q9, q9 < 4 → fql q9 ≤ 40) (htn : lw < tx ∧ tx ≤ 6) (hc : fc lw = some ct) (he : fe lw = some et) (hwx : mWx fct fet) (hjg : jg ≤ 4) (hpb : pb ≤ 6) : Met l yX5_whose wsX5_whose ({ frames := 6, cells := 0, slots := 0, locals := 441 }) (gPreE G E [.ref h0, .int (nI sn)] [zo5 h0 tt rd nw th kp sh tu him, zo0 nw tt n1 n2 n3 n4 n5 n6 n7 n8 (nI jg) (nI pb) (nI lw), zi G n2 4 fso, zi G n3 4 fmi, zi G n4 4 fpa, zi G n5 6 fki, zi G n6 6 fmo, zi G n7 6 fsz, zi G n8 6 frd, zo0 th tt t1 t2 t3 t4 t5 t6 t7 t8 tj tb tl, zi G t1 6 unm, zi G t2 4 uso, zi G t3 4 umi, zi G t4 4 upa, zi G t5 6 uki, zi G t6 6 umo, zi G t7 6 usz, zi G t8 6 urd, zo3 tt co en sk wr (nI tx), zr G co 6 fc, zr G en 6 fe, zi G ct 160 fct, zi G et 3 (nF fet), zi G sk 32 fsk, zo2 sh qn qo ql, zr G qn 4 fn, zi G qo 4 fqo, zi G ql 4 (nF fql), zi G rr 40 frr] sz) (q_X5_whose_A G E h0 tt rd nw th kp sh tu n1 n2 n3 n4 n5 n6 n7 n8 t1 t2 t3 t4 t5 t6 t7 t8 co en sk ct et qn qo ql rr jg pb lw tx him wr tj tb tl fc fe fn fet fql fso fmi fpa fki fmo fsz frd unm uso umi upa uki umo usz urd fct fsk fqo frr sn (va_A [zo5 h0 tt rd nw th kp sh tu him, zo0 nw tt n1 n2 n3 n4 n5 n6 n7 n8 (nI jg) (nI pb) (nI lw), zi G n2 4 fso, zi G n3 4 fmi, zi G n4 4 fpa, zi G n5 6 fki, zi G n6 6 fmo, zi G n7 6 fsz, zi G n8 6 frd, zo0 th tt t1 t2 t3 t4 t5 t6 t7 t8 tj tb tl, zi G t1 6 unm, zi G t2 4 uso, zi G t3 4 umi, zi G t4 4 upa, zi G t5 6 uki, zi G t6 6 umo, zi G t7 6 usz, zi G t8 6 urd, zo3 tt co en sk wr (nI tx), zr G co 6 fc, zr G en 6 fe, zi G ct 160 fct, zi G et 3 (nF fet), zi G sk 32 fsk, zo2 sh qn qo ql, zr G qn 4 fn, zi G qo 4 fqo, zi G ql 4 (nF fql), zi G rr 40 frr] sz)) 0 0 (va_A [zo5 h0 tt rd nw th kp sh tu him, zo0 nw tt n1 n2 n3 n4 n5 n6 n7 n8 (nI jg) (nI pb) (nI lw), zi G n2 4 fso, zi G n3 4 fmi, zi G n4 4 fpa, zi G n5 6 fki, zi G n6 6 fmo, zi G n7 6 fsz, zi G n8 6 frd, zo0 th tt t1 t2 t3 t4 t5 t6 t7 t8 tj tb tl, zi G t1 6 unm, zi G t2 4 uso, zi G t3 4 umi, zi G t4 4 upa, zi G t5 6 uki, zi G t6 6 umo, zi G t7 6 usz, zi G t8 6 urd, zo3 tt co en sk wr (nI tx), zr G co 6 fc, zr G en 6 fe, zi G ct 160 fct, zi G et 3 (nF fet), zi G sk 32 fsk, zo2 sh qn qo ql, zr G qn 4 fn, zi G qo 4 fqo, zi G ql 4 (nF fql), zi G rr 40 frr] sz) := by
  refine Met.ofW (cc := cX5_whose) (maxL := 5) (ret := (some .int)) (by decide +kernel) rfl ?_
  intro p e s m args below meth c s₁ B hml hv
  obtain ⟨rfl, hsz, hP, hK, hD0, hE⟩ := hv
  have hx := B.exec
  have hb := B.bytes
  have hr := B.returns
  have hts := atoms_spec (ws := wsX5_whose) B.pre
  have hown : s.vm.findClass RX5 = some m.cls := findClass_of_methodNamed B.named
  have hlocks := B.notSynchronized
  subst hsz
  have hD := hD0.self (sz := s.heap.size)
  generalize hAe : va_A [zo5 h0 tt rd nw th kp sh tu him, zo0 nw tt n1 n2 n3 n4 n5 n6 n7 n8 (nI jg) (nI pb) (nI lw), zi G n2 4 fso, zi G n3 4 fmi, zi G n4 4 fpa, zi G n5 6 fki, zi G n6 6 fmo, zi G n7 6 fsz, zi G n8 6 frd, zo0 th tt t1 t2 t3 t4 t5 t6 t7 t8 tj tb tl, zi G t1 6 unm, zi G t2 4 uso, zi G t3 4 umi, zi G t4 4 upa, zi G t5 6 uki, zi G t6 6 umo, zi G t7 6 usz, zi G t8 6 urd, zo3 tt co en sk wr (nI tx), zr G co 6 fc, zr G en 6 fe, zi G ct 160 fct, zi G et 3 (nF fet), zi G sk 32 fsk, zo2 sh qn qo ql, zr G qn 4 fn, zi G qo 4 fqo, zi G ql 4 (nF fql), zi G rr 40 frr] s.heap.size = A at hD hE ⊢
  have hA : ∀ q : Nat, s.heap.size ≤ q → A q := fun q h => by rw [← hAe]; exact Or.inr h
  have hS : va_S A s.heap s.heap [] := va_S.rf
  have hz9 : gPD G A [zo5 h0 tt rd nw th kp sh tu him, zo0 nw tt n1 n2 n3 n4 n5 n6 n7 n8 (nI jg) (nI pb) (nI lw), zi G n2 4 fso, zi G n3 4 fmi, zi G n4 4 fpa, zi G n5 6 fki, zi G n6 6 fmo, zi G n7 6 fsz, zi G n8 6 frd, zo0 th tt t1 t2 t3 t4 t5 t6 t7 t8 tj tb tl, zi G t1 6 unm, zi G t2 4 uso, zi G t3 4 umi, zi G t4 4 upa, zi G t5 6 uki, zi G t6 6 umo, zi G t7 6 usz, zi G t8 6 urd, zo3 tt co en sk wr (nI tx), zr G co 6 fc, zr G en 6 fe, zi G ct 160 fct, zi G et 3 (nF fet), zi G sk 32 fsk, zo2 sh qn qo ql, zr G qn 4 fn, zi G qo 4 fqo, zi G ql 4 (nF fql), zi G rr 40 frr] s.heap := ⟨hP, hD⟩
  have hP := hz9.1
  have hD := hz9.2
  have hl := lv_entry ([.ref h0, .int (nI sn)]) (n := 5) (Nat.le_of_ble_eq_true rfl)
  rw [lg_entry_eq]
  generalize (lg_sl ([.ref h0, .int (nI sn)]) ++ List.replicate (5 - (lg_sl ([.ref h0, .int (nI sn)])).length) Slot.unset).toArray = ls at hl ⊢
  have hl : lv_has ls 5 [zR 0 h0, zI 1 (nI sn)] := hl
  have kf28 := hts (.fieldLink RX5 28 "PebbleInShoe" "now" "LPebbleInShoe$Court;") (by decide +kernel)
  have hiX5 := (by decide +kernel : ∀ w ∈ wsX50, w ∈ wsX5_whose)
  have kf75 := hts (.fieldLink RX5 75 "PebbleInShoe$Court" "judges" "I") (by decide +kernel)
  have hiX0 := (by decide +kernel : ∀ w ∈ wsX00, w ∈ wsX5_whose)
  refine lv_aload_n hx hb dX5_whose_0 rfl (lv_at hl 0 rfl) ?_
  refine lv_iload_n hx hb dX5_whose_1 rfl (lv_at hl 1 rfl) ?_
  have hz9 : gPD G A [zo5 h0 tt rd nw th kp sh tu him, zo0 nw tt n1 n2 n3 n4 n5 n6 n7 n8 (nI jg) (nI pb) (nI lw), zo2 sh qn qo ql, zr G qn 4 fn, zi G qo 4 fqo, zi G ql 4 (nF fql), zi G rr 40 frr] s.heap := ⟨hP.sub [0, 1, 24, 25, 26, 27, 28] rfl, hD.sub [0, 1, 24, 25, 26, 27, 28] (by decide +kernel) rfl⟩
  have hPc := hz9.1
  have hDc := hz9.2
  have hFc := gFree hPc hD hS hA [0, 1, 24, 25, 26, 27, 28] rfl
  refine va_calli (va_runV (As := [.int (nI sn)]) (rest := []) ⟨hx, hb, hml, hown, hts⟩ (c_X5_refusalOfSheet_A l G E h0 tt rd nw th kp sh tu n1 n2 n3 n4 n5 n6 n7 n8 qn qo ql rr jg pb lw him fn fql fqo frr sn s.heap.size (by first | exact hsn | assumption | omega) (by first | exact hrw | assumption | omega) (by first | exact hql | assumption | omega) (by first | exact hjg | assumption | omega) (by first | exact hpb | assumption | omega)) (cwV 1 hts gX5_whose_X5_refusalOfSheet rfl rfl rfl (by decide +kernel) ⟨Nat.le_of_ble_eq_true rfl, Nat.le_of_ble_eq_true rfl⟩) ⟨gPreE_blind, va_recv hK hPc (ci := 5) (q0 := 0) rfl rfl, fun U hU hW => gPreE_of hU hW hK hPc hDc hE hS hFc⟩ rfl rfl hl.1 rfl (lv_room (Nat.le_of_ble_eq_true rfl)) dX5_whose_2 ⟨Nat.le_of_ble_eq_true rfl, Nat.le_of_ble_eq_true rfl⟩) hS (fun q _ h => hFc q h) hFc (fun r_1 u t H locs ht hvm w_2 hB hz1 hk1 hS => ?_)
  obtain ⟨hP1, hK1, hD1⟩ := hB
  rw [ht] at hP1
  have hz9 : gPD G (va_A _ s.heap.size) [zo5 h0 tt rd nw th kp sh tu him, zo0 nw tt n1 n2 n3 n4 n5 n6 n7 n8 (nI jg) (nI pb) (nI lw), zo2 sh qn qo ql, zr G qn 4 fn, zi G qo 4 fqo, zi G ql 4 (nF fql), zi G rr 40 frr] H := ⟨hP1, hD1⟩
  have hP1 := hz9.1
  have hD1 := hz9.2
  have w_2 : r_1 = m_X5_refusalOfSheet_A pb fql fqo frr sn := w_2
  have hz9 : gPD G A [zi G n2 4 fso, zi G n3 4 fmi, zi G n4 4 fpa, zi G n5 6 fki, zi G n6 6 fmo, zi G n7 6 fsz, zi G n8 6 frd, zo0 th tt t1 t2 t3 t4 t5 t6 t7 t8 tj tb tl, zi G t1 6 unm, zi G t2 4 uso, zi G t3 4 umi, zi G t4 4 upa, zi G t5 6 uki, zi G t6 6 umo, zi G t7 6 usz, zi G t8 6 urd, zo3 tt co en sk wr (nI tx), zr G co 6 fc, zr G en 6 fe, zi G ct 160 fct, zi G et 3 (nF fet), zi G sk 32 fsk, zo5 h0 tt rd nw th kp sh tu him, zo0 nw tt n1 n2 n3 n4 n5 n6 n7 n8 (nI jg) (nI pb) (nI lw), zo2 sh qn qo ql, zr G qn 4 fn, zi G qo 4 fqo, zi G ql 4 (nF fql), zi G rr 40 frr] H := gJoin hP hD hk1 hFc hP1 hD1 [0, 1, 24, 25, 26, 27, 28] [2, 3, 4, 5, 6, 7, 8, 9, 10, 11, 12, 13, 14, 15, 16, 17, 18, 19, 20, 21, 22, 23] rfl rfl rfl (by decide +kernel) (by decide +kernel)
  have hP := hz9.1
  have hD := hz9.2
  subst w_2
  refine lv_istore_n (lv' := [zI 2 (m_X5_refusalOfSheet_A pb fql fqo frr sn), zR 0 h0, zI 1 (nI sn)]) hx hb dX5_whose_5 rfl hl (by decide +kernel) rfl (fun ls hl => ?_)
  refine lv_iload_n hx hb dX5_whose_6 rfl (lv_at hl 0 rfl) ?_
  refine lv_if_eq (tgt := 12) hx hb dX5_whose_7 (by decide +kernel) (fun c_3 => ?_) (fun c_3 => ?_)
  · skip
    have hvl := refusalOfSheet_0 (hql sn hsn) c_3
    refine lv_iconst (v := 0) hx hb dX5_whose_12 (by decide +kernel) ?_
    refine lv_istore_n (lv' := [zI 3 0, zI 2 (m_X5_refusalOfSheet_A pb fql fqo frr sn), zR 0 h0, zI 1 (nI sn)]) hx hb dX5_whose_13 rfl hl (by decide +kernel) rfl (fun ls hl => ?_)
    refine lv_iconst (v := 0) hx hb dX5_whose_14 (by decide +kernel) ?_
    refine lv_istore (lv' := [zI 4 0, zI 3 0, zI 2 (m_X5_refusalOfSheet_A pb fql fqo frr sn), zR 0 h0, zI 1 (nI sn)]) hx hb dX5_whose_15 hl (by decide +kernel) rfl (fun ls hl => ?_)
    have loop_17 : ∀ (n9 : Nat) (j17 : Nat) (bi : Int32) (x17t1 : Nat → Int32) (x17sk : Nat → Int32) (x17t2 : Nat → Int32) (x17t3 : Nat → Int32) (x17t4 : Nat → Int32) (x17t5 : Nat → Int32) (x17t6 : Nat → Int32) (x17t7 : Nat → Int32) (x17t8 : Nat → Int32) (zj9l : Int32) (zb9l : Int32) (zl9l : Int32), (j17 ≤ jg) → (p_X5_whose_A_17 fet fql fso fmi fpa fki fmo fsz frd fct frr sn (jg - j17) j17 bi = (g_X5_whose_A_17 jg fet fql fso fmi fpa fki fmo fsz frd fct frr sn)) → (jg - j17) < n9 → ∀ (H : Heap) (locs : List Loc), va_P G.1 vwCl [zi G n2 4 fso, zi G n3 4 fmi, zi G n4 4 fpa, zi G n5 6 fki, zi G n6 6 fmo, zi G n7 6 fsz, zi G n8 6 frd, zo0 th tt t1 t2 t3 t4 t5 t6 t7 t8 zj9l zb9l zl9l, zi G t1 6 x17t1, zi G t2 4 x17t2, zi G t3 4 x17t3, zi G t4 4 x17t4, zi G t5 6 x17t5, zi G t6 6 x17t6, zi G t7 6 x17t7, zi G t8 6 x17t8, zo3 tt co en sk wr (nI tx), zr G co 6 fc, zr G en 6 fe, zi G ct 160 fct, zi G et 3 (nF fet), zi G sk 32 x17sk, zo5 h0 tt rd nw th kp sh tu him, zo0 nw tt n1 n2 n3 n4 n5 n6 n7 n8 (nI jg) (nI pb) (nI lw), zo2 sh qn qo ql, zr G qn 4 fn, zi G qo 4 fqo, zi G ql 4 (nF fql), zi G rr 40 frr] H → va_D A [zi G n2 4 fso, zi G n3 4 fmi, zi G n4 4 fpa, zi G n5 6 fki, zi G n6 6 fmo, zi G n7 6 fsz, zi G n8 6 frd, zo0 th tt t1 t2 t3 t4 t5 t6 t7 t8 zj9l zb9l zl9l, zi G t1 6 x17t1, zi G t2 4 x17t2, zi G t3 4 x17t3, zi G t4 4 x17t4, zi G t5 6 x17t5, zi G t6 6 x17t6, zi G t7 6 x17t7, zi G t8 6 x17t8, zo3 tt co en sk wr (nI tx), zr G co 6 fc, zr G en 6 fe, zi G ct 160 fct, zi G et 3 (nF fet), zi G sk 32 x17sk, zo5 h0 tt rd nw th kp sh tu him, zo0 nw tt n1 n2 n3 n4 n5 n6 n7 n8 (nI jg) (nI pb) (nI lw), zo2 sh qn qo ql, zr G qn 4 fn, zi G qo 4 fqo, zi G ql 4 (nF fql), zi G rr 40 frr] → va_S A s.heap H locs → ∀ ls : Array Slot, lv_has ls 5 [zI 4 (nI j17), zI 3 bi, zI 2 (m_X5_refusalOfSheet_A pb fql fqo frr sn), zR 0 h0, zI 1 (nI sn)] → W p l e (headSpec wsX5_whose ({ frames := 6, cells := 0, slots := 0, locals := 441 })).room s m ([.ref h0, .int (nI sn)] : List Value).toArray below meth c H locs 0 0 (MQ below (q_X5_whose_A G E h0 tt rd nw th kp sh tu n1 n2 n3 n4 n5 n6 n7 n8 t1 t2 t3 t4 t5 t6 t7 t8 co en sk ct et qn qo ql rr jg pb lw tx him wr tj tb tl fc fe fn fet fql fso fmi fpa fki fmo fsz frd unm uso umi upa uki umo usz urd fct fsk fqo frr sn A) ([.ref h0, .int (nI sn)] : List Value).toArray s 0 0 A) (F0 m 17 ls []) := by
      intro n9
      induction n9 with
      | zero => intro j17 bi x17t1 x17sk x17t2 x17t3 x17t4 x17t5 x17t6 x17t7 x17t8 zj9l zb9l zl9l hj17 R17 hm9_17; exact absurd hm9_17 (Nat.not_lt_zero _)
      | succ n9 ih9_17 =>
        intro j17 bi x17t1 x17sk x17t2 x17t3 x17t4 x17t5 x17t6 x17t7 x17t8 zj9l zb9l zl9l hj17 R17 hm9_17 H locs hP hD hS ls hl
        refine lv_iload hx hb dX5_whose_17 (lv_at hl 0 rfl) ?_
        refine lv_aload_n hx hb dX5_whose_19 rfl (lv_at hl 3 rfl) ?_
        refine va_get (D := G.1) (ci := 5) (v := .ref nw) (C := RX5) (T := TX5) (N := 8) hx hb hts hiX5 hown hK hP 22 rfl rfl 2 (by decide +kernel) kf28 (fun _ h9 => h9) rfl dX5_whose_20 ?_
        refine va_get (D := G.1) (ci := 0) (v := .int (nI jg)) (C := RX0) (T := TX0) (N := 12) hx hb hts hiX0 hown hK hP 23 rfl rfl 9 (by decide +kernel) kf75 (fun _ h9 => h9) rfl dX5_whose_23 ?_
        refine lv_icmp_ge (tgt := 57) hx hb dX5_whose_26 (by decide +kernel) (fun c_4 => ?_) (fun c_4 => ?_)
        · skip
          have c_4N : jg ≤ j17 := nI_le1 (a := jg) (b := j17) (by omega) (by omega) c_4
          have hF17 : (g_X5_whose_A_17 jg fet fql fso fmi fpa fki fmo fsz frd fct frr sn) = (j17, bi) := by rw [← R17, show jg - j17 = 0 by omega]; rfl
          have hE17_0 : j17 = ((g_X5_whose_A_17 jg fet fql fso fmi fpa fki fmo fsz frd fct frr sn).1) := by rw [hF17]
          have hE17_1 : bi = ((g_X5_whose_A_17 jg fet fql fso fmi fpa fki fmo fsz frd fct frr sn).2) := by rw [hF17]
          clear hF17 R17
          subst hE17_0
          subst hE17_1
          refine lv_iload_n hx hb dX5_whose_57 rfl (lv_at hl 1 rfl) ?_
          have hpost : (fun (r : Int32) (u : Int32 × Int32 × Int32 × (Nat → Int32) × (Nat → Int32) × (Nat → Int32) × (Nat → Int32) × (Nat → Int32) × (Nat → Int32) × (Nat → Int32) × (Nat → Int32) × (Nat → Int32)) => match u with | (zj9, zb9, zl9, yt1, yt2, yt3, yt4, yt5, yt6, yt7, yt8, ysk) => r = m_X5_whose_A jg pb fet fql fso fmi fpa fki fmo fsz frd fct fqo frr sn) ((g_X5_whose_A_17 jg fet fql fso fmi fpa fki fmo fsz frd fct frr sn).2) (zj9l, zb9l, zl9l, x17t1, x17t2, x17t3, x17t4, x17t5, x17t6, x17t7, x17t8, x17sk) := (show m_X5_whose_A jg pb fet fql fso fmi fpa fki fmo fsz frd fct fqo frr sn = ((g_X5_whose_A_17 jg fet fql fso fmi fpa fki fmo fsz frd fct frr sn).2) from by unfold m_X5_whose_A; rw [if_pos c_3]).symm
          exact W.iret (v := ((g_X5_whose_A_17 jg fet fql fso fmi fpa fki fmo fsz frd fct frr sn).2)) hx hb hr (fun t ht hW => ⟨⟨((g_X5_whose_A_17 jg fet fql fso fmi fpa fki fmo fsz frd fct frr sn).2), (zj9l, zb9l, zl9l, x17t1, x17t2, x17t3, x17t4, x17t5, x17t6, x17t7, x17t8, x17sk), rfl, hpost, by rw [ht]; exact hP.sub [22, 23, 0, 1, 2, 3, 4, 5, 6, 7, 8, 9, 10, 11, 12, 13, 14, 15, 16, 17, 18, 19, 20, 21, 24, 25, 26, 27, 28] rfl, va_K.moved hW.alike hK, hD.sub [22, 23, 0, 1, 2, 3, 4, 5, 6, 7, 8, 9, 10, 11, 12, 13, 14, 15, 16, 17, 18, 19, 20, 21, 24, 25, 26, 27, 28] (by decide +kernel) rfl⟩, hS.F ht⟩) hS.2.2 dX5_whose_58
        · skip
          have c_4N : j17 < jg := nI_le0 (a := jg) (b := j17) (by omega) (by omega) c_4
          refine lv_aload_n hx hb dX5_whose_29 rfl (lv_at hl 3 rfl) ?_
          have hz9 : gPD G A [zo5 h0 tt rd nw th kp sh tu him, zo0 nw tt n1 n2 n3 n4 n5 n6 n7 n8 (nI jg) (nI pb) (nI lw), zi G n2 4 fso, zi G n3 4 fmi, zi G n4 4 fpa, zi G n5 6 fki, zi G n6 6 fmo, zi G n7 6 fsz, zi G n8 6 frd, zo0 th tt t1 t2 t3 t4 t5 t6 t7 t8 zj9l zb9l zl9l, zi G t2 4 x17t2, zi G t3 4 x17t3, zi G t4 4 x17t4, zi G t5 6 x17t5, zi G t6 6 x17t6, zi G t7 6 x17t7, zi G t8 6 x17t8] H := ⟨hP.sub [22, 23, 0, 1, 2, 3, 4, 5, 6, 7, 9, 10, 11, 12, 13, 14, 15] rfl, hD.sub [22, 23, 0, 1, 2, 3, 4, 5, 6, 7, 9, 10, 11, 12, 13, 14, 15] (by decide +kernel) rfl⟩
          have hPc := hz9.1
          have hDc := hz9.2
          have hFc := gFree hPc hD hS hA [22, 23, 0, 1, 2, 3, 4, 5, 6, 7, 9, 10, 11, 12, 13, 14, 15] rfl
          refine va_callv (va_runV (As := []) (rest := []) ⟨hx, hb, hml, hown, hts⟩ (c_X5_think l G h0 tt rd nw th kp sh tu n1 n2 n3 n4 n5 n6 n7 n8 t1 t2 t3 t4 t5 t6 t7 t8 jg pb lw him zj9l zb9l zl9l fso fmi fpa fki fmo fsz frd x17t2 x17t3 x17t4 x17t5 x17t6 x17t7 x17t8 H.size (by first | exact hjg | assumption | omega) (by first | exact hpb | assumption | omega)) (cwV 0 hts gX5_whose_X5_think rfl rfl rfl (by decide +kernel) ⟨Nat.le_of_ble_eq_true rfl, Nat.le_of_ble_eq_true rfl⟩) ⟨gPre_blind, va_recv hK hPc (ci := 5) (q0 := 0) rfl rfl, fun U hU hW => gPre_of hU hW hK hPc hDc⟩ rfl rfl hl.1 rfl (lv_room (Nat.le_of_ble_eq_true rfl)) dX5_whose_30 ⟨Nat.le_of_ble_eq_true rfl, Nat.le_of_ble_eq_true rfl⟩) hS (fun q _ h => hFc q h) hFc (fun u t H locs ht hvm w_6 hB hz1 hk1 hS => ?_)
          obtain ⟨hP1, hK1, hD1⟩ := hB
          rw [ht] at hP1
          have hz9 : gPD G (va_A _ _) [zo5 h0 tt rd nw th kp sh tu him, zo0 nw tt n1 n2 n3 n4 n5 n6 n7 n8 (nI jg) (nI pb) (nI lw), zi G n2 4 fso, zi G n3 4 fmi, zi G n4 4 fpa, zi G n5 6 fki, zi G n6 6 fmo, zi G n7 6 fsz, zi G n8 6 frd, zo0 th tt t1 t2 t3 t4 t5 t6 t7 t8 (nI jg) (nI pb) (nI lw), zi G t2 4 fso, zi G t3 4 fmi, zi G t4 4 fpa, zi G t5 6 fki, zi G t6 6 fmo, zi G t7 6 fsz, zi G t8 6 frd] H := ⟨hP1, hD1⟩
          have hP1 := hz9.1
          have hD1 := hz9.2
          have hz9 : gPD G A [zi G t1 6 x17t1, zo3 tt co en sk wr (nI tx), zr G co 6 fc, zr G en 6 fe, zi G ct 160 fct, zi G et 3 (nF fet), zi G sk 32 x17sk, zo2 sh qn qo ql, zr G qn 4 fn, zi G qo 4 fqo, zi G ql 4 (nF fql), zi G rr 40 frr, zo5 h0 tt rd nw th kp sh tu him, zo0 nw tt n1 n2 n3 n4 n5 n6 n7 n8 (nI jg) (nI pb) (nI lw), zi G n2 4 fso, zi G n3 4 fmi, zi G n4 4 fpa, zi G n5 6 fki, zi G n6 6 fmo, zi G n7 6 fsz, zi G n8 6 frd, zo0 th tt t1 t2 t3 t4 t5 t6 t7 t8 (nI jg) (nI pb) (nI lw), zi G t2 4 fso, zi G t3 4 fmi, zi G t4 4 fpa, zi G t5 6 fki, zi G t6 6 fmo, zi G t7 6 fsz, zi G t8 6 frd] H := gJoin hP hD hk1 hFc hP1 hD1 [22, 23, 0, 1, 2, 3, 4, 5, 6, 7, 9, 10, 11, 12, 13, 14, 15] [8, 16, 17, 18, 19, 20, 21, 24, 25, 26, 27, 28] rfl rfl rfl (by decide +kernel) (by decide +kernel)
          have hP := hz9.1
          have hD := hz9.2
          refine lv_aload_n hx hb dX5_whose_33 rfl (lv_at hl 3 rfl) ?_
          refine lv_iload_n hx hb dX5_whose_34 rfl (lv_at hl 4 rfl) ?_
          refine lv_iload hx hb dX5_whose_35 (lv_at hl 0 rfl) ?_
          have hz9 : gPD G A [zo5 h0 tt rd nw th kp sh tu him, zo0 th tt t1 t2 t3 t4 t5 t6 t7 t8 (nI jg) (nI pb) (nI lw), zi G t1 6 x17t1, zi G t2 4 fso, zi G t3 4 fmi, zi G t4 4 fpa, zi G t5 6 fki, zi G t6 6 fmo, zi G t7 6 fsz, zi G t8 6 frd, zo3 tt co en sk wr (nI tx), zr G co 6 fc, zr G en 6 fe, zi G ct 160 fct, zi G et 3 (nF fet), zi G sk 32 x17sk, zo2 sh qn qo ql, zr G qn 4 fn, zi G qo 4 fqo, zi G ql 4 (nF fql), zi G rr 40 frr] H := ⟨hP.sub [12, 21, 0, 22, 23, 24, 25, 26, 27, 28, 1, 2, 3, 4, 5, 6, 7, 8, 9, 10, 11] rfl, hD.sub [12, 21, 0, 22, 23, 24, 25, 26, 27, 28, 1, 2, 3, 4, 5, 6, 7, 8, 9, 10, 11] (by decide +kernel) rfl⟩
          have hPc := hz9.1
          have hDc := hz9.2
          have hFc := gFree hPc hD hS hA [12, 21, 0, 22, 23, 24, 25, 26, 27, 28, 1, 2, 3, 4, 5, 6, 7, 8, 9, 10, 11] rfl
          refine va_calli (va_runV (As := [.int (nI sn), .int (nI j17)]) (rest := []) ⟨hx, hb, hml, hown, hts⟩ (c_X5_firstOtherwise l G h0 tt rd nw th kp sh tu t1 t2 t3 t4 t5 t6 t7 t8 co en sk ct et qn qo ql rr lw tx him wr (nI jg) (nI pb) fc fe fn fet fql x17t1 fso fmi fpa fki fmo fsz frd fct x17sk fqo frr sn j17 pb H.size (by first | exact hsn | assumption | omega) (by first | exact hrw | assumption | omega) (by first | exact hql | assumption | omega) (by first | exact hj | assumption | omega) (hvl) (hpb) (by first | exact htn | assumption | omega) (by first | exact hc | assumption | omega) (by first | exact he | assumption | omega) (by first | exact hwx | assumption | omega)) (cwV 2 hts gX5_whose_X5_firstOtherwise rfl rfl rfl (by decide +kernel) ⟨Nat.le_of_ble_eq_true rfl, Nat.le_of_ble_eq_true rfl⟩) ⟨gPre_blind, va_recv hK hPc (ci := 5) (q0 := 0) rfl rfl, fun U hU hW => gPre_of hU hW hK hPc hDc⟩ rfl rfl hl.1 rfl (lv_room (Nat.le_of_ble_eq_true rfl)) dX5_whose_37 ⟨Nat.le_of_ble_eq_true rfl, Nat.le_of_ble_eq_true rfl⟩) hS (fun q _ h => hFc q h) hFc (fun r_7 u t H locs ht hvm w_8 hB hz1 hk1 hS => ?_)
          obtain ⟨yt1_9, yt2_10, yt3_11, yt4_12, yt5_13, yt6_14, yt7_15, yt8_16, ysk_17⟩ := u
          obtain ⟨hP1, hK1, hD1⟩ := hB
          rw [ht] at hP1
          have hz9 : gPD G (va_A _ _) [zo5 h0 tt rd nw th kp sh tu him, zo0 th tt t1 t2 t3 t4 t5 t6 t7 t8 (nI jg) (nI pb) (nI lw), zi G t1 6 yt1_9, zi G t2 4 yt2_10, zi G t3 4 yt3_11, zi G t4 4 yt4_12, zi G t5 6 yt5_13, zi G t6 6 yt6_14, zi G t7 6 yt7_15, zi G t8 6 yt8_16, zo3 tt co en sk wr (nI tx), zr G co 6 fc, zr G en 6 fe, zi G ct 160 fct, zi G et 3 (nF fet), zi G sk 32 ysk_17, zo2 sh qn qo ql, zr G qn 4 fn, zi G qo 4 fqo, zi G ql 4 (nF fql), zi G rr 40 frr] H := ⟨hP1, hD1⟩
          have hP1 := hz9.1
          have hD1 := hz9.2
          have w_8 : r_7 = m_X5_firstOtherwise fet fql fso fmi fpa fki fmo fsz frd fct frr sn j17 := w_8
          have hz9 : gPD G A [zo0 nw tt n1 n2 n3 n4 n5 n6 n7 n8 (nI jg) (nI pb) (nI lw), zi G n2 4 fso, zi G n3 4 fmi, zi G n4 4 fpa, zi G n5 6 fki, zi G n6 6 fmo, zi G n7 6 fsz, zi G n8 6 frd, zo5 h0 tt rd nw th kp sh tu him, zo0 th tt t1 t2 t3 t4 t5 t6 t7 t8 (nI jg) (nI pb) (nI lw), zi G t1 6 yt1_9, zi G t2 4 yt2_10, zi G t3 4 yt3_11, zi G t4 4 yt4_12, zi G t5 6 yt5_13, zi G t6 6 yt6_14, zi G t7 6 yt7_15, zi G t8 6 yt8_16, zo3 tt co en sk wr (nI tx), zr G co 6 fc, zr G en 6 fe, zi G ct 160 fct, zi G et 3 (nF fet), zi G sk 32 ysk_17, zo2 sh qn qo ql, zr G qn 4 fn, zi G qo 4 fqo, zi G ql 4 (nF fql), zi G rr 40 frr] H := gJoin hP hD hk1 hFc hP1 hD1 [12, 21, 0, 22, 23, 24, 25, 26, 27, 28, 1, 2, 3, 4, 5, 6, 7, 8, 9, 10, 11] [13, 14, 15, 16, 17, 18, 19, 20] rfl rfl rfl (by decide +kernel) (by decide +kernel)
          have hP := hz9.1
          have hD := hz9.2
          subst w_8
          refine lv_iconst (v := -1) hx hb dX5_whose_40 (by decide +kernel) ?_
          refine lv_icmp_ne (tgt := 51) hx hb dX5_whose_41 (by decide +kernel) (fun c_18 => ?_) (fun c_18 => ?_)
          · skip
            refine lv_iinc (v := nI (j17 + 1)) (lv' := [zI 4 (nI (j17 + 1)), zI 3 bi, zI 2 (m_X5_refusalOfSheet_A pb fql fqo frr sn), zR 0 h0, zI 1 (nI sn)]) hx hb dX5_whose_51 hl (k := 0) rfl (nI_add j17 1) (by decide +kernel) rfl (fun ls hl => ?_)
            refine lv_goto (tgt := 17) hx hb dX5_whose_54 (by decide +kernel) ?_
            exact ih9_17 (j17 + 1) bi yt1_9 ysk_17 yt2_10 yt3_11 yt4_12 yt5_13 yt6_14 yt7_15 yt8_16 (nI jg) (nI pb) (nI lw) (by omega) (Eq.trans (Eq.symm ((congrArg (fun z9 => p_X5_whose_A_17 fet fql fso fmi fpa fki fmo fsz frd fct frr sn (z9) j17 bi) (show jg - j17 = jg - (j17 + 1) + 1 by omega)).trans (by show p_X5_whose_A_17 fet fql fso fmi fpa fki fmo fsz frd fct frr sn (jg - (j17 + 1) + 1) j17 bi = _; rw [p_X5_whose_A_17, if_neg c_18]))) R17) (by omega) _ _ (hP.sub [1, 2, 3, 4, 5, 6, 7, 9, 10, 11, 12, 13, 14, 15, 16, 17, 18, 19, 20, 21, 22, 23, 8, 0, 24, 25, 26, 27, 28] rfl) (hD.sub [1, 2, 3, 4, 5, 6, 7, 9, 10, 11, 12, 13, 14, 15, 16, 17, 18, 19, 20, 21, 22, 23, 8, 0, 24, 25, 26, 27, 28] (by decide +kernel) rfl) hS ls (lv_sub hl [0, 1, 2, 3, 4] rfl)
          · skip
            refine lv_iload_n hx hb dX5_whose_44 rfl (lv_at hl 1 rfl) ?_
            refine lv_iconst (v := 1) hx hb dX5_whose_45 (by decide +kernel) ?_
            refine lv_iload hx hb dX5_whose_46 (lv_at hl 0 rfl) ?_
            refine lv_ishl hx hb dX5_whose_48 ?_
            refine lv_ior hx hb dX5_whose_49 ?_
            refine lv_istore_n (lv' := [zI 3 (bi ||| (1 <<< ((nI j17) &&& 31))), zI 4 (nI j17), zI 2 (m_X5_refusalOfSheet_A pb fql fqo frr sn), zR 0 h0, zI 1 (nI sn)]) hx hb dX5_whose_50 rfl hl (by decide +kernel) rfl (fun ls hl => ?_)
            refine lv_iinc (v := nI (j17 + 1)) (lv' := [zI 4 (nI (j17 + 1)), zI 3 (bi ||| (1 <<< ((nI j17) &&& 31))), zI 2 (m_X5_refusalOfSheet_A pb fql fqo frr sn), zR 0 h0, zI 1 (nI sn)]) hx hb dX5_whose_51 hl (k := 1) rfl (nI_add j17 1) (by decide +kernel) rfl (fun ls hl => ?_)
            refine lv_goto (tgt := 17) hx hb dX5_whose_54 (by decide +kernel) ?_
            exact ih9_17 (j17 + 1) (bi ||| (1 <<< ((nI j17) &&& 31))) yt1_9 ysk_17 yt2_10 yt3_11 yt4_12 yt5_13 yt6_14 yt7_15 yt8_16 (nI jg) (nI pb) (nI lw) (by omega) (Eq.trans (Eq.symm ((congrArg (fun z9 => p_X5_whose_A_17 fet fql fso fmi fpa fki fmo fsz frd fct frr sn (z9) j17 bi) (show jg - j17 = jg - (j17 + 1) + 1 by omega)).trans (by show p_X5_whose_A_17 fet fql fso fmi fpa fki fmo fsz frd fct frr sn (jg - (j17 + 1) + 1) j17 bi = _; rw [p_X5_whose_A_17, if_pos c_18]))) R17) (by omega) _ _ (hP.sub [1, 2, 3, 4, 5, 6, 7, 9, 10, 11, 12, 13, 14, 15, 16, 17, 18, 19, 20, 21, 22, 23, 8, 0, 24, 25, 26, 27, 28] rfl) (hD.sub [1, 2, 3, 4, 5, 6, 7, 9, 10, 11, 12, 13, 14, 15, 16, 17, 18, 19, 20, 21, 22, 23, 8, 0, 24, 25, 26, 27, 28] (by decide +kernel) rfl) hS ls (lv_sub hl [0, 1, 2, 3, 4] rfl)
    exact loop_17 (jg - 0 + 1) 0 0 unm fsk uso umi upa uki umo usz urd tj tb tl (by omega) (rfl) (by omega) _ _ (hP.sub [0, 1, 2, 3, 4, 5, 6, 7, 8, 9, 10, 11, 12, 13, 14, 15, 16, 17, 18, 19, 20, 21, 22, 23, 24, 25, 26, 27, 28] rfl) (hD.sub [0, 1, 2, 3, 4, 5, 6, 7, 8, 9, 10, 11, 12, 13, 14, 15, 16, 17, 18, 19, 20, 21, 22, 23, 24, 25, 26, 27, 28] (by decide +kernel) rfl) hS ls (lv_sub hl [0, 1, 2, 3, 4] rfl)
  · skip
    refine lv_iload_n hx hb dX5_whose_10 rfl (lv_at hl 0 rfl) ?_
    have hpost : (fun (r : Int32) (u : Int32 × Int32 × Int32 × (Nat → Int32) × (Nat → Int32) × (Nat → Int32) × (Nat → Int32) × (Nat → Int32) × (Nat → Int32) × (Nat → Int32) × (Nat → Int32) × (Nat → Int32)) => match u with | (zj9, zb9, zl9, yt1, yt2, yt3, yt4, yt5, yt6, yt7, yt8, ysk) => r = m_X5_whose_A jg pb fet fql fso fmi fpa fki fmo fsz frd fct fqo frr sn) (m_X5_refusalOfSheet_A pb fql fqo frr sn) (tj, tb, tl, unm, uso, umi, upa, uki, umo, usz, urd, fsk) := (show m_X5_whose_A jg pb fet fql fso fmi fpa fki fmo fsz frd fct fqo frr sn = (m_X5_refusalOfSheet_A pb fql fqo frr sn) from by unfold m_X5_whose_A; rw [if_neg c_3]).symm
    exact W.iret (v := (m_X5_refusalOfSheet_A pb fql fqo frr sn)) hx hb hr (fun t ht hW => ⟨⟨(m_X5_refusalOfSheet_A pb fql fqo frr sn), (tj, tb, tl, unm, uso, umi, upa, uki, umo, usz, urd, fsk), rfl, hpost, by rw [ht]; exact hP.sub [22, 23, 0, 1, 2, 3, 4, 5, 6, 7, 8, 9, 10, 11, 12, 13, 14, 15, 16, 17, 18, 19, 20, 21, 24, 25, 26, 27, 28] rfl, va_K.moved hW.alike hK, hD.sub [22, 23, 0, 1, 2, 3, 4, 5, 6, 7, 8, 9, 10, 11, 12, 13, 14, 15, 16, 17, 18, 19, 20, 21, 24, 25, 26, 27, 28] (by decide +kernel) rfl⟩, hS.F ht⟩) hS.2.2 dX5_whose_11
abbrev q_X5_whose_B (G : gG) (E : gS) (h0 tt rd nw th kp sh tu qn qo ql : Nat) (him : Int32) (v0 : Int32) (A : Nat → Prop) : Array Value → State → Outcome → State → Prop := va_Qi (fun (r : Int32) (u : Unit) => match u with | _ => r = -2) (fun (u : Unit) t => match u with | _ => va_P G.1 vwCl [zo5 h0 tt rd nw th kp sh tu him, zo2 sh qn qo ql] t.heap ∧ gK G t ∧ va_D A [zo5 h0 tt rd nw th kp sh tu him, zo2 sh qn qo ql]) A
set_option maxHeartbeats 4000000 in
set_option maxRecDepth 100000 in
theorem c_X5_whose_B (l : Launch) (G : gG) (E : gS) (h0 tt rd nw th kp sh tu qn qo ql : Nat) (him : Int32) (v0 : Int32) (sz : Nat) (hno : ¬ (0 ≤ v0 ∧ v0 ≤ 3)) : Met l yX5_whose wsX5_whose ({ frames := 3, cells := 0, slots := 0, locals := 66 }) (gPreE G E [.ref h0, .int v0] [zo5 h0 tt rd nw th kp sh tu him, zo2 sh qn qo ql] sz) (q_X5_whose_B G E h0 tt rd nw th kp sh tu qn qo ql him v0 (va_A [zo5 h0 tt rd nw th kp sh tu him, zo2 sh qn qo ql] sz)) 0 0 (va_A [zo5 h0 tt rd nw th kp sh tu him, zo2 sh qn qo ql] sz) := by
  refine Met.ofW (cc := cX5_whose) (maxL := 5) (ret := (some .int)) (by decide +kernel) rfl ?_
  intro p e s m args below meth c s₁ B hml hv
  obtain ⟨rfl, hsz, hP, hK, hD0, hE⟩ := hv
  have hx := B.exec
  have hb := B.bytes
  have hr := B.returns
  have hts := atoms_spec (ws := wsX5_whose) B.pre
  have hown : s.vm.findClass RX5 = some m.cls := findClass_of_methodNamed B.named
  have hlocks := B.notSynchronized
  subst hsz
  have hD := hD0.self (sz := s.heap.size)
  generalize hAe : va_A [zo5 h0 tt rd nw th kp sh tu him, zo2 sh qn qo ql] s.heap.size = A at hD hE ⊢
  have hA : ∀ q : Nat, s.heap.size ≤ q → A q := fun q h => by rw [← hAe]; exact Or.inr h
  have hS : va_S A s.heap s.heap [] := va_S.rf
  have hz9 : gPD G A [zo5 h0 tt rd nw th kp sh tu him, zo2 sh qn qo ql] s.heap := ⟨hP, hD⟩
  have hP := hz9.1
  have hD := hz9.2
  have hl := lv_entry ([.ref h0, .int v0]) (n := 5) (Nat.le_of_ble_eq_true rfl)
  rw [lg_entry_eq]
  generalize (lg_sl ([.ref h0, .int v0]) ++ List.replicate (5 - (lg_sl ([.ref h0, .int v0])).length) Slot.unset).toArray = ls at hl ⊢
  have hl : lv_has ls 5 [zR 0 h0, zI 1 v0] := hl
  refine lv_aload_n hx hb dX5_whose_0 rfl (lv_at hl 0 rfl) ?_
  refine lv_iload_n hx hb dX5_whose_1 rfl (lv_at hl 1 rfl) ?_
  have hz9 : gPD G A [zo5 h0 tt rd nw th kp sh tu him, zo2 sh qn qo ql] s.heap := ⟨hP.sub [0, 1] rfl, hD.sub [0, 1] (by decide +kernel) rfl⟩
  have hPc := hz9.1
  have hDc := hz9.2
  have hFc := gFree hPc hD hS hA [0, 1] rfl
  refine va_calli (va_runV (As := [.int v0]) (rest := []) ⟨hx, hb, hml, hown, hts⟩ (c_X5_refusalOfSheet_B l G E h0 tt rd nw th kp sh tu qn qo ql him v0 s.heap.size (by first | exact hno | assumption | omega)) (cwV 1 hts gX5_whose_X5_refusalOfSheet rfl rfl rfl (by decide +kernel) ⟨Nat.le_of_ble_eq_true rfl, Nat.le_of_ble_eq_true rfl⟩) ⟨gPreE_blind, va_recv hK hPc (ci := 5) (q0 := 0) rfl rfl, fun U hU hW => gPreE_of hU hW hK hPc hDc hE hS hFc⟩ rfl rfl hl.1 rfl (lv_room (Nat.le_of_ble_eq_true rfl)) dX5_whose_2 ⟨Nat.le_of_ble_eq_true rfl, Nat.le_of_ble_eq_true rfl⟩) hS (fun q _ h => hFc q h) hFc (fun r_1 u t H locs ht hvm w_2 hB hz1 hk1 hS => ?_)
  obtain ⟨hP1, hK1, hD1⟩ := hB
  rw [ht] at hP1
  have hz9 : gPD G (va_A _ s.heap.size) [zo5 h0 tt rd nw th kp sh tu him, zo2 sh qn qo ql] H := ⟨hP1, hD1⟩
  have hP1 := hz9.1
  have hD1 := hz9.2
  have w_2 : r_1 = -2 := w_2
  have hz9 : gPD G A [zo5 h0 tt rd nw th kp sh tu him, zo2 sh qn qo ql] H := gJoin hP hD hk1 hFc hP1 hD1 [0, 1] [] rfl rfl rfl (by decide +kernel) (by decide +kernel)
  have hP := hz9.1
  have hD := hz9.2
  subst w_2
  refine lv_istore_n (lv' := [zI 2 (-2), zR 0 h0, zI 1 v0]) hx hb dX5_whose_5 rfl hl (by decide +kernel) rfl (fun ls hl => ?_)
  refine lv_iload_n hx hb dX5_whose_6 rfl (lv_at hl 0 rfl) ?_
  refine lv_if_eq (tgt := 12) hx hb dX5_whose_7 (by decide +kernel) (fun c_3 => ?_) (fun c_3 => ?_)
  · exact absurd c_3 (by decide +kernel)
  refine lv_iload_n hx hb dX5_whose_10 rfl (lv_at hl 0 rfl) ?_
  have hP9 := hP.sub (ws' := [zo5 h0 tt rd nw th kp sh tu him, zo2 sh qn qo ql]) [0, 1] rfl
  have hD9 := hD.sub (ws' := [zo5 h0 tt rd nw th kp sh tu him, zo2 sh qn qo ql]) [0, 1] (by decide +kernel) rfl
  have hpost : (fun (r : Int32) (u : Unit) => match u with | _ => r = -2) (-2) () := rfl
  exact W.iret (v := (-2)) hx hb hr (fun t ht hW => ⟨⟨(-2), (), rfl, hpost, by rw [ht]; exact hP9, va_K.moved hW.alike hK, hD9⟩, hS.F ht⟩) hS.2.2 dX5_whose_11
