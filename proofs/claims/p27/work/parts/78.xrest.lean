noncomputable def p_X5_film_A_68 (fet : Nat → Nat) (fki : Nat → Int32) (fmo : Nat → Int32) (frd : Nat → Int32) (fct : Nat → Int32) (fqo : Nat → Int32) (sn : Nat) (v1 : Int32) (v2 : Int32) : Nat → Nat → Int32 → (Nat → Int32) → (Nat → Int32) → (Nat → Int32) → (Nat → Int32) → (Nat → Int32) → Nat × Int32 × (Nat → Int32) × (Nat → Int32) × (Nat → Int32) × (Nat → Int32) × (Nat → Int32)
  | 0, p68, fo9, y68rr, y68t2, y68t3, y68t4, y68t7 => (p68, fo9, y68rr, y68t2, y68t3, y68t4, y68t7)
  | q9 + 1, p68, fo9, y68rr, y68t2, y68t3, y68t4, y68t7 => p_X5_film_A_68 fet fki fmo frd fct fqo sn v1 v2 q9 (p68 + 1) (fo9 + (m_X0_verdict (nC v1) p68 (m_X0_go_n2 (nC v1) p68 (nC v2) y68t2 y68t3 y68t4 fki fmo y68t7 frd fct fet) (m_X0_go_n3 (nC v1) p68 (nC v2) y68t2 y68t3 y68t4 fki fmo y68t7 frd fct fet) fmo (m_X0_go_n7 (nC v1) p68 (nC v2) y68t2 y68t3 y68t4 fki fmo y68t7 frd fct fet) frd fct fet (m_X0_go (nC v1) p68 (nC v2) y68t2 y68t3 y68t4 fki fmo y68t7 frd fct fet))) (m_X2_store_rr (upd fqo sn 0) (m_X2_store_rr (upd fqo sn 0) (m_X2_store_rr (upd fqo sn 0) y68rr sn (3 * p68) (nI p68)) sn ((3 * p68) + 1) (nI (nC v2))) sn ((3 * p68) + 2) (m_X0_verdict (nC v1) p68 (m_X0_go_n2 (nC v1) p68 (nC v2) y68t2 y68t3 y68t4 fki fmo y68t7 frd fct fet) (m_X0_go_n3 (nC v1) p68 (nC v2) y68t2 y68t3 y68t4 fki fmo y68t7 frd fct fet) fmo (m_X0_go_n7 (nC v1) p68 (nC v2) y68t2 y68t3 y68t4 fki fmo y68t7 frd fct fet) frd fct fet (m_X0_go (nC v1) p68 (nC v2) y68t2 y68t3 y68t4 fki fmo y68t7 frd fct fet))) (m_X0_go_n2 (nC v1) p68 (nC v2) y68t2 y68t3 y68t4 fki fmo y68t7 frd fct fet) (m_X0_go_n3 (nC v1) p68 (nC v2) y68t2 y68t3 y68t4 fki fmo y68t7 frd fct fet) (m_X0_go_n4 (nC v1) p68 (nC v2) y68t2 y68t3 y68t4 fki fmo y68t7 frd fct fet) (m_X0_go_n7 (nC v1) p68 (nC v2) y68t2 y68t3 y68t4 fki fmo y68t7 frd fct fet)
noncomputable def g_X5_film_A_68 (pb : Nat) (fet : Nat → Nat) (fso : Nat → Int32) (fmi : Nat → Int32) (fpa : Nat → Int32) (fki : Nat → Int32) (fmo : Nat → Int32) (fsz : Nat → Int32) (frd : Nat → Int32) (fct : Nat → Int32) (fqo : Nat → Int32) (sn : Nat) (v1 : Int32) (v2 : Int32) : Nat × Int32 × (Nat → Int32) × (Nat → Int32) × (Nat → Int32) × (Nat → Int32) × (Nat → Int32) := p_X5_film_A_68 fet fki fmo frd fct fqo sn v1 v2 (pb - 0) 0 0 (fun _ => 0) fso fmi fpa fsz
noncomputable def m_X5_film_A (jg : Nat) (pb : Nat) (fet : Nat → Nat) (fso : Nat → Int32) (fmi : Nat → Int32) (fpa : Nat → Int32) (fki : Nat → Int32) (fmo : Nat → Int32) (fsz : Nat → Int32) (frd : Nat → Int32) (fct : Nat → Int32) (fqo : Nat → Int32) (sn : Nat) (v1 : Int32) (v2 : Int32) : Int32 := if (mHas jg v1) = true then (if 0 ≤ v2 ∧ v2 ≤ 60 then ((g_X5_film_A_68 pb fet fso fmi fpa fki fmo fsz frd fct fqo sn v1 v2).2.1) else -7) else -5
noncomputable def m_X5_film_A_qo (jg : Nat) (fqo : Nat → Int32) (sn : Nat) (v1 : Int32) (v2 : Int32) : Nat → Int32 := if (mHas jg v1) = true then (if 0 ≤ v2 ∧ v2 ≤ 60 then (upd fqo sn 0) else fqo) else fqo
noncomputable def m_X5_film_A_ql (jg : Nat) (pb : Nat) (fql : Nat → Nat) (sn : Nat) (v1 : Int32) (v2 : Int32) : Nat → Nat := if (mHas jg v1) = true then (if 0 ≤ v2 ∧ v2 ≤ 60 then updN fql sn (3 * pb) else fql) else fql
noncomputable def m_X5_film_A_rr (jg : Nat) (pb : Nat) (fet : Nat → Nat) (fso : Nat → Int32) (fmi : Nat → Int32) (fpa : Nat → Int32) (fki : Nat → Int32) (fmo : Nat → Int32) (fsz : Nat → Int32) (frd : Nat → Int32) (fct : Nat → Int32) (fqo : Nat → Int32) (frr : Nat → Int32) (sn : Nat) (v1 : Int32) (v2 : Int32) : Nat → Int32 := if (mHas jg v1) = true then (if 0 ≤ v2 ∧ v2 ≤ 60 then ((g_X5_film_A_68 pb fet fso fmi fpa fki fmo fsz frd fct fqo sn v1 v2).2.2.1) else frr) else frr
abbrev q_X5_film_A (G : gG) (E : gS) (h0 tt rd nw th kp sh tu n1 n2 n3 n4 n5 n6 n7 n8 t1 t2 t3 t4 t5 t6 t7 t8 co en sk ct et qn qo ql rr : Nat) (jg : Nat) (pb : Nat) (lw : Nat) (tx : Nat) (him : Int32) (wr : Int32) (tj : Int32) (tb : Int32) (tl : Int32) (fc : Nat → Option Nat) (fe : Nat → Option Nat) (fn : Nat → Option Nat) (fet : Nat → Nat) (fql : Nat → Nat) (fso : Nat → Int32) (fmi : Nat → Int32) (fpa : Nat → Int32) (fki : Nat → Int32) (fmo : Nat → Int32) (fsz : Nat → Int32) (frd : Nat → Int32) (unm : Nat → Int32) (uso : Nat → Int32) (umi : Nat → Int32) (upa : Nat → Int32) (uki : Nat → Int32) (umo : Nat → Int32) (usz : Nat → Int32) (urd : Nat → Int32) (fct : Nat → Int32) (fsk : Nat → Int32) (fqo : Nat → Int32) (frr : Nat → Int32) (sn : Nat) (v1 : Int32) (v2 : Int32) (A : Nat → Prop) : Array Value → State → Outcome → State → Prop := va_Qi (fun (r : Int32) (u : Int32 × Int32 × Int32 × (Nat → Int32) × (Nat → Int32) × (Nat → Int32) × (Nat → Int32) × (Nat → Int32) × (Nat → Int32) × (Nat → Int32) × (Nat → Int32) × (Nat → Int32)) => match u with | (zj9, zb9, zl9, yt1, yt2, yt3, yt4, yt5, yt6, yt7, yt8, ysk) => r = m_X5_film_A jg pb fet fso fmi fpa fki fmo fsz frd fct fqo sn v1 v2) (fun (u : Int32 × Int32 × Int32 × (Nat → Int32) × (Nat → Int32) × (Nat → Int32) × (Nat → Int32) × (Nat → Int32) × (Nat → Int32) × (Nat → Int32) × (Nat → Int32) × (Nat → Int32)) t => match u with | (zj9, zb9, zl9, yt1, yt2, yt3, yt4, yt5, yt6, yt7, yt8, ysk) => va_P G.1 vwCl [zo5 h0 tt rd nw th kp sh tu him, zo0 nw tt n1 n2 n3 n4 n5 n6 n7 n8 (nI jg) (nI pb) (nI lw), zi G n2 4 fso, zi G n3 4 fmi, zi G n4 4 fpa, zi G n5 6 fki, zi G n6 6 fmo, zi G n7 6 fsz, zi G n8 6 frd, zo0 th tt t1 t2 t3 t4 t5 t6 t7 t8 zj9 zb9 zl9, zi G t1 6 yt1, zi G t2 4 yt2, zi G t3 4 yt3, zi G t4 4 yt4, zi G t5 6 yt5, zi G t6 6 yt6, zi G t7 6 yt7, zi G t8 6 yt8, zo3 tt co en sk wr (nI tx), zr G co 6 fc, zr G en 6 fe, zi G ct 160 fct, zi G et 3 (nF fet), zi G sk 32 ysk, zo2 sh qn qo ql, zr G qn 4 fn, zi G qo 4 (m_X5_film_A_qo jg fqo sn v1 v2), zi G ql 4 (nF (m_X5_film_A_ql jg pb fql sn v1 v2)), zi G rr 40 (m_X5_film_A_rr jg pb fet fso fmi fpa fki fmo fsz frd fct fqo frr sn v1 v2)] t.heap ∧ gK G t ∧ va_D A [zo5 h0 tt rd nw th kp sh tu him, zo0 nw tt n1 n2 n3 n4 n5 n6 n7 n8 (nI jg) (nI pb) (nI lw), zi G n2 4 fso, zi G n3 4 fmi, zi G n4 4 fpa, zi G n5 6 fki, zi G n6 6 fmo, zi G n7 6 fsz, zi G n8 6 frd, zo0 th tt t1 t2 t3 t4 t5 t6 t7 t8 zj9 zb9 zl9, zi G t1 6 yt1, zi G t2 4 yt2, zi G t3 4 yt3, zi G t4 4 yt4, zi G t5 6 yt5, zi G t6 6 yt6, zi G t7 6 yt7, zi G t8 6 yt8, zo3 tt co en sk wr (nI tx), zr G co 6 fc, zr G en 6 fe, zi G ct 160 fct, zi G et 3 (nF fet), zi G sk 32 ysk, zo2 sh qn qo ql, zr G qn 4 fn, zi G qo 4 (m_X5_film_A_qo jg fqo sn v1 v2), zi G ql 4 (nF (m_X5_film_A_ql jg pb fql sn v1 v2)), zi G rr 40 (m_X5_film_A_rr jg pb fet fso fmi fpa fki fmo fsz frd fct fqo frr sn v1 v2)]) A
set_option maxHeartbeats 4000000 in
set_option maxRecDepth 100000 in
theorem c_X5_film_A (l : Launch) (G : gG) (E : gS) (h0 tt rd nw th kp sh tu n1 n2 n3 n4 n5 n6 n7 n8 t1 t2 t3 t4 t5 t6 t7 t8 co en sk ct et qn qo ql rr : Nat) (jg : Nat) (pb : Nat) (lw : Nat) (tx : Nat) (him : Int32) (wr : Int32) (tj : Int32) (tb : Int32) (tl : Int32) (fc : Nat → Option Nat) (fe : Nat → Option Nat) (fn : Nat → Option Nat) (fet : Nat → Nat) (fql : Nat → Nat) (fso : Nat → Int32) (fmi : Nat → Int32) (fpa : Nat → Int32) (fki : Nat → Int32) (fmo : Nat → Int32) (fsz : Nat → Int32) (frd : Nat → Int32) (unm : Nat → Int32) (uso : Nat → Int32) (umi : Nat → Int32) (upa : Nat → Int32) (uki : Nat → Int32) (umo : Nat → Int32) (usz : Nat → Int32) (urd : Nat → Int32) (fct : Nat → Int32) (fsk : Nat → Int32) (fqo : Nat → Int32) (frr : Nat → Int32) (sn : Nat) (v1 : Int32) (v2 : Int32) (sz : Nat) (hsn : sn < 4) (hrw : fn sn = some rr) (hql : ∀ q9, q9 < 4 → fql q9 ≤ 40) (htn : lw < tx ∧ tx ≤ 6) (hc : fc lw = some ct) (he : fe lw = some et) (hwx : mWx fct fet) (hjg : jg ≤ 4) (hpb : pb ≤ 6) : Met l yX5_film wsX5_film ({ frames := 5, cells := 0, slots := 0, locals := 441 }) (gPreE G E [.ref h0, .int (nI sn), .int v1, .int v2] [zo5 h0 tt rd nw th kp sh tu him, zo0 nw tt n1 n2 n3 n4 n5 n6 n7 n8 (nI jg) (nI pb) (nI lw), zi G n2 4 fso, zi G n3 4 fmi, zi G n4 4 fpa, zi G n5 6 fki, zi G n6 6 fmo, zi G n7 6 fsz, zi G n8 6 frd, zo0 th tt t1 t2 t3 t4 t5 t6 t7 t8 tj tb tl, zi G t1 6 unm, zi G t2 4 uso, zi G t3 4 umi, zi G t4 4 upa, zi G t5 6 uki, zi G t6 6 umo, zi G t7 6 usz, zi G t8 6 urd, zo3 tt co en sk wr (nI tx), zr G co 6 fc, zr G en 6 fe, zi G ct 160 fct, zi G et 3 (nF fet), zi G sk 32 fsk, zo2 sh qn qo ql, zr G qn 4 fn, zi G qo 4 fqo, zi G ql 4 (nF fql), zi G rr 40 frr] sz) (q_X5_film_A G E h0 tt rd nw th kp sh tu n1 n2 n3 n4 n5 n6 n7 n8 t1 t2 t3 t4 t5 t6 t7 t8 co en sk ct et qn qo ql rr jg pb lw tx him wr tj tb tl fc fe fn fet fql fso fmi fpa fki fmo fsz frd unm uso umi upa uki umo usz urd fct fsk fqo frr sn v1 v2 (va_A [zo5 h0 tt rd nw th kp sh tu him, zo0 nw tt n1 n2 n3 n4 n5 n6 n7 n8 (nI jg) (nI pb) (nI lw), zi G n2 4 fso, zi G n3 4 fmi, zi G n4 4 fpa, zi G n5 6 fki, zi G n6 6 fmo, zi G n7 6 fsz, zi G n8 6 frd, zo0 th tt t1 t2 t3 t4 t5 t6 t7 t8 tj tb tl, zi G t1 6 unm, zi G t2 4 uso, zi G t3 4 umi, zi G t4 4 upa, zi G t5 6 uki, zi G t6 6 umo, zi G t7 6 usz, zi G t8 6 urd, zo3 tt co en sk wr (nI tx), zr G co 6 fc, zr G en 6 fe, zi G ct 160 fct, zi G et 3 (nF fet), zi G sk 32 fsk, zo2 sh qn qo ql, zr G qn 4 fn, zi G qo 4 fqo, zi G ql 4 (nF fql), zi G rr 40 frr] sz)) 0 0 (va_A [zo5 h0 tt rd nw th kp sh tu him, zo0 nw tt n1 n2 n3 n4 n5 n6 n7 n8 (nI jg) (nI pb) (nI lw), zi G n2 4 fso, zi G n3 4 fmi, zi G n4 4 fpa, zi G n5 6 fki, zi G n6 6 fmo, zi G n7 6 fsz, zi G n8 6 frd, zo0 th tt t1 t2 t3 t4 t5 t6 t7 t8 tj tb tl, zi G t1 6 unm, zi G t2 4 uso, zi G t3 4 umi, zi G t4 4 upa, zi G t5 6 uki, zi G t6 6 umo, zi G t7 6 usz, zi G t8 6 urd, zo3 tt co en sk wr (nI tx), zr G co 6 fc, zr G en 6 fe, zi G ct 160 fct, zi G et 3 (nF fet), zi G sk 32 fsk, zo2 sh qn qo ql, zr G qn 4 fn, zi G qo 4 fqo, zi G ql 4 (nF fql), zi G rr 40 frr] sz) := by
  refine Met.ofW (cc := cX5_film) (maxL := 7) (ret := (some .int)) (by decide +kernel) rfl ?_
  intro p e s m args below meth c s₁ B hml hv
  obtain ⟨rfl, hsz, hP, hK, hD0, hE⟩ := hv
  have hx := B.exec
  have hb := B.bytes
  have hr := B.returns
  have hts := atoms_spec (ws := wsX5_film) B.pre
  have hown : s.vm.findClass RX5 = some m.cls := findClass_of_methodNamed B.named
  have hlocks := B.notSynchronized
  subst hsz
  have hD := hD0.self (sz := s.heap.size)
  generalize hAe : va_A [zo5 h0 tt rd nw th kp sh tu him, zo0 nw tt n1 n2 n3 n4 n5 n6 n7 n8 (nI jg) (nI pb) (nI lw), zi G n2 4 fso, zi G n3 4 fmi, zi G n4 4 fpa, zi G n5 6 fki, zi G n6 6 fmo, zi G n7 6 fsz, zi G n8 6 frd, zo0 th tt t1 t2 t3 t4 t5 t6 t7 t8 tj tb tl, zi G t1 6 unm, zi G t2 4 uso, zi G t3 4 umi, zi G t4 4 upa, zi G t5 6 uki, zi G t6 6 umo, zi G t7 6 usz, zi G t8 6 urd, zo3 tt co en sk wr (nI tx), zr G co 6 fc, zr G en 6 fe, zi G ct 160 fct, zi G et 3 (nF fet), zi G sk 32 fsk, zo2 sh qn qo ql, zr G qn 4 fn, zi G qo 4 fqo, zi G ql 4 (nF fql), zi G rr 40 frr] s.heap.size = A at hD hE ⊢
  have hA : ∀ q : Nat, s.heap.size ≤ q → A q := fun q h => by rw [← hAe]; exact Or.inr h
  have hS : va_S A s.heap s.heap [] := va_S.rf
  have hz9 : gPD G A [zo5 h0 tt rd nw th kp sh tu him, zo0 nw tt n1 n2 n3 n4 n5 n6 n7 n8 (nI jg) (nI pb) (nI lw), zi G n2 4 fso, zi G n3 4 fmi, zi G n4 4 fpa, zi G n5 6 fki, zi G n6 6 fmo, zi G n7 6 fsz, zi G n8 6 frd, zo0 th tt t1 t2 t3 t4 t5 t6 t7 t8 tj tb tl, zi G t1 6 unm, zi G t2 4 uso, zi G t3 4 umi, zi G t4 4 upa, zi G t5 6 uki, zi G t6 6 umo, zi G t7 6 usz, zi G t8 6 urd, zo3 tt co en sk wr (nI tx), zr G co 6 fc, zr G en 6 fe, zi G ct 160 fct, zi G et 3 (nF fet), zi G sk 32 fsk, zo2 sh qn qo ql, zr G qn 4 fn, zi G qo 4 fqo, zi G ql 4 (nF fql), zi G rr 40 frr] s.heap := ⟨hP, hD⟩
  have hP := hz9.1
  have hD := hz9.2
  have hl := lv_entry ([.ref h0, .int (nI sn), .int v1, .int v2]) (n := 7) (Nat.le_of_ble_eq_true rfl)
  rw [lg_entry_eq]
  generalize (lg_sl ([.ref h0, .int (nI sn), .int v1, .int v2]) ++ List.replicate (7 - (lg_sl ([.ref h0, .int (nI sn), .int v1, .int v2])).length) Slot.unset).toArray = ls at hl ⊢
  have hl : lv_has ls 7 [zR 0 h0, zI 1 (nI sn), zI 2 v1, zI 3 v2] := hl
  have kf41 := hts (.fieldLink RX5 41 "PebbleInShoe" "rows" "LPebbleInShoe$Sheets;") (by decide +kernel)
  have hiX5 := (by decide +kernel : ∀ w ∈ wsX50, w ∈ wsX5_film)
  have kf28 := hts (.fieldLink RX5 28 "PebbleInShoe" "now" "LPebbleInShoe$Court;") (by decide +kernel)
  have kf71 := hts (.fieldLink RX5 71 "PebbleInShoe$Court" "pebbles" "I") (by decide +kernel)
  have hiX0 := (by decide +kernel : ∀ w ∈ wsX00, w ∈ wsX5_film)
  have kf32 := hts (.fieldLink RX5 32 "PebbleInShoe" "thought" "LPebbleInShoe$Court;") (by decide +kernel)
  refine g_aget (D := G.1) (ci := 5) (v := .ref sh) (C := RX5) (T := TX5) (N := 8) hx hb dX5_film_0 rfl (lv_at hl 0 rfl) hts hiX5 hown hK hP 0 rfl rfl 5 (by decide +kernel) kf41 (fun _ h9 => h9) rfl dX5_film_1 ?_
  refine lv_iload_n hx hb dX5_film_4 rfl (lv_at hl 1 rfl) ?_
  refine z_callp [24] (va_runV (As := [.int (nI sn)]) (rest := []) ⟨hx, hb, hml, hown, hts⟩ (c_X2_isSheet_g l G E sh qn qo ql (nI sn) s.heap.size) (cwV 1 hts gX5_film_X2_isSheet rfl rfl rfl (by decide +kernel) ⟨Nat.le_of_ble_eq_true rfl, Nat.le_of_ble_eq_true rfl⟩) ⟨gPreE_blind, va_recv (q := (RX2, TX2, 3)) hK hP (ci := 2) (q0 := 24) rfl rfl, fun U hU hW => gPreE_ofF [24] hU hW hK hP hD (by decide +kernel) rfl hE hS hA⟩ rfl rfl hl.1 rfl (lv_room (Nat.le_of_ble_eq_true rfl)) dX5_film_5 ⟨Nat.le_of_ble_eq_true rfl, Nat.le_of_ble_eq_true rfl⟩) hS hD hA rfl (fun r_1 u t H locs ht hvm w_2 hB hz1 hk1 hFq hAq hS => ?_)
  obtain ⟨hP1, hK1, hD1⟩ := hB
  have w_2 : r_1 = bz (decide (0 ≤ (nI sn) ∧ (nI sn) ≤ 3)) := w_2
  have hP := zKeep hP hD [24] hAq hk1 ht hP1 rfl
  have w_2 : r_1 = 1 := w_2.trans (bz3_t (by assumption))
  subst w_2
  refine lv_if_ne (tgt := 14) hx hb dX5_film_8 (by decide +kernel) (fun c_3 => ?_) (fun c_3 => ?_)
  rotate_left
  · exact absurd c_3 (by decide +kernel)
  refine g_aget (D := G.1) (ci := 5) (v := .ref nw) (C := RX5) (T := TX5) (N := 8) hx hb dX5_film_14 rfl (lv_at hl 0 rfl) hts hiX5 hown hK hP 0 rfl rfl 2 (by decide +kernel) kf28 (fun _ h9 => h9) rfl dX5_film_15 ?_
  refine lv_iload_n hx hb dX5_film_18 rfl (lv_at hl 2 rfl) ?_
  refine z_calli [1] (v := bz (mHas jg v1)) (fun _ _ h => h) (va_runV (As := [.int v1]) (rest := []) ⟨hx, hb, hml, hown, hts⟩ (c_X0_hasJudge_g l G nw tt n1 n2 n3 n4 n5 n6 n7 n8 jg pb lw v1 H.size (by first | exact hjg | assumption | omega) (by first | exact hpb | assumption | omega)) (cwV 1 hts gX5_film_X0_hasJudge rfl rfl rfl (by decide +kernel) ⟨Nat.le_of_ble_eq_true rfl, Nat.le_of_ble_eq_true rfl⟩) ⟨gPre_blind, va_recv (q := (RX0, TX0, 12)) hK hP (ci := 0) (q0 := 1) rfl rfl, fun U hU hW => gPre_ofF [1] hU hW hK hP hD (by decide +kernel) rfl⟩ rfl rfl hl.1 rfl (lv_room (Nat.le_of_ble_eq_true rfl)) dX5_film_19 ⟨Nat.le_of_ble_eq_true rfl, Nat.le_of_ble_eq_true rfl⟩) hS hD hA rfl (fun u t H locs ht hvm hB hz1 hk1 hFq hAq hS => ?_)
  obtain ⟨hP1, hK1, hD1⟩ := hB
  have hP := zKeep hP hD [1] hAq hk1 ht hP1 rfl
  refine lv_if_ne (tgt := 28) hx hb dX5_film_22 (by decide +kernel) (fun c_6 => ?_) (fun c_6 => ?_)
  · skip
    have p_7 : (mHas jg v1) = true := bz_ne rfl c_6
    have hv_9 : v1 = nI (nC v1) := mHas_eq p_7
    have hk_10 : nC v1 < jg := mHas_lt (by omega) p_7
    refine lv_iload_n hx hb dX5_film_28 rfl (lv_at hl 3 rfl) ?_
    refine lv_bipush (v := 60) hx hb dX5_film_29 (by decide +kernel) ?_
    refine z_calli [] (v := bz (decide (0 ≤ v2 ∧ v2 ≤ 60))) (fun _ _ h => h) (va_runS (As := [.int v2, .int 60]) (rest := []) ⟨hx, hb, hml, hown, hts⟩ (c_X5_within_g l G v2 60 H.size) (va_cwS 2 hts gX5_film_X5_within rfl rfl rfl (by decide +kernel) ⟨Nat.le_of_ble_eq_true rfl, Nat.le_of_ble_eq_true rfl⟩) ⟨gPre_blind, fun U hU hW => gPre_ofF [] hU hW hK hP hD (by decide +kernel) rfl⟩ rfl rfl hl.1 rfl (lv_room (Nat.le_of_ble_eq_true rfl)) dX5_film_31 ⟨Nat.le_of_ble_eq_true rfl, Nat.le_of_ble_eq_true rfl⟩) hS hD hA rfl (fun u t H locs ht hvm hB hz1 hk1 hFq hAq hS => ?_)
    obtain ⟨hP1, hK1, hD1⟩ := hB
    have hP := zKeep hP hD [] hAq hk1 ht hP1 rfl
    refine lv_if_ne (tgt := 40) hx hb dX5_film_34 (by decide +kernel) (fun c_13 => ?_) (fun c_13 => ?_)
    · skip
      have p_14 : 0 ≤ v2 ∧ v2 ≤ 60 := of_decide_eq_true (bz_ne rfl c_13)
      have hv_16 : v2 = nI (nC v2) := nC_eq p_14.1
      have hk_17 : nC v2 ≤ 60 := nC_le (n := 60) (by omega) p_14
      refine lv_aload_n hx hb dX5_film_40 rfl (lv_at hl 0 rfl) ?_
      refine z_callv [0, 1, 2, 3, 4, 5, 6, 7, 8, 9, 11, 12, 13, 14, 15, 16, 17] (va_runV (As := []) (rest := []) ⟨hx, hb, hml, hown, hts⟩ (c_X5_think l G h0 tt rd nw th kp sh tu n1 n2 n3 n4 n5 n6 n7 n8 t1 t2 t3 t4 t5 t6 t7 t8 jg pb lw him tj tb tl fso fmi fpa fki fmo fsz frd uso umi upa uki umo usz urd H.size (by first | exact hjg | assumption | omega) (by first | exact hpb | assumption | omega)) (cwV 0 hts gX5_film_X5_think rfl rfl rfl (by decide +kernel) ⟨Nat.le_of_ble_eq_true rfl, Nat.le_of_ble_eq_true rfl⟩) ⟨gPre_blind, va_recv (q := (RX5, TX5, 8)) hK hP (ci := 5) (q0 := 0) rfl rfl, fun U hU hW => gPre_ofF [0, 1, 2, 3, 4, 5, 6, 7, 8, 9, 11, 12, 13, 14, 15, 16, 17] hU hW hK hP hD (by decide +kernel) rfl⟩ rfl rfl hl.1 rfl (lv_room (Nat.le_of_ble_eq_true rfl)) dX5_film_41 ⟨Nat.le_of_ble_eq_true rfl, Nat.le_of_ble_eq_true rfl⟩) hS hD hA rfl (fun u t H locs ht hvm w_19 hB hz1 hk1 hFq hAq hS => ?_)
      obtain ⟨hP1, hK1, hD1⟩ := hB
      have hz9 : gPD G A [zo5 h0 tt rd nw th kp sh tu him, zo0 nw tt n1 n2 n3 n4 n5 n6 n7 n8 (nI jg) (nI pb) (nI lw), zi G n2 4 fso, zi G n3 4 fmi, zi G n4 4 fpa, zi G n5 6 fki, zi G n6 6 fmo, zi G n7 6 fsz, zi G n8 6 frd, zo0 th tt t1 t2 t3 t4 t5 t6 t7 t8 (nI jg) (nI pb) (nI lw), zi G t1 6 unm, zi G t2 4 fso, zi G t3 4 fmi, zi G t4 4 fpa, zi G t5 6 fki, zi G t6 6 fmo, zi G t7 6 fsz, zi G t8 6 frd, zo3 tt co en sk wr (nI tx), zr G co 6 fc, zr G en 6 fe, zi G ct 160 fct, zi G et 3 (nF fet), zi G sk 32 fsk, zo2 sh qn qo ql, zr G qn 4 fn, zi G qo 4 fqo, zi G ql 4 (nF fql), zi G rr 40 frr] H := zFill hP hD [0, 1, 2, 3, 4, 5, 6, 7, 8, 9, 11, 12, 13, 14, 15, 16, 17] [1, 2, 3, 4, 5, 6, 7, 8, 9, 10, 0, 11, 12, 13, 14, 15, 16, 17] hAq hk1 hFq ht hP1 hD1 rfl (by decide +kernel)
      have hP := hz9.1
      have hD := hz9.2
      refine g_aget (D := G.1) (ci := 5) (v := .ref sh) (C := RX5) (T := TX5) (N := 8) hx hb dX5_film_44 rfl (lv_at hl 0 rfl) hts hiX5 hown hK hP 0 rfl rfl 5 (by decide +kernel) kf41 (fun _ h9 => h9) rfl dX5_film_45 ?_
      refine lv_iload_n hx hb dX5_film_48 rfl (lv_at hl 1 rfl) ?_
      refine lv_iconst (v := 0) hx hb dX5_film_49 (by decide +kernel) ?_
      refine lv_iconst (v := 3) hx hb dX5_film_50 (by decide +kernel) ?_
      refine g_aget (D := G.1) (ci := 5) (v := .ref nw) (C := RX5) (T := TX5) (N := 8) hx hb dX5_film_51 rfl (lv_at hl 0 rfl) hts hiX5 hown hK hP 0 rfl rfl 2 (by decide +kernel) kf28 (fun _ h9 => h9) rfl dX5_film_52 ?_
      refine va_get (D := G.1) (ci := 0) (v := .int (nI pb)) (C := RX0) (T := TX0) (N := 12) hx hb hts hiX0 hown hK hP 1 rfl rfl 10 (by decide +kernel) kf71 (fun _ h9 => h9) rfl dX5_film_55 ?_
      refine lv_imul hx hb dX5_film_58 ?_
      refine g_topi (y := nI (3 * pb)) (pk_mul 3 pb) ?_
      refine z_callv [24, 25, 26, 27, 28] (va_runV (As := [.int (nI sn), .int 0, .int (nI (3 * pb))]) (rest := []) ⟨hx, hb, hml, hown, hts⟩ (c_X2_become l G sh qn qo ql rr fn fql fqo frr sn (3 * pb) 0 H.size (by first | exact hsn | assumption | omega) (by first | exact hrw | assumption | omega)) (cwV 3 hts gX5_film_X2_become rfl rfl rfl (by decide +kernel) ⟨Nat.le_of_ble_eq_true rfl, Nat.le_of_ble_eq_true rfl⟩) ⟨gPre_blind, va_recv (q := (RX2, TX2, 3)) hK hP (ci := 2) (q0 := 24) rfl rfl, fun U hU hW => gPre_ofF [24, 25, 26, 27, 28] hU hW hK hP hD (by decide +kernel) rfl⟩ rfl rfl hl.1 rfl (lv_room (Nat.le_of_ble_eq_true rfl)) dX5_film_59 ⟨Nat.le_of_ble_eq_true rfl, Nat.le_of_ble_eq_true rfl⟩) hS hD hA rfl (fun u t H locs ht hvm w_22 hB hz1 hk1 hFq hAq hS => ?_)
      obtain ⟨hP1, hK1, hD1⟩ := hB
      have hz9 : gPD G A [zo5 h0 tt rd nw th kp sh tu him, zo0 nw tt n1 n2 n3 n4 n5 n6 n7 n8 (nI jg) (nI pb) (nI lw), zi G n2 4 fso, zi G n3 4 fmi, zi G n4 4 fpa, zi G n5 6 fki, zi G n6 6 fmo, zi G n7 6 fsz, zi G n8 6 frd, zo0 th tt t1 t2 t3 t4 t5 t6 t7 t8 (nI jg) (nI pb) (nI lw), zi G t1 6 unm, zi G t2 4 fso, zi G t3 4 fmi, zi G t4 4 fpa, zi G t5 6 fki, zi G t6 6 fmo, zi G t7 6 fsz, zi G t8 6 frd, zo3 tt co en sk wr (nI tx), zr G co 6 fc, zr G en 6 fe, zi G ct 160 fct, zi G et 3 (nF fet), zi G sk 32 fsk, zo2 sh qn qo ql, zr G qn 4 fn, zi G qo 4 (upd fqo sn 0), zi G ql 4 (nF (updN fql sn (3 * pb))), zi G rr 40 (fun _ => 0)] H := zFill hP hD [24, 25, 26, 27, 28] [0, 0, 0, 0, 0, 0, 0, 0, 0, 0, 0, 0, 0, 0, 0, 0, 0, 0, 0, 0, 0, 0, 0, 0, 1, 2, 3, 4, 5] hAq hk1 hFq ht hP1 hD1 rfl (by decide +kernel)
      have hP := hz9.1
      have hD := hz9.2
      refine lv_iconst (v := 0) hx hb dX5_film_62 (by decide +kernel) ?_
      refine lv_istore (lv' := [zI 4 0, zR 0 h0, zI 1 (nI sn), zI 2 v1, zI 3 v2]) hx hb dX5_film_63 hl (by decide +kernel) rfl (fun ls hl => ?_)
      refine lv_iconst (v := 0) hx hb dX5_film_65 (by decide +kernel) ?_
      refine lv_istore (lv' := [zI 5 0, zI 4 0, zR 0 h0, zI 1 (nI sn), zI 2 v1, zI 3 v2]) hx hb dX5_film_66 hl (by decide +kernel) rfl (fun ls hl => ?_)
      have loop_68 : ∀ (n9 : Nat) (p68 : Nat) (fo9 : Int32) (y68rr : Nat → Int32) (y68t2 : Nat → Int32) (y68t3 : Nat → Int32) (y68t4 : Nat → Int32) (y68t7 : Nat → Int32) (x68t1 : Nat → Int32) (x68sk : Nat → Int32), (p68 ≤ pb) → (p_X5_film_A_68 fet fki fmo frd fct fqo sn v1 v2 (pb - p68) p68 fo9 y68rr y68t2 y68t3 y68t4 y68t7 = (g_X5_film_A_68 pb fet fso fmi fpa fki fmo fsz frd fct fqo sn v1 v2)) → (pb - p68) < n9 → ∀ (H : Heap) (locs : List Loc), va_P G.1 vwCl [zo5 h0 tt rd nw th kp sh tu him, zo0 nw tt n1 n2 n3 n4 n5 n6 n7 n8 (nI jg) (nI pb) (nI lw), zi G n2 4 fso, zi G n3 4 fmi, zi G n4 4 fpa, zi G n5 6 fki, zi G n6 6 fmo, zi G n7 6 fsz, zi G n8 6 frd, zo0 th tt t1 t2 t3 t4 t5 t6 t7 t8 (nI jg) (nI pb) (nI lw), zi G t1 6 x68t1, zi G t2 4 y68t2, zi G t3 4 y68t3, zi G t4 4 y68t4, zi G t5 6 fki, zi G t6 6 fmo, zi G t7 6 y68t7, zi G t8 6 frd, zo3 tt co en sk wr (nI tx), zr G co 6 fc, zr G en 6 fe, zi G ct 160 fct, zi G et 3 (nF fet), zi G sk 32 x68sk, zo2 sh qn qo ql, zr G qn 4 fn, zi G qo 4 (upd fqo sn 0), zi G ql 4 (nF (updN fql sn (3 * pb))), zi G rr 40 y68rr] H → va_D A [zo5 h0 tt rd nw th kp sh tu him, zo0 nw tt n1 n2 n3 n4 n5 n6 n7 n8 (nI jg) (nI pb) (nI lw), zi G n2 4 fso, zi G n3 4 fmi, zi G n4 4 fpa, zi G n5 6 fki, zi G n6 6 fmo, zi G n7 6 fsz, zi G n8 6 frd, zo0 th tt t1 t2 t3 t4 t5 t6 t7 t8 (nI jg) (nI pb) (nI lw), zi G t1 6 x68t1, zi G t2 4 y68t2, zi G t3 4 y68t3, zi G t4 4 y68t4, zi G t5 6 fki, zi G t6 6 fmo, zi G t7 6 y68t7, zi G t8 6 frd, zo3 tt co en sk wr (nI tx), zr G co 6 fc, zr G en 6 fe, zi G ct 160 fct, zi G et 3 (nF fet), zi G sk 32 x68sk, zo2 sh qn qo ql, zr G qn 4 fn, zi G qo 4 (upd fqo sn 0), zi G ql 4 (nF (updN fql sn (3 * pb))), zi G rr 40 y68rr] → va_S A s.heap H locs → ∀ ls : Array Slot, lv_has ls 7 [zI 5 (nI p68), zI 4 fo9, zR 0 h0, zI 1 (nI sn), zI 2 v1, zI 3 v2] → W p l e (headSpec wsX5_film ({ frames := 5, cells := 0, slots := 0, locals := 441 })).room s m ([.ref h0, .int (nI sn), .int v1, .int v2] : List Value).toArray below meth c H locs 0 0 (MQ below (q_X5_film_A G E h0 tt rd nw th kp sh tu n1 n2 n3 n4 n5 n6 n7 n8 t1 t2 t3 t4 t5 t6 t7 t8 co en sk ct et qn qo ql rr jg pb lw tx him wr tj tb tl fc fe fn fet fql fso fmi fpa fki fmo fsz frd unm uso umi upa uki umo usz urd fct fsk fqo frr sn v1 v2 A) ([.ref h0, .int (nI sn), .int v1, .int v2] : List Value).toArray s 0 0 A) (F0 m 68 ls []) := by
        intro n9
        induction n9 with
        | zero => intro p68 fo9 y68rr y68t2 y68t3 y68t4 y68t7 x68t1 x68sk hp68 R68 hm9_68; exact absurd hm9_68 (Nat.not_lt_zero _)
        | succ n9 ih9_68 =>
          intro p68 fo9 y68rr y68t2 y68t3 y68t4 y68t7 x68t1 x68sk hp68 R68 hm9_68 H locs hP hD hS ls hl
          refine lv_iload hx hb dX5_film_68 (lv_at hl 0 rfl) ?_
          refine g_aget (D := G.1) (ci := 5) (v := .ref nw) (C := RX5) (T := TX5) (N := 8) hx hb dX5_film_70 rfl (lv_at hl 2 rfl) hts hiX5 hown hK hP 0 rfl rfl 2 (by decide +kernel) kf28 (fun _ h9 => h9) rfl dX5_film_71 ?_
          refine va_get (D := G.1) (ci := 0) (v := .int (nI pb)) (C := RX0) (T := TX0) (N := 12) hx hb hts hiX0 hown hK hP 1 rfl rfl 10 (by decide +kernel) kf71 (fun _ h9 => h9) rfl dX5_film_74 ?_
          refine lv_icmp_ge (tgt := 161) hx hb dX5_film_77 (by decide +kernel) (fun c_23 => ?_) (fun c_23 => ?_)
          · skip
            have c_23N : pb ≤ p68 := nI_le1 (a := pb) (b := p68) (by omega) (by omega) c_23
            have hF68 : (g_X5_film_A_68 pb fet fso fmi fpa fki fmo fsz frd fct fqo sn v1 v2) = (p68, fo9, y68rr, y68t2, y68t3, y68t4, y68t7) := by rw [← R68, show pb - p68 = 0 by omega]; rfl
            have hE68_0 : p68 = ((g_X5_film_A_68 pb fet fso fmi fpa fki fmo fsz frd fct fqo sn v1 v2).1) := by rw [hF68]
            have hE68_1 : fo9 = ((g_X5_film_A_68 pb fet fso fmi fpa fki fmo fsz frd fct fqo sn v1 v2).2.1) := by rw [hF68]
            have hE68_2 : y68rr = ((g_X5_film_A_68 pb fet fso fmi fpa fki fmo fsz frd fct fqo sn v1 v2).2.2.1) := by rw [hF68]
            have hE68_3 : y68t2 = ((g_X5_film_A_68 pb fet fso fmi fpa fki fmo fsz frd fct fqo sn v1 v2).2.2.2.1) := by rw [hF68]
            have hE68_4 : y68t3 = ((g_X5_film_A_68 pb fet fso fmi fpa fki fmo fsz frd fct fqo sn v1 v2).2.2.2.2.1) := by rw [hF68]
            have hE68_5 : y68t4 = ((g_X5_film_A_68 pb fet fso fmi fpa fki fmo fsz frd fct fqo sn v1 v2).2.2.2.2.2.1) := by rw [hF68]
            have hE68_6 : y68t7 = ((g_X5_film_A_68 pb fet fso fmi fpa fki fmo fsz frd fct fqo sn v1 v2).2.2.2.2.2.2) := by rw [hF68]
            clear hF68 R68
            subst hE68_0
            subst hE68_1
            subst hE68_2
            subst hE68_3
            subst hE68_4
            subst hE68_5
            subst hE68_6
            refine lv_iload hx hb dX5_film_161 (lv_at hl 1 rfl) ?_
            have q_24 : m_X5_film_A_qo jg fqo sn v1 v2 = (upd fqo sn 0) := by unfold m_X5_film_A_qo; rw [if_pos p_7, if_pos p_14]
            have q_25 : m_X5_film_A_ql jg pb fql sn v1 v2 = updN fql sn (3 * pb) := by unfold m_X5_film_A_ql; rw [if_pos p_7, if_pos p_14]
            have q_26 : m_X5_film_A_rr jg pb fet fso fmi fpa fki fmo fsz frd fct fqo frr sn v1 v2 = ((g_X5_film_A_68 pb fet fso fmi fpa fki fmo fsz frd fct fqo sn v1 v2).2.2.1) := by unfold m_X5_film_A_rr; rw [if_pos p_7, if_pos p_14]
            have hz9 : gPD G A [zo5 h0 tt rd nw th kp sh tu him, zo0 nw tt n1 n2 n3 n4 n5 n6 n7 n8 (nI jg) (nI pb) (nI lw), zi G n2 4 fso, zi G n3 4 fmi, zi G n4 4 fpa, zi G n5 6 fki, zi G n6 6 fmo, zi G n7 6 fsz, zi G n8 6 frd, zo0 th tt t1 t2 t3 t4 t5 t6 t7 t8 (nI jg) (nI pb) (nI lw), zi G t1 6 x68t1, zi G t2 4 ((g_X5_film_A_68 pb fet fso fmi fpa fki fmo fsz frd fct fqo sn v1 v2).2.2.2.1), zi G t3 4 ((g_X5_film_A_68 pb fet fso fmi fpa fki fmo fsz frd fct fqo sn v1 v2).2.2.2.2.1), zi G t4 4 ((g_X5_film_A_68 pb fet fso fmi fpa fki fmo fsz frd fct fqo sn v1 v2).2.2.2.2.2.1), zi G t5 6 fki, zi G t6 6 fmo, zi G t7 6 ((g_X5_film_A_68 pb fet fso fmi fpa fki fmo fsz frd fct fqo sn v1 v2).2.2.2.2.2.2), zi G t8 6 frd, zo3 tt co en sk wr (nI tx), zr G co 6 fc, zr G en 6 fe, zi G ct 160 fct, zi G et 3 (nF fet), zi G sk 32 x68sk, zo2 sh qn qo ql, zr G qn 4 fn, zi G qo 4 (m_X5_film_A_qo jg fqo sn v1 v2), zi G ql 4 (nF (m_X5_film_A_ql jg pb fql sn v1 v2)), zi G rr 40 (m_X5_film_A_rr jg pb fet fso fmi fpa fki fmo fsz frd fct fqo frr sn v1 v2)] H := ⟨by rw [q_24, q_25, q_26]; exact hP, by rw [q_24, q_25, q_26]; exact hD⟩
            have hP9 := hz9.1
            have hD9 := hz9.2
            have hpost : (fun (r : Int32) (u : Int32 × Int32 × Int32 × (Nat → Int32) × (Nat → Int32) × (Nat → Int32) × (Nat → Int32) × (Nat → Int32) × (Nat → Int32) × (Nat → Int32) × (Nat → Int32) × (Nat → Int32)) => match u with | (zj9, zb9, zl9, yt1, yt2, yt3, yt4, yt5, yt6, yt7, yt8, ysk) => r = m_X5_film_A jg pb fet fso fmi fpa fki fmo fsz frd fct fqo sn v1 v2) ((g_X5_film_A_68 pb fet fso fmi fpa fki fmo fsz frd fct fqo sn v1 v2).2.1) (nI jg, nI pb, nI lw, x68t1, ((g_X5_film_A_68 pb fet fso fmi fpa fki fmo fsz frd fct fqo sn v1 v2).2.2.2.1), ((g_X5_film_A_68 pb fet fso fmi fpa fki fmo fsz frd fct fqo sn v1 v2).2.2.2.2.1), ((g_X5_film_A_68 pb fet fso fmi fpa fki fmo fsz frd fct fqo sn v1 v2).2.2.2.2.2.1), fki, fmo, ((g_X5_film_A_68 pb fet fso fmi fpa fki fmo fsz frd fct fqo sn v1 v2).2.2.2.2.2.2), frd, x68sk) := (show m_X5_film_A jg pb fet fso fmi fpa fki fmo fsz frd fct fqo sn v1 v2 = ((g_X5_film_A_68 pb fet fso fmi fpa fki fmo fsz frd fct fqo sn v1 v2).2.1) from by unfold m_X5_film_A; rw [if_pos p_7, if_pos p_14]).symm
            exact W.iret (v := ((g_X5_film_A_68 pb fet fso fmi fpa fki fmo fsz frd fct fqo sn v1 v2).2.1)) hx hb hr (fun t ht hW => ⟨⟨((g_X5_film_A_68 pb fet fso fmi fpa fki fmo fsz frd fct fqo sn v1 v2).2.1), (nI jg, nI pb, nI lw, x68t1, ((g_X5_film_A_68 pb fet fso fmi fpa fki fmo fsz frd fct fqo sn v1 v2).2.2.2.1), ((g_X5_film_A_68 pb fet fso fmi fpa fki fmo fsz frd fct fqo sn v1 v2).2.2.2.2.1), ((g_X5_film_A_68 pb fet fso fmi fpa fki fmo fsz frd fct fqo sn v1 v2).2.2.2.2.2.1), fki, fmo, ((g_X5_film_A_68 pb fet fso fmi fpa fki fmo fsz frd fct fqo sn v1 v2).2.2.2.2.2.2), frd, x68sk), rfl, hpost, by rw [ht]; exact hP9, va_K.moved hW.alike hK, hD9⟩, hS.F ht⟩) hS.2.2 dX5_film_163
          · skip
            have c_23N : p68 < pb := nI_le0 (a := pb) (b := p68) (by omega) (by omega) c_23
            refine g_aget (D := G.1) (ci := 5) (v := .ref th) (C := RX5) (T := TX5) (N := 8) hx hb dX5_film_80 rfl (lv_at hl 2 rfl) hts hiX5 hown hK hP 0 rfl rfl 3 (by decide +kernel) kf32 (fun _ h9 => h9) rfl dX5_film_81 ?_
            refine lv_iload_n hx hb dX5_film_84 rfl (lv_at hl 4 rfl) ?_
            refine g_topi (y := nI (nC v1)) hv_9 ?_
            refine lv_iload hx hb dX5_film_85 (lv_at hl 0 rfl) ?_
            refine g_aget (D := G.1) (ci := 5) (v := .ref th) (C := RX5) (T := TX5) (N := 8) hx hb dX5_film_87 rfl (lv_at hl 2 rfl) hts hiX5 hown hK hP 0 rfl rfl 3 (by decide +kernel) kf32 (fun _ h9 => h9) rfl dX5_film_88 ?_
            refine lv_iload_n hx hb dX5_film_91 rfl (lv_at hl 4 rfl) ?_
            refine g_topi (y := nI (nC v1)) hv_9 ?_
            refine lv_iload hx hb dX5_film_92 (lv_at hl 0 rfl) ?_
            refine lv_iload_n hx hb dX5_film_94 rfl (lv_at hl 5 rfl) ?_
            refine g_topi (y := nI (nC v2)) hv_16 ?_
            refine z_calli [9, 10, 11, 12, 13, 14, 15, 16, 17, 18, 19, 20, 21, 22, 23] (v := m_X0_go (nC v1) p68 (nC v2) y68t2 y68t3 y68t4 fki fmo y68t7 frd fct fet) (fun _ ⟨_, _⟩ h => h) (va_runV (As := [.int (nI (nC v1)), .int (nI p68), .int (nI (nC v2))]) (rest := [.int (nI p68), .int (nI (nC v1)), .ref th]) ⟨hx, hb, hml, hown, hts⟩ (c_X0_go l G th tt t1 t2 t3 t4 t5 t6 t7 t8 co en sk ct et lw (nC v1) p68 (nC v2) tx (nI jg) (nI pb) wr x68t1 y68t2 y68t3 y68t4 fki fmo y68t7 frd fc fe fct fet x68sk H.size (by first | exact hj | assumption | omega) (by first | exact hp | assumption | omega) (by first | exact hnn | assumption | omega) (by first | exact htn | assumption | omega) (by first | exact hc | assumption | omega) (by first | exact he | assumption | omega) (by first | exact hwx | assumption | omega)) (cwV 3 hts gX5_film_X0_go rfl rfl rfl (by decide +kernel) ⟨Nat.le_of_ble_eq_true rfl, Nat.le_of_ble_eq_true rfl⟩) ⟨gPre_blind, va_recv (q := (RX0, TX0, 12)) hK hP (ci := 0) (q0 := 9) rfl rfl, fun U hU hW => gPre_ofF [9, 10, 11, 12, 13, 14, 15, 16, 17, 18, 19, 20, 21, 22, 23] hU hW hK hP hD (by decide +kernel) rfl⟩ rfl rfl hl.1 rfl (lv_room (Nat.le_of_ble_eq_true rfl)) dX5_film_95 ⟨Nat.le_of_ble_eq_true rfl, Nat.le_of_ble_eq_true rfl⟩) hS hD hA rfl (fun u t H locs ht hvm hB hz1 hk1 hFq hAq hS => ?_)
            obtain ⟨yn1_32, ysk_33⟩ := u
            obtain ⟨hP1, hK1, hD1⟩ := hB
            have hz9 : gPD G A [zo5 h0 tt rd nw th kp sh tu him, zo0 nw tt n1 n2 n3 n4 n5 n6 n7 n8 (nI jg) (nI pb) (nI lw), zi G n2 4 fso, zi G n3 4 fmi, zi G n4 4 fpa, zi G n5 6 fki, zi G n6 6 fmo, zi G n7 6 fsz, zi G n8 6 frd, zo0 th tt t1 t2 t3 t4 t5 t6 t7 t8 (nI jg) (nI pb) (nI lw), zi G t1 6 yn1_32, zi G t2 4 (m_X0_go_n2 (nC v1) p68 (nC v2) y68t2 y68t3 y68t4 fki fmo y68t7 frd fct fet), zi G t3 4 (m_X0_go_n3 (nC v1) p68 (nC v2) y68t2 y68t3 y68t4 fki fmo y68t7 frd fct fet), zi G t4 4 (m_X0_go_n4 (nC v1) p68 (nC v2) y68t2 y68t3 y68t4 fki fmo y68t7 frd fct fet), zi G t5 6 fki, zi G t6 6 fmo, zi G t7 6 (m_X0_go_n7 (nC v1) p68 (nC v2) y68t2 y68t3 y68t4 fki fmo y68t7 frd fct fet), zi G t8 6 frd, zo3 tt co en sk wr (nI tx), zr G co 6 fc, zr G en 6 fe, zi G ct 160 fct, zi G et 3 (nF fet), zi G sk 32 ysk_33, zo2 sh qn qo ql, zr G qn 4 fn, zi G qo 4 (upd fqo sn 0), zi G ql 4 (nF (updN fql sn (3 * pb))), zi G rr 40 y68rr] H := zFill hP hD [9, 10, 11, 12, 13, 14, 15, 16, 17, 18, 19, 20, 21, 22, 23] [0, 0, 0, 0, 0, 0, 0, 0, 0, 1, 2, 3, 4, 5, 6, 7, 8, 9, 10, 11, 12, 13, 14, 15] hAq hk1 hFq ht hP1 hD1 rfl (by decide +kernel)
            have hP := hz9.1
            have hD := hz9.2
            refine z_calli [9, 10, 11, 12, 15, 16, 17, 18, 19, 20, 21, 22, 23] (v := m_X0_verdict (nC v1) p68 (m_X0_go_n2 (nC v1) p68 (nC v2) y68t2 y68t3 y68t4 fki fmo y68t7 frd fct fet) (m_X0_go_n3 (nC v1) p68 (nC v2) y68t2 y68t3 y68t4 fki fmo y68t7 frd fct fet) fmo (m_X0_go_n7 (nC v1) p68 (nC v2) y68t2 y68t3 y68t4 fki fmo y68t7 frd fct fet) frd fct fet (m_X0_go (nC v1) p68 (nC v2) y68t2 y68t3 y68t4 fki fmo y68t7 frd fct fet)) (fun _ ⟨_, _⟩ h => h) (va_runV (As := [.int (nI (nC v1)), .int (nI p68), .int (m_X0_go (nC v1) p68 (nC v2) y68t2 y68t3 y68t4 fki fmo y68t7 frd fct fet)]) (rest := []) ⟨hx, hb, hml, hown, hts⟩ (c_X0_verdict l G th tt t1 t2 t3 t4 t5 t6 t7 t8 co en sk ct et lw (nC v1) p68 tx (nI jg) (nI pb) wr yn1_32 (m_X0_go_n2 (nC v1) p68 (nC v2) y68t2 y68t3 y68t4 fki fmo y68t7 frd fct fet) (m_X0_go_n3 (nC v1) p68 (nC v2) y68t2 y68t3 y68t4 fki fmo y68t7 frd fct fet) fmo (m_X0_go_n7 (nC v1) p68 (nC v2) y68t2 y68t3 y68t4 fki fmo y68t7 frd fct fet) frd fc fe fct fet ysk_33 (m_X0_go (nC v1) p68 (nC v2) y68t2 y68t3 y68t4 fki fmo y68t7 frd fct fet) H.size (by first | exact hj | assumption | omega) (by first | exact hp | assumption | omega) (by first | exact htn | assumption | omega) (by first | exact hc | assumption | omega) (by first | exact he | assumption | omega) (by first | exact hwx | assumption | omega)) (cwV 3 hts gX5_film_X0_verdict rfl rfl rfl (by decide +kernel) ⟨Nat.le_of_ble_eq_true rfl, Nat.le_of_ble_eq_true rfl⟩) ⟨gPre_blind, va_recv (q := (RX0, TX0, 12)) hK hP (ci := 0) (q0 := 9) rfl rfl, fun U hU hW => gPre_ofF [9, 10, 11, 12, 15, 16, 17, 18, 19, 20, 21, 22, 23] hU hW hK hP hD (by decide +kernel) rfl⟩ rfl rfl hl.1 rfl (lv_room (Nat.le_of_ble_eq_true rfl)) dX5_film_98 ⟨Nat.le_of_ble_eq_true rfl, Nat.le_of_ble_eq_true rfl⟩) hS hD hA rfl (fun u t H locs ht hvm hB hz1 hk1 hFq hAq hS => ?_)
            obtain ⟨yn1_36, ysk_37⟩ := u
            obtain ⟨hP1, hK1, hD1⟩ := hB
            have hz9 : gPD G A [zo5 h0 tt rd nw th kp sh tu him, zo0 nw tt n1 n2 n3 n4 n5 n6 n7 n8 (nI jg) (nI pb) (nI lw), zi G n2 4 fso, zi G n3 4 fmi, zi G n4 4 fpa, zi G n5 6 fki, zi G n6 6 fmo, zi G n7 6 fsz, zi G n8 6 frd, zo0 th tt t1 t2 t3 t4 t5 t6 t7 t8 (nI jg) (nI pb) (nI lw), zi G t1 6 yn1_36, zi G t2 4 (m_X0_go_n2 (nC v1) p68 (nC v2) y68t2 y68t3 y68t4 fki fmo y68t7 frd fct fet), zi G t3 4 (m_X0_go_n3 (nC v1) p68 (nC v2) y68t2 y68t3 y68t4 fki fmo y68t7 frd fct fet), zi G t4 4 (m_X0_go_n4 (nC v1) p68 (nC v2) y68t2 y68t3 y68t4 fki fmo y68t7 frd fct fet), zi G t5 6 fki, zi G t6 6 fmo, zi G t7 6 (m_X0_go_n7 (nC v1) p68 (nC v2) y68t2 y68t3 y68t4 fki fmo y68t7 frd fct fet), zi G t8 6 frd, zo3 tt co en sk wr (nI tx), zr G co 6 fc, zr G en 6 fe, zi G ct 160 fct, zi G et 3 (nF fet), zi G sk 32 ysk_37, zo2 sh qn qo ql, zr G qn 4 fn, zi G qo 4 (upd fqo sn 0), zi G ql 4 (nF (updN fql sn (3 * pb))), zi G rr 40 y68rr] H := zFill hP hD [9, 10, 11, 12, 15, 16, 17, 18, 19, 20, 21, 22, 23] [0, 0, 0, 0, 0, 0, 0, 0, 0, 1, 2, 3, 4, 0, 0, 5, 6, 7, 8, 9, 10, 11, 12, 13] hAq hk1 hFq ht hP1 hD1 rfl (by decide +kernel)
            have hP := hz9.1
            have hD := hz9.2
            refine lv_istore (lv' := [zI 6 (m_X0_verdict (nC v1) p68 (m_X0_go_n2 (nC v1) p68 (nC v2) y68t2 y68t3 y68t4 fki fmo y68t7 frd fct fet) (m_X0_go_n3 (nC v1) p68 (nC v2) y68t2 y68t3 y68t4 fki fmo y68t7 frd fct fet) fmo (m_X0_go_n7 (nC v1) p68 (nC v2) y68t2 y68t3 y68t4 fki fmo y68t7 frd fct fet) frd fct fet (m_X0_go (nC v1) p68 (nC v2) y68t2 y68t3 y68t4 fki fmo y68t7 frd fct fet)), zI 5 (nI p68), zI 4 fo9, zR 0 h0, zI 1 (nI sn), zI 2 v1, zI 3 v2]) hx hb dX5_film_101 hl (by decide +kernel) rfl (fun ls hl => ?_)
            refine g_aget (D := G.1) (ci := 5) (v := .ref sh) (C := RX5) (T := TX5) (N := 8) hx hb dX5_film_103 rfl (lv_at hl 3 rfl) hts hiX5 hown hK hP 0 rfl rfl 5 (by decide +kernel) kf41 (fun _ h9 => h9) rfl dX5_film_104 ?_
            refine lv_iload_n hx hb dX5_film_107 rfl (lv_at hl 4 rfl) ?_
            refine lv_iconst (v := 3) hx hb dX5_film_108 (by decide +kernel) ?_
            refine lv_iload hx hb dX5_film_109 (lv_at hl 1 rfl) ?_
            refine lv_imul hx hb dX5_film_111 ?_
            refine g_topi (y := nI (3 * p68)) (pk_mul 3 p68) ?_
            refine lv_iload hx hb dX5_film_112 (lv_at hl 1 rfl) ?_
            refine z_callv [24, 25, 26, 28] (va_runV (As := [.int (nI sn), .int (nI (3 * p68)), .int (nI p68)]) (rest := []) ⟨hx, hb, hml, hown, hts⟩ (c_X2_store l G sh qn qo ql rr fn (upd fqo sn 0) y68rr sn (3 * p68) (nI p68) H.size (by first | exact hsn | assumption | omega) (by first | exact hrw | assumption | omega) (by first | exact hix | assumption | omega)) (cwV 3 hts gX5_film_X2_store rfl rfl rfl (by decide +kernel) ⟨Nat.le_of_ble_eq_true rfl, Nat.le_of_ble_eq_true rfl⟩) ⟨gPre_blind, va_recv (q := (RX2, TX2, 3)) hK hP (ci := 2) (q0 := 24) rfl rfl, fun U hU hW => gPre_ofF [24, 25, 26, 28] hU hW hK hP hD (by decide +kernel) rfl⟩ rfl rfl hl.1 rfl (lv_room (Nat.le_of_ble_eq_true rfl)) dX5_film_114 ⟨Nat.le_of_ble_eq_true rfl, Nat.le_of_ble_eq_true rfl⟩) hS hD hA rfl (fun u t H locs ht hvm w_40 hB hz1 hk1 hFq hAq hS => ?_)
            obtain ⟨hP1, hK1, hD1⟩ := hB
            have hz9 : gPD G A [zo5 h0 tt rd nw th kp sh tu him, zo0 nw tt n1 n2 n3 n4 n5 n6 n7 n8 (nI jg) (nI pb) (nI lw), zi G n2 4 fso, zi G n3 4 fmi, zi G n4 4 fpa, zi G n5 6 fki, zi G n6 6 fmo, zi G n7 6 fsz, zi G n8 6 frd, zo0 th tt t1 t2 t3 t4 t5 t6 t7 t8 (nI jg) (nI pb) (nI lw), zi G t1 6 yn1_36, zi G t2 4 (m_X0_go_n2 (nC v1) p68 (nC v2) y68t2 y68t3 y68t4 fki fmo y68t7 frd fct fet), zi G t3 4 (m_X0_go_n3 (nC v1) p68 (nC v2) y68t2 y68t3 y68t4 fki fmo y68t7 frd fct fet), zi G t4 4 (m_X0_go_n4 (nC v1) p68 (nC v2) y68t2 y68t3 y68t4 fki fmo y68t7 frd fct fet), zi G t5 6 fki, zi G t6 6 fmo, zi G t7 6 (m_X0_go_n7 (nC v1) p68 (nC v2) y68t2 y68t3 y68t4 fki fmo y68t7 frd fct fet), zi G t8 6 frd, zo3 tt co en sk wr (nI tx), zr G co 6 fc, zr G en 6 fe, zi G ct 160 fct, zi G et 3 (nF fet), zi G sk 32 ysk_37, zo2 sh qn qo ql, zr G qn 4 fn, zi G qo 4 (upd fqo sn 0), zi G ql 4 (nF (updN fql sn (3 * pb))), zi G rr 40 (m_X2_store_rr (upd fqo sn 0) y68rr sn (3 * p68) (nI p68))] H := zFill hP hD [24, 25, 26, 28] [0, 0, 0, 0, 0, 0, 0, 0, 0, 0, 0, 0, 0, 0, 0, 0, 0, 0, 0, 0, 0, 0, 0, 0, 1, 2, 3, 0, 4] hAq hk1 hFq ht hP1 hD1 rfl (by decide +kernel)
            have hP := hz9.1
            have hD := hz9.2
            refine g_aget (D := G.1) (ci := 5) (v := .ref sh) (C := RX5) (T := TX5) (N := 8) hx hb dX5_film_117 rfl (lv_at hl 3 rfl) hts hiX5 hown hK hP 0 rfl rfl 5 (by decide +kernel) kf41 (fun _ h9 => h9) rfl dX5_film_118 ?_
            refine lv_iload_n hx hb dX5_film_121 rfl (lv_at hl 4 rfl) ?_
            refine lv_iconst (v := 3) hx hb dX5_film_122 (by decide +kernel) ?_
            refine lv_iload hx hb dX5_film_123 (lv_at hl 1 rfl) ?_
            refine lv_imul hx hb dX5_film_125 ?_
            refine g_topi (y := nI (3 * p68)) (pk_mul 3 p68) ?_
            refine lv_iconst (v := 1) hx hb dX5_film_126 (by decide +kernel) ?_
            refine lv_iadd hx hb dX5_film_127 ?_
            refine g_topi (y := nI ((3 * p68) + 1)) (nI_add (3 * p68) 1) ?_
            refine lv_iload_n hx hb dX5_film_128 rfl (lv_at hl 6 rfl) ?_
            refine g_topi (y := nI (nC v2)) hv_16 ?_
            refine z_callv [24, 25, 26, 28] (va_runV (As := [.int (nI sn), .int (nI ((3 * p68) + 1)), .int (nI (nC v2))]) (rest := []) ⟨hx, hb, hml, hown, hts⟩ (c_X2_store l G sh qn qo ql rr fn (upd fqo sn 0) (m_X2_store_rr (upd fqo sn 0) y68rr sn (3 * p68) (nI p68)) sn ((3 * p68) + 1) (nI (nC v2)) H.size (by first | exact hsn | assumption | omega) (by first | exact hrw | assumption | omega) (by first | exact hix | assumption | omega)) (cwV 3 hts gX5_film_X2_store rfl rfl rfl (by decide +kernel) ⟨Nat.le_of_ble_eq_true rfl, Nat.le_of_ble_eq_true rfl⟩) ⟨gPre_blind, va_recv (q := (RX2, TX2, 3)) hK hP (ci := 2) (q0 := 24) rfl rfl, fun U hU hW => gPre_ofF [24, 25, 26, 28] hU hW hK hP hD (by decide +kernel) rfl⟩ rfl rfl hl.1 rfl (lv_room (Nat.le_of_ble_eq_true rfl)) dX5_film_129 ⟨Nat.le_of_ble_eq_true rfl, Nat.le_of_ble_eq_true rfl⟩) hS hD hA rfl (fun u t H locs ht hvm w_45 hB hz1 hk1 hFq hAq hS => ?_)
            obtain ⟨hP1, hK1, hD1⟩ := hB
            have hz9 : gPD G A [zo5 h0 tt rd nw th kp sh tu him, zo0 nw tt n1 n2 n3 n4 n5 n6 n7 n8 (nI jg) (nI pb) (nI lw), zi G n2 4 fso, zi G n3 4 fmi, zi G n4 4 fpa, zi G n5 6 fki, zi G n6 6 fmo, zi G n7 6 fsz, zi G n8 6 frd, zo0 th tt t1 t2 t3 t4 t5 t6 t7 t8 (nI jg) (nI pb) (nI lw), zi G t1 6 yn1_36, zi G t2 4 (m_X0_go_n2 (nC v1) p68 (nC v2) y68t2 y68t3 y68t4 fki fmo y68t7 frd fct fet), zi G t3 4 (m_X0_go_n3 (nC v1) p68 (nC v2) y68t2 y68t3 y68t4 fki fmo y68t7 frd fct fet), zi G t4 4 (m_X0_go_n4 (nC v1) p68 (nC v2) y68t2 y68t3 y68t4 fki fmo y68t7 frd fct fet), zi G t5 6 fki, zi G t6 6 fmo, zi G t7 6 (m_X0_go_n7 (nC v1) p68 (nC v2) y68t2 y68t3 y68t4 fki fmo y68t7 frd fct fet), zi G t8 6 frd, zo3 tt co en sk wr (nI tx), zr G co 6 fc, zr G en 6 fe, zi G ct 160 fct, zi G et 3 (nF fet), zi G sk 32 ysk_37, zo2 sh qn qo ql, zr G qn 4 fn, zi G qo 4 (upd fqo sn 0), zi G ql 4 (nF (updN fql sn (3 * pb))), zi G rr 40 (m_X2_store_rr (upd fqo sn 0) (m_X2_store_rr (upd fqo sn 0) y68rr sn (3 * p68) (nI p68)) sn ((3 * p68) + 1) (nI (nC v2)))] H := zFill hP hD [24, 25, 26, 28] [0, 0, 0, 0, 0, 0, 0, 0, 0, 0, 0, 0, 0, 0, 0, 0, 0, 0, 0, 0, 0, 0, 0, 0, 1, 2, 3, 0, 4] hAq hk1 hFq ht hP1 hD1 rfl (by decide +kernel)
            have hP := hz9.1
            have hD := hz9.2
            refine g_aget (D := G.1) (ci := 5) (v := .ref sh) (C := RX5) (T := TX5) (N := 8) hx hb dX5_film_132 rfl (lv_at hl 3 rfl) hts hiX5 hown hK hP 0 rfl rfl 5 (by decide +kernel) kf41 (fun _ h9 => h9) rfl dX5_film_133 ?_
            refine lv_iload_n hx hb dX5_film_136 rfl (lv_at hl 4 rfl) ?_
            refine lv_iconst (v := 3) hx hb dX5_film_137 (by decide +kernel) ?_
            refine lv_iload hx hb dX5_film_138 (lv_at hl 1 rfl) ?_
            refine lv_imul hx hb dX5_film_140 ?_
            refine g_topi (y := nI (3 * p68)) (pk_mul 3 p68) ?_
            refine lv_iconst (v := 2) hx hb dX5_film_141 (by decide +kernel) ?_
            refine lv_iadd hx hb dX5_film_142 ?_
            refine g_topi (y := nI ((3 * p68) + 2)) (nI_add (3 * p68) 2) ?_
            refine lv_iload hx hb dX5_film_143 (lv_at hl 0 rfl) ?_
            refine z_callv [24, 25, 26, 28] (va_runV (As := [.int (nI sn), .int (nI ((3 * p68) + 2)), .int (m_X0_verdict (nC v1) p68 (m_X0_go_n2 (nC v1) p68 (nC v2) y68t2 y68t3 y68t4 fki fmo y68t7 frd fct fet) (m_X0_go_n3 (nC v1) p68 (nC v2) y68t2 y68t3 y68t4 fki fmo y68t7 frd fct fet) fmo (m_X0_go_n7 (nC v1) p68 (nC v2) y68t2 y68t3 y68t4 fki fmo y68t7 frd fct fet) frd fct fet (m_X0_go (nC v1) p68 (nC v2) y68t2 y68t3 y68t4 fki fmo y68t7 frd fct fet))]) (rest := []) ⟨hx, hb, hml, hown, hts⟩ (c_X2_store l G sh qn qo ql rr fn (upd fqo sn 0) (m_X2_store_rr (upd fqo sn 0) (m_X2_store_rr (upd fqo sn 0) y68rr sn (3 * p68) (nI p68)) sn ((3 * p68) + 1) (nI (nC v2))) sn ((3 * p68) + 2) (m_X0_verdict (nC v1) p68 (m_X0_go_n2 (nC v1) p68 (nC v2) y68t2 y68t3 y68t4 fki fmo y68t7 frd fct fet) (m_X0_go_n3 (nC v1) p68 (nC v2) y68t2 y68t3 y68t4 fki fmo y68t7 frd fct fet) fmo (m_X0_go_n7 (nC v1) p68 (nC v2) y68t2 y68t3 y68t4 fki fmo y68t7 frd fct fet) frd fct fet (m_X0_go (nC v1) p68 (nC v2) y68t2 y68t3 y68t4 fki fmo y68t7 frd fct fet)) H.size (by first | exact hsn | assumption | omega) (by first | exact hrw | assumption | omega) (by first | exact hix | assumption | omega)) (cwV 3 hts gX5_film_X2_store rfl rfl rfl (by decide +kernel) ⟨Nat.le_of_ble_eq_true rfl, Nat.le_of_ble_eq_true rfl⟩) ⟨gPre_blind, va_recv (q := (RX2, TX2, 3)) hK hP (ci := 2) (q0 := 24) rfl rfl, fun U hU hW => gPre_ofF [24, 25, 26, 28] hU hW hK hP hD (by decide +kernel) rfl⟩ rfl rfl hl.1 rfl (lv_room (Nat.le_of_ble_eq_true rfl)) dX5_film_145 ⟨Nat.le_of_ble_eq_true rfl, Nat.le_of_ble_eq_true rfl⟩) hS hD hA rfl (fun u t H locs ht hvm w_49 hB hz1 hk1 hFq hAq hS => ?_)
            obtain ⟨hP1, hK1, hD1⟩ := hB
            have hz9 : gPD G A [zo5 h0 tt rd nw th kp sh tu him, zo0 nw tt n1 n2 n3 n4 n5 n6 n7 n8 (nI jg) (nI pb) (nI lw), zi G n2 4 fso, zi G n3 4 fmi, zi G n4 4 fpa, zi G n5 6 fki, zi G n6 6 fmo, zi G n7 6 fsz, zi G n8 6 frd, zo0 th tt t1 t2 t3 t4 t5 t6 t7 t8 (nI jg) (nI pb) (nI lw), zi G t1 6 yn1_36, zi G t2 4 (m_X0_go_n2 (nC v1) p68 (nC v2) y68t2 y68t3 y68t4 fki fmo y68t7 frd fct fet), zi G t3 4 (m_X0_go_n3 (nC v1) p68 (nC v2) y68t2 y68t3 y68t4 fki fmo y68t7 frd fct fet), zi G t4 4 (m_X0_go_n4 (nC v1) p68 (nC v2) y68t2 y68t3 y68t4 fki fmo y68t7 frd fct fet), zi G t5 6 fki, zi G t6 6 fmo, zi G t7 6 (m_X0_go_n7 (nC v1) p68 (nC v2) y68t2 y68t3 y68t4 fki fmo y68t7 frd fct fet), zi G t8 6 frd, zo3 tt co en sk wr (nI tx), zr G co 6 fc, zr G en 6 fe, zi G ct 160 fct, zi G et 3 (nF fet), zi G sk 32 ysk_37, zo2 sh qn qo ql, zr G qn 4 fn, zi G qo 4 (upd fqo sn 0), zi G ql 4 (nF (updN fql sn (3 * pb))), zi G rr 40 (m_X2_store_rr (upd fqo sn 0) (m_X2_store_rr (upd fqo sn 0) (m_X2_store_rr (upd fqo sn 0) y68rr sn (3 * p68) (nI p68)) sn ((3 * p68) + 1) (nI (nC v2))) sn ((3 * p68) + 2) (m_X0_verdict (nC v1) p68 (m_X0_go_n2 (nC v1) p68 (nC v2) y68t2 y68t3 y68t4 fki fmo y68t7 frd fct fet) (m_X0_go_n3 (nC v1) p68 (nC v2) y68t2 y68t3 y68t4 fki fmo y68t7 frd fct fet) fmo (m_X0_go_n7 (nC v1) p68 (nC v2) y68t2 y68t3 y68t4 fki fmo y68t7 frd fct fet) frd fct fet (m_X0_go (nC v1) p68 (nC v2) y68t2 y68t3 y68t4 fki fmo y68t7 frd fct fet)))] H := zFill hP hD [24, 25, 26, 28] [0, 0, 0, 0, 0, 0, 0, 0, 0, 0, 0, 0, 0, 0, 0, 0, 0, 0, 0, 0, 0, 0, 0, 0, 1, 2, 3, 0, 4] hAq hk1 hFq ht hP1 hD1 rfl (by decide +kernel)
            have hP := hz9.1
            have hD := hz9.2
            refine lv_iload hx hb dX5_film_148 (lv_at hl 2 rfl) ?_
            refine lv_iload hx hb dX5_film_150 (lv_at hl 0 rfl) ?_
            refine lv_iadd hx hb dX5_film_152 ?_
            refine lv_istore (lv' := [zI 4 (fo9 + (m_X0_verdict (nC v1) p68 (m_X0_go_n2 (nC v1) p68 (nC v2) y68t2 y68t3 y68t4 fki fmo y68t7 frd fct fet) (m_X0_go_n3 (nC v1) p68 (nC v2) y68t2 y68t3 y68t4 fki fmo y68t7 frd fct fet) fmo (m_X0_go_n7 (nC v1) p68 (nC v2) y68t2 y68t3 y68t4 fki fmo y68t7 frd fct fet) frd fct fet (m_X0_go (nC v1) p68 (nC v2) y68t2 y68t3 y68t4 fki fmo y68t7 frd fct fet))), zI 6 (m_X0_verdict (nC v1) p68 (m_X0_go_n2 (nC v1) p68 (nC v2) y68t2 y68t3 y68t4 fki fmo y68t7 frd fct fet) (m_X0_go_n3 (nC v1) p68 (nC v2) y68t2 y68t3 y68t4 fki fmo y68t7 frd fct fet) fmo (m_X0_go_n7 (nC v1) p68 (nC v2) y68t2 y68t3 y68t4 fki fmo y68t7 frd fct fet) frd fct fet (m_X0_go (nC v1) p68 (nC v2) y68t2 y68t3 y68t4 fki fmo y68t7 frd fct fet)), zI 5 (nI p68), zR 0 h0, zI 1 (nI sn), zI 2 v1, zI 3 v2]) hx hb dX5_film_153 hl (by decide +kernel) rfl (fun ls hl => ?_)
            refine lv_iinc (v := nI (p68 + 1)) (lv' := [zI 5 (nI (p68 + 1)), zI 4 (fo9 + (m_X0_verdict (nC v1) p68 (m_X0_go_n2 (nC v1) p68 (nC v2) y68t2 y68t3 y68t4 fki fmo y68t7 frd fct fet) (m_X0_go_n3 (nC v1) p68 (nC v2) y68t2 y68t3 y68t4 fki fmo y68t7 frd fct fet) fmo (m_X0_go_n7 (nC v1) p68 (nC v2) y68t2 y68t3 y68t4 fki fmo y68t7 frd fct fet) frd fct fet (m_X0_go (nC v1) p68 (nC v2) y68t2 y68t3 y68t4 fki fmo y68t7 frd fct fet))), zI 6 (m_X0_verdict (nC v1) p68 (m_X0_go_n2 (nC v1) p68 (nC v2) y68t2 y68t3 y68t4 fki fmo y68t7 frd fct fet) (m_X0_go_n3 (nC v1) p68 (nC v2) y68t2 y68t3 y68t4 fki fmo y68t7 frd fct fet) fmo (m_X0_go_n7 (nC v1) p68 (nC v2) y68t2 y68t3 y68t4 fki fmo y68t7 frd fct fet) frd fct fet (m_X0_go (nC v1) p68 (nC v2) y68t2 y68t3 y68t4 fki fmo y68t7 frd fct fet)), zR 0 h0, zI 1 (nI sn), zI 2 v1, zI 3 v2]) hx hb dX5_film_155 hl (k := 2) rfl (nI_add p68 1) (by decide +kernel) rfl (fun ls hl => ?_)
            refine lv_goto (tgt := 68) hx hb dX5_film_158 (by decide +kernel) ?_
            exact ih9_68 (p68 + 1) (fo9 + (m_X0_verdict (nC v1) p68 (m_X0_go_n2 (nC v1) p68 (nC v2) y68t2 y68t3 y68t4 fki fmo y68t7 frd fct fet) (m_X0_go_n3 (nC v1) p68 (nC v2) y68t2 y68t3 y68t4 fki fmo y68t7 frd fct fet) fmo (m_X0_go_n7 (nC v1) p68 (nC v2) y68t2 y68t3 y68t4 fki fmo y68t7 frd fct fet) frd fct fet (m_X0_go (nC v1) p68 (nC v2) y68t2 y68t3 y68t4 fki fmo y68t7 frd fct fet))) (m_X2_store_rr (upd fqo sn 0) (m_X2_store_rr (upd fqo sn 0) (m_X2_store_rr (upd fqo sn 0) y68rr sn (3 * p68) (nI p68)) sn ((3 * p68) + 1) (nI (nC v2))) sn ((3 * p68) + 2) (m_X0_verdict (nC v1) p68 (m_X0_go_n2 (nC v1) p68 (nC v2) y68t2 y68t3 y68t4 fki fmo y68t7 frd fct fet) (m_X0_go_n3 (nC v1) p68 (nC v2) y68t2 y68t3 y68t4 fki fmo y68t7 frd fct fet) fmo (m_X0_go_n7 (nC v1) p68 (nC v2) y68t2 y68t3 y68t4 fki fmo y68t7 frd fct fet) frd fct fet (m_X0_go (nC v1) p68 (nC v2) y68t2 y68t3 y68t4 fki fmo y68t7 frd fct fet))) (m_X0_go_n2 (nC v1) p68 (nC v2) y68t2 y68t3 y68t4 fki fmo y68t7 frd fct fet) (m_X0_go_n3 (nC v1) p68 (nC v2) y68t2 y68t3 y68t4 fki fmo y68t7 frd fct fet) (m_X0_go_n4 (nC v1) p68 (nC v2) y68t2 y68t3 y68t4 fki fmo y68t7 frd fct fet) (m_X0_go_n7 (nC v1) p68 (nC v2) y68t2 y68t3 y68t4 fki fmo y68t7 frd fct fet) yn1_36 ysk_37 (by omega) (Eq.trans (Eq.symm ((congrArg (fun z9 => p_X5_film_A_68 fet fki fmo frd fct fqo sn v1 v2 (z9) p68 fo9 y68rr y68t2 y68t3 y68t4 y68t7) (show pb - p68 = pb - (p68 + 1) + 1 by omega)).trans (by show p_X5_film_A_68 fet fki fmo frd fct fqo sn v1 v2 (pb - (p68 + 1) + 1) p68 fo9 y68rr y68t2 y68t3 y68t4 y68t7 = _; rw [p_X5_film_A_68]))) R68) (by omega) _ _ hP hD hS ls (lv_sub hl [0, 1, 3, 4, 5, 6] rfl)
      exact loop_68 (pb - 0 + 1) 0 0 (fun _ => 0) fso fmi fpa fsz unm fsk (by omega) (rfl) (by omega) _ _ hP hD hS ls hl
    · skip
      have n_15 : ¬ (0 ≤ v2 ∧ v2 ≤ 60) := of_decide_eq_false (bz_eq rfl c_13)
      refine lv_bipush (v := -7) hx hb dX5_film_37 (by decide +kernel) ?_
      have q_50 : m_X5_film_A_qo jg fqo sn v1 v2 = fqo := by unfold m_X5_film_A_qo; rw [if_pos p_7, if_neg n_15]
      have q_51 : m_X5_film_A_ql jg pb fql sn v1 v2 = fql := by unfold m_X5_film_A_ql; rw [if_pos p_7, if_neg n_15]
      have q_52 : m_X5_film_A_rr jg pb fet fso fmi fpa fki fmo fsz frd fct fqo frr sn v1 v2 = frr := by unfold m_X5_film_A_rr; rw [if_pos p_7, if_neg n_15]
      have hz9 : gPD G A [zo5 h0 tt rd nw th kp sh tu him, zo0 nw tt n1 n2 n3 n4 n5 n6 n7 n8 (nI jg) (nI pb) (nI lw), zi G n2 4 fso, zi G n3 4 fmi, zi G n4 4 fpa, zi G n5 6 fki, zi G n6 6 fmo, zi G n7 6 fsz, zi G n8 6 frd, zo0 th tt t1 t2 t3 t4 t5 t6 t7 t8 tj tb tl, zi G t1 6 unm, zi G t2 4 uso, zi G t3 4 umi, zi G t4 4 upa, zi G t5 6 uki, zi G t6 6 umo, zi G t7 6 usz, zi G t8 6 urd, zo3 tt co en sk wr (nI tx), zr G co 6 fc, zr G en 6 fe, zi G ct 160 fct, zi G et 3 (nF fet), zi G sk 32 fsk, zo2 sh qn qo ql, zr G qn 4 fn, zi G qo 4 (m_X5_film_A_qo jg fqo sn v1 v2), zi G ql 4 (nF (m_X5_film_A_ql jg pb fql sn v1 v2)), zi G rr 40 (m_X5_film_A_rr jg pb fet fso fmi fpa fki fmo fsz frd fct fqo frr sn v1 v2)] H := ⟨by rw [q_50, q_51, q_52]; exact hP, by rw [q_50, q_51, q_52]; exact hD⟩
      have hP9 := hz9.1
      have hD9 := hz9.2
      have hpost : (fun (r : Int32) (u : Int32 × Int32 × Int32 × (Nat → Int32) × (Nat → Int32) × (Nat → Int32) × (Nat → Int32) × (Nat → Int32) × (Nat → Int32) × (Nat → Int32) × (Nat → Int32) × (Nat → Int32)) => match u with | (zj9, zb9, zl9, yt1, yt2, yt3, yt4, yt5, yt6, yt7, yt8, ysk) => r = m_X5_film_A jg pb fet fso fmi fpa fki fmo fsz frd fct fqo sn v1 v2) (-7) (tj, tb, tl, unm, uso, umi, upa, uki, umo, usz, urd, fsk) := (show m_X5_film_A jg pb fet fso fmi fpa fki fmo fsz frd fct fqo sn v1 v2 = (-7) from by unfold m_X5_film_A; rw [if_pos p_7, if_neg n_15]).symm
      exact W.iret (v := (-7)) hx hb hr (fun t ht hW => ⟨⟨(-7), (tj, tb, tl, unm, uso, umi, upa, uki, umo, usz, urd, fsk), rfl, hpost, by rw [ht]; exact hP9, va_K.moved hW.alike hK, hD9⟩, hS.F ht⟩) hS.2.2 dX5_film_39
  · skip
    have n_8 : (mHas jg v1) = false := bz_eq rfl c_6
    have n_8N : ¬ ((mHas jg v1) = true) := by rw [n_8]; decide
    refine lv_bipush (v := -5) hx hb dX5_film_25 (by decide +kernel) ?_
    have q_53 : m_X5_film_A_qo jg fqo sn v1 v2 = fqo := by unfold m_X5_film_A_qo; rw [if_neg n_8N]
    have q_54 : m_X5_film_A_ql jg pb fql sn v1 v2 = fql := by unfold m_X5_film_A_ql; rw [if_neg n_8N]
    have q_55 : m_X5_film_A_rr jg pb fet fso fmi fpa fki fmo fsz frd fct fqo frr sn v1 v2 = frr := by unfold m_X5_film_A_rr; rw [if_neg n_8N]
    have hz9 : gPD G A [zo5 h0 tt rd nw th kp sh tu him, zo0 nw tt n1 n2 n3 n4 n5 n6 n7 n8 (nI jg) (nI pb) (nI lw), zi G n2 4 fso, zi G n3 4 fmi, zi G n4 4 fpa, zi G n5 6 fki, zi G n6 6 fmo, zi G n7 6 fsz, zi G n8 6 frd, zo0 th tt t1 t2 t3 t4 t5 t6 t7 t8 tj tb tl, zi G t1 6 unm, zi G t2 4 uso, zi G t3 4 umi, zi G t4 4 upa, zi G t5 6 uki, zi G t6 6 umo, zi G t7 6 usz, zi G t8 6 urd, zo3 tt co en sk wr (nI tx), zr G co 6 fc, zr G en 6 fe, zi G ct 160 fct, zi G et 3 (nF fet), zi G sk 32 fsk, zo2 sh qn qo ql, zr G qn 4 fn, zi G qo 4 (m_X5_film_A_qo jg fqo sn v1 v2), zi G ql 4 (nF (m_X5_film_A_ql jg pb fql sn v1 v2)), zi G rr 40 (m_X5_film_A_rr jg pb fet fso fmi fpa fki fmo fsz frd fct fqo frr sn v1 v2)] H := ⟨by rw [q_53, q_54, q_55]; exact hP, by rw [q_53, q_54, q_55]; exact hD⟩
    have hP9 := hz9.1
    have hD9 := hz9.2
    have hpost : (fun (r : Int32) (u : Int32 × Int32 × Int32 × (Nat → Int32) × (Nat → Int32) × (Nat → Int32) × (Nat → Int32) × (Nat → Int32) × (Nat → Int32) × (Nat → Int32) × (Nat → Int32) × (Nat → Int32)) => match u with | (zj9, zb9, zl9, yt1, yt2, yt3, yt4, yt5, yt6, yt7, yt8, ysk) => r = m_X5_film_A jg pb fet fso fmi fpa fki fmo fsz frd fct fqo sn v1 v2) (-5) (tj, tb, tl, unm, uso, umi, upa, uki, umo, usz, urd, fsk) := (show m_X5_film_A jg pb fet fso fmi fpa fki fmo fsz frd fct fqo sn v1 v2 = (-5) from by unfold m_X5_film_A; rw [if_neg n_8N]).symm
    exact W.iret (v := (-5)) hx hb hr (fun t ht hW => ⟨⟨(-5), (tj, tb, tl, unm, uso, umi, upa, uki, umo, usz, urd, fsk), rfl, hpost, by rw [ht]; exact hP9, va_K.moved hW.alike hK, hD9⟩, hS.F ht⟩) hS.2.2 dX5_film_27
abbrev q_X5_film_B (G : gG) (E : gS) (h0 tt rd nw th kp sh tu qn qo ql : Nat) (him : Int32) (v0 : Int32) (v1 : Int32) (v2 : Int32) (A : Nat → Prop) : Array Value → State → Outcome → State → Prop := va_Qi (fun (r : Int32) (u : Unit) => match u with | _ => r = -2) (fun (u : Unit) t => match u with | _ => va_P G.1 vwCl [zo5 h0 tt rd nw th kp sh tu him, zo2 sh qn qo ql] t.heap ∧ gK G t ∧ va_D A [zo5 h0 tt rd nw th kp sh tu him, zo2 sh qn qo ql]) A
set_option maxHeartbeats 4000000 in
set_option maxRecDepth 100000 in
theorem c_X5_film_B (l : Launch) (G : gG) (E : gS) (h0 tt rd nw th kp sh tu qn qo ql : Nat) (him : Int32) (v0 : Int32) (v1 : Int32) (v2 : Int32) (sz : Nat) (hno : ¬ (0 ≤ v0 ∧ v0 ≤ 3)) : Met l yX5_film wsX5_film ({ frames := 2, cells := 0, slots := 0, locals := 42 }) (gPreE G E [.ref h0, .int v0, .int v1, .int v2] [zo5 h0 tt rd nw th kp sh tu him, zo2 sh qn qo ql] sz) (q_X5_film_B G E h0 tt rd nw th kp sh tu qn qo ql him v0 v1 v2 (va_A [zo5 h0 tt rd nw th kp sh tu him, zo2 sh qn qo ql] sz)) 0 0 (va_A [zo5 h0 tt rd nw th kp sh tu him, zo2 sh qn qo ql] sz) := by
  refine Met.ofW (cc := cX5_film) (maxL := 7) (ret := (some .int)) (by decide +kernel) rfl ?_
  intro p e s m args below meth c s₁ B hml hv
  obtain ⟨rfl, hsz, hP, hK, hD0, hE⟩ := hv
  have hx := B.exec
  have hb := B.bytes
  have hr := B.returns
  have hts := atoms_spec (ws := wsX5_film) B.pre
  have hown : s.vm.findClass RX5 = some m.cls := findClass_of_methodNamed B.named
  have hlocks := B.notSynchronized
  subst hsz
  have hD := hD0.self (sz := s.heap.size)
  generalize hAe : va_A [zo5 h0 tt rd nw th kp sh tu him, zo2 sh qn qo ql] s.heap.size = A at hD hE ⊢
  have hA : ∀ q : Nat, s.heap.size ≤ q → A q := fun q h => by rw [← hAe]; exact Or.inr h
  have hS : va_S A s.heap s.heap [] := va_S.rf
  have hz9 : gPD G A [zo5 h0 tt rd nw th kp sh tu him, zo2 sh qn qo ql] s.heap := ⟨hP, hD⟩
  have hP := hz9.1
  have hD := hz9.2
  have hl := lv_entry ([.ref h0, .int v0, .int v1, .int v2]) (n := 7) (Nat.le_of_ble_eq_true rfl)
  rw [lg_entry_eq]
  generalize (lg_sl ([.ref h0, .int v0, .int v1, .int v2]) ++ List.replicate (7 - (lg_sl ([.ref h0, .int v0, .int v1, .int v2])).length) Slot.unset).toArray = ls at hl ⊢
  have hl : lv_has ls 7 [zR 0 h0, zI 1 v0, zI 2 v1, zI 3 v2] := hl
  have kf41 := hts (.fieldLink RX5 41 "PebbleInShoe" "rows" "LPebbleInShoe$Sheets;") (by decide +kernel)
  have hiX5 := (by decide +kernel : ∀ w ∈ wsX50, w ∈ wsX5_film)
  refine g_aget (D := G.1) (ci := 5) (v := .ref sh) (C := RX5) (T := TX5) (N := 8) hx hb dX5_film_0 rfl (lv_at hl 0 rfl) hts hiX5 hown hK hP 0 rfl rfl 5 (by decide +kernel) kf41 (fun _ h9 => h9) rfl dX5_film_1 ?_
  refine lv_iload_n hx hb dX5_film_4 rfl (lv_at hl 1 rfl) ?_
  refine z_callp [1] (va_runV (As := [.int v0]) (rest := []) ⟨hx, hb, hml, hown, hts⟩ (c_X2_isSheet_g l G E sh qn qo ql v0 s.heap.size) (cwV 1 hts gX5_film_X2_isSheet rfl rfl rfl (by decide +kernel) ⟨Nat.le_of_ble_eq_true rfl, Nat.le_of_ble_eq_true rfl⟩) ⟨gPreE_blind, va_recv (q := (RX2, TX2, 3)) hK hP (ci := 2) (q0 := 1) rfl rfl, fun U hU hW => gPreE_ofF [1] hU hW hK hP hD (by decide +kernel) rfl hE hS hA⟩ rfl rfl hl.1 rfl (lv_room (Nat.le_of_ble_eq_true rfl)) dX5_film_5 ⟨Nat.le_of_ble_eq_true rfl, Nat.le_of_ble_eq_true rfl⟩) hS hD hA rfl (fun r_1 u t H locs ht hvm w_2 hB hz1 hk1 hFq hAq hS => ?_)
  obtain ⟨hP1, hK1, hD1⟩ := hB
  have w_2 : r_1 = bz (decide (0 ≤ v0 ∧ v0 ≤ 3)) := w_2
  have hP := zKeep hP hD [1] hAq hk1 ht hP1 rfl
  have w_2 : r_1 = 0 := w_2.trans (bz3_f hno)
  subst w_2
  refine lv_if_ne (tgt := 14) hx hb dX5_film_8 (by decide +kernel) (fun c_3 => ?_) (fun c_3 => ?_)
  · exact absurd (by decide +kernel) c_3
  refine lv_bipush (v := -2) hx hb dX5_film_11 (by decide +kernel) ?_
  have hpost : (fun (r : Int32) (u : Unit) => match u with | _ => r = -2) (-2) () := rfl
  exact W.iret (v := (-2)) hx hb hr (fun t ht hW => ⟨⟨(-2), (), rfl, hpost, by rw [ht]; exact hP, va_K.moved hW.alike hK, hD⟩, hS.F ht⟩) hS.2.2 dX5_film_13
abbrev q_X5_commonDivisor (G : gG) (sa : Nat) (sb : Nat) (A : Nat → Prop) : Array Value → State → Outcome → State → Prop := va_Qi (fun (r : Int32) (u : Unit) => match u with | _ => r = nI (Nat.gcd sa sb)) (fun (u : Unit) t => match u with | _ => va_P G.1 vwCl [] t.heap ∧ gK G t ∧ va_D A []) A
set_option maxHeartbeats 4000000 in
set_option maxRecDepth 100000 in
theorem c_X5_commonDivisor (l : Launch) (G : gG) (sa : Nat) (sb : Nat) (sz : Nat) (hsa : sa ≤ 40) (hsb : 1 ≤ sb ∧ sb ≤ 40) : Met l yX5_commonDivisor wsX5_commonDivisor ({ frames := 1, cells := 0, slots := 0, locals := 60 }) (gPre G [.int (nI sa), .int (nI sb)] [] sz) (q_X5_commonDivisor G sa sb (va_A [] sz)) 0 0 (va_A [] sz) := by
  refine Met.ofW (cc := cX5_commonDivisor) (maxL := 6) (ret := (some .int)) (by decide +kernel) rfl ?_
  intro p e s m args below meth c s₁ B hml hv
  obtain ⟨rfl, hsz, hP, hK, hD0⟩ := hv
  have hx := B.exec
  have hb := B.bytes
  have hr := B.returns
  have hts := atoms_spec (ws := wsX5_commonDivisor) B.pre
  have hown : s.vm.findClass RX5 = some m.cls := findClass_of_methodNamed B.named
  have hlocks := B.notSynchronized
  subst hsz
  have hD := hD0.self (sz := s.heap.size)
  generalize hAe : va_A [] s.heap.size = A at hD ⊢
  have hA : ∀ q : Nat, s.heap.size ≤ q → A q := fun q h => by rw [← hAe]; exact Or.inr h
  have hS : va_S A s.heap s.heap [] := va_S.rf
  have hz9 : gPD G A [] s.heap := ⟨hP, hD⟩
  have hP := hz9.1
  have hD := hz9.2
  have hl := lv_entry ([.int (nI sa), .int (nI sb)]) (n := 6) (Nat.le_of_ble_eq_true rfl)
  rw [lg_entry_eq]
  generalize (lg_sl ([.int (nI sa), .int (nI sb)]) ++ List.replicate (6 - (lg_sl ([.int (nI sa), .int (nI sb)])).length) Slot.unset).toArray = ls at hl ⊢
  have hl : lv_has ls 6 [zI 0 (nI sa), zI 1 (nI sb)] := hl
  refine lv_iload_n hx hb dX5_commonDivisor_0 rfl (lv_at hl 0 rfl) ?_
  refine lv_istore_n (lv' := [zI 2 (nI sa), zI 0 (nI sa), zI 1 (nI sb)]) hx hb dX5_commonDivisor_1 rfl hl (by decide +kernel) rfl (fun ls hl => ?_)
  refine lv_iload_n hx hb dX5_commonDivisor_2 rfl (lv_at hl 2 rfl) ?_
  refine lv_istore_n (lv' := [zI 3 (nI sb), zI 2 (nI sa), zI 0 (nI sa), zI 1 (nI sb)]) hx hb dX5_commonDivisor_3 rfl hl (by decide +kernel) rfl (fun ls hl => ?_)
  refine lv_iconst (v := 0) hx hb dX5_commonDivisor_4 (by decide +kernel) ?_
  refine lv_istore (lv' := [zI 4 0, zI 3 (nI sb), zI 2 (nI sa), zI 0 (nI sa), zI 1 (nI sb)]) hx hb dX5_commonDivisor_5 hl (by decide +kernel) rfl (fun ls hl => ?_)
  have loop_7 : ∀ (n9 : Nat) (a9 : Nat) (b9 : Nat) (c9 : Nat), (0 < a9 + b9 ∧ a9 ≤ 40) → (b9 ≤ 40) → (Nat.gcd a9 b9 = Nat.gcd sa sb) → (c9 + b9 ≤ 64 ∧ (b9 = 0 → 0 < a9)) → (b9 + 64 - c9) < n9 → ∀ (H : Heap) (locs : List Loc), va_P G.1 vwCl [] H → va_D A [] → va_S A s.heap H locs → ∀ ls : Array Slot, lv_has ls 6 [zI 4 (nI c9), zI 2 (nI a9), zI 3 (nI b9), zI 0 (nI sa), zI 1 (nI sb)] → W p l e (headSpec wsX5_commonDivisor ({ frames := 1, cells := 0, slots := 0, locals := 60 })).room s m ([.int (nI sa), .int (nI sb)] : List Value).toArray below meth c H locs 0 0 (MQ below (q_X5_commonDivisor G sa sb A) ([.int (nI sa), .int (nI sb)] : List Value).toArray s 0 0 A) (F0 m 7 ls []) := by
    intro n9
    induction n9 with
    | zero => intro a9 b9 c9 ha9 hb9 hg9 hc9 hm9; exact absurd hm9 (Nat.not_lt_zero _)
    | succ n9 ih9 =>
      intro a9 b9 c9 ha9 hb9 hg9 hc9 hm9 H locs hP hD hS ls hl
      refine lv_iload hx hb dX5_commonDivisor_7 (lv_at hl 0 rfl) ?_
      refine lv_bipush (v := 64) hx hb dX5_commonDivisor_9 (by decide +kernel) ?_
      refine lv_icmp_ge (tgt := 34) hx hb dX5_commonDivisor_11 (by decide +kernel) (fun c_1 => ?_) (fun c_1 => ?_)
      · skip
        have c_1N : 64 ≤ c9 := nI_le1 (a := 64) (b := c9) (by omega) (by omega) c_1
        have hb0 : b9 = 0 := by omega
        have hgg : a9 = Nat.gcd sa sb := by rw [← hg9, hb0, Nat.gcd_zero_right]
        refine lv_iconst (v := 1) hx hb dX5_commonDivisor_34 (by decide +kernel) ?_
        refine lv_iload_n hx hb dX5_commonDivisor_35 rfl (lv_at hl 1 rfl) ?_
        refine va_mmax hx hb (by rw [hml]; exact hl.1.symm) hown (hts (.methodLink RX5 259 Lib.Math.max.name) (by decide +kernel)) (hts (.static Lib.Math.max.name) (by decide +kernel)) (hts (.initialized "java/lang/Math") (by decide +kernel)) (hts (.code Lib.Math.max.name Lib.Math.max.code 2 (some .int)) (by decide +kernel)) (Nat.le_of_ble_eq_true rfl) (Nat.le_of_ble_eq_true rfl) (Nat.le_of_ble_eq_true rfl) (Nat.le_of_ble_eq_true rfl) dX5_commonDivisor_36 ?_
        refine g_topi (y := mMax 1 (nI a9)) rfl ?_
        have hpost : (fun (r : Int32) (u : Unit) => match u with | _ => r = nI (Nat.gcd sa sb)) (mMax 1 (nI a9)) () := by show mMax 1 (nI a9) = nI (Nat.gcd sa sb); rw [← hgg]; exact mMax_1 (by omega) (by omega)
        exact W.iret (v := (mMax 1 (nI a9))) hx hb hr (fun t ht hW => ⟨⟨(mMax 1 (nI a9)), (), rfl, hpost, by rw [ht]; exact hP, va_K.moved hW.alike hK, hD⟩, hS.F ht⟩) hS.2.2 dX5_commonDivisor_39
      · skip
        have c_1N : c9 < 64 := nI_le0 (a := 64) (b := c9) (by omega) (by omega) c_1
        refine lv_iload_n hx hb dX5_commonDivisor_14 rfl (lv_at hl 2 rfl) ?_
        refine lv_if_eq (tgt := 34) hx hb dX5_commonDivisor_15 (by decide +kernel) (fun c_3 => ?_) (fun c_3 => ?_)
        · skip
          have c_3N : b9 = 0 := nI_eq1 (a := b9) (b := 0) (by omega) (by omega) c_3
          have hb0 : b9 = 0 := by omega
          have hgg : a9 = Nat.gcd sa sb := by rw [← hg9, hb0, Nat.gcd_zero_right]
          refine lv_iconst (v := 1) hx hb dX5_commonDivisor_34 (by decide +kernel) ?_
          refine lv_iload_n hx hb dX5_commonDivisor_35 rfl (lv_at hl 1 rfl) ?_
          refine va_mmax hx hb (by rw [hml]; exact hl.1.symm) hown (hts (.methodLink RX5 259 Lib.Math.max.name) (by decide +kernel)) (hts (.static Lib.Math.max.name) (by decide +kernel)) (hts (.initialized "java/lang/Math") (by decide +kernel)) (hts (.code Lib.Math.max.name Lib.Math.max.code 2 (some .int)) (by decide +kernel)) (Nat.le_of_ble_eq_true rfl) (Nat.le_of_ble_eq_true rfl) (Nat.le_of_ble_eq_true rfl) (Nat.le_of_ble_eq_true rfl) dX5_commonDivisor_36 ?_
          refine g_topi (y := mMax 1 (nI a9)) rfl ?_
          have hpost : (fun (r : Int32) (u : Unit) => match u with | _ => r = nI (Nat.gcd sa sb)) (mMax 1 (nI a9)) () := by show mMax 1 (nI a9) = nI (Nat.gcd sa sb); rw [← hgg]; exact mMax_1 (by omega) (by omega)
          exact W.iret (v := (mMax 1 (nI a9))) hx hb hr (fun t ht hW => ⟨⟨(mMax 1 (nI a9)), (), rfl, hpost, by rw [ht]; exact hP, va_K.moved hW.alike hK, hD⟩, hS.F ht⟩) hS.2.2 dX5_commonDivisor_39
        · skip
          have c_3N : ¬ b9 = 0 := nI_eq0 (a := b9) (b := 0) (by omega) (by omega) c_3
          refine lv_iload_n hx hb dX5_commonDivisor_18 rfl (lv_at hl 1 rfl) ?_
          refine lv_iload_n hx hb dX5_commonDivisor_19 rfl (lv_at hl 2 rfl) ?_
          refine lv_irem hx hb dX5_commonDivisor_20 (nI_ne0 (by omega) (by omega)) ?_
          refine g_topi (y := nI (a9 % b9)) (nI_rem (a := a9) (d := b9) (by omega) (by omega) (by omega)) ?_
          have hmd : a9 % b9 < b9 := Nat.mod_lt _ (by omega)
          refine lv_istore (lv' := [zI 5 (nI (a9 % b9)), zI 4 (nI c9), zI 2 (nI a9), zI 3 (nI b9), zI 0 (nI sa), zI 1 (nI sb)]) hx hb dX5_commonDivisor_21 hl (by decide +kernel) rfl (fun ls hl => ?_)
          refine lv_iload_n hx hb dX5_commonDivisor_23 rfl (lv_at hl 3 rfl) ?_
          refine lv_istore_n (lv' := [zI 2 (nI b9), zI 5 (nI (a9 % b9)), zI 4 (nI c9), zI 3 (nI b9), zI 0 (nI sa), zI 1 (nI sb)]) hx hb dX5_commonDivisor_24 rfl hl (by decide +kernel) rfl (fun ls hl => ?_)
          refine lv_iload hx hb dX5_commonDivisor_25 (lv_at hl 1 rfl) ?_
          refine lv_istore_n (lv' := [zI 3 (nI (a9 % b9)), zI 2 (nI b9), zI 5 (nI (a9 % b9)), zI 4 (nI c9), zI 0 (nI sa), zI 1 (nI sb)]) hx hb dX5_commonDivisor_27 rfl hl (by decide +kernel) rfl (fun ls hl => ?_)
          refine lv_iinc (v := nI (c9 + 1)) (lv' := [zI 4 (nI (c9 + 1)), zI 3 (nI (a9 % b9)), zI 2 (nI b9), zI 5 (nI (a9 % b9)), zI 0 (nI sa), zI 1 (nI sb)]) hx hb dX5_commonDivisor_28 hl (k := 3) rfl (nI_add c9 1) (by decide +kernel) rfl (fun ls hl => ?_)
          refine lv_goto (tgt := 7) hx hb dX5_commonDivisor_31 (by decide +kernel) ?_
          exact ih9 b9 (a9 % b9) (c9 + 1) (⟨by omega, hb9⟩) (by omega) (by rw [← hg9, gcd_step]) (⟨by omega, by omega⟩) (by omega) _ _ hP hD hS ls (lv_sub hl [0, 2, 1, 4, 5] rfl)
  exact loop_7 (sb + 65) sa sb 0 (⟨by omega, hsa⟩) (hsb.2) (rfl) (⟨by omega, by omega⟩) (by omega) _ _ hP hD hS ls (lv_sub hl [0, 2, 1, 3, 4] rfl)
noncomputable def p_X5_odds_64 (fet : Nat → Nat) (fso : Nat → Int32) (fmi : Nat → Int32) (fpa : Nat → Int32) (fki : Nat → Int32) (fmo : Nat → Int32) (fsz : Nat → Int32) (frd : Nat → Int32) (fct : Nat → Int32) (v0 : Int32) (v2 : Int32) (v3 : Int32) (v4 : Int32) : Nat → Nat → Nat → Nat × Nat
  | 0, k64, gu => (k64, gu)
  | q9 + 1, k64, gu => p_X5_odds_64 fet fso fmi fpa fki fmo fsz frd fct v0 v2 v3 v4 q9 (k64 + 1) (gu + nC (m_X0_verdict (nC v2) (nC v3) (m_X0_goByLots_n2 (nC v2) (nC v3) (nC v4) fso fmi fpa fki fmo fsz frd fct fet (nI ((nC v0) + k64))) (m_X0_goByLots_n3 (nC v2) (nC v3) (nC v4) fso fmi fpa fki fmo fsz frd fct fet (nI ((nC v0) + k64))) fmo (m_X0_goByLots_n7 (nC v2) (nC v3) (nC v4) fso fmi fpa fki fmo fsz frd fct fet (nI ((nC v0) + k64))) frd fct fet (m_X0_goByLots (nC v2) (nC v3) (nC v4) fso fmi fpa fki fmo fsz frd fct fet (nI ((nC v0) + k64)))))
noncomputable def g_X5_odds_64 (fet : Nat → Nat) (fso : Nat → Int32) (fmi : Nat → Int32) (fpa : Nat → Int32) (fki : Nat → Int32) (fmo : Nat → Int32) (fsz : Nat → Int32) (frd : Nat → Int32) (fct : Nat → Int32) (v0 : Int32) (v1 : Int32) (v2 : Int32) (v3 : Int32) (v4 : Int32) : Nat × Nat := p_X5_odds_64 fet fso fmi fpa fki fmo fsz frd fct v0 v2 v3 v4 (nC v1 - 0) 0 0
noncomputable def m_X5_odds (jg : Nat) (pb : Nat) (fet : Nat → Nat) (fso : Nat → Int32) (fmi : Nat → Int32) (fpa : Nat → Int32) (fki : Nat → Int32) (fmo : Nat → Int32) (fsz : Nat → Int32) (frd : Nat → Int32) (fct : Nat → Int32) (v0 : Int32) (v1 : Int32) (v2 : Int32) (v3 : Int32) (v4 : Int32) (v5 : Int32) : Int64 := if 0 ≤ v0 ∧ v0 ≤ 99999 then (if v1 < 1 then -4611686018427387904 else (if 40 < (nI (nC v1)) then -4611686018427387904 else (if 0 ≤ v5 ∧ v5 ≤ 1 then (if (mBoth jg pb v2 v3) = true then (if (mMil v4) = true then (if (nI (nC v5)) = 0 then lN ((g_X5_odds_64 fet fso fmi fpa fki fmo fsz frd fct v0 v1 v2 v3 v4).2 / (Nat.gcd ((g_X5_odds_64 fet fso fmi fpa fki fmo fsz frd fct v0 v1 v2 v3 v4).2) (nC v1))) else lN ((nC v1) / (Nat.gcd ((g_X5_odds_64 fet fso fmi fpa fki fmo fsz frd fct v0 v1 v2 v3 v4).2) (nC v1)))) else -4611686018427387904) else -4611686018427387904) else -4611686018427387904))) else -4611686018427387904
abbrev q_X5_odds (G : gG) (h0 tt rd nw th kp sh tu n1 n2 n3 n4 n5 n6 n7 n8 t1 t2 t3 t4 t5 t6 t7 t8 co en sk ct et : Nat) (jg : Nat) (pb : Nat) (lw : Nat) (tx : Nat) (him : Int32) (wr : Int32) (tj : Int32) (tb : Int32) (tl : Int32) (fc : Nat → Option Nat) (fe : Nat → Option Nat) (fet : Nat → Nat) (fso : Nat → Int32) (fmi : Nat → Int32) (fpa : Nat → Int32) (fki : Nat → Int32) (fmo : Nat → Int32) (fsz : Nat → Int32) (frd : Nat → Int32) (unm : Nat → Int32) (uso : Nat → Int32) (umi : Nat → Int32) (upa : Nat → Int32) (uki : Nat → Int32) (umo : Nat → Int32) (usz : Nat → Int32) (urd : Nat → Int32) (fct : Nat → Int32) (fsk : Nat → Int32) (v0 : Int32) (v1 : Int32) (v2 : Int32) (v3 : Int32) (v4 : Int32) (v5 : Int32) (A : Nat → Prop) : Array Value → State → Outcome → State → Prop := va_Ql (fun (r : Int64) (u : Int32 × Int32 × Int32 × (Nat → Int32) × (Nat → Int32) × (Nat → Int32) × (Nat → Int32) × (Nat → Int32) × (Nat → Int32) × (Nat → Int32) × (Nat → Int32) × (Nat → Int32)) => match u with | (zj9, zb9, zl9, yt1, yt2, yt3, yt4, yt5, yt6, yt7, yt8, ysk) => r = m_X5_odds jg pb fet fso fmi fpa fki fmo fsz frd fct v0 v1 v2 v3 v4 v5) (fun (u : Int32 × Int32 × Int32 × (Nat → Int32) × (Nat → Int32) × (Nat → Int32) × (Nat → Int32) × (Nat → Int32) × (Nat → Int32) × (Nat → Int32) × (Nat → Int32) × (Nat → Int32)) t => match u with | (zj9, zb9, zl9, yt1, yt2, yt3, yt4, yt5, yt6, yt7, yt8, ysk) => va_P G.1 vwCl [zo5 h0 tt rd nw th kp sh tu him, zo0 nw tt n1 n2 n3 n4 n5 n6 n7 n8 (nI jg) (nI pb) (nI lw), zi G n2 4 fso, zi G n3 4 fmi, zi G n4 4 fpa, zi G n5 6 fki, zi G n6 6 fmo, zi G n7 6 fsz, zi G n8 6 frd, zo0 th tt t1 t2 t3 t4 t5 t6 t7 t8 zj9 zb9 zl9, zi G t1 6 yt1, zi G t2 4 yt2, zi G t3 4 yt3, zi G t4 4 yt4, zi G t5 6 yt5, zi G t6 6 yt6, zi G t7 6 yt7, zi G t8 6 yt8, zo3 tt co en sk wr (nI tx), zr G co 6 fc, zr G en 6 fe, zi G ct 160 fct, zi G et 3 (nF fet), zi G sk 32 ysk] t.heap ∧ gK G t ∧ va_D A [zo5 h0 tt rd nw th kp sh tu him, zo0 nw tt n1 n2 n3 n4 n5 n6 n7 n8 (nI jg) (nI pb) (nI lw), zi G n2 4 fso, zi G n3 4 fmi, zi G n4 4 fpa, zi G n5 6 fki, zi G n6 6 fmo, zi G n7 6 fsz, zi G n8 6 frd, zo0 th tt t1 t2 t3 t4 t5 t6 t7 t8 zj9 zb9 zl9, zi G t1 6 yt1, zi G t2 4 yt2, zi G t3 4 yt3, zi G t4 4 yt4, zi G t5 6 yt5, zi G t6 6 yt6, zi G t7 6 yt7, zi G t8 6 yt8, zo3 tt co en sk wr (nI tx), zr G co 6 fc, zr G en 6 fe, zi G ct 160 fct, zi G et 3 (nF fet), zi G sk 32 ysk]) A
set_option maxHeartbeats 4000000 in
set_option maxRecDepth 100000 in
theorem c_X5_odds (l : Launch) (G : gG) (h0 tt rd nw th kp sh tu n1 n2 n3 n4 n5 n6 n7 n8 t1 t2 t3 t4 t5 t6 t7 t8 co en sk ct et : Nat) (jg : Nat) (pb : Nat) (lw : Nat) (tx : Nat) (him : Int32) (wr : Int32) (tj : Int32) (tb : Int32) (tl : Int32) (fc : Nat → Option Nat) (fe : Nat → Option Nat) (fet : Nat → Nat) (fso : Nat → Int32) (fmi : Nat → Int32) (fpa : Nat → Int32) (fki : Nat → Int32) (fmo : Nat → Int32) (fsz : Nat → Int32) (frd : Nat → Int32) (unm : Nat → Int32) (uso : Nat → Int32) (umi : Nat → Int32) (upa : Nat → Int32) (uki : Nat → Int32) (umo : Nat → Int32) (usz : Nat → Int32) (urd : Nat → Int32) (fct : Nat → Int32) (fsk : Nat → Int32) (v0 : Int32) (v1 : Int32) (v2 : Int32) (v3 : Int32) (v4 : Int32) (v5 : Int32) (sz : Nat) (htn : lw < tx ∧ tx ≤ 6) (hc : fc lw = some ct) (he : fe lw = some et) (hwx : mWx fct fet) (hjg : jg ≤ 4) (hpb : pb ≤ 6) : Met l yX5_odds wsX5_odds ({ frames := 5, cells := 0, slots := 0, locals := 441 }) (gPre G [.ref h0, .int v0, .int v1, .int v2, .int v3, .int v4, .int v5] [zo5 h0 tt rd nw th kp sh tu him, zo0 nw tt n1 n2 n3 n4 n5 n6 n7 n8 (nI jg) (nI pb) (nI lw), zi G n2 4 fso, zi G n3 4 fmi, zi G n4 4 fpa, zi G n5 6 fki, zi G n6 6 fmo, zi G n7 6 fsz, zi G n8 6 frd, zo0 th tt t1 t2 t3 t4 t5 t6 t7 t8 tj tb tl, zi G t1 6 unm, zi G t2 4 uso, zi G t3 4 umi, zi G t4 4 upa, zi G t5 6 uki, zi G t6 6 umo, zi G t7 6 usz, zi G t8 6 urd, zo3 tt co en sk wr (nI tx), zr G co 6 fc, zr G en 6 fe, zi G ct 160 fct, zi G et 3 (nF fet), zi G sk 32 fsk] sz) (q_X5_odds G h0 tt rd nw th kp sh tu n1 n2 n3 n4 n5 n6 n7 n8 t1 t2 t3 t4 t5 t6 t7 t8 co en sk ct et jg pb lw tx him wr tj tb tl fc fe fet fso fmi fpa fki fmo fsz frd unm uso umi upa uki umo usz urd fct fsk v0 v1 v2 v3 v4 v5 (va_A [zo5 h0 tt rd nw th kp sh tu him, zo0 nw tt n1 n2 n3 n4 n5 n6 n7 n8 (nI jg) (nI pb) (nI lw), zi G n2 4 fso, zi G n3 4 fmi, zi G n4 4 fpa, zi G n5 6 fki, zi G n6 6 fmo, zi G n7 6 fsz, zi G n8 6 frd, zo0 th tt t1 t2 t3 t4 t5 t6 t7 t8 tj tb tl, zi G t1 6 unm, zi G t2 4 uso, zi G t3 4 umi, zi G t4 4 upa, zi G t5 6 uki, zi G t6 6 umo, zi G t7 6 usz, zi G t8 6 urd, zo3 tt co en sk wr (nI tx), zr G co 6 fc, zr G en 6 fe, zi G ct 160 fct, zi G et 3 (nF fet), zi G sk 32 fsk] sz)) 0 0 (va_A [zo5 h0 tt rd nw th kp sh tu him, zo0 nw tt n1 n2 n3 n4 n5 n6 n7 n8 (nI jg) (nI pb) (nI lw), zi G n2 4 fso, zi G n3 4 fmi, zi G n4 4 fpa, zi G n5 6 fki, zi G n6 6 fmo, zi G n7 6 fsz, zi G n8 6 frd, zo0 th tt t1 t2 t3 t4 t5 t6 t7 t8 tj tb tl, zi G t1 6 unm, zi G t2 4 uso, zi G t3 4 umi, zi G t4 4 upa, zi G t5 6 uki, zi G t6 6 umo, zi G t7 6 usz, zi G t8 6 urd, zo3 tt co en sk wr (nI tx), zr G co 6 fc, zr G en 6 fe, zi G ct 160 fct, zi G et 3 (nF fet), zi G sk 32 fsk] sz) := by
  refine Met.ofW (cc := cX5_odds) (maxL := 9) (ret := (some .long)) (by decide +kernel) rfl ?_
  intro p e s m args below meth c s₁ B hml hv
  obtain ⟨rfl, hsz, hP, hK, hD0⟩ := hv
  have hx := B.exec
  have hb := B.bytes
  have hr := B.returns
  have hts := atoms_spec (ws := wsX5_odds) B.pre
  have hown : s.vm.findClass RX5 = some m.cls := findClass_of_methodNamed B.named
  have hlocks := B.notSynchronized
  subst hsz
  have hD := hD0.self (sz := s.heap.size)
  generalize hAe : va_A [zo5 h0 tt rd nw th kp sh tu him, zo0 nw tt n1 n2 n3 n4 n5 n6 n7 n8 (nI jg) (nI pb) (nI lw), zi G n2 4 fso, zi G n3 4 fmi, zi G n4 4 fpa, zi G n5 6 fki, zi G n6 6 fmo, zi G n7 6 fsz, zi G n8 6 frd, zo0 th tt t1 t2 t3 t4 t5 t6 t7 t8 tj tb tl, zi G t1 6 unm, zi G t2 4 uso, zi G t3 4 umi, zi G t4 4 upa, zi G t5 6 uki, zi G t6 6 umo, zi G t7 6 usz, zi G t8 6 urd, zo3 tt co en sk wr (nI tx), zr G co 6 fc, zr G en 6 fe, zi G ct 160 fct, zi G et 3 (nF fet), zi G sk 32 fsk] s.heap.size = A at hD ⊢
  have hA : ∀ q : Nat, s.heap.size ≤ q → A q := fun q h => by rw [← hAe]; exact Or.inr h
  have hS : va_S A s.heap s.heap [] := va_S.rf
  have hz9 : gPD G A [zo5 h0 tt rd nw th kp sh tu him, zo0 nw tt n1 n2 n3 n4 n5 n6 n7 n8 (nI jg) (nI pb) (nI lw), zi G n2 4 fso, zi G n3 4 fmi, zi G n4 4 fpa, zi G n5 6 fki, zi G n6 6 fmo, zi G n7 6 fsz, zi G n8 6 frd, zo0 th tt t1 t2 t3 t4 t5 t6 t7 t8 tj tb tl, zi G t1 6 unm, zi G t2 4 uso, zi G t3 4 umi, zi G t4 4 upa, zi G t5 6 uki, zi G t6 6 umo, zi G t7 6 usz, zi G t8 6 urd, zo3 tt co en sk wr (nI tx), zr G co 6 fc, zr G en 6 fe, zi G ct 160 fct, zi G et 3 (nF fet), zi G sk 32 fsk] s.heap := ⟨hP, hD⟩
  have hP := hz9.1
  have hD := hz9.2
  have hl := lv_entry ([.ref h0, .int v0, .int v1, .int v2, .int v3, .int v4, .int v5]) (n := 9) (Nat.le_of_ble_eq_true rfl)
  rw [lg_entry_eq]
  generalize (lg_sl ([.ref h0, .int v0, .int v1, .int v2, .int v3, .int v4, .int v5]) ++ List.replicate (9 - (lg_sl ([.ref h0, .int v0, .int v1, .int v2, .int v3, .int v4, .int v5])).length) Slot.unset).toArray = ls at hl ⊢
  have hl : lv_has ls 9 [zR 0 h0, zI 1 v0, zI 2 v1, zI 3 v2, zI 4 v3, zI 5 v4, zI 6 v5] := hl
  have kf28 := hts (.fieldLink RX5 28 "PebbleInShoe" "now" "LPebbleInShoe$Court;") (by decide +kernel)
  have hiX5 := (by decide +kernel : ∀ w ∈ wsX50, w ∈ wsX5_odds)
  have kf32 := hts (.fieldLink RX5 32 "PebbleInShoe" "thought" "LPebbleInShoe$Court;") (by decide +kernel)
  refine lv_iload_n hx hb dX5_odds_0 rfl (lv_at hl 1 rfl) ?_
  refine lv_ldc hx hb hown (hts (.constant RX5 206 (99999)) (by decide +kernel)) dX5_odds_1 ?_
  refine z_calli [] (v := bz (decide (0 ≤ v0 ∧ v0 ≤ 99999))) (fun _ _ h => h) (va_runS (As := [.int v0, .int 99999]) (rest := []) ⟨hx, hb, hml, hown, hts⟩ (c_X5_within_g l G v0 99999 s.heap.size) (va_cwS 2 hts gX5_odds_X5_within rfl rfl rfl (by decide +kernel) ⟨Nat.le_of_ble_eq_true rfl, Nat.le_of_ble_eq_true rfl⟩) ⟨gPre_blind, fun U hU hW => gPre_ofF [] hU hW hK hP hD (by decide +kernel) rfl⟩ rfl rfl hl.1 rfl (lv_room (Nat.le_of_ble_eq_true rfl)) dX5_odds_3 ⟨Nat.le_of_ble_eq_true rfl, Nat.le_of_ble_eq_true rfl⟩) hS hD hA rfl (fun u t H locs ht hvm hB hz1 hk1 hFq hAq hS => ?_)
  obtain ⟨hP1, hK1, hD1⟩ := hB
  have hP := zKeep hP hD [] hAq hk1 ht hP1 rfl
  refine lv_if_eq (tgt := 29) hx hb dX5_odds_6 (by decide +kernel) (fun c_3 => ?_) (fun c_3 => ?_)
  · skip
    have n_5 : ¬ (0 ≤ v0 ∧ v0 ≤ 99999) := of_decide_eq_false (bz_eq rfl c_3)
    refine lv_ldc2 hx hb hown (hts (.constantLong RX5 213 (-4611686018427387904)) (by decide +kernel)) dX5_odds_29 ?_
    have hpost : (fun (r : Int64) (u : Int32 × Int32 × Int32 × (Nat → Int32) × (Nat → Int32) × (Nat → Int32) × (Nat → Int32) × (Nat → Int32) × (Nat → Int32) × (Nat → Int32) × (Nat → Int32) × (Nat → Int32)) => match u with | (zj9, zb9, zl9, yt1, yt2, yt3, yt4, yt5, yt6, yt7, yt8, ysk) => r = m_X5_odds jg pb fet fso fmi fpa fki fmo fsz frd fct v0 v1 v2 v3 v4 v5) (-4611686018427387904) (tj, tb, tl, unm, uso, umi, upa, uki, umo, usz, urd, fsk) := (show m_X5_odds jg pb fet fso fmi fpa fki fmo fsz frd fct v0 v1 v2 v3 v4 v5 = (-4611686018427387904) from by unfold m_X5_odds; rw [if_neg n_5]).symm
    exact W.lret (v := (-4611686018427387904)) hx hb hr (fun t ht hW => ⟨⟨(-4611686018427387904), (tj, tb, tl, unm, uso, umi, upa, uki, umo, usz, urd, fsk), rfl, hpost, by rw [ht]; exact hP, va_K.moved hW.alike hK, hD⟩, hS.F ht⟩) hS.2.2 dX5_odds_32
  · skip
    have p_4 : 0 ≤ v0 ∧ v0 ≤ 99999 := of_decide_eq_true (bz_ne rfl c_3)
    have hv_6 : v0 = nI (nC v0) := nC_eq p_4.1
    have hk_7 : nC v0 ≤ 99999 := nC_le (n := 99999) (by omega) p_4
    refine lv_iload_n hx hb dX5_odds_9 rfl (lv_at hl 2 rfl) ?_
    refine lv_iconst (v := 1) hx hb dX5_odds_10 (by decide +kernel) ?_
    refine lv_icmp_lt (tgt := 29) hx hb dX5_odds_11 (by decide +kernel) (fun c_8 => ?_) (fun c_8 => ?_)
    · skip
      refine lv_ldc2 hx hb hown (hts (.constantLong RX5 213 (-4611686018427387904)) (by decide +kernel)) dX5_odds_29 ?_
      have hpost : (fun (r : Int64) (u : Int32 × Int32 × Int32 × (Nat → Int32) × (Nat → Int32) × (Nat → Int32) × (Nat → Int32) × (Nat → Int32) × (Nat → Int32) × (Nat → Int32) × (Nat → Int32) × (Nat → Int32)) => match u with | (zj9, zb9, zl9, yt1, yt2, yt3, yt4, yt5, yt6, yt7, yt8, ysk) => r = m_X5_odds jg pb fet fso fmi fpa fki fmo fsz frd fct v0 v1 v2 v3 v4 v5) (-4611686018427387904) (tj, tb, tl, unm, uso, umi, upa, uki, umo, usz, urd, fsk) := (show m_X5_odds jg pb fet fso fmi fpa fki fmo fsz frd fct v0 v1 v2 v3 v4 v5 = (-4611686018427387904) from by unfold m_X5_odds; rw [if_pos p_4, if_pos c_8]).symm
      exact W.lret (v := (-4611686018427387904)) hx hb hr (fun t ht hW => ⟨⟨(-4611686018427387904), (tj, tb, tl, unm, uso, umi, upa, uki, umo, usz, urd, fsk), rfl, hpost, by rw [ht]; exact hP, va_K.moved hW.alike hK, hD⟩, hS.F ht⟩) hS.2.2 dX5_odds_32
    · skip
      have hk_10 : 1 ≤ nC v1 := nC_1n (Int32.not_lt.mp c_8)
      have hv_9 : v1 = nI (nC v1) := nC_eq (nC_1 (Int32.not_lt.mp c_8))
      have hk_11 : nC v1 < 2 ^ 31 := nC_31 _
      refine lv_iload_n hx hb dX5_odds_14 rfl (lv_at hl 2 rfl) ?_
      refine g_topi (y := nI (nC v1)) hv_9 ?_
      refine lv_bipush (v := 40) hx hb dX5_odds_15 (by decide +kernel) ?_
      refine lv_icmp_gt (tgt := 29) hx hb dX5_odds_17 (by decide +kernel) (fun c_13 => ?_) (fun c_13 => ?_)
      · skip
        have c_13N : 40 < (nC v1) := nI_lt1 (a := 40) (b := (nC v1)) (by omega) (by omega) c_13
        refine lv_ldc2 hx hb hown (hts (.constantLong RX5 213 (-4611686018427387904)) (by decide +kernel)) dX5_odds_29 ?_
        have hpost : (fun (r : Int64) (u : Int32 × Int32 × Int32 × (Nat → Int32) × (Nat → Int32) × (Nat → Int32) × (Nat → Int32) × (Nat → Int32) × (Nat → Int32) × (Nat → Int32) × (Nat → Int32) × (Nat → Int32)) => match u with | (zj9, zb9, zl9, yt1, yt2, yt3, yt4, yt5, yt6, yt7, yt8, ysk) => r = m_X5_odds jg pb fet fso fmi fpa fki fmo fsz frd fct v0 v1 v2 v3 v4 v5) (-4611686018427387904) (tj, tb, tl, unm, uso, umi, upa, uki, umo, usz, urd, fsk) := (show m_X5_odds jg pb fet fso fmi fpa fki fmo fsz frd fct v0 v1 v2 v3 v4 v5 = (-4611686018427387904) from by unfold m_X5_odds; rw [if_pos p_4, if_neg c_8, if_pos c_13]).symm
        exact W.lret (v := (-4611686018427387904)) hx hb hr (fun t ht hW => ⟨⟨(-4611686018427387904), (tj, tb, tl, unm, uso, umi, upa, uki, umo, usz, urd, fsk), rfl, hpost, by rw [ht]; exact hP, va_K.moved hW.alike hK, hD⟩, hS.F ht⟩) hS.2.2 dX5_odds_32
      · skip
        have c_13N : (nC v1) ≤ 40 := nI_lt0 (a := 40) (b := (nC v1)) (by omega) (by omega) c_13
        refine lv_iload hx hb dX5_odds_20 (lv_at hl 6 rfl) ?_
        refine lv_iconst (v := 1) hx hb dX5_odds_22 (by decide +kernel) ?_
        refine z_calli [] (v := bz (decide (0 ≤ v5 ∧ v5 ≤ 1))) (fun _ _ h => h) (va_runS (As := [.int v5, .int 1]) (rest := []) ⟨hx, hb, hml, hown, hts⟩ (c_X5_within_g l G v5 1 H.size) (va_cwS 2 hts gX5_odds_X5_within rfl rfl rfl (by decide +kernel) ⟨Nat.le_of_ble_eq_true rfl, Nat.le_of_ble_eq_true rfl⟩) ⟨gPre_blind, fun U hU hW => gPre_ofF [] hU hW hK hP hD (by decide +kernel) rfl⟩ rfl rfl hl.1 rfl (lv_room (Nat.le_of_ble_eq_true rfl)) dX5_odds_23 ⟨Nat.le_of_ble_eq_true rfl, Nat.le_of_ble_eq_true rfl⟩) hS hD hA rfl (fun u t H locs ht hvm hB hz1 hk1 hFq hAq hS => ?_)
        obtain ⟨hP1, hK1, hD1⟩ := hB
        have hP := zKeep hP hD [] hAq hk1 ht hP1 rfl
        refine lv_if_ne (tgt := 33) hx hb dX5_odds_26 (by decide +kernel) (fun c_16 => ?_) (fun c_16 => ?_)
        · skip
          have p_17 : 0 ≤ v5 ∧ v5 ≤ 1 := of_decide_eq_true (bz_ne rfl c_16)
          have hv_19 : v5 = nI (nC v5) := nC_eq p_17.1
          have hk_20 : nC v5 ≤ 1 := nC_le (n := 1) (by omega) p_17
          refine g_aget (D := G.1) (ci := 5) (v := .ref nw) (C := RX5) (T := TX5) (N := 8) hx hb dX5_odds_33 rfl (lv_at hl 0 rfl) hts hiX5 hown hK hP 0 rfl rfl 2 (by decide +kernel) kf28 (fun _ h9 => h9) rfl dX5_odds_34 ?_
          refine lv_iload_n hx hb dX5_odds_37 rfl (lv_at hl 3 rfl) ?_
          refine lv_iload hx hb dX5_odds_38 (lv_at hl 4 rfl) ?_
          refine z_calli [1] (v := bz (mBoth jg pb v2 v3)) (fun _ _ h => h) (va_runV (As := [.int v2, .int v3]) (rest := []) ⟨hx, hb, hml, hown, hts⟩ (c_X0_hasBoth_g l G nw tt n1 n2 n3 n4 n5 n6 n7 n8 jg pb lw v2 v3 H.size (by first | exact hjg | assumption | omega) (by first | exact hpb | assumption | omega)) (cwV 2 hts gX5_odds_X0_hasBoth rfl rfl rfl (by decide +kernel) ⟨Nat.le_of_ble_eq_true rfl, Nat.le_of_ble_eq_true rfl⟩) ⟨gPre_blind, va_recv (q := (RX0, TX0, 12)) hK hP (ci := 0) (q0 := 1) rfl rfl, fun U hU hW => gPre_ofF [1] hU hW hK hP hD (by decide +kernel) rfl⟩ rfl rfl hl.1 rfl (lv_room (Nat.le_of_ble_eq_true rfl)) dX5_odds_40 ⟨Nat.le_of_ble_eq_true rfl, Nat.le_of_ble_eq_true rfl⟩) hS hD hA rfl (fun u t H locs ht hvm hB hz1 hk1 hFq hAq hS => ?_)
          obtain ⟨hP1, hK1, hD1⟩ := hB
          have hP := zKeep hP hD [1] hAq hk1 ht hP1 rfl
          refine lv_if_eq (tgt := 54) hx hb dX5_odds_43 (by decide +kernel) (fun c_23 => ?_) (fun c_23 => ?_)
          · skip
            have n_25 : (mBoth jg pb v2 v3) = false := bz_eq rfl c_23
            have n_25N : ¬ ((mBoth jg pb v2 v3) = true) := by rw [n_25]; decide
            refine lv_ldc2 hx hb hown (hts (.constantLong RX5 213 (-4611686018427387904)) (by decide +kernel)) dX5_odds_54 ?_
            have hpost : (fun (r : Int64) (u : Int32 × Int32 × Int32 × (Nat → Int32) × (Nat → Int32) × (Nat → Int32) × (Nat → Int32) × (Nat → Int32) × (Nat → Int32) × (Nat → Int32) × (Nat → Int32) × (Nat → Int32)) => match u with | (zj9, zb9, zl9, yt1, yt2, yt3, yt4, yt5, yt6, yt7, yt8, ysk) => r = m_X5_odds jg pb fet fso fmi fpa fki fmo fsz frd fct v0 v1 v2 v3 v4 v5) (-4611686018427387904) (tj, tb, tl, unm, uso, umi, upa, uki, umo, usz, urd, fsk) := (show m_X5_odds jg pb fet fso fmi fpa fki fmo fsz frd fct v0 v1 v2 v3 v4 v5 = (-4611686018427387904) from by unfold m_X5_odds; rw [if_pos p_4, if_neg c_8, if_neg c_13, if_pos p_17, if_neg n_25N]).symm
            exact W.lret (v := (-4611686018427387904)) hx hb hr (fun t ht hW => ⟨⟨(-4611686018427387904), (tj, tb, tl, unm, uso, umi, upa, uki, umo, usz, urd, fsk), rfl, hpost, by rw [ht]; exact hP, va_K.moved hW.alike hK, hD⟩, hS.F ht⟩) hS.2.2 dX5_odds_57
          · skip
            have p_24 : (mBoth jg pb v2 v3) = true := bz_ne rfl c_23
            have hv_26 : v2 = nI (nC v2) := mHas_eq (mBoth_1 p_24)
            have hk_27 : nC v2 < jg := mHas_lt (by omega) (mBoth_1 p_24)
            have hv_28 : v3 = nI (nC v3) := mHas_eq (mBoth_2 p_24)
            have hk_29 : nC v3 < pb := mHas_lt (by omega) (mBoth_2 p_24)
            refine lv_iload hx hb dX5_odds_46 (lv_at hl 5 rfl) ?_
            refine z_calli [] (v := bz (mMil v4)) (fun _ _ h => h) (va_runS (As := [.int v4]) (rest := []) ⟨hx, hb, hml, hown, hts⟩ (c_X5_isMoreMiles l G v4 H.size) (va_cwS 1 hts gX5_odds_X5_isMoreMiles rfl rfl rfl (by decide +kernel) ⟨Nat.le_of_ble_eq_true rfl, Nat.le_of_ble_eq_true rfl⟩) ⟨gPre_blind, fun U hU hW => gPre_ofF [] hU hW hK hP hD (by decide +kernel) rfl⟩ rfl rfl hl.1 rfl (lv_room (Nat.le_of_ble_eq_true rfl)) dX5_odds_48 ⟨Nat.le_of_ble_eq_true rfl, Nat.le_of_ble_eq_true rfl⟩) hS hD hA rfl (fun u t H locs ht hvm hB hz1 hk1 hFq hAq hS => ?_)
            obtain ⟨hP1, hK1, hD1⟩ := hB
            have hP := zKeep hP hD [] hAq hk1 ht hP1 rfl
            refine lv_if_ne (tgt := 58) hx hb dX5_odds_51 (by decide +kernel) (fun c_32 => ?_) (fun c_32 => ?_)
            · skip
              have p_33 : (mMil v4) = true := bz_ne rfl c_32
              have hv_35 : v4 = nI (nC v4) := mMil_eq p_33
              have hk_36 : nC v4 ≤ 960 := mMil_le p_33
              have hk_37 : nC v4 % 100 ≤ 60 := mMil_rem p_33
              refine lv_iconst (v := 0) hx hb dX5_odds_58 (by decide +kernel) ?_
              refine lv_istore (lv' := [zI 7 0, zR 0 h0, zI 1 v0, zI 2 v1, zI 3 v2, zI 4 v3, zI 5 v4, zI 6 v5]) hx hb dX5_odds_59 hl (by decide +kernel) rfl (fun ls hl => ?_)
              refine lv_iconst (v := 0) hx hb dX5_odds_61 (by decide +kernel) ?_
              refine lv_istore (lv' := [zI 8 0, zI 7 0, zR 0 h0, zI 1 v0, zI 2 v1, zI 3 v2, zI 4 v3, zI 5 v4, zI 6 v5]) hx hb dX5_odds_62 hl (by decide +kernel) rfl (fun ls hl => ?_)
              have loop_64 : ∀ (n9 : Nat) (k64 : Nat) (gu : Nat) (x64t1 : Nat → Int32) (x64sk : Nat → Int32) (x64t2 : Nat → Int32) (x64t3 : Nat → Int32) (x64t4 : Nat → Int32) (x64t5 : Nat → Int32) (x64t6 : Nat → Int32) (x64t7 : Nat → Int32) (x64t8 : Nat → Int32) (zj9l : Int32) (zb9l : Int32) (zl9l : Int32), (k64 ≤ nC v1) → (p_X5_odds_64 fet fso fmi fpa fki fmo fsz frd fct v0 v2 v3 v4 (nC v1 - k64) k64 gu = (g_X5_odds_64 fet fso fmi fpa fki fmo fsz frd fct v0 v1 v2 v3 v4)) → (gu ≤ k64) → (nC v1 - k64) < n9 → ∀ (H : Heap) (locs : List Loc), va_P G.1 vwCl [zo5 h0 tt rd nw th kp sh tu him, zo0 nw tt n1 n2 n3 n4 n5 n6 n7 n8 (nI jg) (nI pb) (nI lw), zi G n2 4 fso, zi G n3 4 fmi, zi G n4 4 fpa, zi G n5 6 fki, zi G n6 6 fmo, zi G n7 6 fsz, zi G n8 6 frd, zo0 th tt t1 t2 t3 t4 t5 t6 t7 t8 zj9l zb9l zl9l, zi G t1 6 x64t1, zi G t2 4 x64t2, zi G t3 4 x64t3, zi G t4 4 x64t4, zi G t5 6 x64t5, zi G t6 6 x64t6, zi G t7 6 x64t7, zi G t8 6 x64t8, zo3 tt co en sk wr (nI tx), zr G co 6 fc, zr G en 6 fe, zi G ct 160 fct, zi G et 3 (nF fet), zi G sk 32 x64sk] H → va_D A [zo5 h0 tt rd nw th kp sh tu him, zo0 nw tt n1 n2 n3 n4 n5 n6 n7 n8 (nI jg) (nI pb) (nI lw), zi G n2 4 fso, zi G n3 4 fmi, zi G n4 4 fpa, zi G n5 6 fki, zi G n6 6 fmo, zi G n7 6 fsz, zi G n8 6 frd, zo0 th tt t1 t2 t3 t4 t5 t6 t7 t8 zj9l zb9l zl9l, zi G t1 6 x64t1, zi G t2 4 x64t2, zi G t3 4 x64t3, zi G t4 4 x64t4, zi G t5 6 x64t5, zi G t6 6 x64t6, zi G t7 6 x64t7, zi G t8 6 x64t8, zo3 tt co en sk wr (nI tx), zr G co 6 fc, zr G en 6 fe, zi G ct 160 fct, zi G et 3 (nF fet), zi G sk 32 x64sk] → va_S A s.heap H locs → ∀ ls : Array Slot, lv_has ls 9 [zI 8 (nI k64), zI 7 (nI gu), zR 0 h0, zI 1 v0, zI 2 v1, zI 3 v2, zI 4 v3, zI 5 v4, zI 6 v5] → W p l e (headSpec wsX5_odds ({ frames := 5, cells := 0, slots := 0, locals := 441 })).room s m ([.ref h0, .int v0, .int v1, .int v2, .int v3, .int v4, .int v5] : List Value).toArray below meth c H locs 0 0 (MQ below (q_X5_odds G h0 tt rd nw th kp sh tu n1 n2 n3 n4 n5 n6 n7 n8 t1 t2 t3 t4 t5 t6 t7 t8 co en sk ct et jg pb lw tx him wr tj tb tl fc fe fet fso fmi fpa fki fmo fsz frd unm uso umi upa uki umo usz urd fct fsk v0 v1 v2 v3 v4 v5 A) ([.ref h0, .int v0, .int v1, .int v2, .int v3, .int v4, .int v5] : List Value).toArray s 0 0 A) (F0 m 64 ls []) := by
                intro n9
                induction n9 with
                | zero => intro k64 gu x64t1 x64sk x64t2 x64t3 x64t4 x64t5 x64t6 x64t7 x64t8 zj9l zb9l zl9l hk64 R64 hgu hm9_64; exact absurd hm9_64 (Nat.not_lt_zero _)
                | succ n9 ih9_64 =>
                  intro k64 gu x64t1 x64sk x64t2 x64t3 x64t4 x64t5 x64t6 x64t7 x64t8 zj9l zb9l zl9l hk64 R64 hgu hm9_64 H locs hP hD hS ls hl
                  refine lv_iload hx hb dX5_odds_64 (lv_at hl 0 rfl) ?_
                  refine lv_iload_n hx hb dX5_odds_66 rfl (lv_at hl 4 rfl) ?_
                  refine g_topi (y := nI (nC v1)) hv_9 ?_
                  refine lv_icmp_ge (tgt := 111) hx hb dX5_odds_67 (by decide +kernel) (fun c_39 => ?_) (fun c_39 => ?_)
                  · skip
                    have c_39N : (nC v1) ≤ k64 := nI_le1 (a := (nC v1)) (b := k64) (by omega) (by omega) c_39
                    have hF64 : (g_X5_odds_64 fet fso fmi fpa fki fmo fsz frd fct v0 v1 v2 v3 v4) = (k64, gu) := by rw [← R64, show nC v1 - k64 = 0 by omega]; rfl
                    have hE64_0 : k64 = ((g_X5_odds_64 fet fso fmi fpa fki fmo fsz frd fct v0 v1 v2 v3 v4).1) := by rw [hF64]
                    have hE64_1 : gu = ((g_X5_odds_64 fet fso fmi fpa fki fmo fsz frd fct v0 v1 v2 v3 v4).2) := by rw [hF64]
                    clear hF64 R64
                    subst hE64_0
                    subst hE64_1
                    refine lv_iload hx hb dX5_odds_111 (lv_at hl 8 rfl) ?_
                    refine g_topi (y := nI (nC v5)) hv_19 ?_
                    refine lv_if_ne (tgt := 121) hx hb dX5_odds_113 (by decide +kernel) (fun c_41 => ?_) (fun c_41 => ?_)
                    · skip
                      have c_41N : ¬ (nC v5) = 0 := nI_eq0 (a := (nC v5)) (b := 0) (by omega) (by omega) c_41
                      refine lv_iload_n hx hb dX5_odds_121 rfl (lv_at hl 4 rfl) ?_
                      refine g_topi (y := nI (nC v1)) hv_9 ?_
                      refine lv_iload hx hb dX5_odds_122 (lv_at hl 1 rfl) ?_
                      refine lv_iload_n hx hb dX5_odds_124 rfl (lv_at hl 4 rfl) ?_
                      refine g_topi (y := nI (nC v1)) hv_9 ?_
                      refine z_calli [] (v := nI (Nat.gcd ((g_X5_odds_64 fet fso fmi fpa fki fmo fsz frd fct v0 v1 v2 v3 v4).2) (nC v1))) (fun _ _ h => h) (va_runS (As := [.int (nI ((g_X5_odds_64 fet fso fmi fpa fki fmo fsz frd fct v0 v1 v2 v3 v4).2)), .int (nI (nC v1))]) (rest := [.int (nI (nC v1))]) ⟨hx, hb, hml, hown, hts⟩ (c_X5_commonDivisor l G ((g_X5_odds_64 fet fso fmi fpa fki fmo fsz frd fct v0 v1 v2 v3 v4).2) (nC v1) H.size (by first | exact hsa | assumption | omega) (by first | exact hsb | assumption | omega)) (va_cwS 2 hts gX5_odds_X5_commonDivisor rfl rfl rfl (by decide +kernel) ⟨Nat.le_of_ble_eq_true rfl, Nat.le_of_ble_eq_true rfl⟩) ⟨gPre_blind, fun U hU hW => gPre_ofF [] hU hW hK hP hD (by decide +kernel) rfl⟩ rfl rfl hl.1 rfl (lv_room (Nat.le_of_ble_eq_true rfl)) dX5_odds_125 ⟨Nat.le_of_ble_eq_true rfl, Nat.le_of_ble_eq_true rfl⟩) hS hD hA rfl (fun u t H locs ht hvm hB hz1 hk1 hFq hAq hS => ?_)
                      obtain ⟨hP1, hK1, hD1⟩ := hB
                      have hP := zKeep hP hD [] hAq hk1 ht hP1 rfl
                      have hg0 : 0 < Nat.gcd ((g_X5_odds_64 fet fso fmi fpa fki fmo fsz frd fct v0 v1 v2 v3 v4).2) (nC v1) := Nat.gcd_pos_of_pos_right _ (by omega)
                      have hg1 : Nat.gcd ((g_X5_odds_64 fet fso fmi fpa fki fmo fsz frd fct v0 v1 v2 v3 v4).2) (nC v1) ≤ 40 := Nat.le_trans (Nat.gcd_le_right _ (by omega)) (by omega)
                      have hg2 : (nC v1) / (Nat.gcd ((g_X5_odds_64 fet fso fmi fpa fki fmo fsz frd fct v0 v1 v2 v3 v4).2) (nC v1)) ≤ 40 := Nat.le_trans (Nat.div_le_self _ _) (by omega)
                      refine lv_idiv hx hb dX5_odds_128 (nI_ne0 (by omega) (by omega)) ?_
                      refine g_topi (y := nI ((nC v1) / (Nat.gcd ((g_X5_odds_64 fet fso fmi fpa fki fmo fsz frd fct v0 v1 v2 v3 v4).2) (nC v1)))) (pk_div (a := (nC v1)) (d := (Nat.gcd ((g_X5_odds_64 fet fso fmi fpa fki fmo fsz frd fct v0 v1 v2 v3 v4).2) (nC v1))) (by omega) (by omega) (by omega)) ?_
                      refine lv_i2l (v := lN ((nC v1) / (Nat.gcd ((g_X5_odds_64 fet fso fmi fpa fki fmo fsz frd fct v0 v1 v2 v3 v4).2) (nC v1)))) hx hb dX5_odds_129 (nI_l (by omega)) ?_
                      have hpost : (fun (r : Int64) (u : Int32 × Int32 × Int32 × (Nat → Int32) × (Nat → Int32) × (Nat → Int32) × (Nat → Int32) × (Nat → Int32) × (Nat → Int32) × (Nat → Int32) × (Nat → Int32) × (Nat → Int32)) => match u with | (zj9, zb9, zl9, yt1, yt2, yt3, yt4, yt5, yt6, yt7, yt8, ysk) => r = m_X5_odds jg pb fet fso fmi fpa fki fmo fsz frd fct v0 v1 v2 v3 v4 v5) (lN ((nC v1) / (Nat.gcd ((g_X5_odds_64 fet fso fmi fpa fki fmo fsz frd fct v0 v1 v2 v3 v4).2) (nC v1)))) (zj9l, zb9l, zl9l, x64t1, x64t2, x64t3, x64t4, x64t5, x64t6, x64t7, x64t8, x64sk) := (show m_X5_odds jg pb fet fso fmi fpa fki fmo fsz frd fct v0 v1 v2 v3 v4 v5 = (lN ((nC v1) / (Nat.gcd ((g_X5_odds_64 fet fso fmi fpa fki fmo fsz frd fct v0 v1 v2 v3 v4).2) (nC v1)))) from by unfold m_X5_odds; rw [if_pos p_4, if_neg c_8, if_neg c_13, if_pos p_17, if_pos p_24, if_pos p_33, if_neg c_41]).symm
                      exact W.lret (v := (lN ((nC v1) / (Nat.gcd ((g_X5_odds_64 fet fso fmi fpa fki fmo fsz frd fct v0 v1 v2 v3 v4).2) (nC v1))))) hx hb hr (fun t ht hW => ⟨⟨(lN ((nC v1) / (Nat.gcd ((g_X5_odds_64 fet fso fmi fpa fki fmo fsz frd fct v0 v1 v2 v3 v4).2) (nC v1)))), (zj9l, zb9l, zl9l, x64t1, x64t2, x64t3, x64t4, x64t5, x64t6, x64t7, x64t8, x64sk), rfl, hpost, by rw [ht]; exact hP, va_K.moved hW.alike hK, hD⟩, hS.F ht⟩) hS.2.2 dX5_odds_130
                    · skip
                      have c_41N : (nC v5) = 0 := nI_eq1 (a := (nC v5)) (b := 0) (by omega) (by omega) c_41
                      refine lv_iload hx hb dX5_odds_116 (lv_at hl 1 rfl) ?_
                      refine lv_goto (tgt := 122) hx hb dX5_odds_118 (by decide +kernel) ?_
                      refine lv_iload hx hb dX5_odds_122 (lv_at hl 1 rfl) ?_
                      refine lv_iload_n hx hb dX5_odds_124 rfl (lv_at hl 4 rfl) ?_
                      refine g_topi (y := nI (nC v1)) hv_9 ?_
                      refine z_calli [] (v := nI (Nat.gcd ((g_X5_odds_64 fet fso fmi fpa fki fmo fsz frd fct v0 v1 v2 v3 v4).2) (nC v1))) (fun _ _ h => h) (va_runS (As := [.int (nI ((g_X5_odds_64 fet fso fmi fpa fki fmo fsz frd fct v0 v1 v2 v3 v4).2)), .int (nI (nC v1))]) (rest := [.int (nI ((g_X5_odds_64 fet fso fmi fpa fki fmo fsz frd fct v0 v1 v2 v3 v4).2))]) ⟨hx, hb, hml, hown, hts⟩ (c_X5_commonDivisor l G ((g_X5_odds_64 fet fso fmi fpa fki fmo fsz frd fct v0 v1 v2 v3 v4).2) (nC v1) H.size (by first | exact hsa | assumption | omega) (by first | exact hsb | assumption | omega)) (va_cwS 2 hts gX5_odds_X5_commonDivisor rfl rfl rfl (by decide +kernel) ⟨Nat.le_of_ble_eq_true rfl, Nat.le_of_ble_eq_true rfl⟩) ⟨gPre_blind, fun U hU hW => gPre_ofF [] hU hW hK hP hD (by decide +kernel) rfl⟩ rfl rfl hl.1 rfl (lv_room (Nat.le_of_ble_eq_true rfl)) dX5_odds_125 ⟨Nat.le_of_ble_eq_true rfl, Nat.le_of_ble_eq_true rfl⟩) hS hD hA rfl (fun u t H locs ht hvm hB hz1 hk1 hFq hAq hS => ?_)
                      obtain ⟨hP1, hK1, hD1⟩ := hB
                      have hP := zKeep hP hD [] hAq hk1 ht hP1 rfl
                      have hg0 : 0 < Nat.gcd ((g_X5_odds_64 fet fso fmi fpa fki fmo fsz frd fct v0 v1 v2 v3 v4).2) (nC v1) := Nat.gcd_pos_of_pos_right _ (by omega)
                      have hg1 : Nat.gcd ((g_X5_odds_64 fet fso fmi fpa fki fmo fsz frd fct v0 v1 v2 v3 v4).2) (nC v1) ≤ 40 := Nat.le_trans (Nat.gcd_le_right _ (by omega)) (by omega)
                      have hg2 : ((g_X5_odds_64 fet fso fmi fpa fki fmo fsz frd fct v0 v1 v2 v3 v4).2) / (Nat.gcd ((g_X5_odds_64 fet fso fmi fpa fki fmo fsz frd fct v0 v1 v2 v3 v4).2) (nC v1)) ≤ 40 := Nat.le_trans (Nat.div_le_self _ _) (by omega)
                      refine lv_idiv hx hb dX5_odds_128 (nI_ne0 (by omega) (by omega)) ?_
                      refine g_topi (y := nI (((g_X5_odds_64 fet fso fmi fpa fki fmo fsz frd fct v0 v1 v2 v3 v4).2) / (Nat.gcd ((g_X5_odds_64 fet fso fmi fpa fki fmo fsz frd fct v0 v1 v2 v3 v4).2) (nC v1)))) (pk_div (a := ((g_X5_odds_64 fet fso fmi fpa fki fmo fsz frd fct v0 v1 v2 v3 v4).2)) (d := (Nat.gcd ((g_X5_odds_64 fet fso fmi fpa fki fmo fsz frd fct v0 v1 v2 v3 v4).2) (nC v1))) (by omega) (by omega) (by omega)) ?_
                      refine lv_i2l (v := lN (((g_X5_odds_64 fet fso fmi fpa fki fmo fsz frd fct v0 v1 v2 v3 v4).2) / (Nat.gcd ((g_X5_odds_64 fet fso fmi fpa fki fmo fsz frd fct v0 v1 v2 v3 v4).2) (nC v1)))) hx hb dX5_odds_129 (nI_l (by omega)) ?_
                      have hpost : (fun (r : Int64) (u : Int32 × Int32 × Int32 × (Nat → Int32) × (Nat → Int32) × (Nat → Int32) × (Nat → Int32) × (Nat → Int32) × (Nat → Int32) × (Nat → Int32) × (Nat → Int32) × (Nat → Int32)) => match u with | (zj9, zb9, zl9, yt1, yt2, yt3, yt4, yt5, yt6, yt7, yt8, ysk) => r = m_X5_odds jg pb fet fso fmi fpa fki fmo fsz frd fct v0 v1 v2 v3 v4 v5) (lN (((g_X5_odds_64 fet fso fmi fpa fki fmo fsz frd fct v0 v1 v2 v3 v4).2) / (Nat.gcd ((g_X5_odds_64 fet fso fmi fpa fki fmo fsz frd fct v0 v1 v2 v3 v4).2) (nC v1)))) (zj9l, zb9l, zl9l, x64t1, x64t2, x64t3, x64t4, x64t5, x64t6, x64t7, x64t8, x64sk) := (show m_X5_odds jg pb fet fso fmi fpa fki fmo fsz frd fct v0 v1 v2 v3 v4 v5 = (lN (((g_X5_odds_64 fet fso fmi fpa fki fmo fsz frd fct v0 v1 v2 v3 v4).2) / (Nat.gcd ((g_X5_odds_64 fet fso fmi fpa fki fmo fsz frd fct v0 v1 v2 v3 v4).2) (nC v1)))) from by unfold m_X5_odds; rw [if_pos p_4, if_neg c_8, if_neg c_13, if_pos p_17, if_pos p_24, if_pos p_33, if_pos c_41]).symm
                      exact W.lret (v := (lN (((g_X5_odds_64 fet fso fmi fpa fki fmo fsz frd fct v0 v1 v2 v3 v4).2) / (Nat.gcd ((g_X5_odds_64 fet fso fmi fpa fki fmo fsz frd fct v0 v1 v2 v3 v4).2) (nC v1))))) hx hb hr (fun t ht hW => ⟨⟨(lN (((g_X5_odds_64 fet fso fmi fpa fki fmo fsz frd fct v0 v1 v2 v3 v4).2) / (Nat.gcd ((g_X5_odds_64 fet fso fmi fpa fki fmo fsz frd fct v0 v1 v2 v3 v4).2) (nC v1)))), (zj9l, zb9l, zl9l, x64t1, x64t2, x64t3, x64t4, x64t5, x64t6, x64t7, x64t8, x64sk), rfl, hpost, by rw [ht]; exact hP, va_K.moved hW.alike hK, hD⟩, hS.F ht⟩) hS.2.2 dX5_odds_130
                  · skip
                    have c_39N : k64 < (nC v1) := nI_le0 (a := (nC v1)) (b := k64) (by omega) (by omega) c_39
                    refine lv_aload_n hx hb dX5_odds_70 rfl (lv_at hl 2 rfl) ?_
                    refine z_callv [0, 1, 2, 3, 4, 5, 6, 7, 8, 9, 11, 12, 13, 14, 15, 16, 17] (va_runV (As := []) (rest := []) ⟨hx, hb, hml, hown, hts⟩ (c_X5_think l G h0 tt rd nw th kp sh tu n1 n2 n3 n4 n5 n6 n7 n8 t1 t2 t3 t4 t5 t6 t7 t8 jg pb lw him zj9l zb9l zl9l fso fmi fpa fki fmo fsz frd x64t2 x64t3 x64t4 x64t5 x64t6 x64t7 x64t8 H.size (by first | exact hjg | assumption | omega) (by first | exact hpb | assumption | omega)) (cwV 0 hts gX5_odds_X5_think rfl rfl rfl (by decide +kernel) ⟨Nat.le_of_ble_eq_true rfl, Nat.le_of_ble_eq_true rfl⟩) ⟨gPre_blind, va_recv (q := (RX5, TX5, 8)) hK hP (ci := 5) (q0 := 0) rfl rfl, fun U hU hW => gPre_ofF [0, 1, 2, 3, 4, 5, 6, 7, 8, 9, 11, 12, 13, 14, 15, 16, 17] hU hW hK hP hD (by decide +kernel) rfl⟩ rfl rfl hl.1 rfl (lv_room (Nat.le_of_ble_eq_true rfl)) dX5_odds_71 ⟨Nat.le_of_ble_eq_true rfl, Nat.le_of_ble_eq_true rfl⟩) hS hD hA rfl (fun u t H locs ht hvm w_52 hB hz1 hk1 hFq hAq hS => ?_)
                    obtain ⟨hP1, hK1, hD1⟩ := hB
                    have hz9 : gPD G A [zo5 h0 tt rd nw th kp sh tu him, zo0 nw tt n1 n2 n3 n4 n5 n6 n7 n8 (nI jg) (nI pb) (nI lw), zi G n2 4 fso, zi G n3 4 fmi, zi G n4 4 fpa, zi G n5 6 fki, zi G n6 6 fmo, zi G n7 6 fsz, zi G n8 6 frd, zo0 th tt t1 t2 t3 t4 t5 t6 t7 t8 (nI jg) (nI pb) (nI lw), zi G t1 6 x64t1, zi G t2 4 fso, zi G t3 4 fmi, zi G t4 4 fpa, zi G t5 6 fki, zi G t6 6 fmo, zi G t7 6 fsz, zi G t8 6 frd, zo3 tt co en sk wr (nI tx), zr G co 6 fc, zr G en 6 fe, zi G ct 160 fct, zi G et 3 (nF fet), zi G sk 32 x64sk] H := zFill hP hD [0, 1, 2, 3, 4, 5, 6, 7, 8, 9, 11, 12, 13, 14, 15, 16, 17] [1, 2, 3, 4, 5, 6, 7, 8, 9, 10, 0, 11, 12, 13, 14, 15, 16, 17] hAq hk1 hFq ht hP1 hD1 rfl (by decide +kernel)
                    have hP := hz9.1
                    have hD := hz9.2
                    refine lv_iload hx hb dX5_odds_74 (lv_at hl 1 rfl) ?_
                    refine g_aget (D := G.1) (ci := 5) (v := .ref th) (C := RX5) (T := TX5) (N := 8) hx hb dX5_odds_76 rfl (lv_at hl 2 rfl) hts hiX5 hown hK hP 0 rfl rfl 3 (by decide +kernel) kf32 (fun _ h9 => h9) rfl dX5_odds_77 ?_
                    refine lv_iload_n hx hb dX5_odds_80 rfl (lv_at hl 5 rfl) ?_
                    refine g_topi (y := nI (nC v2)) hv_26 ?_
                    refine lv_iload hx hb dX5_odds_81 (lv_at hl 6 rfl) ?_
                    refine g_topi (y := nI (nC v3)) hv_28 ?_
                    refine g_aget (D := G.1) (ci := 5) (v := .ref th) (C := RX5) (T := TX5) (N := 8) hx hb dX5_odds_83 rfl (lv_at hl 2 rfl) hts hiX5 hown hK hP 0 rfl rfl 3 (by decide +kernel) kf32 (fun _ h9 => h9) rfl dX5_odds_84 ?_
                    refine lv_iload_n hx hb dX5_odds_87 rfl (lv_at hl 3 rfl) ?_
                    refine g_topi (y := nI (nC v0)) hv_6 ?_
                    refine lv_iload hx hb dX5_odds_88 (lv_at hl 0 rfl) ?_
                    refine lv_iadd hx hb dX5_odds_90 ?_
                    refine g_topi (y := nI ((nC v0) + k64)) (nI_add (nC v0) k64) ?_
                    refine lv_iload_n hx hb dX5_odds_91 rfl (lv_at hl 5 rfl) ?_
                    refine g_topi (y := nI (nC v2)) hv_26 ?_
                    refine lv_iload hx hb dX5_odds_92 (lv_at hl 6 rfl) ?_
                    refine g_topi (y := nI (nC v3)) hv_28 ?_
                    refine lv_iload hx hb dX5_odds_94 (lv_at hl 7 rfl) ?_
                    refine g_topi (y := nI (nC v4)) hv_35 ?_
                    refine z_calli [9, 10, 11, 12, 13, 14, 15, 16, 17, 18, 19, 20, 21, 22, 23] (v := m_X0_goByLots (nC v2) (nC v3) (nC v4) fso fmi fpa fki fmo fsz frd fct fet (nI ((nC v0) + k64))) (fun _ ⟨_, _⟩ h => h) (va_runV (As := [.int (nI ((nC v0) + k64)), .int (nI (nC v2)), .int (nI (nC v3)), .int (nI (nC v4))]) (rest := [.int (nI (nC v3)), .int (nI (nC v2)), .ref th, .int (nI gu)]) ⟨hx, hb, hml, hown, hts⟩ (c_X0_goByLots l G th tt t1 t2 t3 t4 t5 t6 t7 t8 co en sk ct et lw (nC v2) (nC v3) (nC v4) tx (nI jg) (nI pb) wr x64t1 fso fmi fpa fki fmo fsz frd fc fe fct fet x64sk (nI ((nC v0) + k64)) H.size (by first | exact hj | assumption | omega) (by first | exact hp | assumption | omega) (by first | exact hmm | assumption | omega) (by first | exact hm6 | assumption | omega) (by first | exact htn | assumption | omega) (by first | exact hc | assumption | omega) (by first | exact he | assumption | omega) (by first | exact hwx | assumption | omega)) (cwV 4 hts gX5_odds_X0_goByLots rfl rfl rfl (by decide +kernel) ⟨Nat.le_of_ble_eq_true rfl, Nat.le_of_ble_eq_true rfl⟩) ⟨gPre_blind, va_recv (q := (RX0, TX0, 12)) hK hP (ci := 0) (q0 := 9) rfl rfl, fun U hU hW => gPre_ofF [9, 10, 11, 12, 13, 14, 15, 16, 17, 18, 19, 20, 21, 22, 23] hU hW hK hP hD (by decide +kernel) rfl⟩ rfl rfl hl.1 rfl (lv_room (Nat.le_of_ble_eq_true rfl)) dX5_odds_96 ⟨Nat.le_of_ble_eq_true rfl, Nat.le_of_ble_eq_true rfl⟩) hS hD hA rfl (fun u t H locs ht hvm hB hz1 hk1 hFq hAq hS => ?_)
                    obtain ⟨yn1_62, ysk_63⟩ := u
                    obtain ⟨hP1, hK1, hD1⟩ := hB
                    have hz9 : gPD G A [zo5 h0 tt rd nw th kp sh tu him, zo0 nw tt n1 n2 n3 n4 n5 n6 n7 n8 (nI jg) (nI pb) (nI lw), zi G n2 4 fso, zi G n3 4 fmi, zi G n4 4 fpa, zi G n5 6 fki, zi G n6 6 fmo, zi G n7 6 fsz, zi G n8 6 frd, zo0 th tt t1 t2 t3 t4 t5 t6 t7 t8 (nI jg) (nI pb) (nI lw), zi G t1 6 yn1_62, zi G t2 4 (m_X0_goByLots_n2 (nC v2) (nC v3) (nC v4) fso fmi fpa fki fmo fsz frd fct fet (nI ((nC v0) + k64))), zi G t3 4 (m_X0_goByLots_n3 (nC v2) (nC v3) (nC v4) fso fmi fpa fki fmo fsz frd fct fet (nI ((nC v0) + k64))), zi G t4 4 (m_X0_goByLots_n4 (nC v2) (nC v3) (nC v4) fso fmi fpa fki fmo fsz frd fct fet (nI ((nC v0) + k64))), zi G t5 6 fki, zi G t6 6 fmo, zi G t7 6 (m_X0_goByLots_n7 (nC v2) (nC v3) (nC v4) fso fmi fpa fki fmo fsz frd fct fet (nI ((nC v0) + k64))), zi G t8 6 frd, zo3 tt co en sk wr (nI tx), zr G co 6 fc, zr G en 6 fe, zi G ct 160 fct, zi G et 3 (nF fet), zi G sk 32 ysk_63] H := zFill hP hD [9, 10, 11, 12, 13, 14, 15, 16, 17, 18, 19, 20, 21, 22, 23] [0, 0, 0, 0, 0, 0, 0, 0, 0, 1, 2, 3, 4, 5, 6, 7, 8, 9, 10, 11, 12, 13, 14, 15] hAq hk1 hFq ht hP1 hD1 rfl (by decide +kernel)
                    have hP := hz9.1
                    have hD := hz9.2
                    refine z_calli [9, 10, 11, 12, 15, 16, 17, 18, 19, 20, 21, 22, 23] (v := m_X0_verdict (nC v2) (nC v3) (m_X0_goByLots_n2 (nC v2) (nC v3) (nC v4) fso fmi fpa fki fmo fsz frd fct fet (nI ((nC v0) + k64))) (m_X0_goByLots_n3 (nC v2) (nC v3) (nC v4) fso fmi fpa fki fmo fsz frd fct fet (nI ((nC v0) + k64))) fmo (m_X0_goByLots_n7 (nC v2) (nC v3) (nC v4) fso fmi fpa fki fmo fsz frd fct fet (nI ((nC v0) + k64))) frd fct fet (m_X0_goByLots (nC v2) (nC v3) (nC v4) fso fmi fpa fki fmo fsz frd fct fet (nI ((nC v0) + k64)))) (fun _ ⟨_, _⟩ h => h) (va_runV (As := [.int (nI (nC v2)), .int (nI (nC v3)), .int (m_X0_goByLots (nC v2) (nC v3) (nC v4) fso fmi fpa fki fmo fsz frd fct fet (nI ((nC v0) + k64)))]) (rest := [.int (nI gu)]) ⟨hx, hb, hml, hown, hts⟩ (c_X0_verdict l G th tt t1 t2 t3 t4 t5 t6 t7 t8 co en sk ct et lw (nC v2) (nC v3) tx (nI jg) (nI pb) wr yn1_62 (m_X0_goByLots_n2 (nC v2) (nC v3) (nC v4) fso fmi fpa fki fmo fsz frd fct fet (nI ((nC v0) + k64))) (m_X0_goByLots_n3 (nC v2) (nC v3) (nC v4) fso fmi fpa fki fmo fsz frd fct fet (nI ((nC v0) + k64))) fmo (m_X0_goByLots_n7 (nC v2) (nC v3) (nC v4) fso fmi fpa fki fmo fsz frd fct fet (nI ((nC v0) + k64))) frd fc fe fct fet ysk_63 (m_X0_goByLots (nC v2) (nC v3) (nC v4) fso fmi fpa fki fmo fsz frd fct fet (nI ((nC v0) + k64))) H.size (by first | exact hj | assumption | omega) (by first | exact hp | assumption | omega) (by first | exact htn | assumption | omega) (by first | exact hc | assumption | omega) (by first | exact he | assumption | omega) (by first | exact hwx | assumption | omega)) (cwV 3 hts gX5_odds_X0_verdict rfl rfl rfl (by decide +kernel) ⟨Nat.le_of_ble_eq_true rfl, Nat.le_of_ble_eq_true rfl⟩) ⟨gPre_blind, va_recv (q := (RX0, TX0, 12)) hK hP (ci := 0) (q0 := 9) rfl rfl, fun U hU hW => gPre_ofF [9, 10, 11, 12, 15, 16, 17, 18, 19, 20, 21, 22, 23] hU hW hK hP hD (by decide +kernel) rfl⟩ rfl rfl hl.1 rfl (lv_room (Nat.le_of_ble_eq_true rfl)) dX5_odds_99 ⟨Nat.le_of_ble_eq_true rfl, Nat.le_of_ble_eq_true rfl⟩) hS hD hA rfl (fun u t H locs ht hvm hB hz1 hk1 hFq hAq hS => ?_)
                    obtain ⟨yn1_66, ysk_67⟩ := u
                    obtain ⟨hP1, hK1, hD1⟩ := hB
                    have hz9 : gPD G A [zo5 h0 tt rd nw th kp sh tu him, zo0 nw tt n1 n2 n3 n4 n5 n6 n7 n8 (nI jg) (nI pb) (nI lw), zi G n2 4 fso, zi G n3 4 fmi, zi G n4 4 fpa, zi G n5 6 fki, zi G n6 6 fmo, zi G n7 6 fsz, zi G n8 6 frd, zo0 th tt t1 t2 t3 t4 t5 t6 t7 t8 (nI jg) (nI pb) (nI lw), zi G t1 6 yn1_66, zi G t2 4 (m_X0_goByLots_n2 (nC v2) (nC v3) (nC v4) fso fmi fpa fki fmo fsz frd fct fet (nI ((nC v0) + k64))), zi G t3 4 (m_X0_goByLots_n3 (nC v2) (nC v3) (nC v4) fso fmi fpa fki fmo fsz frd fct fet (nI ((nC v0) + k64))), zi G t4 4 (m_X0_goByLots_n4 (nC v2) (nC v3) (nC v4) fso fmi fpa fki fmo fsz frd fct fet (nI ((nC v0) + k64))), zi G t5 6 fki, zi G t6 6 fmo, zi G t7 6 (m_X0_goByLots_n7 (nC v2) (nC v3) (nC v4) fso fmi fpa fki fmo fsz frd fct fet (nI ((nC v0) + k64))), zi G t8 6 frd, zo3 tt co en sk wr (nI tx), zr G co 6 fc, zr G en 6 fe, zi G ct 160 fct, zi G et 3 (nF fet), zi G sk 32 ysk_67] H := zFill hP hD [9, 10, 11, 12, 15, 16, 17, 18, 19, 20, 21, 22, 23] [0, 0, 0, 0, 0, 0, 0, 0, 0, 1, 2, 3, 4, 0, 0, 5, 6, 7, 8, 9, 10, 11, 12, 13] hAq hk1 hFq ht hP1 hD1 rfl (by decide +kernel)
                    have hP := hz9.1
                    have hD := hz9.2
                    have hvd : (m_X0_verdict (nC v2) (nC v3) (m_X0_goByLots_n2 (nC v2) (nC v3) (nC v4) fso fmi fpa fki fmo fsz frd fct fet (nI ((nC v0) + k64))) (m_X0_goByLots_n3 (nC v2) (nC v3) (nC v4) fso fmi fpa fki fmo fsz frd fct fet (nI ((nC v0) + k64))) fmo (m_X0_goByLots_n7 (nC v2) (nC v3) (nC v4) fso fmi fpa fki fmo fsz frd fct fet (nI ((nC v0) + k64))) frd fct fet (m_X0_goByLots (nC v2) (nC v3) (nC v4) fso fmi fpa fki fmo fsz frd fct fet (nI ((nC v0) + k64)))) = 0 ∨ (m_X0_verdict (nC v2) (nC v3) (m_X0_goByLots_n2 (nC v2) (nC v3) (nC v4) fso fmi fpa fki fmo fsz frd fct fet (nI ((nC v0) + k64))) (m_X0_goByLots_n3 (nC v2) (nC v3) (nC v4) fso fmi fpa fki fmo fsz frd fct fet (nI ((nC v0) + k64))) fmo (m_X0_goByLots_n7 (nC v2) (nC v3) (nC v4) fso fmi fpa fki fmo fsz frd fct fet (nI ((nC v0) + k64))) frd fct fet (m_X0_goByLots (nC v2) (nC v3) (nC v4) fso fmi fpa fki fmo fsz frd fct fet (nI ((nC v0) + k64)))) = 1 := verd01
                    have hvl := bit_le hvd
                    refine lv_iadd hx hb dX5_odds_102 ?_
                    refine g_topi (y := nI (gu + nC (m_X0_verdict (nC v2) (nC v3) (m_X0_goByLots_n2 (nC v2) (nC v3) (nC v4) fso fmi fpa fki fmo fsz frd fct fet (nI ((nC v0) + k64))) (m_X0_goByLots_n3 (nC v2) (nC v3) (nC v4) fso fmi fpa fki fmo fsz frd fct fet (nI ((nC v0) + k64))) fmo (m_X0_goByLots_n7 (nC v2) (nC v3) (nC v4) fso fmi fpa fki fmo fsz frd fct fet (nI ((nC v0) + k64))) frd fct fet (m_X0_goByLots (nC v2) (nC v3) (nC v4) fso fmi fpa fki fmo fsz frd fct fet (nI ((nC v0) + k64)))))) (bit_add hvd) ?_
                    refine lv_istore (lv' := [zI 7 (nI (gu + nC (m_X0_verdict (nC v2) (nC v3) (m_X0_goByLots_n2 (nC v2) (nC v3) (nC v4) fso fmi fpa fki fmo fsz frd fct fet (nI ((nC v0) + k64))) (m_X0_goByLots_n3 (nC v2) (nC v3) (nC v4) fso fmi fpa fki fmo fsz frd fct fet (nI ((nC v0) + k64))) fmo (m_X0_goByLots_n7 (nC v2) (nC v3) (nC v4) fso fmi fpa fki fmo fsz frd fct fet (nI ((nC v0) + k64))) frd fct fet (m_X0_goByLots (nC v2) (nC v3) (nC v4) fso fmi fpa fki fmo fsz frd fct fet (nI ((nC v0) + k64)))))), zI 8 (nI k64), zR 0 h0, zI 1 v0, zI 2 v1, zI 3 v2, zI 4 v3, zI 5 v4, zI 6 v5]) hx hb dX5_odds_103 hl (by decide +kernel) rfl (fun ls hl => ?_)
                    refine lv_iinc (v := nI (k64 + 1)) (lv' := [zI 8 (nI (k64 + 1)), zI 7 (nI (gu + nC (m_X0_verdict (nC v2) (nC v3) (m_X0_goByLots_n2 (nC v2) (nC v3) (nC v4) fso fmi fpa fki fmo fsz frd fct fet (nI ((nC v0) + k64))) (m_X0_goByLots_n3 (nC v2) (nC v3) (nC v4) fso fmi fpa fki fmo fsz frd fct fet (nI ((nC v0) + k64))) fmo (m_X0_goByLots_n7 (nC v2) (nC v3) (nC v4) fso fmi fpa fki fmo fsz frd fct fet (nI ((nC v0) + k64))) frd fct fet (m_X0_goByLots (nC v2) (nC v3) (nC v4) fso fmi fpa fki fmo fsz frd fct fet (nI ((nC v0) + k64)))))), zR 0 h0, zI 1 v0, zI 2 v1, zI 3 v2, zI 4 v3, zI 5 v4, zI 6 v5]) hx hb dX5_odds_105 hl (k := 1) rfl (nI_add k64 1) (by decide +kernel) rfl (fun ls hl => ?_)
                    refine lv_goto (tgt := 64) hx hb dX5_odds_108 (by decide +kernel) ?_
                    exact ih9_64 (k64 + 1) (gu + nC (m_X0_verdict (nC v2) (nC v3) (m_X0_goByLots_n2 (nC v2) (nC v3) (nC v4) fso fmi fpa fki fmo fsz frd fct fet (nI ((nC v0) + k64))) (m_X0_goByLots_n3 (nC v2) (nC v3) (nC v4) fso fmi fpa fki fmo fsz frd fct fet (nI ((nC v0) + k64))) fmo (m_X0_goByLots_n7 (nC v2) (nC v3) (nC v4) fso fmi fpa fki fmo fsz frd fct fet (nI ((nC v0) + k64))) frd fct fet (m_X0_goByLots (nC v2) (nC v3) (nC v4) fso fmi fpa fki fmo fsz frd fct fet (nI ((nC v0) + k64))))) yn1_66 ysk_67 (m_X0_goByLots_n2 (nC v2) (nC v3) (nC v4) fso fmi fpa fki fmo fsz frd fct fet (nI ((nC v0) + k64))) (m_X0_goByLots_n3 (nC v2) (nC v3) (nC v4) fso fmi fpa fki fmo fsz frd fct fet (nI ((nC v0) + k64))) (m_X0_goByLots_n4 (nC v2) (nC v3) (nC v4) fso fmi fpa fki fmo fsz frd fct fet (nI ((nC v0) + k64))) fki fmo (m_X0_goByLots_n7 (nC v2) (nC v3) (nC v4) fso fmi fpa fki fmo fsz frd fct fet (nI ((nC v0) + k64))) frd (nI jg) (nI pb) (nI lw) (by omega) (Eq.trans (Eq.symm ((congrArg (fun z9 => p_X5_odds_64 fet fso fmi fpa fki fmo fsz frd fct v0 v2 v3 v4 (z9) k64 gu) (show nC v1 - k64 = nC v1 - (k64 + 1) + 1 by omega)).trans (by show p_X5_odds_64 fet fso fmi fpa fki fmo fsz frd fct v0 v2 v3 v4 (nC v1 - (k64 + 1) + 1) k64 gu = _; rw [p_X5_odds_64]))) R64) (by omega) (by omega) _ _ hP hD hS ls hl
              exact loop_64 (nC v1 - 0 + 1) 0 0 unm fsk uso umi upa uki umo usz urd tj tb tl (by omega) (rfl) (Nat.le_refl 0) (by omega) _ _ hP hD hS ls hl
            · skip
              have n_34 : (mMil v4) = false := bz_eq rfl c_32
              have n_34N : ¬ ((mMil v4) = true) := by rw [n_34]; decide
              refine lv_ldc2 hx hb hown (hts (.constantLong RX5 213 (-4611686018427387904)) (by decide +kernel)) dX5_odds_54 ?_
              have hpost : (fun (r : Int64) (u : Int32 × Int32 × Int32 × (Nat → Int32) × (Nat → Int32) × (Nat → Int32) × (Nat → Int32) × (Nat → Int32) × (Nat → Int32) × (Nat → Int32) × (Nat → Int32) × (Nat → Int32)) => match u with | (zj9, zb9, zl9, yt1, yt2, yt3, yt4, yt5, yt6, yt7, yt8, ysk) => r = m_X5_odds jg pb fet fso fmi fpa fki fmo fsz frd fct v0 v1 v2 v3 v4 v5) (-4611686018427387904) (tj, tb, tl, unm, uso, umi, upa, uki, umo, usz, urd, fsk) := (show m_X5_odds jg pb fet fso fmi fpa fki fmo fsz frd fct v0 v1 v2 v3 v4 v5 = (-4611686018427387904) from by unfold m_X5_odds; rw [if_pos p_4, if_neg c_8, if_neg c_13, if_pos p_17, if_pos p_24, if_neg n_34N]).symm
              exact W.lret (v := (-4611686018427387904)) hx hb hr (fun t ht hW => ⟨⟨(-4611686018427387904), (tj, tb, tl, unm, uso, umi, upa, uki, umo, usz, urd, fsk), rfl, hpost, by rw [ht]; exact hP, va_K.moved hW.alike hK, hD⟩, hS.F ht⟩) hS.2.2 dX5_odds_57
        · skip
          have n_18 : ¬ (0 ≤ v5 ∧ v5 ≤ 1) := of_decide_eq_false (bz_eq rfl c_16)
          refine lv_ldc2 hx hb hown (hts (.constantLong RX5 213 (-4611686018427387904)) (by decide +kernel)) dX5_odds_29 ?_
          have hpost : (fun (r : Int64) (u : Int32 × Int32 × Int32 × (Nat → Int32) × (Nat → Int32) × (Nat → Int32) × (Nat → Int32) × (Nat → Int32) × (Nat → Int32) × (Nat → Int32) × (Nat → Int32) × (Nat → Int32)) => match u with | (zj9, zb9, zl9, yt1, yt2, yt3, yt4, yt5, yt6, yt7, yt8, ysk) => r = m_X5_odds jg pb fet fso fmi fpa fki fmo fsz frd fct v0 v1 v2 v3 v4 v5) (-4611686018427387904) (tj, tb, tl, unm, uso, umi, upa, uki, umo, usz, urd, fsk) := (show m_X5_odds jg pb fet fso fmi fpa fki fmo fsz frd fct v0 v1 v2 v3 v4 v5 = (-4611686018427387904) from by unfold m_X5_odds; rw [if_pos p_4, if_neg c_8, if_neg c_13, if_neg n_18]).symm
          exact W.lret (v := (-4611686018427387904)) hx hb hr (fun t ht hW => ⟨⟨(-4611686018427387904), (tj, tb, tl, unm, uso, umi, upa, uki, umo, usz, urd, fsk), rfl, hpost, by rw [ht]; exact hP, va_K.moved hW.alike hK, hD⟩, hS.F ht⟩) hS.2.2 dX5_odds_32
noncomputable def m_X5_force (lw : Nat) (tx : Nat) (v0 : Int32) : Int32 := if v0 < 0 then -2 else (if (nI (nC v0)) < (nI tx) then nI lw else -2)
noncomputable def m_X5_force_nw11 (lw : Nat) (tx : Nat) (v0 : Int32) : Nat := if v0 < 0 then lw else (if (nI (nC v0)) < (nI tx) then (nC v0) else lw)
abbrev q_X5_force (G : gG) (h0 tt rd nw th kp sh tu n1 n2 n3 n4 n5 n6 n7 n8 co en sk : Nat) (jg : Nat) (pb : Nat) (lw : Nat) (tx : Nat) (him : Int32) (wr : Int32) (v0 : Int32) (A : Nat → Prop) : Array Value → State → Outcome → State → Prop := va_Qi (fun (r : Int32) (u : Unit) => match u with | _ => r = m_X5_force lw tx v0) (fun (u : Unit) t => match u with | _ => va_P G.1 vwCl [zo5 h0 tt rd nw th kp sh tu him, zo0 nw tt n1 n2 n3 n4 n5 n6 n7 n8 (nI jg) (nI pb) (nI (m_X5_force_nw11 lw tx v0)), zo3 tt co en sk wr (nI tx)] t.heap ∧ gK G t ∧ va_D A [zo5 h0 tt rd nw th kp sh tu him, zo0 nw tt n1 n2 n3 n4 n5 n6 n7 n8 (nI jg) (nI pb) (nI (m_X5_force_nw11 lw tx v0)), zo3 tt co en sk wr (nI tx)]) A
set_option maxHeartbeats 4000000 in
set_option maxRecDepth 100000 in
theorem c_X5_force (l : Launch) (G : gG) (h0 tt rd nw th kp sh tu n1 n2 n3 n4 n5 n6 n7 n8 co en sk : Nat) (jg : Nat) (pb : Nat) (lw : Nat) (tx : Nat) (him : Int32) (wr : Int32) (v0 : Int32) (sz : Nat) (htx : tx ≤ 6) : Met l yX5_force wsX5_force ({ frames := 0, cells := 0, slots := 0, locals := 0 }) (gPre G [.ref h0, .int v0] [zo5 h0 tt rd nw th kp sh tu him, zo0 nw tt n1 n2 n3 n4 n5 n6 n7 n8 (nI jg) (nI pb) (nI lw), zo3 tt co en sk wr (nI tx)] sz) (q_X5_force G h0 tt rd nw th kp sh tu n1 n2 n3 n4 n5 n6 n7 n8 co en sk jg pb lw tx him wr v0 (va_A [zo5 h0 tt rd nw th kp sh tu him, zo0 nw tt n1 n2 n3 n4 n5 n6 n7 n8 (nI jg) (nI pb) (nI lw), zo3 tt co en sk wr (nI tx)] sz)) 0 0 (va_A [zo5 h0 tt rd nw th kp sh tu him, zo0 nw tt n1 n2 n3 n4 n5 n6 n7 n8 (nI jg) (nI pb) (nI lw), zo3 tt co en sk wr (nI tx)] sz) := by
  refine Met.ofW (cc := cX5_force) (maxL := 3) (ret := (some .int)) (by decide +kernel) rfl ?_
  intro p e s m args below meth c s₁ B hml hv
  obtain ⟨rfl, hsz, hP, hK, hD0⟩ := hv
  have hx := B.exec
  have hb := B.bytes
  have hr := B.returns
  have hts := atoms_spec (ws := wsX5_force) B.pre
  have hown : s.vm.findClass RX5 = some m.cls := findClass_of_methodNamed B.named
  have hlocks := B.notSynchronized
  subst hsz
  have hD := hD0.self (sz := s.heap.size)
  generalize hAe : va_A [zo5 h0 tt rd nw th kp sh tu him, zo0 nw tt n1 n2 n3 n4 n5 n6 n7 n8 (nI jg) (nI pb) (nI lw), zo3 tt co en sk wr (nI tx)] s.heap.size = A at hD ⊢
  have hA : ∀ q : Nat, s.heap.size ≤ q → A q := fun q h => by rw [← hAe]; exact Or.inr h
  have hS : va_S A s.heap s.heap [] := va_S.rf
  have hz9 : gPD G A [zo5 h0 tt rd nw th kp sh tu him, zo0 nw tt n1 n2 n3 n4 n5 n6 n7 n8 (nI jg) (nI pb) (nI lw), zo3 tt co en sk wr (nI tx)] s.heap := ⟨hP, hD⟩
  have hP := hz9.1
  have hD := hz9.2
  have hl := lv_entry ([.ref h0, .int v0]) (n := 3) (Nat.le_of_ble_eq_true rfl)
  rw [lg_entry_eq]
  generalize (lg_sl ([.ref h0, .int v0]) ++ List.replicate (3 - (lg_sl ([.ref h0, .int v0])).length) Slot.unset).toArray = ls at hl ⊢
  have hl : lv_has ls 3 [zR 0 h0, zI 1 v0] := hl
  have kf10 := hts (.fieldLink RX5 10 "PebbleInShoe" "texts" "LPebbleInShoe$Texts;") (by decide +kernel)
  have hiX5 := (by decide +kernel : ∀ w ∈ wsX50, w ∈ wsX5_force)
  have kf78 := hts (.fieldLink RX5 78 "PebbleInShoe$Texts" "number" "I") (by decide +kernel)
  have hiX3 := (by decide +kernel : ∀ w ∈ wsX30, w ∈ wsX5_force)
  have kf28 := hts (.fieldLink RX5 28 "PebbleInShoe" "now" "LPebbleInShoe$Court;") (by decide +kernel)
  have kf81 := hts (.fieldLink RX5 81 "PebbleInShoe$Court" "law" "I") (by decide +kernel)
  have hiX0 := (by decide +kernel : ∀ w ∈ wsX00, w ∈ wsX5_force)
  refine lv_iload_n hx hb dX5_force_0 rfl (lv_at hl 1 rfl) ?_
  refine lv_if_lt (tgt := 15) hx hb dX5_force_1 (by decide +kernel) (fun c_1 => ?_) (fun c_1 => ?_)
  · skip
    refine lv_bipush (v := -2) hx hb dX5_force_15 (by decide +kernel) ?_
    have q_4 : m_X5_force_nw11 lw tx v0 = lw := by unfold m_X5_force_nw11; rw [if_pos c_1]
    have hz9 : gPD G A [zo5 h0 tt rd nw th kp sh tu him, zo0 nw tt n1 n2 n3 n4 n5 n6 n7 n8 (nI jg) (nI pb) (nI (m_X5_force_nw11 lw tx v0)), zo3 tt co en sk wr (nI tx)] s.heap := ⟨by rw [q_4]; exact hP, by rw [q_4]; exact hD⟩
    have hP9 := hz9.1
    have hD9 := hz9.2
    have hpost : (fun (r : Int32) (u : Unit) => match u with | _ => r = m_X5_force lw tx v0) (-2) () := (show m_X5_force lw tx v0 = (-2) from by unfold m_X5_force; rw [if_pos c_1]).symm
    exact W.iret (v := (-2)) hx hb hr (fun t ht hW => ⟨⟨(-2), (), rfl, hpost, by rw [ht]; exact hP9, va_K.moved hW.alike hK, hD9⟩, hS.F ht⟩) hS.2.2 dX5_force_17
  · skip
    have hv_2 : v0 = nI (nC v0) := nC_eq (Int32.not_lt.mp c_1)
    have hk_3 : nC v0 < 2 ^ 31 := nC_31 _
    refine lv_iload_n hx hb dX5_force_4 rfl (lv_at hl 1 rfl) ?_
    refine g_topi (y := nI (nC v0)) hv_2 ?_
    refine g_aget (D := G.1) (ci := 5) (v := .ref tt) (C := RX5) (T := TX5) (N := 8) hx hb dX5_force_5 rfl (lv_at hl 0 rfl) hts hiX5 hown hK hP 0 rfl rfl 0 (by decide +kernel) kf10 (fun _ h9 => h9) rfl dX5_force_6 ?_
    refine va_get (D := G.1) (ci := 3) (v := .int (nI tx)) (C := RX3) (T := TX3) (N := 5) hx hb hts hiX3 hown hK hP 2 rfl rfl 4 (by decide +kernel) kf78 (fun _ h9 => h9) rfl dX5_force_9 ?_
    refine lv_icmp_lt (tgt := 18) hx hb dX5_force_12 (by decide +kernel) (fun c_6 => ?_) (fun c_6 => ?_)
    · skip
      have c_6N : (nC v0) < tx := nI_lt1 (a := (nC v0)) (b := tx) (by omega) (by omega) c_6
      refine g_aget (D := G.1) (ci := 5) (v := .ref nw) (C := RX5) (T := TX5) (N := 8) hx hb dX5_force_18 rfl (lv_at hl 0 rfl) hts hiX5 hown hK hP 0 rfl rfl 2 (by decide +kernel) kf28 (fun _ h9 => h9) rfl dX5_force_19 ?_
      refine va_get (D := G.1) (ci := 0) (v := .int (nI lw)) (C := RX0) (T := TX0) (N := 12) hx hb hts hiX0 hown hK hP 1 rfl rfl 11 (by decide +kernel) kf81 (fun _ h9 => h9) rfl dX5_force_22 ?_
      refine lv_istore_n (lv' := [zI 2 (nI lw), zR 0 h0, zI 1 v0]) hx hb dX5_force_25 rfl hl (by decide +kernel) rfl (fun ls hl => ?_)
      refine g_aget (D := G.1) (ci := 5) (v := .ref nw) (C := RX5) (T := TX5) (N := 8) hx hb dX5_force_26 rfl (lv_at hl 1 rfl) hts hiX5 hown hK hP 0 rfl rfl 2 (by decide +kernel) kf28 (fun _ h9 => h9) rfl dX5_force_27 ?_
      refine lv_iload_n hx hb dX5_force_30 rfl (lv_at hl 2 rfl) ?_
      refine g_topi (y := nI (nC v0)) hv_2 ?_
      refine va_put (D := G.1) (ci := 0) (v := .int (nI (nC v0))) (ty := .int) (C := RX0) (T := TX0) (N := 12) hx hb hts hiX0 tyX0 tyX0_ok nmX0 hown hK hP hD hS 1 rfl rfl 11 (by decide +kernel) kf81 (fun _ h9 => h9) rfl (by decide +kernel) rfl rfl (Nat.le_of_ble_eq_true rfl) dX5_force_31 (fun H locs hP hD hS => ?_)
      have hz9 : gPD G A [zo5 h0 tt rd nw th kp sh tu him, zo0 nw tt n1 n2 n3 n4 n5 n6 n7 n8 (nI jg) (nI pb) (nI (nC v0)), zo3 tt co en sk wr (nI tx)] H := ⟨hP, hD⟩
      have hP := hz9.1
      have hD := hz9.2
      refine lv_iload_n hx hb dX5_force_34 rfl (lv_at hl 0 rfl) ?_
      have q_8 : m_X5_force_nw11 lw tx v0 = nC v0 := by unfold m_X5_force_nw11; rw [if_neg c_1, if_pos c_6]
      have hz9 : gPD G A [zo5 h0 tt rd nw th kp sh tu him, zo0 nw tt n1 n2 n3 n4 n5 n6 n7 n8 (nI jg) (nI pb) (nI (m_X5_force_nw11 lw tx v0)), zo3 tt co en sk wr (nI tx)] H := ⟨by rw [q_8]; exact hP, by rw [q_8]; exact hD⟩
      have hP9 := hz9.1
      have hD9 := hz9.2
      have hpost : (fun (r : Int32) (u : Unit) => match u with | _ => r = m_X5_force lw tx v0) (nI lw) () := (show m_X5_force lw tx v0 = (nI lw) from by unfold m_X5_force; rw [if_neg c_1, if_pos c_6]).symm
      exact W.iret (v := (nI lw)) hx hb hr (fun t ht hW => ⟨⟨(nI lw), (), rfl, hpost, by rw [ht]; exact hP9, va_K.moved hW.alike hK, hD9⟩, hS.F ht⟩) hS.2.2 dX5_force_35
    · skip
      have c_6N : tx ≤ (nC v0) := nI_lt0 (a := (nC v0)) (b := tx) (by omega) (by omega) c_6
      refine lv_bipush (v := -2) hx hb dX5_force_15 (by decide +kernel) ?_
      have q_9 : m_X5_force_nw11 lw tx v0 = lw := by unfold m_X5_force_nw11; rw [if_neg c_1, if_neg c_6]
      have hz9 : gPD G A [zo5 h0 tt rd nw th kp sh tu him, zo0 nw tt n1 n2 n3 n4 n5 n6 n7 n8 (nI jg) (nI pb) (nI (m_X5_force_nw11 lw tx v0)), zo3 tt co en sk wr (nI tx)] s.heap := ⟨by rw [q_9]; exact hP, by rw [q_9]; exact hD⟩
      have hP9 := hz9.1
      have hD9 := hz9.2
      have hpost : (fun (r : Int32) (u : Unit) => match u with | _ => r = m_X5_force lw tx v0) (-2) () := (show m_X5_force lw tx v0 = (-2) from by unfold m_X5_force; rw [if_neg c_1, if_neg c_6]).symm
      exact W.iret (v := (-2)) hx hb hr (fun t ht hW => ⟨⟨(-2), (), rfl, hpost, by rw [ht]; exact hP9, va_K.moved hW.alike hK, hD9⟩, hS.F ht⟩) hS.2.2 dX5_force_17
abbrev q_X5_image (G : gG) (h0 tt rd nw th kp sh tu n1 n2 n3 n4 n5 n6 n7 n8 k1 k2 k3 k4 k5 k6 k7 k8 : Nat) (jg : Nat) (pb : Nat) (lw : Nat) (kj : Nat) (kb : Nat) (kl : Nat) (him : Int32) (fso : Nat → Int32) (fmi : Nat → Int32) (fpa : Nat → Int32) (fki : Nat → Int32) (fmo : Nat → Int32) (fsz : Nat → Int32) (frd : Nat → Int32) (gso : Nat → Int32) (gmi : Nat → Int32) (gpa : Nat → Int32) (gki : Nat → Int32) (gmo : Nat → Int32) (gsz : Nat → Int32) (grd : Nat → Int32) (A : Nat → Prop) : Array Value → State → Outcome → State → Prop := va_Qi (fun (r : Int32) (u : Unit) => match u with | _ => r = nI pb) (fun (u : Unit) t => match u with | _ => va_P G.1 vwCl [zo5 h0 tt rd nw th kp sh tu 1, zo0 nw tt n1 n2 n3 n4 n5 n6 n7 n8 (nI jg) (nI pb) (nI lw), zi G n2 4 fso, zi G n3 4 fmi, zi G n4 4 fpa, zi G n5 6 fki, zi G n6 6 fmo, zi G n7 6 fsz, zi G n8 6 frd, zo0 kp tt k1 k2 k3 k4 k5 k6 k7 k8 (nI jg) (nI pb) (nI lw), zi G k2 4 fso, zi G k3 4 fmi, zi G k4 4 fpa, zi G k5 6 fki, zi G k6 6 fmo, zi G k7 6 fsz, zi G k8 6 frd] t.heap ∧ gK G t ∧ va_D A [zo5 h0 tt rd nw th kp sh tu 1, zo0 nw tt n1 n2 n3 n4 n5 n6 n7 n8 (nI jg) (nI pb) (nI lw), zi G n2 4 fso, zi G n3 4 fmi, zi G n4 4 fpa, zi G n5 6 fki, zi G n6 6 fmo, zi G n7 6 fsz, zi G n8 6 frd, zo0 kp tt k1 k2 k3 k4 k5 k6 k7 k8 (nI jg) (nI pb) (nI lw), zi G k2 4 fso, zi G k3 4 fmi, zi G k4 4 fpa, zi G k5 6 fki, zi G k6 6 fmo, zi G k7 6 fsz, zi G k8 6 frd]) A
set_option maxHeartbeats 4000000 in
set_option maxRecDepth 100000 in
theorem c_X5_image (l : Launch) (G : gG) (h0 tt rd nw th kp sh tu n1 n2 n3 n4 n5 n6 n7 n8 k1 k2 k3 k4 k5 k6 k7 k8 : Nat) (jg : Nat) (pb : Nat) (lw : Nat) (kj : Nat) (kb : Nat) (kl : Nat) (him : Int32) (fso : Nat → Int32) (fmi : Nat → Int32) (fpa : Nat → Int32) (fki : Nat → Int32) (fmo : Nat → Int32) (fsz : Nat → Int32) (frd : Nat → Int32) (gso : Nat → Int32) (gmi : Nat → Int32) (gpa : Nat → Int32) (gki : Nat → Int32) (gmo : Nat → Int32) (gsz : Nat → Int32) (grd : Nat → Int32) (sz : Nat) (hjg : jg ≤ 4) (hpb : pb ≤ 6) : Met l yX5_image wsX5_image ({ frames := 2, cells := 0, slots := 0, locals := 421 }) (gPre G [.ref h0] [zo5 h0 tt rd nw th kp sh tu him, zo0 nw tt n1 n2 n3 n4 n5 n6 n7 n8 (nI jg) (nI pb) (nI lw), zi G n2 4 fso, zi G n3 4 fmi, zi G n4 4 fpa, zi G n5 6 fki, zi G n6 6 fmo, zi G n7 6 fsz, zi G n8 6 frd, zo0 kp tt k1 k2 k3 k4 k5 k6 k7 k8 (nI kj) (nI kb) (nI kl), zi G k2 4 gso, zi G k3 4 gmi, zi G k4 4 gpa, zi G k5 6 gki, zi G k6 6 gmo, zi G k7 6 gsz, zi G k8 6 grd] sz) (q_X5_image G h0 tt rd nw th kp sh tu n1 n2 n3 n4 n5 n6 n7 n8 k1 k2 k3 k4 k5 k6 k7 k8 jg pb lw kj kb kl him fso fmi fpa fki fmo fsz frd gso gmi gpa gki gmo gsz grd (va_A [zo5 h0 tt rd nw th kp sh tu him, zo0 nw tt n1 n2 n3 n4 n5 n6 n7 n8 (nI jg) (nI pb) (nI lw), zi G n2 4 fso, zi G n3 4 fmi, zi G n4 4 fpa, zi G n5 6 fki, zi G n6 6 fmo, zi G n7 6 fsz, zi G n8 6 frd, zo0 kp tt k1 k2 k3 k4 k5 k6 k7 k8 (nI kj) (nI kb) (nI kl), zi G k2 4 gso, zi G k3 4 gmi, zi G k4 4 gpa, zi G k5 6 gki, zi G k6 6 gmo, zi G k7 6 gsz, zi G k8 6 grd] sz)) 0 0 (va_A [zo5 h0 tt rd nw th kp sh tu him, zo0 nw tt n1 n2 n3 n4 n5 n6 n7 n8 (nI jg) (nI pb) (nI lw), zi G n2 4 fso, zi G n3 4 fmi, zi G n4 4 fpa, zi G n5 6 fki, zi G n6 6 fmo, zi G n7 6 fsz, zi G n8 6 frd, zo0 kp tt k1 k2 k3 k4 k5 k6 k7 k8 (nI kj) (nI kb) (nI kl), zi G k2 4 gso, zi G k3 4 gmi, zi G k4 4 gpa, zi G k5 6 gki, zi G k6 6 gmo, zi G k7 6 gsz, zi G k8 6 grd] sz) := by
  refine Met.ofW (cc := cX5_image) (maxL := 1) (ret := (some .int)) (by decide +kernel) rfl ?_
  intro p e s m args below meth c s₁ B hml hv
  obtain ⟨rfl, hsz, hP, hK, hD0⟩ := hv
  have hx := B.exec
  have hb := B.bytes
  have hr := B.returns
  have hts := atoms_spec (ws := wsX5_image) B.pre
  have hown : s.vm.findClass RX5 = some m.cls := findClass_of_methodNamed B.named
  have hlocks := B.notSynchronized
  subst hsz
  have hD := hD0.self (sz := s.heap.size)
  generalize hAe : va_A [zo5 h0 tt rd nw th kp sh tu him, zo0 nw tt n1 n2 n3 n4 n5 n6 n7 n8 (nI jg) (nI pb) (nI lw), zi G n2 4 fso, zi G n3 4 fmi, zi G n4 4 fpa, zi G n5 6 fki, zi G n6 6 fmo, zi G n7 6 fsz, zi G n8 6 frd, zo0 kp tt k1 k2 k3 k4 k5 k6 k7 k8 (nI kj) (nI kb) (nI kl), zi G k2 4 gso, zi G k3 4 gmi, zi G k4 4 gpa, zi G k5 6 gki, zi G k6 6 gmo, zi G k7 6 gsz, zi G k8 6 grd] s.heap.size = A at hD ⊢
  have hA : ∀ q : Nat, s.heap.size ≤ q → A q := fun q h => by rw [← hAe]; exact Or.inr h
  have hS : va_S A s.heap s.heap [] := va_S.rf
  have hz9 : gPD G A [zo5 h0 tt rd nw th kp sh tu him, zo0 nw tt n1 n2 n3 n4 n5 n6 n7 n8 (nI jg) (nI pb) (nI lw), zi G n2 4 fso, zi G n3 4 fmi, zi G n4 4 fpa, zi G n5 6 fki, zi G n6 6 fmo, zi G n7 6 fsz, zi G n8 6 frd, zo0 kp tt k1 k2 k3 k4 k5 k6 k7 k8 (nI kj) (nI kb) (nI kl), zi G k2 4 gso, zi G k3 4 gmi, zi G k4 4 gpa, zi G k5 6 gki, zi G k6 6 gmo, zi G k7 6 gsz, zi G k8 6 grd] s.heap := ⟨hP, hD⟩
  have hP := hz9.1
  have hD := hz9.2
  have hl := lv_entry ([.ref h0]) (n := 1) (Nat.le_of_ble_eq_true rfl)
  rw [lg_entry_eq]
  generalize (lg_sl ([.ref h0]) ++ List.replicate (1 - (lg_sl ([.ref h0])).length) Slot.unset).toArray = ls at hl ⊢
  have hl : lv_has ls 1 [zR 0 h0] := hl
  have kf35 := hts (.fieldLink RX5 35 "PebbleInShoe" "kept" "LPebbleInShoe$Court;") (by decide +kernel)
  have hiX5 := (by decide +kernel : ∀ w ∈ wsX50, w ∈ wsX5_image)
  have kf28 := hts (.fieldLink RX5 28 "PebbleInShoe" "now" "LPebbleInShoe$Court;") (by decide +kernel)
  have kf221 := hts (.fieldLink RX5 221 "PebbleInShoe" "hasImage" "Z") (by decide +kernel)
  have kf71 := hts (.fieldLink RX5 71 "PebbleInShoe$Court" "pebbles" "I") (by decide +kernel)
  have hiX0 := (by decide +kernel : ∀ w ∈ wsX00, w ∈ wsX5_image)
  refine g_aget (D := G.1) (ci := 5) (v := .ref kp) (C := RX5) (T := TX5) (N := 8) hx hb dX5_image_0 rfl (lv_at hl 0 rfl) hts hiX5 hown hK hP 0 rfl rfl 4 (by decide +kernel) kf35 (fun _ h9 => h9) rfl dX5_image_1 ?_
  refine g_aget (D := G.1) (ci := 5) (v := .ref nw) (C := RX5) (T := TX5) (N := 8) hx hb dX5_image_4 rfl (lv_at hl 0 rfl) hts hiX5 hown hK hP 0 rfl rfl 2 (by decide +kernel) kf28 (fun _ h9 => h9) rfl dX5_image_5 ?_
  refine z_callv [9, 1, 10, 11, 12, 13, 14, 15, 16, 2, 3, 4, 5, 6, 7, 8] (va_runV (As := [.ref nw]) (rest := []) ⟨hx, hb, hml, hown, hts⟩ (c_X0_become l G kp tt nw k1 k2 k3 k4 k5 k6 k7 k8 n1 n2 n3 n4 n5 n6 n7 n8 jg pb lw (nI kj) (nI kb) (nI kl) gso gmi gpa gki gmo gsz grd fso fmi fpa fki fmo fsz frd s.heap.size) (cwV 1 hts gX5_image_X0_become rfl rfl rfl (by decide +kernel) ⟨Nat.le_of_ble_eq_true rfl, Nat.le_of_ble_eq_true rfl⟩) ⟨gPre_blind, va_recv (q := (RX0, TX0, 12)) hK hP (ci := 0) (q0 := 9) rfl rfl, fun U hU hW => gPre_ofF [9, 1, 10, 11, 12, 13, 14, 15, 16, 2, 3, 4, 5, 6, 7, 8] hU hW hK hP hD (by decide +kernel) rfl⟩ rfl rfl hl.1 rfl (lv_room (Nat.le_of_ble_eq_true rfl)) dX5_image_8 ⟨Nat.le_of_ble_eq_true rfl, Nat.le_of_ble_eq_true rfl⟩) hS hD hA rfl (fun u t H locs ht hvm w_2 hB hz1 hk1 hFq hAq hS => ?_)
  obtain ⟨hP1, hK1, hD1⟩ := hB
  have hz9 : gPD G A [zo5 h0 tt rd nw th kp sh tu him, zo0 nw tt n1 n2 n3 n4 n5 n6 n7 n8 (nI jg) (nI pb) (nI lw), zi G n2 4 fso, zi G n3 4 fmi, zi G n4 4 fpa, zi G n5 6 fki, zi G n6 6 fmo, zi G n7 6 fsz, zi G n8 6 frd, zo0 kp tt k1 k2 k3 k4 k5 k6 k7 k8 (nI jg) (nI pb) (nI lw), zi G k2 4 fso, zi G k3 4 fmi, zi G k4 4 fpa, zi G k5 6 fki, zi G k6 6 fmo, zi G k7 6 fsz, zi G k8 6 frd] H := zFill hP hD [9, 1, 10, 11, 12, 13, 14, 15, 16, 2, 3, 4, 5, 6, 7, 8] [0, 2, 10, 11, 12, 13, 14, 15, 16, 1, 3, 4, 5, 6, 7, 8, 9] hAq hk1 hFq ht hP1 hD1 rfl (by decide +kernel)
  have hP := hz9.1
  have hD := hz9.2
  refine lv_aload_n hx hb dX5_image_11 rfl (lv_at hl 0 rfl) ?_
  refine lv_iconst (v := 1) hx hb dX5_image_12 (by decide +kernel) ?_
  refine va_put (D := G.1) (ci := 5) (v := .int 1) (ty := .boolean) (C := RX5) (T := TX5) (N := 8) hx hb hts hiX5 tyX5 tyX5_ok nmX5 hown hK hP hD hS 0 rfl rfl 7 (by decide +kernel) kf221 (fun _ h9 => h9) rfl (by decide +kernel) rfl rfl (Nat.le_of_ble_eq_true rfl) dX5_image_13 (fun H locs hP hD hS => ?_)
  have hz9 : gPD G A [zo5 h0 tt rd nw th kp sh tu 1, zo0 nw tt n1 n2 n3 n4 n5 n6 n7 n8 (nI jg) (nI pb) (nI lw), zi G n2 4 fso, zi G n3 4 fmi, zi G n4 4 fpa, zi G n5 6 fki, zi G n6 6 fmo, zi G n7 6 fsz, zi G n8 6 frd, zo0 kp tt k1 k2 k3 k4 k5 k6 k7 k8 (nI jg) (nI pb) (nI lw), zi G k2 4 fso, zi G k3 4 fmi, zi G k4 4 fpa, zi G k5 6 fki, zi G k6 6 fmo, zi G k7 6 fsz, zi G k8 6 frd] H := ⟨hP, hD⟩
  have hP := hz9.1
  have hD := hz9.2
  refine g_aget (D := G.1) (ci := 5) (v := .ref nw) (C := RX5) (T := TX5) (N := 8) hx hb dX5_image_16 rfl (lv_at hl 0 rfl) hts hiX5 hown hK hP 0 rfl rfl 2 (by decide +kernel) kf28 (fun _ h9 => h9) rfl dX5_image_17 ?_
  refine va_get (D := G.1) (ci := 0) (v := .int (nI pb)) (C := RX0) (T := TX0) (N := 12) hx hb hts hiX0 hown hK hP 1 rfl rfl 10 (by decide +kernel) kf71 (fun _ h9 => h9) rfl dX5_image_20 ?_
  have hpost : (fun (r : Int32) (u : Unit) => match u with | _ => r = nI pb) (nI pb) () := (show nI pb = (nI pb) from rfl).symm
  exact W.iret (v := (nI pb)) hx hb hr (fun t ht hW => ⟨⟨(nI pb), (), rfl, hpost, by rw [ht]; exact hP, va_K.moved hW.alike hK, hD⟩, hS.F ht⟩) hS.2.2 dX5_image_23
noncomputable def m_X5_back (kb : Nat) (him : Int32) : Int32 := if him = 0 then -3 else nI kb
noncomputable def m_X5_back_nw9 (jg : Nat) (kj : Nat) (him : Int32) : Nat := if him = 0 then jg else kj
noncomputable def m_X5_back_nw10 (pb : Nat) (kb : Nat) (him : Int32) : Nat := if him = 0 then pb else kb
noncomputable def m_X5_back_nw11 (lw : Nat) (kl : Nat) (him : Int32) : Nat := if him = 0 then lw else kl
noncomputable def m_X5_back_n2 (him : Int32) (fso : Nat → Int32) (gso : Nat → Int32) : Nat → Int32 := if him = 0 then fso else gso
noncomputable def m_X5_back_n3 (him : Int32) (fmi : Nat → Int32) (gmi : Nat → Int32) : Nat → Int32 := if him = 0 then fmi else gmi
noncomputable def m_X5_back_n4 (him : Int32) (fpa : Nat → Int32) (gpa : Nat → Int32) : Nat → Int32 := if him = 0 then fpa else gpa
noncomputable def m_X5_back_n5 (him : Int32) (fki : Nat → Int32) (gki : Nat → Int32) : Nat → Int32 := if him = 0 then fki else gki
noncomputable def m_X5_back_n6 (him : Int32) (fmo : Nat → Int32) (gmo : Nat → Int32) : Nat → Int32 := if him = 0 then fmo else gmo
noncomputable def m_X5_back_n7 (him : Int32) (fsz : Nat → Int32) (gsz : Nat → Int32) : Nat → Int32 := if him = 0 then fsz else gsz
noncomputable def m_X5_back_n8 (him : Int32) (frd : Nat → Int32) (grd : Nat → Int32) : Nat → Int32 := if him = 0 then frd else grd
abbrev q_X5_back (G : gG) (h0 tt rd nw th kp sh tu n1 n2 n3 n4 n5 n6 n7 n8 k1 k2 k3 k4 k5 k6 k7 k8 : Nat) (jg : Nat) (pb : Nat) (lw : Nat) (kj : Nat) (kb : Nat) (kl : Nat) (him : Int32) (fso : Nat → Int32) (fmi : Nat → Int32) (fpa : Nat → Int32) (fki : Nat → Int32) (fmo : Nat → Int32) (fsz : Nat → Int32) (frd : Nat → Int32) (gso : Nat → Int32) (gmi : Nat → Int32) (gpa : Nat → Int32) (gki : Nat → Int32) (gmo : Nat → Int32) (gsz : Nat → Int32) (grd : Nat → Int32) (A : Nat → Prop) : Array Value → State → Outcome → State → Prop := va_Qi (fun (r : Int32) (u : Unit) => match u with | _ => r = m_X5_back kb him) (fun (u : Unit) t => match u with | _ => va_P G.1 vwCl [zo5 h0 tt rd nw th kp sh tu him, zo0 nw tt n1 n2 n3 n4 n5 n6 n7 n8 (nI (m_X5_back_nw9 jg kj him)) (nI (m_X5_back_nw10 pb kb him)) (nI (m_X5_back_nw11 lw kl him)), zi G n2 4 (m_X5_back_n2 him fso gso), zi G n3 4 (m_X5_back_n3 him fmi gmi), zi G n4 4 (m_X5_back_n4 him fpa gpa), zi G n5 6 (m_X5_back_n5 him fki gki), zi G n6 6 (m_X5_back_n6 him fmo gmo), zi G n7 6 (m_X5_back_n7 him fsz gsz), zi G n8 6 (m_X5_back_n8 him frd grd), zo0 kp tt k1 k2 k3 k4 k5 k6 k7 k8 (nI kj) (nI kb) (nI kl), zi G k2 4 gso, zi G k3 4 gmi, zi G k4 4 gpa, zi G k5 6 gki, zi G k6 6 gmo, zi G k7 6 gsz, zi G k8 6 grd] t.heap ∧ gK G t ∧ va_D A [zo5 h0 tt rd nw th kp sh tu him, zo0 nw tt n1 n2 n3 n4 n5 n6 n7 n8 (nI (m_X5_back_nw9 jg kj him)) (nI (m_X5_back_nw10 pb kb him)) (nI (m_X5_back_nw11 lw kl him)), zi G n2 4 (m_X5_back_n2 him fso gso), zi G n3 4 (m_X5_back_n3 him fmi gmi), zi G n4 4 (m_X5_back_n4 him fpa gpa), zi G n5 6 (m_X5_back_n5 him fki gki), zi G n6 6 (m_X5_back_n6 him fmo gmo), zi G n7 6 (m_X5_back_n7 him fsz gsz), zi G n8 6 (m_X5_back_n8 him frd grd), zo0 kp tt k1 k2 k3 k4 k5 k6 k7 k8 (nI kj) (nI kb) (nI kl), zi G k2 4 gso, zi G k3 4 gmi, zi G k4 4 gpa, zi G k5 6 gki, zi G k6 6 gmo, zi G k7 6 gsz, zi G k8 6 grd]) A
set_option maxHeartbeats 4000000 in
set_option maxRecDepth 100000 in
theorem c_X5_back (l : Launch) (G : gG) (h0 tt rd nw th kp sh tu n1 n2 n3 n4 n5 n6 n7 n8 k1 k2 k3 k4 k5 k6 k7 k8 : Nat) (jg : Nat) (pb : Nat) (lw : Nat) (kj : Nat) (kb : Nat) (kl : Nat) (him : Int32) (fso : Nat → Int32) (fmi : Nat → Int32) (fpa : Nat → Int32) (fki : Nat → Int32) (fmo : Nat → Int32) (fsz : Nat → Int32) (frd : Nat → Int32) (gso : Nat → Int32) (gmi : Nat → Int32) (gpa : Nat → Int32) (gki : Nat → Int32) (gmo : Nat → Int32) (gsz : Nat → Int32) (grd : Nat → Int32) (sz : Nat) (hjg : jg ≤ 4) (hpb : pb ≤ 6) : Met l yX5_back wsX5_back ({ frames := 2, cells := 0, slots := 0, locals := 421 }) (gPre G [.ref h0] [zo5 h0 tt rd nw th kp sh tu him, zo0 nw tt n1 n2 n3 n4 n5 n6 n7 n8 (nI jg) (nI pb) (nI lw), zi G n2 4 fso, zi G n3 4 fmi, zi G n4 4 fpa, zi G n5 6 fki, zi G n6 6 fmo, zi G n7 6 fsz, zi G n8 6 frd, zo0 kp tt k1 k2 k3 k4 k5 k6 k7 k8 (nI kj) (nI kb) (nI kl), zi G k2 4 gso, zi G k3 4 gmi, zi G k4 4 gpa, zi G k5 6 gki, zi G k6 6 gmo, zi G k7 6 gsz, zi G k8 6 grd] sz) (q_X5_back G h0 tt rd nw th kp sh tu n1 n2 n3 n4 n5 n6 n7 n8 k1 k2 k3 k4 k5 k6 k7 k8 jg pb lw kj kb kl him fso fmi fpa fki fmo fsz frd gso gmi gpa gki gmo gsz grd (va_A [zo5 h0 tt rd nw th kp sh tu him, zo0 nw tt n1 n2 n3 n4 n5 n6 n7 n8 (nI jg) (nI pb) (nI lw), zi G n2 4 fso, zi G n3 4 fmi, zi G n4 4 fpa, zi G n5 6 fki, zi G n6 6 fmo, zi G n7 6 fsz, zi G n8 6 frd, zo0 kp tt k1 k2 k3 k4 k5 k6 k7 k8 (nI kj) (nI kb) (nI kl), zi G k2 4 gso, zi G k3 4 gmi, zi G k4 4 gpa, zi G k5 6 gki, zi G k6 6 gmo, zi G k7 6 gsz, zi G k8 6 grd] sz)) 0 0 (va_A [zo5 h0 tt rd nw th kp sh tu him, zo0 nw tt n1 n2 n3 n4 n5 n6 n7 n8 (nI jg) (nI pb) (nI lw), zi G n2 4 fso, zi G n3 4 fmi, zi G n4 4 fpa, zi G n5 6 fki, zi G n6 6 fmo, zi G n7 6 fsz, zi G n8 6 frd, zo0 kp tt k1 k2 k3 k4 k5 k6 k7 k8 (nI kj) (nI kb) (nI kl), zi G k2 4 gso, zi G k3 4 gmi, zi G k4 4 gpa, zi G k5 6 gki, zi G k6 6 gmo, zi G k7 6 gsz, zi G k8 6 grd] sz) := by
  refine Met.ofW (cc := cX5_back) (maxL := 1) (ret := (some .int)) (by decide +kernel) rfl ?_
  intro p e s m args below meth c s₁ B hml hv
  obtain ⟨rfl, hsz, hP, hK, hD0⟩ := hv
  have hx := B.exec
  have hb := B.bytes
  have hr := B.returns
  have hts := atoms_spec (ws := wsX5_back) B.pre
  have hown : s.vm.findClass RX5 = some m.cls := findClass_of_methodNamed B.named
  have hlocks := B.notSynchronized
  subst hsz
  have hD := hD0.self (sz := s.heap.size)
  generalize hAe : va_A [zo5 h0 tt rd nw th kp sh tu him, zo0 nw tt n1 n2 n3 n4 n5 n6 n7 n8 (nI jg) (nI pb) (nI lw), zi G n2 4 fso, zi G n3 4 fmi, zi G n4 4 fpa, zi G n5 6 fki, zi G n6 6 fmo, zi G n7 6 fsz, zi G n8 6 frd, zo0 kp tt k1 k2 k3 k4 k5 k6 k7 k8 (nI kj) (nI kb) (nI kl), zi G k2 4 gso, zi G k3 4 gmi, zi G k4 4 gpa, zi G k5 6 gki, zi G k6 6 gmo, zi G k7 6 gsz, zi G k8 6 grd] s.heap.size = A at hD ⊢
  have hA : ∀ q : Nat, s.heap.size ≤ q → A q := fun q h => by rw [← hAe]; exact Or.inr h
  have hS : va_S A s.heap s.heap [] := va_S.rf
  have hz9 : gPD G A [zo5 h0 tt rd nw th kp sh tu him, zo0 nw tt n1 n2 n3 n4 n5 n6 n7 n8 (nI jg) (nI pb) (nI lw), zi G n2 4 fso, zi G n3 4 fmi, zi G n4 4 fpa, zi G n5 6 fki, zi G n6 6 fmo, zi G n7 6 fsz, zi G n8 6 frd, zo0 kp tt k1 k2 k3 k4 k5 k6 k7 k8 (nI kj) (nI kb) (nI kl), zi G k2 4 gso, zi G k3 4 gmi, zi G k4 4 gpa, zi G k5 6 gki, zi G k6 6 gmo, zi G k7 6 gsz, zi G k8 6 grd] s.heap := ⟨hP, hD⟩
  have hP := hz9.1
  have hD := hz9.2
  have hl := lv_entry ([.ref h0]) (n := 1) (Nat.le_of_ble_eq_true rfl)
  rw [lg_entry_eq]
  generalize (lg_sl ([.ref h0]) ++ List.replicate (1 - (lg_sl ([.ref h0])).length) Slot.unset).toArray = ls at hl ⊢
  have hl : lv_has ls 1 [zR 0 h0] := hl
  have kf221 := hts (.fieldLink RX5 221 "PebbleInShoe" "hasImage" "Z") (by decide +kernel)
  have hiX5 := (by decide +kernel : ∀ w ∈ wsX50, w ∈ wsX5_back)
  have kf28 := hts (.fieldLink RX5 28 "PebbleInShoe" "now" "LPebbleInShoe$Court;") (by decide +kernel)
  have kf35 := hts (.fieldLink RX5 35 "PebbleInShoe" "kept" "LPebbleInShoe$Court;") (by decide +kernel)
  have kf71 := hts (.fieldLink RX5 71 "PebbleInShoe$Court" "pebbles" "I") (by decide +kernel)
  have hiX0 := (by decide +kernel : ∀ w ∈ wsX00, w ∈ wsX5_back)
  refine g_aget (D := G.1) (ci := 5) (v := .int him) (C := RX5) (T := TX5) (N := 8) hx hb dX5_back_0 rfl (lv_at hl 0 rfl) hts hiX5 hown hK hP 0 rfl rfl 7 (by decide +kernel) kf221 (fun _ h9 => h9) rfl dX5_back_1 ?_
  refine lv_if_ne (tgt := 10) hx hb dX5_back_4 (by decide +kernel) (fun c_1 => ?_) (fun c_1 => ?_)
  · skip
    refine g_aget (D := G.1) (ci := 5) (v := .ref nw) (C := RX5) (T := TX5) (N := 8) hx hb dX5_back_10 rfl (lv_at hl 0 rfl) hts hiX5 hown hK hP 0 rfl rfl 2 (by decide +kernel) kf28 (fun _ h9 => h9) rfl dX5_back_11 ?_
    refine g_aget (D := G.1) (ci := 5) (v := .ref kp) (C := RX5) (T := TX5) (N := 8) hx hb dX5_back_14 rfl (lv_at hl 0 rfl) hts hiX5 hown hK hP 0 rfl rfl 4 (by decide +kernel) kf35 (fun _ h9 => h9) rfl dX5_back_15 ?_
    refine z_callv [1, 9, 2, 3, 4, 5, 6, 7, 8, 10, 11, 12, 13, 14, 15, 16] (va_runV (As := [.ref kp]) (rest := []) ⟨hx, hb, hml, hown, hts⟩ (c_X0_become l G nw tt kp n1 n2 n3 n4 n5 n6 n7 n8 k1 k2 k3 k4 k5 k6 k7 k8 kj kb kl (nI jg) (nI pb) (nI lw) fso fmi fpa fki fmo fsz frd gso gmi gpa gki gmo gsz grd s.heap.size) (cwV 1 hts gX5_back_X0_become rfl rfl rfl (by decide +kernel) ⟨Nat.le_of_ble_eq_true rfl, Nat.le_of_ble_eq_true rfl⟩) ⟨gPre_blind, va_recv (q := (RX0, TX0, 12)) hK hP (ci := 0) (q0 := 1) rfl rfl, fun U hU hW => gPre_ofF [1, 9, 2, 3, 4, 5, 6, 7, 8, 10, 11, 12, 13, 14, 15, 16] hU hW hK hP hD (by decide +kernel) rfl⟩ rfl rfl hl.1 rfl (lv_room (Nat.le_of_ble_eq_true rfl)) dX5_back_18 ⟨Nat.le_of_ble_eq_true rfl, Nat.le_of_ble_eq_true rfl⟩) hS hD hA rfl (fun u t H locs ht hvm w_3 hB hz1 hk1 hFq hAq hS => ?_)
    obtain ⟨hP1, hK1, hD1⟩ := hB
    have hz9 : gPD G A [zo5 h0 tt rd nw th kp sh tu him, zo0 nw tt n1 n2 n3 n4 n5 n6 n7 n8 (nI kj) (nI kb) (nI kl), zi G n2 4 gso, zi G n3 4 gmi, zi G n4 4 gpa, zi G n5 6 gki, zi G n6 6 gmo, zi G n7 6 gsz, zi G n8 6 grd, zo0 kp tt k1 k2 k3 k4 k5 k6 k7 k8 (nI kj) (nI kb) (nI kl), zi G k2 4 gso, zi G k3 4 gmi, zi G k4 4 gpa, zi G k5 6 gki, zi G k6 6 gmo, zi G k7 6 gsz, zi G k8 6 grd] H := zFill hP hD [1, 9, 2, 3, 4, 5, 6, 7, 8, 10, 11, 12, 13, 14, 15, 16] [0, 1, 3, 4, 5, 6, 7, 8, 9, 2, 10, 11, 12, 13, 14, 15, 16] hAq hk1 hFq ht hP1 hD1 rfl (by decide +kernel)
    have hP := hz9.1
    have hD := hz9.2
    refine g_aget (D := G.1) (ci := 5) (v := .ref nw) (C := RX5) (T := TX5) (N := 8) hx hb dX5_back_21 rfl (lv_at hl 0 rfl) hts hiX5 hown hK hP 0 rfl rfl 2 (by decide +kernel) kf28 (fun _ h9 => h9) rfl dX5_back_22 ?_
    refine va_get (D := G.1) (ci := 0) (v := .int (nI kb)) (C := RX0) (T := TX0) (N := 12) hx hb hts hiX0 hown hK hP 1 rfl rfl 10 (by decide +kernel) kf71 (fun _ h9 => h9) rfl dX5_back_25 ?_
    have q_4 : m_X5_back_nw9 jg kj him = kj := by unfold m_X5_back_nw9; rw [if_neg c_1]
    have q_5 : m_X5_back_nw10 pb kb him = kb := by unfold m_X5_back_nw10; rw [if_neg c_1]
    have q_6 : m_X5_back_nw11 lw kl him = kl := by unfold m_X5_back_nw11; rw [if_neg c_1]
    have q_7 : m_X5_back_n2 him fso gso = gso := by unfold m_X5_back_n2; rw [if_neg c_1]
    have q_8 : m_X5_back_n3 him fmi gmi = gmi := by unfold m_X5_back_n3; rw [if_neg c_1]
    have q_9 : m_X5_back_n4 him fpa gpa = gpa := by unfold m_X5_back_n4; rw [if_neg c_1]
    have q_10 : m_X5_back_n5 him fki gki = gki := by unfold m_X5_back_n5; rw [if_neg c_1]
    have q_11 : m_X5_back_n6 him fmo gmo = gmo := by unfold m_X5_back_n6; rw [if_neg c_1]
    have q_12 : m_X5_back_n7 him fsz gsz = gsz := by unfold m_X5_back_n7; rw [if_neg c_1]
    have q_13 : m_X5_back_n8 him frd grd = grd := by unfold m_X5_back_n8; rw [if_neg c_1]
    have hz9 : gPD G A [zo5 h0 tt rd nw th kp sh tu him, zo0 nw tt n1 n2 n3 n4 n5 n6 n7 n8 (nI (m_X5_back_nw9 jg kj him)) (nI (m_X5_back_nw10 pb kb him)) (nI (m_X5_back_nw11 lw kl him)), zi G n2 4 (m_X5_back_n2 him fso gso), zi G n3 4 (m_X5_back_n3 him fmi gmi), zi G n4 4 (m_X5_back_n4 him fpa gpa), zi G n5 6 (m_X5_back_n5 him fki gki), zi G n6 6 (m_X5_back_n6 him fmo gmo), zi G n7 6 (m_X5_back_n7 him fsz gsz), zi G n8 6 (m_X5_back_n8 him frd grd), zo0 kp tt k1 k2 k3 k4 k5 k6 k7 k8 (nI kj) (nI kb) (nI kl), zi G k2 4 gso, zi G k3 4 gmi, zi G k4 4 gpa, zi G k5 6 gki, zi G k6 6 gmo, zi G k7 6 gsz, zi G k8 6 grd] H := ⟨by rw [q_4, q_5, q_6, q_7, q_8, q_9, q_10, q_11, q_12, q_13]; exact hP, by rw [q_4, q_5, q_6, q_7, q_8, q_9, q_10, q_11, q_12, q_13]; exact hD⟩
    have hP9 := hz9.1
    have hD9 := hz9.2
    have hpost : (fun (r : Int32) (u : Unit) => match u with | _ => r = m_X5_back kb him) (nI kb) () := (show m_X5_back kb him = (nI kb) from by unfold m_X5_back; rw [if_neg c_1]).symm
    exact W.iret (v := (nI kb)) hx hb hr (fun t ht hW => ⟨⟨(nI kb), (), rfl, hpost, by rw [ht]; exact hP9, va_K.moved hW.alike hK, hD9⟩, hS.F ht⟩) hS.2.2 dX5_back_28
  · skip
    refine lv_bipush (v := -3) hx hb dX5_back_7 (by decide +kernel) ?_
    have q_14 : m_X5_back_nw9 jg kj him = jg := by unfold m_X5_back_nw9; rw [if_pos c_1]
    have q_15 : m_X5_back_nw10 pb kb him = pb := by unfold m_X5_back_nw10; rw [if_pos c_1]
    have q_16 : m_X5_back_nw11 lw kl him = lw := by unfold m_X5_back_nw11; rw [if_pos c_1]
    have q_17 : m_X5_back_n2 him fso gso = fso := by unfold m_X5_back_n2; rw [if_pos c_1]
    have q_18 : m_X5_back_n3 him fmi gmi = fmi := by unfold m_X5_back_n3; rw [if_pos c_1]
    have q_19 : m_X5_back_n4 him fpa gpa = fpa := by unfold m_X5_back_n4; rw [if_pos c_1]
    have q_20 : m_X5_back_n5 him fki gki = fki := by unfold m_X5_back_n5; rw [if_pos c_1]
    have q_21 : m_X5_back_n6 him fmo gmo = fmo := by unfold m_X5_back_n6; rw [if_pos c_1]
    have q_22 : m_X5_back_n7 him fsz gsz = fsz := by unfold m_X5_back_n7; rw [if_pos c_1]
    have q_23 : m_X5_back_n8 him frd grd = frd := by unfold m_X5_back_n8; rw [if_pos c_1]
    have hz9 : gPD G A [zo5 h0 tt rd nw th kp sh tu him, zo0 nw tt n1 n2 n3 n4 n5 n6 n7 n8 (nI (m_X5_back_nw9 jg kj him)) (nI (m_X5_back_nw10 pb kb him)) (nI (m_X5_back_nw11 lw kl him)), zi G n2 4 (m_X5_back_n2 him fso gso), zi G n3 4 (m_X5_back_n3 him fmi gmi), zi G n4 4 (m_X5_back_n4 him fpa gpa), zi G n5 6 (m_X5_back_n5 him fki gki), zi G n6 6 (m_X5_back_n6 him fmo gmo), zi G n7 6 (m_X5_back_n7 him fsz gsz), zi G n8 6 (m_X5_back_n8 him frd grd), zo0 kp tt k1 k2 k3 k4 k5 k6 k7 k8 (nI kj) (nI kb) (nI kl), zi G k2 4 gso, zi G k3 4 gmi, zi G k4 4 gpa, zi G k5 6 gki, zi G k6 6 gmo, zi G k7 6 gsz, zi G k8 6 grd] s.heap := ⟨by rw [q_14, q_15, q_16, q_17, q_18, q_19, q_20, q_21, q_22, q_23]; exact hP, by rw [q_14, q_15, q_16, q_17, q_18, q_19, q_20, q_21, q_22, q_23]; exact hD⟩
    have hP9 := hz9.1
    have hD9 := hz9.2
    have hpost : (fun (r : Int32) (u : Unit) => match u with | _ => r = m_X5_back kb him) (-3) () := (show m_X5_back kb him = (-3) from by unfold m_X5_back; rw [if_pos c_1]).symm
    exact W.iret (v := (-3)) hx hb hr (fun t ht hW => ⟨⟨(-3), (), rfl, hpost, by rw [ht]; exact hP9, va_K.moved hW.alike hK, hD9⟩, hS.F ht⟩) hS.2.2 dX5_back_9
noncomputable def m_X5_sheet_A (v1 : Int32) (v2 : Int32) : Int32 := if v1 < (-1) then -2 else (if v1 ≤ 2 then (if v1 = (-1) then 1 else (if v2 ≤ 40 then (if 0 ≤ v2 then 1 else -14) else -2)) else -2)
noncomputable def m_X5_sheet_A_qo (fqo : Nat → Int32) (sn : Nat) (v1 : Int32) (v2 : Int32) : Nat → Int32 := if v1 < (-1) then fqo else (if v1 ≤ 2 then (if v1 = (-1) then (upd fqo sn (-1)) else (if v2 ≤ 40 then (if 0 ≤ v2 then (upd fqo sn v1) else fqo) else fqo)) else fqo)
noncomputable def m_X5_sheet_A_ql (fql : Nat → Nat) (sn : Nat) (v1 : Int32) (v2 : Int32) : Nat → Nat := if v1 < (-1) then fql else (if v1 ≤ 2 then (if v1 = (-1) then updN fql sn 0 else (if v2 ≤ 40 then (if 0 ≤ v2 then updN fql sn (nC v2) else fql) else fql)) else fql)
noncomputable def m_X5_sheet_A_rr (frr : Nat → Int32) (v1 : Int32) (v2 : Int32) : Nat → Int32 := if v1 < (-1) then frr else (if v1 ≤ 2 then (if v1 = (-1) then (fun _ => 0) else (if v2 ≤ 40 then (if 0 ≤ v2 then (fun _ => 0) else frr) else frr)) else frr)
abbrev q_X5_sheet_A (G : gG) (E : gS) (h0 tt rd nw th kp sh tu qn qo ql rr : Nat) (him : Int32) (fn : Nat → Option Nat) (fql : Nat → Nat) (fqo : Nat → Int32) (frr : Nat → Int32) (sn : Nat) (v1 : Int32) (v2 : Int32) (A : Nat → Prop) : Array Value → State → Outcome → State → Prop := va_Qi (fun (r : Int32) (u : Unit) => match u with | _ => r = m_X5_sheet_A v1 v2) (fun (u : Unit) t => match u with | _ => va_P G.1 vwCl [zo5 h0 tt rd nw th kp sh tu him, zo2 sh qn qo ql, zr G qn 4 fn, zi G qo 4 (m_X5_sheet_A_qo fqo sn v1 v2), zi G ql 4 (nF (m_X5_sheet_A_ql fql sn v1 v2)), zi G rr 40 (m_X5_sheet_A_rr frr v1 v2)] t.heap ∧ gK G t ∧ va_D A [zo5 h0 tt rd nw th kp sh tu him, zo2 sh qn qo ql, zr G qn 4 fn, zi G qo 4 (m_X5_sheet_A_qo fqo sn v1 v2), zi G ql 4 (nF (m_X5_sheet_A_ql fql sn v1 v2)), zi G rr 40 (m_X5_sheet_A_rr frr v1 v2)]) A
set_option maxHeartbeats 4000000 in
set_option maxRecDepth 100000 in
theorem c_X5_sheet_A (l : Launch) (G : gG) (E : gS) (h0 tt rd nw th kp sh tu qn qo ql rr : Nat) (him : Int32) (fn : Nat → Option Nat) (fql : Nat → Nat) (fqo : Nat → Int32) (frr : Nat → Int32) (sn : Nat) (v1 : Int32) (v2 : Int32) (sz : Nat) (hsn : sn < 4) (hrw : fn sn = some rr) (hql : ∀ q9, q9 < 4 → fql q9 ≤ 40) : Met l yX5_sheet wsX5_sheet ({ frames := 2, cells := 0, slots := 0, locals := 46 }) (gPreE G E [.ref h0, .int (nI sn), .int v1, .int v2] [zo5 h0 tt rd nw th kp sh tu him, zo2 sh qn qo ql, zr G qn 4 fn, zi G qo 4 fqo, zi G ql 4 (nF fql), zi G rr 40 frr] sz) (q_X5_sheet_A G E h0 tt rd nw th kp sh tu qn qo ql rr him fn fql fqo frr sn v1 v2 (va_A [zo5 h0 tt rd nw th kp sh tu him, zo2 sh qn qo ql, zr G qn 4 fn, zi G qo 4 fqo, zi G ql 4 (nF fql), zi G rr 40 frr] sz)) 0 0 (va_A [zo5 h0 tt rd nw th kp sh tu him, zo2 sh qn qo ql, zr G qn 4 fn, zi G qo 4 fqo, zi G ql 4 (nF fql), zi G rr 40 frr] sz) := by
  refine Met.ofW (cc := cX5_sheet) (maxL := 4) (ret := (some .int)) (by decide +kernel) rfl ?_
  intro p e s m args below meth c s₁ B hml hv
  obtain ⟨rfl, hsz, hP, hK, hD0, hE⟩ := hv
  have hx := B.exec
  have hb := B.bytes
  have hr := B.returns
  have hts := atoms_spec (ws := wsX5_sheet) B.pre
  have hown : s.vm.findClass RX5 = some m.cls := findClass_of_methodNamed B.named
  have hlocks := B.notSynchronized
  subst hsz
  have hD := hD0.self (sz := s.heap.size)
  generalize hAe : va_A [zo5 h0 tt rd nw th kp sh tu him, zo2 sh qn qo ql, zr G qn 4 fn, zi G qo 4 fqo, zi G ql 4 (nF fql), zi G rr 40 frr] s.heap.size = A at hD hE ⊢
  have hA : ∀ q : Nat, s.heap.size ≤ q → A q := fun q h => by rw [← hAe]; exact Or.inr h
  have hS : va_S A s.heap s.heap [] := va_S.rf
  have hz9 : gPD G A [zo5 h0 tt rd nw th kp sh tu him, zo2 sh qn qo ql, zr G qn 4 fn, zi G qo 4 fqo, zi G ql 4 (nF fql), zi G rr 40 frr] s.heap := ⟨hP, hD⟩
  have hP := hz9.1
  have hD := hz9.2
  have hl := lv_entry ([.ref h0, .int (nI sn), .int v1, .int v2]) (n := 4) (Nat.le_of_ble_eq_true rfl)
  rw [lg_entry_eq]
  generalize (lg_sl ([.ref h0, .int (nI sn), .int v1, .int v2]) ++ List.replicate (4 - (lg_sl ([.ref h0, .int (nI sn), .int v1, .int v2])).length) Slot.unset).toArray = ls at hl ⊢
  have hl : lv_has ls 4 [zR 0 h0, zI 1 (nI sn), zI 2 v1, zI 3 v2] := hl
  have kf41 := hts (.fieldLink RX5 41 "PebbleInShoe" "rows" "LPebbleInShoe$Sheets;") (by decide +kernel)
  have hiX5 := (by decide +kernel : ∀ w ∈ wsX50, w ∈ wsX5_sheet)
  refine g_aget (D := G.1) (ci := 5) (v := .ref sh) (C := RX5) (T := TX5) (N := 8) hx hb dX5_sheet_0 rfl (lv_at hl 0 rfl) hts hiX5 hown hK hP 0 rfl rfl 5 (by decide +kernel) kf41 (fun _ h9 => h9) rfl dX5_sheet_1 ?_
  refine lv_iload_n hx hb dX5_sheet_4 rfl (lv_at hl 1 rfl) ?_
  refine z_callp [1] (va_runV (As := [.int (nI sn)]) (rest := []) ⟨hx, hb, hml, hown, hts⟩ (c_X2_isSheet_g l G E sh qn qo ql (nI sn) s.heap.size) (cwV 1 hts gX5_sheet_X2_isSheet rfl rfl rfl (by decide +kernel) ⟨Nat.le_of_ble_eq_true rfl, Nat.le_of_ble_eq_true rfl⟩) ⟨gPreE_blind, va_recv (q := (RX2, TX2, 3)) hK hP (ci := 2) (q0 := 1) rfl rfl, fun U hU hW => gPreE_ofF [1] hU hW hK hP hD (by decide +kernel) rfl hE hS hA⟩ rfl rfl hl.1 rfl (lv_room (Nat.le_of_ble_eq_true rfl)) dX5_sheet_5 ⟨Nat.le_of_ble_eq_true rfl, Nat.le_of_ble_eq_true rfl⟩) hS hD hA rfl (fun r_1 u t H locs ht hvm w_2 hB hz1 hk1 hFq hAq hS => ?_)
  obtain ⟨hP1, hK1, hD1⟩ := hB
  have w_2 : r_1 = bz (decide (0 ≤ (nI sn) ∧ (nI sn) ≤ 3)) := w_2
  have hP := zKeep hP hD [1] hAq hk1 ht hP1 rfl
  have w_2 : r_1 = 1 := w_2.trans (bz3_t (by assumption))
  subst w_2
  refine lv_if_eq (tgt := 21) hx hb dX5_sheet_8 (by decide +kernel) (fun c_3 => ?_) (fun c_3 => ?_)
  · exact absurd c_3 (by decide +kernel)
  refine lv_iload_n hx hb dX5_sheet_11 rfl (lv_at hl 2 rfl) ?_
  refine lv_iconst (v := -1) hx hb dX5_sheet_12 (by decide +kernel) ?_
  refine lv_icmp_lt (tgt := 21) hx hb dX5_sheet_13 (by decide +kernel) (fun c_4 => ?_) (fun c_4 => ?_)
  · skip
    refine lv_bipush (v := -2) hx hb dX5_sheet_21 (by decide +kernel) ?_
    have q_5 : m_X5_sheet_A_qo fqo sn v1 v2 = fqo := by unfold m_X5_sheet_A_qo; rw [if_pos c_4]
    have q_6 : m_X5_sheet_A_ql fql sn v1 v2 = fql := by unfold m_X5_sheet_A_ql; rw [if_pos c_4]
    have q_7 : m_X5_sheet_A_rr frr v1 v2 = frr := by unfold m_X5_sheet_A_rr; rw [if_pos c_4]
    have hz9 : gPD G A [zo5 h0 tt rd nw th kp sh tu him, zo2 sh qn qo ql, zr G qn 4 fn, zi G qo 4 (m_X5_sheet_A_qo fqo sn v1 v2), zi G ql 4 (nF (m_X5_sheet_A_ql fql sn v1 v2)), zi G rr 40 (m_X5_sheet_A_rr frr v1 v2)] H := ⟨by rw [q_5, q_6, q_7]; exact hP, by rw [q_5, q_6, q_7]; exact hD⟩
    have hP9 := hz9.1
    have hD9 := hz9.2
    have hpost : (fun (r : Int32) (u : Unit) => match u with | _ => r = m_X5_sheet_A v1 v2) (-2) () := (show m_X5_sheet_A v1 v2 = (-2) from by unfold m_X5_sheet_A; rw [if_pos c_4]).symm
    exact W.iret (v := (-2)) hx hb hr (fun t ht hW => ⟨⟨(-2), (), rfl, hpost, by rw [ht]; exact hP9, va_K.moved hW.alike hK, hD9⟩, hS.F ht⟩) hS.2.2 dX5_sheet_23
  · skip
    refine lv_iload_n hx hb dX5_sheet_16 rfl (lv_at hl 2 rfl) ?_
    refine lv_iconst (v := 2) hx hb dX5_sheet_17 (by decide +kernel) ?_
    refine lv_icmp_le (tgt := 24) hx hb dX5_sheet_18 (by decide +kernel) (fun c_8 => ?_) (fun c_8 => ?_)
    · skip
      refine lv_iload_n hx hb dX5_sheet_24 rfl (lv_at hl 2 rfl) ?_
      refine lv_iconst (v := -1) hx hb dX5_sheet_25 (by decide +kernel) ?_
      refine lv_icmp_ne (tgt := 41) hx hb dX5_sheet_26 (by decide +kernel) (fun c_9 => ?_) (fun c_9 => ?_)
      · skip
        refine lv_iload_n hx hb dX5_sheet_41 rfl (lv_at hl 3 rfl) ?_
        refine lv_bipush (v := 40) hx hb dX5_sheet_42 (by decide +kernel) ?_
        refine lv_icmp_le (tgt := 50) hx hb dX5_sheet_44 (by decide +kernel) (fun c_10 => ?_) (fun c_10 => ?_)
        · skip
          refine lv_iload_n hx hb dX5_sheet_50 rfl (lv_at hl 3 rfl) ?_
          refine lv_if_ge (tgt := 57) hx hb dX5_sheet_51 (by decide +kernel) (fun c_11 => ?_) (fun c_11 => ?_)
          · skip
            have hv_12 : v2 = nI (nC v2) := nC_eq c_11
            have hk_13 : nC v2 ≤ 40 := nC_le (n := 40) (by omega) ⟨c_11, c_10⟩
            have hk_14 : nC v2 < 2 ^ 31 := nC_31 _
            refine g_aget (D := G.1) (ci := 5) (v := .ref sh) (C := RX5) (T := TX5) (N := 8) hx hb dX5_sheet_57 rfl (lv_at hl 0 rfl) hts hiX5 hown hK hP 0 rfl rfl 5 (by decide +kernel) kf41 (fun _ h9 => h9) rfl dX5_sheet_58 ?_
            refine lv_iload_n hx hb dX5_sheet_61 rfl (lv_at hl 1 rfl) ?_
            refine lv_iload_n hx hb dX5_sheet_62 rfl (lv_at hl 2 rfl) ?_
            refine lv_iload_n hx hb dX5_sheet_63 rfl (lv_at hl 3 rfl) ?_
            refine g_topi (y := nI (nC v2)) hv_12 ?_
            refine z_callv [1, 2, 3, 4, 5] (va_runV (As := [.int (nI sn), .int v1, .int (nI (nC v2))]) (rest := []) ⟨hx, hb, hml, hown, hts⟩ (c_X2_become l G sh qn qo ql rr fn fql fqo frr sn (nC v2) v1 H.size (by first | exact hsn | assumption | omega) (by first | exact hrw | assumption | omega)) (cwV 3 hts gX5_sheet_X2_become rfl rfl rfl (by decide +kernel) ⟨Nat.le_of_ble_eq_true rfl, Nat.le_of_ble_eq_true rfl⟩) ⟨gPre_blind, va_recv (q := (RX2, TX2, 3)) hK hP (ci := 2) (q0 := 1) rfl rfl, fun U hU hW => gPre_ofF [1, 2, 3, 4, 5] hU hW hK hP hD (by decide +kernel) rfl⟩ rfl rfl hl.1 rfl (lv_room (Nat.le_of_ble_eq_true rfl)) dX5_sheet_64 ⟨Nat.le_of_ble_eq_true rfl, Nat.le_of_ble_eq_true rfl⟩) hS hD hA rfl (fun u t H locs ht hvm w_17 hB hz1 hk1 hFq hAq hS => ?_)
            obtain ⟨hP1, hK1, hD1⟩ := hB
            have hz9 : gPD G A [zo5 h0 tt rd nw th kp sh tu him, zo2 sh qn qo ql, zr G qn 4 fn, zi G qo 4 (upd fqo sn v1), zi G ql 4 (nF (updN fql sn (nC v2))), zi G rr 40 (fun _ => 0)] H := zFill hP hD [1, 2, 3, 4, 5] [0, 1, 2, 3, 4, 5] hAq hk1 hFq ht hP1 hD1 rfl (by decide +kernel)
            have hP := hz9.1
            have hD := hz9.2
            refine lv_iconst (v := 1) hx hb dX5_sheet_67 (by decide +kernel) ?_
            have q_18 : m_X5_sheet_A_qo fqo sn v1 v2 = (upd fqo sn v1) := by unfold m_X5_sheet_A_qo; rw [if_neg c_4, if_pos c_8, if_neg c_9, if_pos c_10, if_pos c_11]
            have q_19 : m_X5_sheet_A_ql fql sn v1 v2 = updN fql sn (nC v2) := by unfold m_X5_sheet_A_ql; rw [if_neg c_4, if_pos c_8, if_neg c_9, if_pos c_10, if_pos c_11]
            have q_20 : m_X5_sheet_A_rr frr v1 v2 = (fun _ => 0) := by unfold m_X5_sheet_A_rr; rw [if_neg c_4, if_pos c_8, if_neg c_9, if_pos c_10, if_pos c_11]
            have hz9 : gPD G A [zo5 h0 tt rd nw th kp sh tu him, zo2 sh qn qo ql, zr G qn 4 fn, zi G qo 4 (m_X5_sheet_A_qo fqo sn v1 v2), zi G ql 4 (nF (m_X5_sheet_A_ql fql sn v1 v2)), zi G rr 40 (m_X5_sheet_A_rr frr v1 v2)] H := ⟨by rw [q_18, q_19, q_20]; exact hP, by rw [q_18, q_19, q_20]; exact hD⟩
            have hP9 := hz9.1
            have hD9 := hz9.2
            have hpost : (fun (r : Int32) (u : Unit) => match u with | _ => r = m_X5_sheet_A v1 v2) 1 () := (show m_X5_sheet_A v1 v2 = 1 from by unfold m_X5_sheet_A; rw [if_neg c_4, if_pos c_8, if_neg c_9, if_pos c_10, if_pos c_11]).symm
            exact W.iret (v := 1) hx hb hr (fun t ht hW => ⟨⟨1, (), rfl, hpost, by rw [ht]; exact hP9, va_K.moved hW.alike hK, hD9⟩, hS.F ht⟩) hS.2.2 dX5_sheet_68
          · skip
            refine lv_bipush (v := -14) hx hb dX5_sheet_54 (by decide +kernel) ?_
            have q_21 : m_X5_sheet_A_qo fqo sn v1 v2 = fqo := by unfold m_X5_sheet_A_qo; rw [if_neg c_4, if_pos c_8, if_neg c_9, if_pos c_10, if_neg c_11]
            have q_22 : m_X5_sheet_A_ql fql sn v1 v2 = fql := by unfold m_X5_sheet_A_ql; rw [if_neg c_4, if_pos c_8, if_neg c_9, if_pos c_10, if_neg c_11]
            have q_23 : m_X5_sheet_A_rr frr v1 v2 = frr := by unfold m_X5_sheet_A_rr; rw [if_neg c_4, if_pos c_8, if_neg c_9, if_pos c_10, if_neg c_11]
            have hz9 : gPD G A [zo5 h0 tt rd nw th kp sh tu him, zo2 sh qn qo ql, zr G qn 4 fn, zi G qo 4 (m_X5_sheet_A_qo fqo sn v1 v2), zi G ql 4 (nF (m_X5_sheet_A_ql fql sn v1 v2)), zi G rr 40 (m_X5_sheet_A_rr frr v1 v2)] H := ⟨by rw [q_21, q_22, q_23]; exact hP, by rw [q_21, q_22, q_23]; exact hD⟩
            have hP9 := hz9.1
            have hD9 := hz9.2
            have hpost : (fun (r : Int32) (u : Unit) => match u with | _ => r = m_X5_sheet_A v1 v2) (-14) () := (show m_X5_sheet_A v1 v2 = (-14) from by unfold m_X5_sheet_A; rw [if_neg c_4, if_pos c_8, if_neg c_9, if_pos c_10, if_neg c_11]).symm
            exact W.iret (v := (-14)) hx hb hr (fun t ht hW => ⟨⟨(-14), (), rfl, hpost, by rw [ht]; exact hP9, va_K.moved hW.alike hK, hD9⟩, hS.F ht⟩) hS.2.2 dX5_sheet_56
        · skip
          refine lv_bipush (v := -2) hx hb dX5_sheet_47 (by decide +kernel) ?_
          have q_24 : m_X5_sheet_A_qo fqo sn v1 v2 = fqo := by unfold m_X5_sheet_A_qo; rw [if_neg c_4, if_pos c_8, if_neg c_9, if_neg c_10]
          have q_25 : m_X5_sheet_A_ql fql sn v1 v2 = fql := by unfold m_X5_sheet_A_ql; rw [if_neg c_4, if_pos c_8, if_neg c_9, if_neg c_10]
          have q_26 : m_X5_sheet_A_rr frr v1 v2 = frr := by unfold m_X5_sheet_A_rr; rw [if_neg c_4, if_pos c_8, if_neg c_9, if_neg c_10]
          have hz9 : gPD G A [zo5 h0 tt rd nw th kp sh tu him, zo2 sh qn qo ql, zr G qn 4 fn, zi G qo 4 (m_X5_sheet_A_qo fqo sn v1 v2), zi G ql 4 (nF (m_X5_sheet_A_ql fql sn v1 v2)), zi G rr 40 (m_X5_sheet_A_rr frr v1 v2)] H := ⟨by rw [q_24, q_25, q_26]; exact hP, by rw [q_24, q_25, q_26]; exact hD⟩
          have hP9 := hz9.1
          have hD9 := hz9.2
          have hpost : (fun (r : Int32) (u : Unit) => match u with | _ => r = m_X5_sheet_A v1 v2) (-2) () := (show m_X5_sheet_A v1 v2 = (-2) from by unfold m_X5_sheet_A; rw [if_neg c_4, if_pos c_8, if_neg c_9, if_neg c_10]).symm
          exact W.iret (v := (-2)) hx hb hr (fun t ht hW => ⟨⟨(-2), (), rfl, hpost, by rw [ht]; exact hP9, va_K.moved hW.alike hK, hD9⟩, hS.F ht⟩) hS.2.2 dX5_sheet_49
      · skip
        refine g_aget (D := G.1) (ci := 5) (v := .ref sh) (C := RX5) (T := TX5) (N := 8) hx hb dX5_sheet_29 rfl (lv_at hl 0 rfl) hts hiX5 hown hK hP 0 rfl rfl 5 (by decide +kernel) kf41 (fun _ h9 => h9) rfl dX5_sheet_30 ?_
        refine lv_iload_n hx hb dX5_sheet_33 rfl (lv_at hl 1 rfl) ?_
        refine lv_iconst (v := -1) hx hb dX5_sheet_34 (by decide +kernel) ?_
        refine lv_iconst (v := 0) hx hb dX5_sheet_35 (by decide +kernel) ?_
        refine z_callv [1, 2, 3, 4, 5] (va_runV (As := [.int (nI sn), .int (-1), .int 0]) (rest := []) ⟨hx, hb, hml, hown, hts⟩ (c_X2_become l G sh qn qo ql rr fn fql fqo frr sn 0 (-1) H.size (by first | exact hsn | assumption | omega) (by first | exact hrw | assumption | omega)) (cwV 3 hts gX5_sheet_X2_become rfl rfl rfl (by decide +kernel) ⟨Nat.le_of_ble_eq_true rfl, Nat.le_of_ble_eq_true rfl⟩) ⟨gPre_blind, va_recv (q := (RX2, TX2, 3)) hK hP (ci := 2) (q0 := 1) rfl rfl, fun U hU hW => gPre_ofF [1, 2, 3, 4, 5] hU hW hK hP hD (by decide +kernel) rfl⟩ rfl rfl hl.1 rfl (lv_room (Nat.le_of_ble_eq_true rfl)) dX5_sheet_36 ⟨Nat.le_of_ble_eq_true rfl, Nat.le_of_ble_eq_true rfl⟩) hS hD hA rfl (fun u t H locs ht hvm w_28 hB hz1 hk1 hFq hAq hS => ?_)
        obtain ⟨hP1, hK1, hD1⟩ := hB
        have hz9 : gPD G A [zo5 h0 tt rd nw th kp sh tu him, zo2 sh qn qo ql, zr G qn 4 fn, zi G qo 4 (upd fqo sn (-1)), zi G ql 4 (nF (updN fql sn 0)), zi G rr 40 (fun _ => 0)] H := zFill hP hD [1, 2, 3, 4, 5] [0, 1, 2, 3, 4, 5] hAq hk1 hFq ht hP1 hD1 rfl (by decide +kernel)
        have hP := hz9.1
        have hD := hz9.2
        refine lv_iconst (v := 1) hx hb dX5_sheet_39 (by decide +kernel) ?_
        have q_29 : m_X5_sheet_A_qo fqo sn v1 v2 = (upd fqo sn (-1)) := by unfold m_X5_sheet_A_qo; rw [if_neg c_4, if_pos c_8, if_pos c_9]
        have q_30 : m_X5_sheet_A_ql fql sn v1 v2 = updN fql sn 0 := by unfold m_X5_sheet_A_ql; rw [if_neg c_4, if_pos c_8, if_pos c_9]
        have q_31 : m_X5_sheet_A_rr frr v1 v2 = (fun _ => 0) := by unfold m_X5_sheet_A_rr; rw [if_neg c_4, if_pos c_8, if_pos c_9]
        have hz9 : gPD G A [zo5 h0 tt rd nw th kp sh tu him, zo2 sh qn qo ql, zr G qn 4 fn, zi G qo 4 (m_X5_sheet_A_qo fqo sn v1 v2), zi G ql 4 (nF (m_X5_sheet_A_ql fql sn v1 v2)), zi G rr 40 (m_X5_sheet_A_rr frr v1 v2)] H := ⟨by rw [q_29, q_30, q_31]; exact hP, by rw [q_29, q_30, q_31]; exact hD⟩
        have hP9 := hz9.1
        have hD9 := hz9.2
        have hpost : (fun (r : Int32) (u : Unit) => match u with | _ => r = m_X5_sheet_A v1 v2) 1 () := (show m_X5_sheet_A v1 v2 = 1 from by unfold m_X5_sheet_A; rw [if_neg c_4, if_pos c_8, if_pos c_9]).symm
        exact W.iret (v := 1) hx hb hr (fun t ht hW => ⟨⟨1, (), rfl, hpost, by rw [ht]; exact hP9, va_K.moved hW.alike hK, hD9⟩, hS.F ht⟩) hS.2.2 dX5_sheet_40
    · skip
      refine lv_bipush (v := -2) hx hb dX5_sheet_21 (by decide +kernel) ?_
      have q_32 : m_X5_sheet_A_qo fqo sn v1 v2 = fqo := by unfold m_X5_sheet_A_qo; rw [if_neg c_4, if_neg c_8]
      have q_33 : m_X5_sheet_A_ql fql sn v1 v2 = fql := by unfold m_X5_sheet_A_ql; rw [if_neg c_4, if_neg c_8]
      have q_34 : m_X5_sheet_A_rr frr v1 v2 = frr := by unfold m_X5_sheet_A_rr; rw [if_neg c_4, if_neg c_8]
      have hz9 : gPD G A [zo5 h0 tt rd nw th kp sh tu him, zo2 sh qn qo ql, zr G qn 4 fn, zi G qo 4 (m_X5_sheet_A_qo fqo sn v1 v2), zi G ql 4 (nF (m_X5_sheet_A_ql fql sn v1 v2)), zi G rr 40 (m_X5_sheet_A_rr frr v1 v2)] H := ⟨by rw [q_32, q_33, q_34]; exact hP, by rw [q_32, q_33, q_34]; exact hD⟩
      have hP9 := hz9.1
      have hD9 := hz9.2
      have hpost : (fun (r : Int32) (u : Unit) => match u with | _ => r = m_X5_sheet_A v1 v2) (-2) () := (show m_X5_sheet_A v1 v2 = (-2) from by unfold m_X5_sheet_A; rw [if_neg c_4, if_neg c_8]).symm
      exact W.iret (v := (-2)) hx hb hr (fun t ht hW => ⟨⟨(-2), (), rfl, hpost, by rw [ht]; exact hP9, va_K.moved hW.alike hK, hD9⟩, hS.F ht⟩) hS.2.2 dX5_sheet_23
abbrev q_X5_sheet_B (G : gG) (E : gS) (h0 tt rd nw th kp sh tu qn qo ql : Nat) (him : Int32) (v0 : Int32) (v1 : Int32) (v2 : Int32) (A : Nat → Prop) : Array Value → State → Outcome → State → Prop := va_Qi (fun (r : Int32) (u : Unit) => match u with | _ => r = -2) (fun (u : Unit) t => match u with | _ => va_P G.1 vwCl [zo5 h0 tt rd nw th kp sh tu him, zo2 sh qn qo ql] t.heap ∧ gK G t ∧ va_D A [zo5 h0 tt rd nw th kp sh tu him, zo2 sh qn qo ql]) A
set_option maxHeartbeats 4000000 in
set_option maxRecDepth 100000 in
theorem c_X5_sheet_B (l : Launch) (G : gG) (E : gS) (h0 tt rd nw th kp sh tu qn qo ql : Nat) (him : Int32) (v0 : Int32) (v1 : Int32) (v2 : Int32) (sz : Nat) (hno : ¬ (0 ≤ v0 ∧ v0 ≤ 3)) : Met l yX5_sheet wsX5_sheet ({ frames := 2, cells := 0, slots := 0, locals := 42 }) (gPreE G E [.ref h0, .int v0, .int v1, .int v2] [zo5 h0 tt rd nw th kp sh tu him, zo2 sh qn qo ql] sz) (q_X5_sheet_B G E h0 tt rd nw th kp sh tu qn qo ql him v0 v1 v2 (va_A [zo5 h0 tt rd nw th kp sh tu him, zo2 sh qn qo ql] sz)) 0 0 (va_A [zo5 h0 tt rd nw th kp sh tu him, zo2 sh qn qo ql] sz) := by
  refine Met.ofW (cc := cX5_sheet) (maxL := 4) (ret := (some .int)) (by decide +kernel) rfl ?_
  intro p e s m args below meth c s₁ B hml hv
  obtain ⟨rfl, hsz, hP, hK, hD0, hE⟩ := hv
  have hx := B.exec
  have hb := B.bytes
  have hr := B.returns
  have hts := atoms_spec (ws := wsX5_sheet) B.pre
  have hown : s.vm.findClass RX5 = some m.cls := findClass_of_methodNamed B.named
  have hlocks := B.notSynchronized
  subst hsz
  have hD := hD0.self (sz := s.heap.size)
  generalize hAe : va_A [zo5 h0 tt rd nw th kp sh tu him, zo2 sh qn qo ql] s.heap.size = A at hD hE ⊢
  have hA : ∀ q : Nat, s.heap.size ≤ q → A q := fun q h => by rw [← hAe]; exact Or.inr h
  have hS : va_S A s.heap s.heap [] := va_S.rf
  have hz9 : gPD G A [zo5 h0 tt rd nw th kp sh tu him, zo2 sh qn qo ql] s.heap := ⟨hP, hD⟩
  have hP := hz9.1
  have hD := hz9.2
  have hl := lv_entry ([.ref h0, .int v0, .int v1, .int v2]) (n := 4) (Nat.le_of_ble_eq_true rfl)
  rw [lg_entry_eq]
  generalize (lg_sl ([.ref h0, .int v0, .int v1, .int v2]) ++ List.replicate (4 - (lg_sl ([.ref h0, .int v0, .int v1, .int v2])).length) Slot.unset).toArray = ls at hl ⊢
  have hl : lv_has ls 4 [zR 0 h0, zI 1 v0, zI 2 v1, zI 3 v2] := hl
  have kf41 := hts (.fieldLink RX5 41 "PebbleInShoe" "rows" "LPebbleInShoe$Sheets;") (by decide +kernel)
  have hiX5 := (by decide +kernel : ∀ w ∈ wsX50, w ∈ wsX5_sheet)
  refine g_aget (D := G.1) (ci := 5) (v := .ref sh) (C := RX5) (T := TX5) (N := 8) hx hb dX5_sheet_0 rfl (lv_at hl 0 rfl) hts hiX5 hown hK hP 0 rfl rfl 5 (by decide +kernel) kf41 (fun _ h9 => h9) rfl dX5_sheet_1 ?_
  refine lv_iload_n hx hb dX5_sheet_4 rfl (lv_at hl 1 rfl) ?_
  refine z_callp [1] (va_runV (As := [.int v0]) (rest := []) ⟨hx, hb, hml, hown, hts⟩ (c_X2_isSheet_g l G E sh qn qo ql v0 s.heap.size) (cwV 1 hts gX5_sheet_X2_isSheet rfl rfl rfl (by decide +kernel) ⟨Nat.le_of_ble_eq_true rfl, Nat.le_of_ble_eq_true rfl⟩) ⟨gPreE_blind, va_recv (q := (RX2, TX2, 3)) hK hP (ci := 2) (q0 := 1) rfl rfl, fun U hU hW => gPreE_ofF [1] hU hW hK hP hD (by decide +kernel) rfl hE hS hA⟩ rfl rfl hl.1 rfl (lv_room (Nat.le_of_ble_eq_true rfl)) dX5_sheet_5 ⟨Nat.le_of_ble_eq_true rfl, Nat.le_of_ble_eq_true rfl⟩) hS hD hA rfl (fun r_1 u t H locs ht hvm w_2 hB hz1 hk1 hFq hAq hS => ?_)
  obtain ⟨hP1, hK1, hD1⟩ := hB
  have w_2 : r_1 = bz (decide (0 ≤ v0 ∧ v0 ≤ 3)) := w_2
  have hP := zKeep hP hD [1] hAq hk1 ht hP1 rfl
  have w_2 : r_1 = 0 := w_2.trans (bz3_f hno)
  subst w_2
  refine lv_if_eq (tgt := 21) hx hb dX5_sheet_8 (by decide +kernel) (fun c_3 => ?_) (fun c_3 => ?_)
  rotate_left
  · exact absurd (by decide +kernel) c_3
  refine lv_bipush (v := -2) hx hb dX5_sheet_21 (by decide +kernel) ?_
  have hpost : (fun (r : Int32) (u : Unit) => match u with | _ => r = -2) (-2) () := rfl
  exact W.iret (v := (-2)) hx hb hr (fun t ht hW => ⟨⟨(-2), (), rfl, hpost, by rw [ht]; exact hP, va_K.moved hW.alike hK, hD⟩, hS.F ht⟩) hS.2.2 dX5_sheet_23
noncomputable def m_X5_cell_A (fql : Nat → Nat) (fqo : Nat → Int32) (sn : Nat) (v1 : Int32) : Int32 := if (fqo sn) = (-1) then -11 else (if v1 < 0 then -12 else (if (nI (nC v1)) < (nI (fql sn)) then 1 else -12))
noncomputable def m_X5_cell_A_rr (fql : Nat → Nat) (fqo : Nat → Int32) (frr : Nat → Int32) (sn : Nat) (v1 : Int32) (v2 : Int32) : Nat → Int32 := if (fqo sn) = (-1) then frr else (if v1 < 0 then frr else (if (nI (nC v1)) < (nI (fql sn)) then (m_X2_store_rr fqo frr sn (nC v1) v2) else frr))
abbrev q_X5_cell_A (G : gG) (E : gS) (h0 tt rd nw th kp sh tu qn qo ql rr : Nat) (him : Int32) (fn : Nat → Option Nat) (fql : Nat → Nat) (fqo : Nat → Int32) (frr : Nat → Int32) (sn : Nat) (v1 : Int32) (v2 : Int32) (A : Nat → Prop) : Array Value → State → Outcome → State → Prop := va_Qi (fun (r : Int32) (u : Unit) => match u with | _ => r = m_X5_cell_A fql fqo sn v1) (fun (u : Unit) t => match u with | _ => va_P G.1 vwCl [zo5 h0 tt rd nw th kp sh tu him, zo2 sh qn qo ql, zr G qn 4 fn, zi G qo 4 fqo, zi G ql 4 (nF fql), zi G rr 40 (m_X5_cell_A_rr fql fqo frr sn v1 v2)] t.heap ∧ gK G t ∧ va_D A [zo5 h0 tt rd nw th kp sh tu him, zo2 sh qn qo ql, zr G qn 4 fn, zi G qo 4 fqo, zi G ql 4 (nF fql), zi G rr 40 (m_X5_cell_A_rr fql fqo frr sn v1 v2)]) A
set_option maxHeartbeats 4000000 in
set_option maxRecDepth 100000 in
theorem c_X5_cell_A (l : Launch) (G : gG) (E : gS) (h0 tt rd nw th kp sh tu qn qo ql rr : Nat) (him : Int32) (fn : Nat → Option Nat) (fql : Nat → Nat) (fqo : Nat → Int32) (frr : Nat → Int32) (sn : Nat) (v1 : Int32) (v2 : Int32) (sz : Nat) (hsn : sn < 4) (hrw : fn sn = some rr) (hql : ∀ q9, q9 < 4 → fql q9 ≤ 40) : Met l yX5_cell wsX5_cell ({ frames := 2, cells := 0, slots := 0, locals := 42 }) (gPreE G E [.ref h0, .int (nI sn), .int v1, .int v2] [zo5 h0 tt rd nw th kp sh tu him, zo2 sh qn qo ql, zr G qn 4 fn, zi G qo 4 fqo, zi G ql 4 (nF fql), zi G rr 40 frr] sz) (q_X5_cell_A G E h0 tt rd nw th kp sh tu qn qo ql rr him fn fql fqo frr sn v1 v2 (va_A [zo5 h0 tt rd nw th kp sh tu him, zo2 sh qn qo ql, zr G qn 4 fn, zi G qo 4 fqo, zi G ql 4 (nF fql), zi G rr 40 frr] sz)) 0 0 (va_A [zo5 h0 tt rd nw th kp sh tu him, zo2 sh qn qo ql, zr G qn 4 fn, zi G qo 4 fqo, zi G ql 4 (nF fql), zi G rr 40 frr] sz) := by
  refine Met.ofW (cc := cX5_cell) (maxL := 4) (ret := (some .int)) (by decide +kernel) rfl ?_
  intro p e s m args below meth c s₁ B hml hv
  obtain ⟨rfl, hsz, hP, hK, hD0, hE⟩ := hv
  have hx := B.exec
  have hb := B.bytes
  have hr := B.returns
  have hts := atoms_spec (ws := wsX5_cell) B.pre
  have hown : s.vm.findClass RX5 = some m.cls := findClass_of_methodNamed B.named
  have hlocks := B.notSynchronized
  subst hsz
  have hD := hD0.self (sz := s.heap.size)
  generalize hAe : va_A [zo5 h0 tt rd nw th kp sh tu him, zo2 sh qn qo ql, zr G qn 4 fn, zi G qo 4 fqo, zi G ql 4 (nF fql), zi G rr 40 frr] s.heap.size = A at hD hE ⊢
  have hA : ∀ q : Nat, s.heap.size ≤ q → A q := fun q h => by rw [← hAe]; exact Or.inr h
  have hS : va_S A s.heap s.heap [] := va_S.rf
  have hz9 : gPD G A [zo5 h0 tt rd nw th kp sh tu him, zo2 sh qn qo ql, zr G qn 4 fn, zi G qo 4 fqo, zi G ql 4 (nF fql), zi G rr 40 frr] s.heap := ⟨hP, hD⟩
  have hP := hz9.1
  have hD := hz9.2
  have hl := lv_entry ([.ref h0, .int (nI sn), .int v1, .int v2]) (n := 4) (Nat.le_of_ble_eq_true rfl)
  rw [lg_entry_eq]
  generalize (lg_sl ([.ref h0, .int (nI sn), .int v1, .int v2]) ++ List.replicate (4 - (lg_sl ([.ref h0, .int (nI sn), .int v1, .int v2])).length) Slot.unset).toArray = ls at hl ⊢
  have hl : lv_has ls 4 [zR 0 h0, zI 1 (nI sn), zI 2 v1, zI 3 v2] := hl
  have kf41 := hts (.fieldLink RX5 41 "PebbleInShoe" "rows" "LPebbleInShoe$Sheets;") (by decide +kernel)
  have hiX5 := (by decide +kernel : ∀ w ∈ wsX50, w ∈ wsX5_cell)
  have kf225 := hts (.fieldLink RX5 225 "PebbleInShoe$Sheets" "sorts" "[I") (by decide +kernel)
  have hiX2 := (by decide +kernel : ∀ w ∈ wsX20, w ∈ wsX5_cell)
  have kf228 := hts (.fieldLink RX5 228 "PebbleInShoe$Sheets" "lengths" "[I") (by decide +kernel)
  refine g_aget (D := G.1) (ci := 5) (v := .ref sh) (C := RX5) (T := TX5) (N := 8) hx hb dX5_cell_0 rfl (lv_at hl 0 rfl) hts hiX5 hown hK hP 0 rfl rfl 5 (by decide +kernel) kf41 (fun _ h9 => h9) rfl dX5_cell_1 ?_
  refine lv_iload_n hx hb dX5_cell_4 rfl (lv_at hl 1 rfl) ?_
  refine z_callp [1] (va_runV (As := [.int (nI sn)]) (rest := []) ⟨hx, hb, hml, hown, hts⟩ (c_X2_isSheet_g l G E sh qn qo ql (nI sn) s.heap.size) (cwV 1 hts gX5_cell_X2_isSheet rfl rfl rfl (by decide +kernel) ⟨Nat.le_of_ble_eq_true rfl, Nat.le_of_ble_eq_true rfl⟩) ⟨gPreE_blind, va_recv (q := (RX2, TX2, 3)) hK hP (ci := 2) (q0 := 1) rfl rfl, fun U hU hW => gPreE_ofF [1] hU hW hK hP hD (by decide +kernel) rfl hE hS hA⟩ rfl rfl hl.1 rfl (lv_room (Nat.le_of_ble_eq_true rfl)) dX5_cell_5 ⟨Nat.le_of_ble_eq_true rfl, Nat.le_of_ble_eq_true rfl⟩) hS hD hA rfl (fun r_1 u t H locs ht hvm w_2 hB hz1 hk1 hFq hAq hS => ?_)
  obtain ⟨hP1, hK1, hD1⟩ := hB
  have w_2 : r_1 = bz (decide (0 ≤ (nI sn) ∧ (nI sn) ≤ 3)) := w_2
  have hP := zKeep hP hD [1] hAq hk1 ht hP1 rfl
  have w_2 : r_1 = 1 := w_2.trans (bz3_t (by assumption))
  subst w_2
  refine lv_if_ne (tgt := 14) hx hb dX5_cell_8 (by decide +kernel) (fun c_3 => ?_) (fun c_3 => ?_)
  rotate_left
  · exact absurd c_3 (by decide +kernel)
  refine g_aget (D := G.1) (ci := 5) (v := .ref sh) (C := RX5) (T := TX5) (N := 8) hx hb dX5_cell_14 rfl (lv_at hl 0 rfl) hts hiX5 hown hK hP 0 rfl rfl 5 (by decide +kernel) kf41 (fun _ h9 => h9) rfl dX5_cell_15 ?_
  refine va_get (D := G.1) (ci := 2) (v := .ref qo) (C := RX2) (T := TX2) (N := 3) hx hb hts hiX2 hown hK hP 1 rfl rfl 1 (by decide +kernel) kf225 (fun _ h9 => h9) rfl dX5_cell_18 ?_
  refine lv_iload_n hx hb dX5_cell_21 rfl (lv_at hl 1 rfl) ?_
  refine g_iald (D := G.1) hx hb hK hP 3 0 rfl rfl (k := sn) (y := fqo sn) (by omega) rfl rfl dX5_cell_22 ?_
  refine lv_iconst (v := -1) hx hb dX5_cell_23 (by decide +kernel) ?_
  refine lv_icmp_ne (tgt := 30) hx hb dX5_cell_24 (by decide +kernel) (fun c_5 => ?_) (fun c_5 => ?_)
  · skip
    have hs4 := hql sn hsn
    refine lv_iload_n hx hb dX5_cell_30 rfl (lv_at hl 2 rfl) ?_
    refine lv_if_lt (tgt := 47) hx hb dX5_cell_31 (by decide +kernel) (fun c_6 => ?_) (fun c_6 => ?_)
    · skip
      refine lv_bipush (v := -12) hx hb dX5_cell_47 (by decide +kernel) ?_
      have q_9 : m_X5_cell_A_rr fql fqo frr sn v1 v2 = frr := by unfold m_X5_cell_A_rr; rw [if_neg c_5, if_pos c_6]
      have hz9 : gPD G A [zo5 h0 tt rd nw th kp sh tu him, zo2 sh qn qo ql, zr G qn 4 fn, zi G qo 4 fqo, zi G ql 4 (nF fql), zi G rr 40 (m_X5_cell_A_rr fql fqo frr sn v1 v2)] H := ⟨by rw [q_9]; exact hP, by rw [q_9]; exact hD⟩
      have hP9 := hz9.1
      have hD9 := hz9.2
      have hpost : (fun (r : Int32) (u : Unit) => match u with | _ => r = m_X5_cell_A fql fqo sn v1) (-12) () := (show m_X5_cell_A fql fqo sn v1 = (-12) from by unfold m_X5_cell_A; rw [if_neg c_5, if_pos c_6]).symm
      exact W.iret (v := (-12)) hx hb hr (fun t ht hW => ⟨⟨(-12), (), rfl, hpost, by rw [ht]; exact hP9, va_K.moved hW.alike hK, hD9⟩, hS.F ht⟩) hS.2.2 dX5_cell_49
    · skip
      have hv_7 : v1 = nI (nC v1) := nC_eq (Int32.not_lt.mp c_6)
      have hk_8 : nC v1 < 2 ^ 31 := nC_31 _
      refine lv_iload_n hx hb dX5_cell_34 rfl (lv_at hl 2 rfl) ?_
      refine g_topi (y := nI (nC v1)) hv_7 ?_
      refine g_aget (D := G.1) (ci := 5) (v := .ref sh) (C := RX5) (T := TX5) (N := 8) hx hb dX5_cell_35 rfl (lv_at hl 0 rfl) hts hiX5 hown hK hP 0 rfl rfl 5 (by decide +kernel) kf41 (fun _ h9 => h9) rfl dX5_cell_36 ?_
      refine va_get (D := G.1) (ci := 2) (v := .ref ql) (C := RX2) (T := TX2) (N := 3) hx hb hts hiX2 hown hK hP 1 rfl rfl 2 (by decide +kernel) kf228 (fun _ h9 => h9) rfl dX5_cell_39 ?_
      refine lv_iload_n hx hb dX5_cell_42 rfl (lv_at hl 1 rfl) ?_
      refine va_iald (D := G.1) hx hb hK hP 4 0 rfl rfl (i := (nI sn)) (vpn (by omega) rfl) dX5_cell_43 ?_
      refine g_topi (y := nI (fql sn)) (nF_at (by omega)) ?_
      refine lv_icmp_lt (tgt := 50) hx hb dX5_cell_44 (by decide +kernel) (fun c_12 => ?_) (fun c_12 => ?_)
      · skip
        have c_12N : (nC v1) < (fql sn) := nI_lt1 (a := (nC v1)) (b := (fql sn)) (by omega) (by omega) c_12
        refine g_aget (D := G.1) (ci := 5) (v := .ref sh) (C := RX5) (T := TX5) (N := 8) hx hb dX5_cell_50 rfl (lv_at hl 0 rfl) hts hiX5 hown hK hP 0 rfl rfl 5 (by decide +kernel) kf41 (fun _ h9 => h9) rfl dX5_cell_51 ?_
        refine lv_iload_n hx hb dX5_cell_54 rfl (lv_at hl 1 rfl) ?_
        refine lv_iload_n hx hb dX5_cell_55 rfl (lv_at hl 2 rfl) ?_
        refine g_topi (y := nI (nC v1)) hv_7 ?_
        refine lv_iload_n hx hb dX5_cell_56 rfl (lv_at hl 3 rfl) ?_
        refine z_callv [1, 2, 3, 5] (va_runV (As := [.int (nI sn), .int (nI (nC v1)), .int v2]) (rest := []) ⟨hx, hb, hml, hown, hts⟩ (c_X2_store l G sh qn qo ql rr fn fqo frr sn (nC v1) v2 H.size (by first | exact hsn | assumption | omega) (by first | exact hrw | assumption | omega) (by first | exact hix | assumption | omega)) (cwV 3 hts gX5_cell_X2_store rfl rfl rfl (by decide +kernel) ⟨Nat.le_of_ble_eq_true rfl, Nat.le_of_ble_eq_true rfl⟩) ⟨gPre_blind, va_recv (q := (RX2, TX2, 3)) hK hP (ci := 2) (q0 := 1) rfl rfl, fun U hU hW => gPre_ofF [1, 2, 3, 5] hU hW hK hP hD (by decide +kernel) rfl⟩ rfl rfl hl.1 rfl (lv_room (Nat.le_of_ble_eq_true rfl)) dX5_cell_57 ⟨Nat.le_of_ble_eq_true rfl, Nat.le_of_ble_eq_true rfl⟩) hS hD hA rfl (fun u t H locs ht hvm w_15 hB hz1 hk1 hFq hAq hS => ?_)
        obtain ⟨hP1, hK1, hD1⟩ := hB
        have hz9 : gPD G A [zo5 h0 tt rd nw th kp sh tu him, zo2 sh qn qo ql, zr G qn 4 fn, zi G qo 4 fqo, zi G ql 4 (nF fql), zi G rr 40 (m_X2_store_rr fqo frr sn (nC v1) v2)] H := zFill hP hD [1, 2, 3, 5] [0, 1, 2, 3, 0, 4] hAq hk1 hFq ht hP1 hD1 rfl (by decide +kernel)
        have hP := hz9.1
        have hD := hz9.2
        refine lv_iconst (v := 1) hx hb dX5_cell_60 (by decide +kernel) ?_
        have q_16 : m_X5_cell_A_rr fql fqo frr sn v1 v2 = (m_X2_store_rr fqo frr sn (nC v1) v2) := by unfold m_X5_cell_A_rr; rw [if_neg c_5, if_neg c_6, if_pos c_12]
        have hz9 : gPD G A [zo5 h0 tt rd nw th kp sh tu him, zo2 sh qn qo ql, zr G qn 4 fn, zi G qo 4 fqo, zi G ql 4 (nF fql), zi G rr 40 (m_X5_cell_A_rr fql fqo frr sn v1 v2)] H := ⟨by rw [q_16]; exact hP, by rw [q_16]; exact hD⟩
        have hP9 := hz9.1
        have hD9 := hz9.2
        have hpost : (fun (r : Int32) (u : Unit) => match u with | _ => r = m_X5_cell_A fql fqo sn v1) 1 () := (show m_X5_cell_A fql fqo sn v1 = 1 from by unfold m_X5_cell_A; rw [if_neg c_5, if_neg c_6, if_pos c_12]).symm
        exact W.iret (v := 1) hx hb hr (fun t ht hW => ⟨⟨1, (), rfl, hpost, by rw [ht]; exact hP9, va_K.moved hW.alike hK, hD9⟩, hS.F ht⟩) hS.2.2 dX5_cell_61
      · skip
        have c_12N : (fql sn) ≤ (nC v1) := nI_lt0 (a := (nC v1)) (b := (fql sn)) (by omega) (by omega) c_12
        refine lv_bipush (v := -12) hx hb dX5_cell_47 (by decide +kernel) ?_
        have q_17 : m_X5_cell_A_rr fql fqo frr sn v1 v2 = frr := by unfold m_X5_cell_A_rr; rw [if_neg c_5, if_neg c_6, if_neg c_12]
        have hz9 : gPD G A [zo5 h0 tt rd nw th kp sh tu him, zo2 sh qn qo ql, zr G qn 4 fn, zi G qo 4 fqo, zi G ql 4 (nF fql), zi G rr 40 (m_X5_cell_A_rr fql fqo frr sn v1 v2)] H := ⟨by rw [q_17]; exact hP, by rw [q_17]; exact hD⟩
        have hP9 := hz9.1
        have hD9 := hz9.2
        have hpost : (fun (r : Int32) (u : Unit) => match u with | _ => r = m_X5_cell_A fql fqo sn v1) (-12) () := (show m_X5_cell_A fql fqo sn v1 = (-12) from by unfold m_X5_cell_A; rw [if_neg c_5, if_neg c_6, if_neg c_12]).symm
        exact W.iret (v := (-12)) hx hb hr (fun t ht hW => ⟨⟨(-12), (), rfl, hpost, by rw [ht]; exact hP9, va_K.moved hW.alike hK, hD9⟩, hS.F ht⟩) hS.2.2 dX5_cell_49
  · skip
    refine lv_bipush (v := -11) hx hb dX5_cell_27 (by decide +kernel) ?_
    have q_18 : m_X5_cell_A_rr fql fqo frr sn v1 v2 = frr := by unfold m_X5_cell_A_rr; rw [if_pos c_5]
    have hz9 : gPD G A [zo5 h0 tt rd nw th kp sh tu him, zo2 sh qn qo ql, zr G qn 4 fn, zi G qo 4 fqo, zi G ql 4 (nF fql), zi G rr 40 (m_X5_cell_A_rr fql fqo frr sn v1 v2)] H := ⟨by rw [q_18]; exact hP, by rw [q_18]; exact hD⟩
    have hP9 := hz9.1
    have hD9 := hz9.2
    have hpost : (fun (r : Int32) (u : Unit) => match u with | _ => r = m_X5_cell_A fql fqo sn v1) (-11) () := (show m_X5_cell_A fql fqo sn v1 = (-11) from by unfold m_X5_cell_A; rw [if_pos c_5]).symm
    exact W.iret (v := (-11)) hx hb hr (fun t ht hW => ⟨⟨(-11), (), rfl, hpost, by rw [ht]; exact hP9, va_K.moved hW.alike hK, hD9⟩, hS.F ht⟩) hS.2.2 dX5_cell_29
abbrev q_X5_cell_B (G : gG) (E : gS) (h0 tt rd nw th kp sh tu qn qo ql : Nat) (him : Int32) (v0 : Int32) (v1 : Int32) (v2 : Int32) (A : Nat → Prop) : Array Value → State → Outcome → State → Prop := va_Qi (fun (r : Int32) (u : Unit) => match u with | _ => r = -2) (fun (u : Unit) t => match u with | _ => va_P G.1 vwCl [zo5 h0 tt rd nw th kp sh tu him, zo2 sh qn qo ql] t.heap ∧ gK G t ∧ va_D A [zo5 h0 tt rd nw th kp sh tu him, zo2 sh qn qo ql]) A
set_option maxHeartbeats 4000000 in
set_option maxRecDepth 100000 in
theorem c_X5_cell_B (l : Launch) (G : gG) (E : gS) (h0 tt rd nw th kp sh tu qn qo ql : Nat) (him : Int32) (v0 : Int32) (v1 : Int32) (v2 : Int32) (sz : Nat) (hno : ¬ (0 ≤ v0 ∧ v0 ≤ 3)) : Met l yX5_cell wsX5_cell ({ frames := 2, cells := 0, slots := 0, locals := 42 }) (gPreE G E [.ref h0, .int v0, .int v1, .int v2] [zo5 h0 tt rd nw th kp sh tu him, zo2 sh qn qo ql] sz) (q_X5_cell_B G E h0 tt rd nw th kp sh tu qn qo ql him v0 v1 v2 (va_A [zo5 h0 tt rd nw th kp sh tu him, zo2 sh qn qo ql] sz)) 0 0 (va_A [zo5 h0 tt rd nw th kp sh tu him, zo2 sh qn qo ql] sz) := by
  refine Met.ofW (cc := cX5_cell) (maxL := 4) (ret := (some .int)) (by decide +kernel) rfl ?_
  intro p e s m args below meth c s₁ B hml hv
  obtain ⟨rfl, hsz, hP, hK, hD0, hE⟩ := hv
  have hx := B.exec
  have hb := B.bytes
  have hr := B.returns
  have hts := atoms_spec (ws := wsX5_cell) B.pre
  have hown : s.vm.findClass RX5 = some m.cls := findClass_of_methodNamed B.named
  have hlocks := B.notSynchronized
  subst hsz
  have hD := hD0.self (sz := s.heap.size)
  generalize hAe : va_A [zo5 h0 tt rd nw th kp sh tu him, zo2 sh qn qo ql] s.heap.size = A at hD hE ⊢
  have hA : ∀ q : Nat, s.heap.size ≤ q → A q := fun q h => by rw [← hAe]; exact Or.inr h
  have hS : va_S A s.heap s.heap [] := va_S.rf
  have hz9 : gPD G A [zo5 h0 tt rd nw th kp sh tu him, zo2 sh qn qo ql] s.heap := ⟨hP, hD⟩
  have hP := hz9.1
  have hD := hz9.2
  have hl := lv_entry ([.ref h0, .int v0, .int v1, .int v2]) (n := 4) (Nat.le_of_ble_eq_true rfl)
  rw [lg_entry_eq]
  generalize (lg_sl ([.ref h0, .int v0, .int v1, .int v2]) ++ List.replicate (4 - (lg_sl ([.ref h0, .int v0, .int v1, .int v2])).length) Slot.unset).toArray = ls at hl ⊢
  have hl : lv_has ls 4 [zR 0 h0, zI 1 v0, zI 2 v1, zI 3 v2] := hl
  have kf41 := hts (.fieldLink RX5 41 "PebbleInShoe" "rows" "LPebbleInShoe$Sheets;") (by decide +kernel)
  have hiX5 := (by decide +kernel : ∀ w ∈ wsX50, w ∈ wsX5_cell)
  refine g_aget (D := G.1) (ci := 5) (v := .ref sh) (C := RX5) (T := TX5) (N := 8) hx hb dX5_cell_0 rfl (lv_at hl 0 rfl) hts hiX5 hown hK hP 0 rfl rfl 5 (by decide +kernel) kf41 (fun _ h9 => h9) rfl dX5_cell_1 ?_
  refine lv_iload_n hx hb dX5_cell_4 rfl (lv_at hl 1 rfl) ?_
  refine z_callp [1] (va_runV (As := [.int v0]) (rest := []) ⟨hx, hb, hml, hown, hts⟩ (c_X2_isSheet_g l G E sh qn qo ql v0 s.heap.size) (cwV 1 hts gX5_cell_X2_isSheet rfl rfl rfl (by decide +kernel) ⟨Nat.le_of_ble_eq_true rfl, Nat.le_of_ble_eq_true rfl⟩) ⟨gPreE_blind, va_recv (q := (RX2, TX2, 3)) hK hP (ci := 2) (q0 := 1) rfl rfl, fun U hU hW => gPreE_ofF [1] hU hW hK hP hD (by decide +kernel) rfl hE hS hA⟩ rfl rfl hl.1 rfl (lv_room (Nat.le_of_ble_eq_true rfl)) dX5_cell_5 ⟨Nat.le_of_ble_eq_true rfl, Nat.le_of_ble_eq_true rfl⟩) hS hD hA rfl (fun r_1 u t H locs ht hvm w_2 hB hz1 hk1 hFq hAq hS => ?_)
  obtain ⟨hP1, hK1, hD1⟩ := hB
  have w_2 : r_1 = bz (decide (0 ≤ v0 ∧ v0 ≤ 3)) := w_2
  have hP := zKeep hP hD [1] hAq hk1 ht hP1 rfl
  have w_2 : r_1 = 0 := w_2.trans (bz3_f hno)
  subst w_2
  refine lv_if_ne (tgt := 14) hx hb dX5_cell_8 (by decide +kernel) (fun c_3 => ?_) (fun c_3 => ?_)
  · exact absurd (by decide +kernel) c_3
  refine lv_bipush (v := -2) hx hb dX5_cell_11 (by decide +kernel) ?_
  have hpost : (fun (r : Int32) (u : Unit) => match u with | _ => r = -2) (-2) () := rfl
  exact W.iret (v := (-2)) hx hb hr (fun t ht hW => ⟨⟨(-2), (), rfl, hpost, by rw [ht]; exact hP, va_K.moved hW.alike hK, hD⟩, hS.F ht⟩) hS.2.2 dX5_cell_13
noncomputable def p_X5_pebblesBy_A_70 (fql : Nat → Nat) (frr : Nat → Int32) (sn : Nat) (v2 : Int32) : Nat → Nat → Nat → (Nat → Int32) → (Nat → Int32) → (Nat → Int32) → (Nat → Int32) → Nat → Nat × Nat × (Nat → Int32) × (Nat → Int32) × (Nat → Int32) × (Nat → Int32) × Nat
  | 0, k70, cm, y70n5, y70n6, y70n7, y70n8, pb7 => (k70, cm, y70n5, y70n6, y70n7, y70n8, pb7)
  | q9 + 1, k70, cm, y70n5, y70n6, y70n7, y70n8, pb7 => if (mHolds (fql sn) (v2 + (nI (2 * k70))) 2) = true then (if (m_X5_pebble pb7 (frr (nC (v2 + (nI (2 * k70))))) (frr ((nC (v2 + (nI (2 * k70)))) + 1))) < 0 then p_X5_pebblesBy_A_70 fql frr sn v2 q9 (k70 + 1) cm (m_X5_pebble_n5 pb7 y70n5 (frr (nC (v2 + (nI (2 * k70))))) (frr ((nC (v2 + (nI (2 * k70)))) + 1))) (m_X5_pebble_n6 pb7 y70n6 (frr (nC (v2 + (nI (2 * k70))))) (frr ((nC (v2 + (nI (2 * k70)))) + 1))) (m_X5_pebble_n7 pb7 y70n7 (frr (nC (v2 + (nI (2 * k70))))) (frr ((nC (v2 + (nI (2 * k70)))) + 1))) (m_X5_pebble_n8 pb7 y70n8 (frr (nC (v2 + (nI (2 * k70))))) (frr ((nC (v2 + (nI (2 * k70)))) + 1))) (m_X5_pebble_nw10 pb7 (frr (nC (v2 + (nI (2 * k70))))) (frr ((nC (v2 + (nI (2 * k70)))) + 1))) else p_X5_pebblesBy_A_70 fql frr sn v2 q9 (k70 + 1) (cm + 1) (m_X5_pebble_n5 pb7 y70n5 (frr (nC (v2 + (nI (2 * k70))))) (frr ((nC (v2 + (nI (2 * k70)))) + 1))) (m_X5_pebble_n6 pb7 y70n6 (frr (nC (v2 + (nI (2 * k70))))) (frr ((nC (v2 + (nI (2 * k70)))) + 1))) (m_X5_pebble_n7 pb7 y70n7 (frr (nC (v2 + (nI (2 * k70))))) (frr ((nC (v2 + (nI (2 * k70)))) + 1))) (m_X5_pebble_n8 pb7 y70n8 (frr (nC (v2 + (nI (2 * k70))))) (frr ((nC (v2 + (nI (2 * k70)))) + 1))) (m_X5_pebble_nw10 pb7 (frr (nC (v2 + (nI (2 * k70))))) (frr ((nC (v2 + (nI (2 * k70)))) + 1)))) else (k70, cm, y70n5, y70n6, y70n7, y70n8, pb7)
noncomputable def g_X5_pebblesBy_A_70 (pb : Nat) (fql : Nat → Nat) (fki : Nat → Int32) (fmo : Nat → Int32) (fsz : Nat → Int32) (frd : Nat → Int32) (frr : Nat → Int32) (sn : Nat) (v2 : Int32) (v3 : Int32) : Nat × Nat × (Nat → Int32) × (Nat → Int32) × (Nat → Int32) × (Nat → Int32) × Nat := p_X5_pebblesBy_A_70 fql frr sn v2 (nC v3 - 0) 0 0 fki fmo fsz frd pb
noncomputable def m_X5_pebblesBy_A (pb : Nat) (fql : Nat → Nat) (fki : Nat → Int32) (fmo : Nat → Int32) (fsz : Nat → Int32) (frd : Nat → Int32) (fqo : Nat → Int32) (frr : Nat → Int32) (sn : Nat) (v1 : Int32) (v2 : Int32) (v3 : Int32) : Int32 := if 0 ≤ v1 ∧ v1 ≤ 2 then (if 0 ≤ v3 ∧ v3 ≤ 6 then (if (fqo sn) = (-1) then -11 else (if (fqo sn) = (nI (nC v1)) then (if (nI (nC v3)) ≤ (nI ((g_X5_pebblesBy_A_70 pb fql fki fmo fsz frd frr sn v2 v3).1)) then nI ((g_X5_pebblesBy_A_70 pb fql fki fmo fsz frd frr sn v2 v3).2.1) else -12) else -13)) else -2) else -2
noncomputable def m_X5_pebblesBy_A_nw10 (pb : Nat) (fql : Nat → Nat) (fki : Nat → Int32) (fmo : Nat → Int32) (fsz : Nat → Int32) (frd : Nat → Int32) (fqo : Nat → Int32) (frr : Nat → Int32) (sn : Nat) (v1 : Int32) (v2 : Int32) (v3 : Int32) : Nat := if 0 ≤ v1 ∧ v1 ≤ 2 then (if 0 ≤ v3 ∧ v3 ≤ 6 then (if (fqo sn) = (-1) then pb else (if (fqo sn) = (nI (nC v1)) then ((g_X5_pebblesBy_A_70 pb fql fki fmo fsz frd frr sn v2 v3).2.2.2.2.2.2) else pb)) else pb) else pb
noncomputable def m_X5_pebblesBy_A_n5 (pb : Nat) (fql : Nat → Nat) (fki : Nat → Int32) (fmo : Nat → Int32) (fsz : Nat → Int32) (frd : Nat → Int32) (fqo : Nat → Int32) (frr : Nat → Int32) (sn : Nat) (v1 : Int32) (v2 : Int32) (v3 : Int32) : Nat → Int32 := if 0 ≤ v1 ∧ v1 ≤ 2 then (if 0 ≤ v3 ∧ v3 ≤ 6 then (if (fqo sn) = (-1) then fki else (if (fqo sn) = (nI (nC v1)) then ((g_X5_pebblesBy_A_70 pb fql fki fmo fsz frd frr sn v2 v3).2.2.1) else fki)) else fki) else fki
noncomputable def m_X5_pebblesBy_A_n6 (pb : Nat) (fql : Nat → Nat) (fki : Nat → Int32) (fmo : Nat → Int32) (fsz : Nat → Int32) (frd : Nat → Int32) (fqo : Nat → Int32) (frr : Nat → Int32) (sn : Nat) (v1 : Int32) (v2 : Int32) (v3 : Int32) : Nat → Int32 := if 0 ≤ v1 ∧ v1 ≤ 2 then (if 0 ≤ v3 ∧ v3 ≤ 6 then (if (fqo sn) = (-1) then fmo else (if (fqo sn) = (nI (nC v1)) then ((g_X5_pebblesBy_A_70 pb fql fki fmo fsz frd frr sn v2 v3).2.2.2.1) else fmo)) else fmo) else fmo
noncomputable def m_X5_pebblesBy_A_n7 (pb : Nat) (fql : Nat → Nat) (fki : Nat → Int32) (fmo : Nat → Int32) (fsz : Nat → Int32) (frd : Nat → Int32) (fqo : Nat → Int32) (frr : Nat → Int32) (sn : Nat) (v1 : Int32) (v2 : Int32) (v3 : Int32) : Nat → Int32 := if 0 ≤ v1 ∧ v1 ≤ 2 then (if 0 ≤ v3 ∧ v3 ≤ 6 then (if (fqo sn) = (-1) then fsz else (if (fqo sn) = (nI (nC v1)) then ((g_X5_pebblesBy_A_70 pb fql fki fmo fsz frd frr sn v2 v3).2.2.2.2.1) else fsz)) else fsz) else fsz
noncomputable def m_X5_pebblesBy_A_n8 (pb : Nat) (fql : Nat → Nat) (fki : Nat → Int32) (fmo : Nat → Int32) (fsz : Nat → Int32) (frd : Nat → Int32) (fqo : Nat → Int32) (frr : Nat → Int32) (sn : Nat) (v1 : Int32) (v2 : Int32) (v3 : Int32) : Nat → Int32 := if 0 ≤ v1 ∧ v1 ≤ 2 then (if 0 ≤ v3 ∧ v3 ≤ 6 then (if (fqo sn) = (-1) then frd else (if (fqo sn) = (nI (nC v1)) then ((g_X5_pebblesBy_A_70 pb fql fki fmo fsz frd frr sn v2 v3).2.2.2.2.2.1) else frd)) else frd) else frd
abbrev q_X5_pebblesBy_A (G : gG) (E : gS) (h0 tt rd nw th kp sh tu n1 n2 n3 n4 n5 n6 n7 n8 qn qo ql rr : Nat) (jg : Nat) (pb : Nat) (lw : Nat) (him : Int32) (fn : Nat → Option Nat) (fql : Nat → Nat) (fki : Nat → Int32) (fmo : Nat → Int32) (fsz : Nat → Int32) (frd : Nat → Int32) (fqo : Nat → Int32) (frr : Nat → Int32) (sn : Nat) (v1 : Int32) (v2 : Int32) (v3 : Int32) (A : Nat → Prop) : Array Value → State → Outcome → State → Prop := va_Qi (fun (r : Int32) (u : Unit) => match u with | _ => r = m_X5_pebblesBy_A pb fql fki fmo fsz frd fqo frr sn v1 v2 v3) (fun (u : Unit) t => match u with | _ => va_P G.1 vwCl [zo5 h0 tt rd nw th kp sh tu him, zo0 nw tt n1 n2 n3 n4 n5 n6 n7 n8 (nI jg) (nI (m_X5_pebblesBy_A_nw10 pb fql fki fmo fsz frd fqo frr sn v1 v2 v3)) (nI lw), zi G n5 6 (m_X5_pebblesBy_A_n5 pb fql fki fmo fsz frd fqo frr sn v1 v2 v3), zi G n6 6 (m_X5_pebblesBy_A_n6 pb fql fki fmo fsz frd fqo frr sn v1 v2 v3), zi G n7 6 (m_X5_pebblesBy_A_n7 pb fql fki fmo fsz frd fqo frr sn v1 v2 v3), zi G n8 6 (m_X5_pebblesBy_A_n8 pb fql fki fmo fsz frd fqo frr sn v1 v2 v3), zo2 sh qn qo ql, zr G qn 4 fn, zi G qo 4 fqo, zi G ql 4 (nF fql), zi G rr 40 frr] t.heap ∧ gK G t ∧ va_D A [zo5 h0 tt rd nw th kp sh tu him, zo0 nw tt n1 n2 n3 n4 n5 n6 n7 n8 (nI jg) (nI (m_X5_pebblesBy_A_nw10 pb fql fki fmo fsz frd fqo frr sn v1 v2 v3)) (nI lw), zi G n5 6 (m_X5_pebblesBy_A_n5 pb fql fki fmo fsz frd fqo frr sn v1 v2 v3), zi G n6 6 (m_X5_pebblesBy_A_n6 pb fql fki fmo fsz frd fqo frr sn v1 v2 v3), zi G n7 6 (m_X5_pebblesBy_A_n7 pb fql fki fmo fsz frd fqo frr sn v1 v2 v3), zi G n8 6 (m_X5_pebblesBy_A_n8 pb fql fki fmo fsz frd fqo frr sn v1 v2 v3), zo2 sh qn qo ql, zr G qn 4 fn, zi G qo 4 fqo, zi G ql 4 (nF fql), zi G rr 40 frr]) A
set_option maxHeartbeats 4000000 in
set_option maxRecDepth 100000 in
theorem c_X5_pebblesBy_A (l : Launch) (G : gG) (E : gS) (h0 tt rd nw th kp sh tu n1 n2 n3 n4 n5 n6 n7 n8 qn qo ql rr : Nat) (jg : Nat) (pb : Nat) (lw : Nat) (him : Int32) (fn : Nat → Option Nat) (fql : Nat → Nat) (fki : Nat → Int32) (fmo : Nat → Int32) (fsz : Nat → Int32) (frd : Nat → Int32) (fqo : Nat → Int32) (frr : Nat → Int32) (sn : Nat) (v1 : Int32) (v2 : Int32) (v3 : Int32) (sz : Nat) (hsn : sn < 4) (hrw : fn sn = some rr) (hql : ∀ q9, q9 < 4 → fql q9 ≤ 40) (hjg : jg ≤ 4) (hpb : pb ≤ 6) : Met l yX5_pebblesBy wsX5_pebblesBy ({ frames := 2, cells := 0, slots := 0, locals := 45 }) (gPreE G E [.ref h0, .int (nI sn), .int v1, .int v2, .int v3] [zo5 h0 tt rd nw th kp sh tu him, zo0 nw tt n1 n2 n3 n4 n5 n6 n7 n8 (nI jg) (nI pb) (nI lw), zi G n5 6 fki, zi G n6 6 fmo, zi G n7 6 fsz, zi G n8 6 frd, zo2 sh qn qo ql, zr G qn 4 fn, zi G qo 4 fqo, zi G ql 4 (nF fql), zi G rr 40 frr] sz) (q_X5_pebblesBy_A G E h0 tt rd nw th kp sh tu n1 n2 n3 n4 n5 n6 n7 n8 qn qo ql rr jg pb lw him fn fql fki fmo fsz frd fqo frr sn v1 v2 v3 (va_A [zo5 h0 tt rd nw th kp sh tu him, zo0 nw tt n1 n2 n3 n4 n5 n6 n7 n8 (nI jg) (nI pb) (nI lw), zi G n5 6 fki, zi G n6 6 fmo, zi G n7 6 fsz, zi G n8 6 frd, zo2 sh qn qo ql, zr G qn 4 fn, zi G qo 4 fqo, zi G ql 4 (nF fql), zi G rr 40 frr] sz)) 0 0 (va_A [zo5 h0 tt rd nw th kp sh tu him, zo0 nw tt n1 n2 n3 n4 n5 n6 n7 n8 (nI jg) (nI pb) (nI lw), zi G n5 6 fki, zi G n6 6 fmo, zi G n7 6 fsz, zi G n8 6 frd, zo2 sh qn qo ql, zr G qn 4 fn, zi G qo 4 fqo, zi G ql 4 (nF fql), zi G rr 40 frr] sz) := by
  refine Met.ofW (cc := cX5_pebblesBy) (maxL := 8) (ret := (some .int)) (by decide +kernel) rfl ?_
  intro p e s m args below meth c s₁ B hml hv
  obtain ⟨rfl, hsz, hP, hK, hD0, hE⟩ := hv
  have hx := B.exec
  have hb := B.bytes
  have hr := B.returns
  have hts := atoms_spec (ws := wsX5_pebblesBy) B.pre
  have hown : s.vm.findClass RX5 = some m.cls := findClass_of_methodNamed B.named
  have hlocks := B.notSynchronized
  subst hsz
  have hD := hD0.self (sz := s.heap.size)
  generalize hAe : va_A [zo5 h0 tt rd nw th kp sh tu him, zo0 nw tt n1 n2 n3 n4 n5 n6 n7 n8 (nI jg) (nI pb) (nI lw), zi G n5 6 fki, zi G n6 6 fmo, zi G n7 6 fsz, zi G n8 6 frd, zo2 sh qn qo ql, zr G qn 4 fn, zi G qo 4 fqo, zi G ql 4 (nF fql), zi G rr 40 frr] s.heap.size = A at hD hE ⊢
  have hA : ∀ q : Nat, s.heap.size ≤ q → A q := fun q h => by rw [← hAe]; exact Or.inr h
  have hS : va_S A s.heap s.heap [] := va_S.rf
  have hz9 : gPD G A [zo5 h0 tt rd nw th kp sh tu him, zo0 nw tt n1 n2 n3 n4 n5 n6 n7 n8 (nI jg) (nI pb) (nI lw), zi G n5 6 fki, zi G n6 6 fmo, zi G n7 6 fsz, zi G n8 6 frd, zo2 sh qn qo ql, zr G qn 4 fn, zi G qo 4 fqo, zi G ql 4 (nF fql), zi G rr 40 frr] s.heap := ⟨hP, hD⟩
  have hP := hz9.1
  have hD := hz9.2
  have hl := lv_entry ([.ref h0, .int (nI sn), .int v1, .int v2, .int v3]) (n := 8) (Nat.le_of_ble_eq_true rfl)
  rw [lg_entry_eq]
  generalize (lg_sl ([.ref h0, .int (nI sn), .int v1, .int v2, .int v3]) ++ List.replicate (8 - (lg_sl ([.ref h0, .int (nI sn), .int v1, .int v2, .int v3])).length) Slot.unset).toArray = ls at hl ⊢
  have hl : lv_has ls 8 [zR 0 h0, zI 1 (nI sn), zI 2 v1, zI 3 v2, zI 4 v3] := hl
  have kf41 := hts (.fieldLink RX5 41 "PebbleInShoe" "rows" "LPebbleInShoe$Sheets;") (by decide +kernel)
  have hiX5 := (by decide +kernel : ∀ w ∈ wsX50, w ∈ wsX5_pebblesBy)
  have kf225 := hts (.fieldLink RX5 225 "PebbleInShoe$Sheets" "sorts" "[I") (by decide +kernel)
  have hiX2 := (by decide +kernel : ∀ w ∈ wsX20, w ∈ wsX5_pebblesBy)
  have kf235 := hts (.fieldLink RX5 235 "PebbleInShoe$Sheets" "numbers" "[[I") (by decide +kernel)
  refine g_aget (D := G.1) (ci := 5) (v := .ref sh) (C := RX5) (T := TX5) (N := 8) hx hb dX5_pebblesBy_0 rfl (lv_at hl 0 rfl) hts hiX5 hown hK hP 0 rfl rfl 5 (by decide +kernel) kf41 (fun _ h9 => h9) rfl dX5_pebblesBy_1 ?_
  refine lv_iload_n hx hb dX5_pebblesBy_4 rfl (lv_at hl 1 rfl) ?_
  refine z_callp [6] (va_runV (As := [.int (nI sn)]) (rest := []) ⟨hx, hb, hml, hown, hts⟩ (c_X2_isSheet_g l G E sh qn qo ql (nI sn) s.heap.size) (cwV 1 hts gX5_pebblesBy_X2_isSheet rfl rfl rfl (by decide +kernel) ⟨Nat.le_of_ble_eq_true rfl, Nat.le_of_ble_eq_true rfl⟩) ⟨gPreE_blind, va_recv (q := (RX2, TX2, 3)) hK hP (ci := 2) (q0 := 6) rfl rfl, fun U hU hW => gPreE_ofF [6] hU hW hK hP hD (by decide +kernel) rfl hE hS hA⟩ rfl rfl hl.1 rfl (lv_room (Nat.le_of_ble_eq_true rfl)) dX5_pebblesBy_5 ⟨Nat.le_of_ble_eq_true rfl, Nat.le_of_ble_eq_true rfl⟩) hS hD hA rfl (fun r_1 u t H locs ht hvm w_2 hB hz1 hk1 hFq hAq hS => ?_)
  obtain ⟨hP1, hK1, hD1⟩ := hB
  have w_2 : r_1 = bz (decide (0 ≤ (nI sn) ∧ (nI sn) ≤ 3)) := w_2
  have hP := zKeep hP hD [6] hAq hk1 ht hP1 rfl
  have w_2 : r_1 = 1 := w_2.trans (bz3_t (by assumption))
  subst w_2
  refine lv_if_eq (tgt := 29) hx hb dX5_pebblesBy_8 (by decide +kernel) (fun c_3 => ?_) (fun c_3 => ?_)
  · exact absurd c_3 (by decide +kernel)
  refine lv_iload_n hx hb dX5_pebblesBy_11 rfl (lv_at hl 2 rfl) ?_
  refine lv_iconst (v := 2) hx hb dX5_pebblesBy_12 (by decide +kernel) ?_
  refine z_calli [] (v := bz (decide (0 ≤ v1 ∧ v1 ≤ 2))) (fun _ _ h => h) (va_runS (As := [.int v1, .int 2]) (rest := []) ⟨hx, hb, hml, hown, hts⟩ (c_X5_within_g l G v1 2 H.size) (va_cwS 2 hts gX5_pebblesBy_X5_within rfl rfl rfl (by decide +kernel) ⟨Nat.le_of_ble_eq_true rfl, Nat.le_of_ble_eq_true rfl⟩) ⟨gPre_blind, fun U hU hW => gPre_ofF [] hU hW hK hP hD (by decide +kernel) rfl⟩ rfl rfl hl.1 rfl (lv_room (Nat.le_of_ble_eq_true rfl)) dX5_pebblesBy_13 ⟨Nat.le_of_ble_eq_true rfl, Nat.le_of_ble_eq_true rfl⟩) hS hD hA rfl (fun u t H locs ht hvm hB hz1 hk1 hFq hAq hS => ?_)
  obtain ⟨hP1, hK1, hD1⟩ := hB
  have hP := zKeep hP hD [] hAq hk1 ht hP1 rfl
  refine lv_if_eq (tgt := 29) hx hb dX5_pebblesBy_16 (by decide +kernel) (fun c_6 => ?_) (fun c_6 => ?_)
  · skip
    have n_8 : ¬ (0 ≤ v1 ∧ v1 ≤ 2) := of_decide_eq_false (bz_eq rfl c_6)
    refine lv_bipush (v := -2) hx hb dX5_pebblesBy_29 (by decide +kernel) ?_
    have q_11 : m_X5_pebblesBy_A_nw10 pb fql fki fmo fsz frd fqo frr sn v1 v2 v3 = pb := by unfold m_X5_pebblesBy_A_nw10; rw [if_neg n_8]
    have q_12 : m_X5_pebblesBy_A_n5 pb fql fki fmo fsz frd fqo frr sn v1 v2 v3 = fki := by unfold m_X5_pebblesBy_A_n5; rw [if_neg n_8]
    have q_13 : m_X5_pebblesBy_A_n6 pb fql fki fmo fsz frd fqo frr sn v1 v2 v3 = fmo := by unfold m_X5_pebblesBy_A_n6; rw [if_neg n_8]
    have q_14 : m_X5_pebblesBy_A_n7 pb fql fki fmo fsz frd fqo frr sn v1 v2 v3 = fsz := by unfold m_X5_pebblesBy_A_n7; rw [if_neg n_8]
    have q_15 : m_X5_pebblesBy_A_n8 pb fql fki fmo fsz frd fqo frr sn v1 v2 v3 = frd := by unfold m_X5_pebblesBy_A_n8; rw [if_neg n_8]
    have hz9 : gPD G A [zo5 h0 tt rd nw th kp sh tu him, zo0 nw tt n1 n2 n3 n4 n5 n6 n7 n8 (nI jg) (nI (m_X5_pebblesBy_A_nw10 pb fql fki fmo fsz frd fqo frr sn v1 v2 v3)) (nI lw), zi G n5 6 (m_X5_pebblesBy_A_n5 pb fql fki fmo fsz frd fqo frr sn v1 v2 v3), zi G n6 6 (m_X5_pebblesBy_A_n6 pb fql fki fmo fsz frd fqo frr sn v1 v2 v3), zi G n7 6 (m_X5_pebblesBy_A_n7 pb fql fki fmo fsz frd fqo frr sn v1 v2 v3), zi G n8 6 (m_X5_pebblesBy_A_n8 pb fql fki fmo fsz frd fqo frr sn v1 v2 v3), zo2 sh qn qo ql, zr G qn 4 fn, zi G qo 4 fqo, zi G ql 4 (nF fql), zi G rr 40 frr] H := ⟨by rw [q_11, q_12, q_13, q_14, q_15]; exact hP, by rw [q_11, q_12, q_13, q_14, q_15]; exact hD⟩
    have hP9 := hz9.1
    have hD9 := hz9.2
    have hpost : (fun (r : Int32) (u : Unit) => match u with | _ => r = m_X5_pebblesBy_A pb fql fki fmo fsz frd fqo frr sn v1 v2 v3) (-2) () := (show m_X5_pebblesBy_A pb fql fki fmo fsz frd fqo frr sn v1 v2 v3 = (-2) from by unfold m_X5_pebblesBy_A; rw [if_neg n_8]).symm
    exact W.iret (v := (-2)) hx hb hr (fun t ht hW => ⟨⟨(-2), (), rfl, hpost, by rw [ht]; exact hP9, va_K.moved hW.alike hK, hD9⟩, hS.F ht⟩) hS.2.2 dX5_pebblesBy_31
  · skip
    have p_7 : 0 ≤ v1 ∧ v1 ≤ 2 := of_decide_eq_true (bz_ne rfl c_6)
    have hv_9 : v1 = nI (nC v1) := nC_eq p_7.1
    have hk_10 : nC v1 ≤ 2 := nC_le (n := 2) (by omega) p_7
    refine lv_iload hx hb dX5_pebblesBy_19 (lv_at hl 4 rfl) ?_
    refine lv_bipush (v := 6) hx hb dX5_pebblesBy_21 (by decide +kernel) ?_
    refine z_calli [] (v := bz (decide (0 ≤ v3 ∧ v3 ≤ 6))) (fun _ _ h => h) (va_runS (As := [.int v3, .int 6]) (rest := []) ⟨hx, hb, hml, hown, hts⟩ (c_X5_within_g l G v3 6 H.size) (va_cwS 2 hts gX5_pebblesBy_X5_within rfl rfl rfl (by decide +kernel) ⟨Nat.le_of_ble_eq_true rfl, Nat.le_of_ble_eq_true rfl⟩) ⟨gPre_blind, fun U hU hW => gPre_ofF [] hU hW hK hP hD (by decide +kernel) rfl⟩ rfl rfl hl.1 rfl (lv_room (Nat.le_of_ble_eq_true rfl)) dX5_pebblesBy_23 ⟨Nat.le_of_ble_eq_true rfl, Nat.le_of_ble_eq_true rfl⟩) hS hD hA rfl (fun u t H locs ht hvm hB hz1 hk1 hFq hAq hS => ?_)
    obtain ⟨hP1, hK1, hD1⟩ := hB
    have hP := zKeep hP hD [] hAq hk1 ht hP1 rfl
    refine lv_if_ne (tgt := 32) hx hb dX5_pebblesBy_26 (by decide +kernel) (fun c_18 => ?_) (fun c_18 => ?_)
    · skip
      have p_19 : 0 ≤ v3 ∧ v3 ≤ 6 := of_decide_eq_true (bz_ne rfl c_18)
      have hv_21 : v3 = nI (nC v3) := nC_eq p_19.1
      have hk_22 : nC v3 ≤ 6 := nC_le (n := 6) (by omega) p_19
      refine g_aget (D := G.1) (ci := 5) (v := .ref sh) (C := RX5) (T := TX5) (N := 8) hx hb dX5_pebblesBy_32 rfl (lv_at hl 0 rfl) hts hiX5 hown hK hP 0 rfl rfl 5 (by decide +kernel) kf41 (fun _ h9 => h9) rfl dX5_pebblesBy_33 ?_
      refine va_get (D := G.1) (ci := 2) (v := .ref qo) (C := RX2) (T := TX2) (N := 3) hx hb hts hiX2 hown hK hP 6 rfl rfl 1 (by decide +kernel) kf225 (fun _ h9 => h9) rfl dX5_pebblesBy_36 ?_
      refine lv_iload_n hx hb dX5_pebblesBy_39 rfl (lv_at hl 1 rfl) ?_
      refine g_iald (D := G.1) hx hb hK hP 8 0 rfl rfl (k := sn) (y := fqo sn) (by omega) rfl rfl dX5_pebblesBy_40 ?_
      refine lv_iconst (v := -1) hx hb dX5_pebblesBy_41 (by decide +kernel) ?_
      refine lv_icmp_ne (tgt := 48) hx hb dX5_pebblesBy_42 (by decide +kernel) (fun c_24 => ?_) (fun c_24 => ?_)
      · skip
        refine g_aget (D := G.1) (ci := 5) (v := .ref sh) (C := RX5) (T := TX5) (N := 8) hx hb dX5_pebblesBy_48 rfl (lv_at hl 0 rfl) hts hiX5 hown hK hP 0 rfl rfl 5 (by decide +kernel) kf41 (fun _ h9 => h9) rfl dX5_pebblesBy_49 ?_
        refine va_get (D := G.1) (ci := 2) (v := .ref qo) (C := RX2) (T := TX2) (N := 3) hx hb hts hiX2 hown hK hP 6 rfl rfl 1 (by decide +kernel) kf225 (fun _ h9 => h9) rfl dX5_pebblesBy_52 ?_
        refine lv_iload_n hx hb dX5_pebblesBy_55 rfl (lv_at hl 1 rfl) ?_
        refine g_iald (D := G.1) hx hb hK hP 8 0 rfl rfl (k := sn) (y := fqo sn) (by omega) rfl rfl dX5_pebblesBy_56 ?_
        refine lv_iload_n hx hb dX5_pebblesBy_57 rfl (lv_at hl 2 rfl) ?_
        refine g_topi (y := nI (nC v1)) hv_9 ?_
        refine lv_icmp_eq (tgt := 64) hx hb dX5_pebblesBy_58 (by decide +kernel) (fun c_27 => ?_) (fun c_27 => ?_)
        · skip
          have hs4 := hql sn hsn
          refine lv_iconst (v := 0) hx hb dX5_pebblesBy_64 (by decide +kernel) ?_
          refine lv_istore (lv' := [zI 5 0, zR 0 h0, zI 1 (nI sn), zI 2 v1, zI 3 v2, zI 4 v3]) hx hb dX5_pebblesBy_65 hl (by decide +kernel) rfl (fun ls hl => ?_)
          refine lv_iconst (v := 0) hx hb dX5_pebblesBy_67 (by decide +kernel) ?_
          refine lv_istore (lv' := [zI 6 0, zI 5 0, zR 0 h0, zI 1 (nI sn), zI 2 v1, zI 3 v2, zI 4 v3]) hx hb dX5_pebblesBy_68 hl (by decide +kernel) rfl (fun ls hl => ?_)
          have loop_70 : ∀ (n9 : Nat) (k70 : Nat) (cm : Nat) (y70n5 : Nat → Int32) (y70n6 : Nat → Int32) (y70n7 : Nat → Int32) (y70n8 : Nat → Int32) (pb7 : Nat), (k70 ≤ nC v3) → (p_X5_pebblesBy_A_70 fql frr sn v2 (nC v3 - k70) k70 cm y70n5 y70n6 y70n7 y70n8 pb7 = (g_X5_pebblesBy_A_70 pb fql fki fmo fsz frd frr sn v2 v3)) → (pb7 ≤ 6) → (cm ≤ k70) → (nC v3 - k70) < n9 → ∀ (H : Heap) (locs : List Loc), va_P G.1 vwCl [zo5 h0 tt rd nw th kp sh tu him, zo0 nw tt n1 n2 n3 n4 n5 n6 n7 n8 (nI jg) (nI pb7) (nI lw), zi G n5 6 y70n5, zi G n6 6 y70n6, zi G n7 6 y70n7, zi G n8 6 y70n8, zo2 sh qn qo ql, zr G qn 4 fn, zi G qo 4 fqo, zi G ql 4 (nF fql), zi G rr 40 frr] H → va_D A [zo5 h0 tt rd nw th kp sh tu him, zo0 nw tt n1 n2 n3 n4 n5 n6 n7 n8 (nI jg) (nI pb7) (nI lw), zi G n5 6 y70n5, zi G n6 6 y70n6, zi G n7 6 y70n7, zi G n8 6 y70n8, zo2 sh qn qo ql, zr G qn 4 fn, zi G qo 4 fqo, zi G ql 4 (nF fql), zi G rr 40 frr] → va_S A s.heap H locs → ∀ ls : Array Slot, lv_has ls 8 [zI 6 (nI k70), zI 5 (nI cm), zR 0 h0, zI 1 (nI sn), zI 2 v1, zI 3 v2, zI 4 v3] → W p l e (headSpec wsX5_pebblesBy ({ frames := 2, cells := 0, slots := 0, locals := 45 })).room s m ([.ref h0, .int (nI sn), .int v1, .int v2, .int v3] : List Value).toArray below meth c H locs 0 0 (MQ below (q_X5_pebblesBy_A G E h0 tt rd nw th kp sh tu n1 n2 n3 n4 n5 n6 n7 n8 qn qo ql rr jg pb lw him fn fql fki fmo fsz frd fqo frr sn v1 v2 v3 A) ([.ref h0, .int (nI sn), .int v1, .int v2, .int v3] : List Value).toArray s 0 0 A) (F0 m 70 ls []) := by
            intro n9
            induction n9 with
            | zero => intro k70 cm y70n5 y70n6 y70n7 y70n8 pb7 hk70 R70 hpb7 hcm hm9_70; exact absurd hm9_70 (Nat.not_lt_zero _)
            | succ n9 ih9_70 =>
              intro k70 cm y70n5 y70n6 y70n7 y70n8 pb7 hk70 R70 hpb7 hcm hm9_70 H locs hP hD hS ls hl
              refine lv_iload hx hb dX5_pebblesBy_70 (lv_at hl 0 rfl) ?_
              refine lv_iload hx hb dX5_pebblesBy_72 (lv_at hl 6 rfl) ?_
              refine g_topi (y := nI (nC v3)) hv_21 ?_
              refine lv_icmp_ge (tgt := 144) hx hb dX5_pebblesBy_74 (by decide +kernel) (fun c_29 => ?_) (fun c_29 => ?_)
              · skip
                have c_29N : (nC v3) ≤ k70 := nI_le1 (a := (nC v3)) (b := k70) (by omega) (by omega) c_29
                have hF70 : (g_X5_pebblesBy_A_70 pb fql fki fmo fsz frd frr sn v2 v3) = (k70, cm, y70n5, y70n6, y70n7, y70n8, pb7) := by rw [← R70, show nC v3 - k70 = 0 by omega]; rfl
                have hE70_0 : k70 = ((g_X5_pebblesBy_A_70 pb fql fki fmo fsz frd frr sn v2 v3).1) := by rw [hF70]
                have hE70_1 : cm = ((g_X5_pebblesBy_A_70 pb fql fki fmo fsz frd frr sn v2 v3).2.1) := by rw [hF70]
                have hE70_2 : y70n5 = ((g_X5_pebblesBy_A_70 pb fql fki fmo fsz frd frr sn v2 v3).2.2.1) := by rw [hF70]
                have hE70_3 : y70n6 = ((g_X5_pebblesBy_A_70 pb fql fki fmo fsz frd frr sn v2 v3).2.2.2.1) := by rw [hF70]
                have hE70_4 : y70n7 = ((g_X5_pebblesBy_A_70 pb fql fki fmo fsz frd frr sn v2 v3).2.2.2.2.1) := by rw [hF70]
                have hE70_5 : y70n8 = ((g_X5_pebblesBy_A_70 pb fql fki fmo fsz frd frr sn v2 v3).2.2.2.2.2.1) := by rw [hF70]
                have hE70_6 : pb7 = ((g_X5_pebblesBy_A_70 pb fql fki fmo fsz frd frr sn v2 v3).2.2.2.2.2.2) := by rw [hF70]
                clear hF70 R70
                subst hE70_0
                subst hE70_1
                subst hE70_2
                subst hE70_3
                subst hE70_4
                subst hE70_5
                subst hE70_6
                refine lv_iload hx hb dX5_pebblesBy_144 (lv_at hl 1 rfl) ?_
                have q_30 : m_X5_pebblesBy_A_nw10 pb fql fki fmo fsz frd fqo frr sn v1 v2 v3 = (g_X5_pebblesBy_A_70 pb fql fki fmo fsz frd frr sn v2 v3).2.2.2.2.2.2 := by unfold m_X5_pebblesBy_A_nw10; rw [if_pos p_7, if_pos p_19, if_neg c_24, if_pos c_27]
                have q_31 : m_X5_pebblesBy_A_n5 pb fql fki fmo fsz frd fqo frr sn v1 v2 v3 = ((g_X5_pebblesBy_A_70 pb fql fki fmo fsz frd frr sn v2 v3).2.2.1) := by unfold m_X5_pebblesBy_A_n5; rw [if_pos p_7, if_pos p_19, if_neg c_24, if_pos c_27]
                have q_32 : m_X5_pebblesBy_A_n6 pb fql fki fmo fsz frd fqo frr sn v1 v2 v3 = ((g_X5_pebblesBy_A_70 pb fql fki fmo fsz frd frr sn v2 v3).2.2.2.1) := by unfold m_X5_pebblesBy_A_n6; rw [if_pos p_7, if_pos p_19, if_neg c_24, if_pos c_27]
                have q_33 : m_X5_pebblesBy_A_n7 pb fql fki fmo fsz frd fqo frr sn v1 v2 v3 = ((g_X5_pebblesBy_A_70 pb fql fki fmo fsz frd frr sn v2 v3).2.2.2.2.1) := by unfold m_X5_pebblesBy_A_n7; rw [if_pos p_7, if_pos p_19, if_neg c_24, if_pos c_27]
                have q_34 : m_X5_pebblesBy_A_n8 pb fql fki fmo fsz frd fqo frr sn v1 v2 v3 = ((g_X5_pebblesBy_A_70 pb fql fki fmo fsz frd frr sn v2 v3).2.2.2.2.2.1) := by unfold m_X5_pebblesBy_A_n8; rw [if_pos p_7, if_pos p_19, if_neg c_24, if_pos c_27]
                have hz9 : gPD G A [zo5 h0 tt rd nw th kp sh tu him, zo0 nw tt n1 n2 n3 n4 n5 n6 n7 n8 (nI jg) (nI (m_X5_pebblesBy_A_nw10 pb fql fki fmo fsz frd fqo frr sn v1 v2 v3)) (nI lw), zi G n5 6 (m_X5_pebblesBy_A_n5 pb fql fki fmo fsz frd fqo frr sn v1 v2 v3), zi G n6 6 (m_X5_pebblesBy_A_n6 pb fql fki fmo fsz frd fqo frr sn v1 v2 v3), zi G n7 6 (m_X5_pebblesBy_A_n7 pb fql fki fmo fsz frd fqo frr sn v1 v2 v3), zi G n8 6 (m_X5_pebblesBy_A_n8 pb fql fki fmo fsz frd fqo frr sn v1 v2 v3), zo2 sh qn qo ql, zr G qn 4 fn, zi G qo 4 fqo, zi G ql 4 (nF fql), zi G rr 40 frr] H := ⟨by rw [q_30, q_31, q_32, q_33, q_34]; exact hP, by rw [q_30, q_31, q_32, q_33, q_34]; exact hD⟩
                have hP9 := hz9.1
                have hD9 := hz9.2
                have hpost : (fun (r : Int32) (u : Unit) => match u with | _ => r = m_X5_pebblesBy_A pb fql fki fmo fsz frd fqo frr sn v1 v2 v3) (nI ((g_X5_pebblesBy_A_70 pb fql fki fmo fsz frd frr sn v2 v3).2.1)) () := (show m_X5_pebblesBy_A pb fql fki fmo fsz frd fqo frr sn v1 v2 v3 = (nI ((g_X5_pebblesBy_A_70 pb fql fki fmo fsz frd frr sn v2 v3).2.1)) from by unfold m_X5_pebblesBy_A; rw [if_pos p_7, if_pos p_19, if_neg c_24, if_pos c_27, if_pos c_29]).symm
                exact W.iret (v := (nI ((g_X5_pebblesBy_A_70 pb fql fki fmo fsz frd frr sn v2 v3).2.1))) hx hb hr (fun t ht hW => ⟨⟨(nI ((g_X5_pebblesBy_A_70 pb fql fki fmo fsz frd frr sn v2 v3).2.1)), (), rfl, hpost, by rw [ht]; exact hP9, va_K.moved hW.alike hK, hD9⟩, hS.F ht⟩) hS.2.2 dX5_pebblesBy_146
              · skip
                have c_29N : k70 < (nC v3) := nI_le0 (a := (nC v3)) (b := k70) (by omega) (by omega) c_29
                refine lv_iload_n hx hb dX5_pebblesBy_77 rfl (lv_at hl 5 rfl) ?_
                refine lv_iconst (v := 2) hx hb dX5_pebblesBy_78 (by decide +kernel) ?_
                refine lv_iload hx hb dX5_pebblesBy_79 (lv_at hl 0 rfl) ?_
                refine lv_imul hx hb dX5_pebblesBy_81 ?_
                refine g_topi (y := nI (2 * k70)) (pk_mul 2 k70) ?_
                refine lv_iadd hx hb dX5_pebblesBy_82 ?_
                refine lv_istore (lv' := [zI 7 (v2 + (nI (2 * k70))), zI 6 (nI k70), zI 5 (nI cm), zR 0 h0, zI 1 (nI sn), zI 2 v1, zI 3 v2, zI 4 v3]) hx hb dX5_pebblesBy_83 hl (by decide +kernel) rfl (fun ls hl => ?_)
                refine g_aget (D := G.1) (ci := 5) (v := .ref sh) (C := RX5) (T := TX5) (N := 8) hx hb dX5_pebblesBy_85 rfl (lv_at hl 3 rfl) hts hiX5 hown hK hP 0 rfl rfl 5 (by decide +kernel) kf41 (fun _ h9 => h9) rfl dX5_pebblesBy_86 ?_
                refine lv_iload_n hx hb dX5_pebblesBy_89 rfl (lv_at hl 4 rfl) ?_
                refine lv_iload hx hb dX5_pebblesBy_90 (lv_at hl 0 rfl) ?_
                refine lv_iconst (v := 2) hx hb dX5_pebblesBy_92 (by decide +kernel) ?_
                refine z_calli [6, 9] (v := bz (mHolds (fql sn) (v2 + (nI (2 * k70))) 2)) (fun _ _ h => h) (va_runV (As := [.int (nI sn), .int (v2 + (nI (2 * k70))), .int 2]) (rest := []) ⟨hx, hb, hml, hown, hts⟩ (c_X2_holds l G sh qn qo ql fql sn (v2 + (nI (2 * k70))) 2 H.size (by first | exact hsn | assumption | omega)) (cwV 3 hts gX5_pebblesBy_X2_holds rfl rfl rfl (by decide +kernel) ⟨Nat.le_of_ble_eq_true rfl, Nat.le_of_ble_eq_true rfl⟩) ⟨gPre_blind, va_recv (q := (RX2, TX2, 3)) hK hP (ci := 2) (q0 := 6) rfl rfl, fun U hU hW => gPre_ofF [6, 9] hU hW hK hP hD (by decide +kernel) rfl⟩ rfl rfl hl.1 rfl (lv_room (Nat.le_of_ble_eq_true rfl)) dX5_pebblesBy_93 ⟨Nat.le_of_ble_eq_true rfl, Nat.le_of_ble_eq_true rfl⟩) hS hD hA rfl (fun u t H locs ht hvm hB hz1 hk1 hFq hAq hS => ?_)
                obtain ⟨hP1, hK1, hD1⟩ := hB
                have hP := zKeep hP hD [6, 9] hAq hk1 ht hP1 rfl
                refine lv_if_ne (tgt := 102) hx hb dX5_pebblesBy_96 (by decide +kernel) (fun c_38 => ?_) (fun c_38 => ?_)
                · skip
                  have p_39 : (mHolds (fql sn) (v2 + (nI (2 * k70))) 2) = true := bz_ne rfl c_38
                  have hv_41 : (v2 + (nI (2 * k70))) = nI (nC (v2 + (nI (2 * k70)))) := mHolds_1 p_39
                  have hk_42 : nC (v2 + (nI (2 * k70))) < 2 ^ 31 := nC_31 _
                  have hk_43 : (nC (v2 + (nI (2 * k70)))) + 2 ≤ fql sn := mHolds_3 (by omega) (by omega) (by omega) p_39 (by first | exact hv_41 | rfl) (by first | exact rfl | rfl)
                  refine lv_aload_n hx hb dX5_pebblesBy_102 rfl (lv_at hl 3 rfl) ?_
                  refine g_aget (D := G.1) (ci := 5) (v := .ref sh) (C := RX5) (T := TX5) (N := 8) hx hb dX5_pebblesBy_103 rfl (lv_at hl 3 rfl) hts hiX5 hown hK hP 0 rfl rfl 5 (by decide +kernel) kf41 (fun _ h9 => h9) rfl dX5_pebblesBy_104 ?_
                  refine va_get (D := G.1) (ci := 2) (v := .ref qn) (C := RX2) (T := TX2) (N := 3) hx hb hts hiX2 hown hK hP 6 rfl rfl 0 (by decide +kernel) kf235 (fun _ h9 => h9) rfl dX5_pebblesBy_107 ?_
                  refine lv_iload_n hx hb dX5_pebblesBy_110 rfl (lv_at hl 4 rfl) ?_
                  refine g_aald (x := rr) hx hb hK hP 7 2 rfl rfl (i := (nI sn)) (vpn (by omega) rfl) (by rw [nI_clamp (by omega)]; exact hrw) dX5_pebblesBy_111 ?_
                  refine lv_iload hx hb dX5_pebblesBy_112 (lv_at hl 0 rfl) ?_
                  refine g_topi (y := nI (nC (v2 + (nI (2 * k70))))) hv_41 ?_
                  refine g_iald (D := G.1) hx hb hK hP 10 0 rfl rfl (k := nC (v2 + (nI (2 * k70)))) (y := frr (nC (v2 + (nI (2 * k70))))) (by omega) rfl rfl dX5_pebblesBy_114 ?_
                  refine g_aget (D := G.1) (ci := 5) (v := .ref sh) (C := RX5) (T := TX5) (N := 8) hx hb dX5_pebblesBy_115 rfl (lv_at hl 3 rfl) hts hiX5 hown hK hP 0 rfl rfl 5 (by decide +kernel) kf41 (fun _ h9 => h9) rfl dX5_pebblesBy_116 ?_
                  refine va_get (D := G.1) (ci := 2) (v := .ref qn) (C := RX2) (T := TX2) (N := 3) hx hb hts hiX2 hown hK hP 6 rfl rfl 0 (by decide +kernel) kf235 (fun _ h9 => h9) rfl dX5_pebblesBy_119 ?_
                  refine lv_iload_n hx hb dX5_pebblesBy_122 rfl (lv_at hl 4 rfl) ?_
                  refine g_aald (x := rr) hx hb hK hP 7 2 rfl rfl (i := (nI sn)) (vpn (by omega) rfl) (by rw [nI_clamp (by omega)]; exact hrw) dX5_pebblesBy_123 ?_
                  refine lv_iload hx hb dX5_pebblesBy_124 (lv_at hl 0 rfl) ?_
                  refine g_topi (y := nI (nC (v2 + (nI (2 * k70))))) hv_41 ?_
                  refine lv_iconst (v := 1) hx hb dX5_pebblesBy_126 (by decide +kernel) ?_
                  refine lv_iadd hx hb dX5_pebblesBy_127 ?_
                  refine g_topi (y := nI ((nC (v2 + (nI (2 * k70)))) + 1)) (nI_add (nC (v2 + (nI (2 * k70)))) 1) ?_
                  refine g_iald (D := G.1) hx hb hK hP 10 0 rfl rfl (k := (nC (v2 + (nI (2 * k70)))) + 1) (y := frr ((nC (v2 + (nI (2 * k70)))) + 1)) (by omega) rfl rfl dX5_pebblesBy_128 ?_
                  refine z_calli [0, 1, 2, 3, 4, 5] (v := m_X5_pebble pb7 (frr (nC (v2 + (nI (2 * k70))))) (frr ((nC (v2 + (nI (2 * k70)))) + 1))) (fun _ _ h => h) (va_runV (As := [.int (frr (nC (v2 + (nI (2 * k70))))), .int (frr ((nC (v2 + (nI (2 * k70)))) + 1))]) (rest := []) ⟨hx, hb, hml, hown, hts⟩ (c_X5_pebble l G h0 tt rd nw th kp sh tu n1 n2 n3 n4 n5 n6 n7 n8 jg pb7 lw him y70n5 y70n6 y70n7 y70n8 (frr (nC (v2 + (nI (2 * k70))))) (frr ((nC (v2 + (nI (2 * k70)))) + 1)) H.size (by first | exact hjg | assumption | omega) (by first | exact hpb | assumption | omega)) (cwV 2 hts gX5_pebblesBy_X5_pebble rfl rfl rfl (by decide +kernel) ⟨Nat.le_of_ble_eq_true rfl, Nat.le_of_ble_eq_true rfl⟩) ⟨gPre_blind, va_recv (q := (RX5, TX5, 8)) hK hP (ci := 5) (q0 := 0) rfl rfl, fun U hU hW => gPre_ofF [0, 1, 2, 3, 4, 5] hU hW hK hP hD (by decide +kernel) rfl⟩ rfl rfl hl.1 rfl (lv_room (Nat.le_of_ble_eq_true rfl)) dX5_pebblesBy_129 ⟨Nat.le_of_ble_eq_true rfl, Nat.le_of_ble_eq_true rfl⟩) hS hD hA rfl (fun u t H locs ht hvm hB hz1 hk1 hFq hAq hS => ?_)
                  obtain ⟨hP1, hK1, hD1⟩ := hB
                  have hz9 : gPD G A [zo5 h0 tt rd nw th kp sh tu him, zo0 nw tt n1 n2 n3 n4 n5 n6 n7 n8 (nI jg) (nI (m_X5_pebble_nw10 pb7 (frr (nC (v2 + (nI (2 * k70))))) (frr ((nC (v2 + (nI (2 * k70)))) + 1)))) (nI lw), zi G n5 6 (m_X5_pebble_n5 pb7 y70n5 (frr (nC (v2 + (nI (2 * k70))))) (frr ((nC (v2 + (nI (2 * k70)))) + 1))), zi G n6 6 (m_X5_pebble_n6 pb7 y70n6 (frr (nC (v2 + (nI (2 * k70))))) (frr ((nC (v2 + (nI (2 * k70)))) + 1))), zi G n7 6 (m_X5_pebble_n7 pb7 y70n7 (frr (nC (v2 + (nI (2 * k70))))) (frr ((nC (v2 + (nI (2 * k70)))) + 1))), zi G n8 6 (m_X5_pebble_n8 pb7 y70n8 (frr (nC (v2 + (nI (2 * k70))))) (frr ((nC (v2 + (nI (2 * k70)))) + 1))), zo2 sh qn qo ql, zr G qn 4 fn, zi G qo 4 fqo, zi G ql 4 (nF fql), zi G rr 40 frr] H := zFill hP hD [0, 1, 2, 3, 4, 5] [1, 2, 3, 4, 5, 6] hAq hk1 hFq ht hP1 hD1 rfl (by decide +kernel)
                  have hP := hz9.1
                  have hD := hz9.2
                  refine lv_if_lt (tgt := 138) hx hb dX5_pebblesBy_132 (by decide +kernel) (fun c_51 => ?_) (fun c_51 => ?_)
                  · skip
                    refine lv_iinc (v := nI (k70 + 1)) (lv' := [zI 6 (nI (k70 + 1)), zI 7 (v2 + (nI (2 * k70))), zI 5 (nI cm), zR 0 h0, zI 1 (nI sn), zI 2 v1, zI 3 v2, zI 4 v3]) hx hb dX5_pebblesBy_138 hl (k := 1) rfl (nI_add k70 1) (by decide +kernel) rfl (fun ls hl => ?_)
                    refine lv_goto (tgt := 70) hx hb dX5_pebblesBy_141 (by decide +kernel) ?_
                    exact ih9_70 (k70 + 1) cm (m_X5_pebble_n5 pb7 y70n5 (frr (nC (v2 + (nI (2 * k70))))) (frr ((nC (v2 + (nI (2 * k70)))) + 1))) (m_X5_pebble_n6 pb7 y70n6 (frr (nC (v2 + (nI (2 * k70))))) (frr ((nC (v2 + (nI (2 * k70)))) + 1))) (m_X5_pebble_n7 pb7 y70n7 (frr (nC (v2 + (nI (2 * k70))))) (frr ((nC (v2 + (nI (2 * k70)))) + 1))) (m_X5_pebble_n8 pb7 y70n8 (frr (nC (v2 + (nI (2 * k70))))) (frr ((nC (v2 + (nI (2 * k70)))) + 1))) (m_X5_pebble_nw10 pb7 (frr (nC (v2 + (nI (2 * k70))))) (frr ((nC (v2 + (nI (2 * k70)))) + 1))) (by omega) (Eq.trans (Eq.symm ((congrArg (fun z9 => p_X5_pebblesBy_A_70 fql frr sn v2 (z9) k70 cm y70n5 y70n6 y70n7 y70n8 pb7) (show nC v3 - k70 = nC v3 - (k70 + 1) + 1 by omega)).trans (by show p_X5_pebblesBy_A_70 fql frr sn v2 (nC v3 - (k70 + 1) + 1) k70 cm y70n5 y70n6 y70n7 y70n8 pb7 = _; rw [p_X5_pebblesBy_A_70, if_pos p_39, if_pos c_51]))) R70) (X5_pebble_le hpb7) (by omega) (by omega) _ _ hP hD hS ls (lv_sub hl [0, 2, 3, 4, 5, 6, 7] rfl)
                  · skip
                    refine lv_iinc (v := nI (cm + 1)) (lv' := [zI 5 (nI (cm + 1)), zI 7 (v2 + (nI (2 * k70))), zI 6 (nI k70), zR 0 h0, zI 1 (nI sn), zI 2 v1, zI 3 v2, zI 4 v3]) hx hb dX5_pebblesBy_135 hl (k := 2) rfl (nI_add cm 1) (by decide +kernel) rfl (fun ls hl => ?_)
                    refine lv_iinc (v := nI (k70 + 1)) (lv' := [zI 6 (nI (k70 + 1)), zI 5 (nI (cm + 1)), zI 7 (v2 + (nI (2 * k70))), zR 0 h0, zI 1 (nI sn), zI 2 v1, zI 3 v2, zI 4 v3]) hx hb dX5_pebblesBy_138 hl (k := 2) rfl (nI_add k70 1) (by decide +kernel) rfl (fun ls hl => ?_)
                    refine lv_goto (tgt := 70) hx hb dX5_pebblesBy_141 (by decide +kernel) ?_
                    exact ih9_70 (k70 + 1) (cm + 1) (m_X5_pebble_n5 pb7 y70n5 (frr (nC (v2 + (nI (2 * k70))))) (frr ((nC (v2 + (nI (2 * k70)))) + 1))) (m_X5_pebble_n6 pb7 y70n6 (frr (nC (v2 + (nI (2 * k70))))) (frr ((nC (v2 + (nI (2 * k70)))) + 1))) (m_X5_pebble_n7 pb7 y70n7 (frr (nC (v2 + (nI (2 * k70))))) (frr ((nC (v2 + (nI (2 * k70)))) + 1))) (m_X5_pebble_n8 pb7 y70n8 (frr (nC (v2 + (nI (2 * k70))))) (frr ((nC (v2 + (nI (2 * k70)))) + 1))) (m_X5_pebble_nw10 pb7 (frr (nC (v2 + (nI (2 * k70))))) (frr ((nC (v2 + (nI (2 * k70)))) + 1))) (by omega) (Eq.trans (Eq.symm ((congrArg (fun z9 => p_X5_pebblesBy_A_70 fql frr sn v2 (z9) k70 cm y70n5 y70n6 y70n7 y70n8 pb7) (show nC v3 - k70 = nC v3 - (k70 + 1) + 1 by omega)).trans (by show p_X5_pebblesBy_A_70 fql frr sn v2 (nC v3 - (k70 + 1) + 1) k70 cm y70n5 y70n6 y70n7 y70n8 pb7 = _; rw [p_X5_pebblesBy_A_70, if_pos p_39, if_neg c_51]))) R70) (X5_pebble_le hpb7) (by omega) (by omega) _ _ hP hD hS ls (lv_sub hl [0, 1, 3, 4, 5, 6, 7] rfl)
                · skip
                  have n_40 : (mHolds (fql sn) (v2 + (nI (2 * k70))) 2) = false := bz_eq rfl c_38
                  have n_40N : ¬ ((mHolds (fql sn) (v2 + (nI (2 * k70))) 2) = true) := by rw [n_40]; decide
                  refine lv_bipush (v := -12) hx hb dX5_pebblesBy_99 (by decide +kernel) ?_
                  have hF70 : (g_X5_pebblesBy_A_70 pb fql fki fmo fsz frd frr sn v2 v3) = (k70, cm, y70n5, y70n6, y70n7, y70n8, pb7) := R70.symm.trans ((congrArg (fun z9 => p_X5_pebblesBy_A_70 fql frr sn v2 (z9) k70 cm y70n5 y70n6 y70n7 y70n8 pb7) (show nC v3 - k70 = nC v3 - (k70 + 1) + 1 by omega)).trans (by show p_X5_pebblesBy_A_70 fql frr sn v2 (nC v3 - (k70 + 1) + 1) k70 cm y70n5 y70n6 y70n7 y70n8 pb7 = _; rw [p_X5_pebblesBy_A_70, if_neg n_40N]))
                  have hE70_0 : k70 = ((g_X5_pebblesBy_A_70 pb fql fki fmo fsz frd frr sn v2 v3).1) := by rw [hF70]
                  have hE70_1 : cm = ((g_X5_pebblesBy_A_70 pb fql fki fmo fsz frd frr sn v2 v3).2.1) := by rw [hF70]
                  have hE70_2 : y70n5 = ((g_X5_pebblesBy_A_70 pb fql fki fmo fsz frd frr sn v2 v3).2.2.1) := by rw [hF70]
                  have hE70_3 : y70n6 = ((g_X5_pebblesBy_A_70 pb fql fki fmo fsz frd frr sn v2 v3).2.2.2.1) := by rw [hF70]
                  have hE70_4 : y70n7 = ((g_X5_pebblesBy_A_70 pb fql fki fmo fsz frd frr sn v2 v3).2.2.2.2.1) := by rw [hF70]
                  have hE70_5 : y70n8 = ((g_X5_pebblesBy_A_70 pb fql fki fmo fsz frd frr sn v2 v3).2.2.2.2.2.1) := by rw [hF70]
                  have hE70_6 : pb7 = ((g_X5_pebblesBy_A_70 pb fql fki fmo fsz frd frr sn v2 v3).2.2.2.2.2.2) := by rw [hF70]
                  clear hF70 R70
                  subst hE70_0
                  subst hE70_1
                  subst hE70_2
                  subst hE70_3
                  subst hE70_4
                  subst hE70_5
                  subst hE70_6
                  have q_52 : m_X5_pebblesBy_A_nw10 pb fql fki fmo fsz frd fqo frr sn v1 v2 v3 = (g_X5_pebblesBy_A_70 pb fql fki fmo fsz frd frr sn v2 v3).2.2.2.2.2.2 := by unfold m_X5_pebblesBy_A_nw10; rw [if_pos p_7, if_pos p_19, if_neg c_24, if_pos c_27]
                  have q_53 : m_X5_pebblesBy_A_n5 pb fql fki fmo fsz frd fqo frr sn v1 v2 v3 = ((g_X5_pebblesBy_A_70 pb fql fki fmo fsz frd frr sn v2 v3).2.2.1) := by unfold m_X5_pebblesBy_A_n5; rw [if_pos p_7, if_pos p_19, if_neg c_24, if_pos c_27]
                  have q_54 : m_X5_pebblesBy_A_n6 pb fql fki fmo fsz frd fqo frr sn v1 v2 v3 = ((g_X5_pebblesBy_A_70 pb fql fki fmo fsz frd frr sn v2 v3).2.2.2.1) := by unfold m_X5_pebblesBy_A_n6; rw [if_pos p_7, if_pos p_19, if_neg c_24, if_pos c_27]
                  have q_55 : m_X5_pebblesBy_A_n7 pb fql fki fmo fsz frd fqo frr sn v1 v2 v3 = ((g_X5_pebblesBy_A_70 pb fql fki fmo fsz frd frr sn v2 v3).2.2.2.2.1) := by unfold m_X5_pebblesBy_A_n7; rw [if_pos p_7, if_pos p_19, if_neg c_24, if_pos c_27]
                  have q_56 : m_X5_pebblesBy_A_n8 pb fql fki fmo fsz frd fqo frr sn v1 v2 v3 = ((g_X5_pebblesBy_A_70 pb fql fki fmo fsz frd frr sn v2 v3).2.2.2.2.2.1) := by unfold m_X5_pebblesBy_A_n8; rw [if_pos p_7, if_pos p_19, if_neg c_24, if_pos c_27]
                  have hz9 : gPD G A [zo5 h0 tt rd nw th kp sh tu him, zo0 nw tt n1 n2 n3 n4 n5 n6 n7 n8 (nI jg) (nI (m_X5_pebblesBy_A_nw10 pb fql fki fmo fsz frd fqo frr sn v1 v2 v3)) (nI lw), zi G n5 6 (m_X5_pebblesBy_A_n5 pb fql fki fmo fsz frd fqo frr sn v1 v2 v3), zi G n6 6 (m_X5_pebblesBy_A_n6 pb fql fki fmo fsz frd fqo frr sn v1 v2 v3), zi G n7 6 (m_X5_pebblesBy_A_n7 pb fql fki fmo fsz frd fqo frr sn v1 v2 v3), zi G n8 6 (m_X5_pebblesBy_A_n8 pb fql fki fmo fsz frd fqo frr sn v1 v2 v3), zo2 sh qn qo ql, zr G qn 4 fn, zi G qo 4 fqo, zi G ql 4 (nF fql), zi G rr 40 frr] H := ⟨by rw [q_52, q_53, q_54, q_55, q_56]; exact hP, by rw [q_52, q_53, q_54, q_55, q_56]; exact hD⟩
                  have hP9 := hz9.1
                  have hD9 := hz9.2
                  have hpost : (fun (r : Int32) (u : Unit) => match u with | _ => r = m_X5_pebblesBy_A pb fql fki fmo fsz frd fqo frr sn v1 v2 v3) (-12) () := (show m_X5_pebblesBy_A pb fql fki fmo fsz frd fqo frr sn v1 v2 v3 = (-12) from by unfold m_X5_pebblesBy_A; rw [if_pos p_7, if_pos p_19, if_neg c_24, if_pos c_27, if_neg c_29]).symm
                  exact W.iret (v := (-12)) hx hb hr (fun t ht hW => ⟨⟨(-12), (), rfl, hpost, by rw [ht]; exact hP9, va_K.moved hW.alike hK, hD9⟩, hS.F ht⟩) hS.2.2 dX5_pebblesBy_101
          exact loop_70 (nC v3 - 0 + 1) 0 0 fki fmo fsz frd pb (by omega) (rfl) (hpb) (Nat.le_refl 0) (by omega) _ _ hP hD hS ls hl
        · skip
          refine lv_bipush (v := -13) hx hb dX5_pebblesBy_61 (by decide +kernel) ?_
          have q_57 : m_X5_pebblesBy_A_nw10 pb fql fki fmo fsz frd fqo frr sn v1 v2 v3 = pb := by unfold m_X5_pebblesBy_A_nw10; rw [if_pos p_7, if_pos p_19, if_neg c_24, if_neg c_27]
          have q_58 : m_X5_pebblesBy_A_n5 pb fql fki fmo fsz frd fqo frr sn v1 v2 v3 = fki := by unfold m_X5_pebblesBy_A_n5; rw [if_pos p_7, if_pos p_19, if_neg c_24, if_neg c_27]
          have q_59 : m_X5_pebblesBy_A_n6 pb fql fki fmo fsz frd fqo frr sn v1 v2 v3 = fmo := by unfold m_X5_pebblesBy_A_n6; rw [if_pos p_7, if_pos p_19, if_neg c_24, if_neg c_27]
          have q_60 : m_X5_pebblesBy_A_n7 pb fql fki fmo fsz frd fqo frr sn v1 v2 v3 = fsz := by unfold m_X5_pebblesBy_A_n7; rw [if_pos p_7, if_pos p_19, if_neg c_24, if_neg c_27]
          have q_61 : m_X5_pebblesBy_A_n8 pb fql fki fmo fsz frd fqo frr sn v1 v2 v3 = frd := by unfold m_X5_pebblesBy_A_n8; rw [if_pos p_7, if_pos p_19, if_neg c_24, if_neg c_27]
          have hz9 : gPD G A [zo5 h0 tt rd nw th kp sh tu him, zo0 nw tt n1 n2 n3 n4 n5 n6 n7 n8 (nI jg) (nI (m_X5_pebblesBy_A_nw10 pb fql fki fmo fsz frd fqo frr sn v1 v2 v3)) (nI lw), zi G n5 6 (m_X5_pebblesBy_A_n5 pb fql fki fmo fsz frd fqo frr sn v1 v2 v3), zi G n6 6 (m_X5_pebblesBy_A_n6 pb fql fki fmo fsz frd fqo frr sn v1 v2 v3), zi G n7 6 (m_X5_pebblesBy_A_n7 pb fql fki fmo fsz frd fqo frr sn v1 v2 v3), zi G n8 6 (m_X5_pebblesBy_A_n8 pb fql fki fmo fsz frd fqo frr sn v1 v2 v3), zo2 sh qn qo ql, zr G qn 4 fn, zi G qo 4 fqo, zi G ql 4 (nF fql), zi G rr 40 frr] H := ⟨by rw [q_57, q_58, q_59, q_60, q_61]; exact hP, by rw [q_57, q_58, q_59, q_60, q_61]; exact hD⟩
          have hP9 := hz9.1
          have hD9 := hz9.2
          have hpost : (fun (r : Int32) (u : Unit) => match u with | _ => r = m_X5_pebblesBy_A pb fql fki fmo fsz frd fqo frr sn v1 v2 v3) (-13) () := (show m_X5_pebblesBy_A pb fql fki fmo fsz frd fqo frr sn v1 v2 v3 = (-13) from by unfold m_X5_pebblesBy_A; rw [if_pos p_7, if_pos p_19, if_neg c_24, if_neg c_27]).symm
          exact W.iret (v := (-13)) hx hb hr (fun t ht hW => ⟨⟨(-13), (), rfl, hpost, by rw [ht]; exact hP9, va_K.moved hW.alike hK, hD9⟩, hS.F ht⟩) hS.2.2 dX5_pebblesBy_63
      · skip
        refine lv_bipush (v := -11) hx hb dX5_pebblesBy_45 (by decide +kernel) ?_
        have q_62 : m_X5_pebblesBy_A_nw10 pb fql fki fmo fsz frd fqo frr sn v1 v2 v3 = pb := by unfold m_X5_pebblesBy_A_nw10; rw [if_pos p_7, if_pos p_19, if_pos c_24]
        have q_63 : m_X5_pebblesBy_A_n5 pb fql fki fmo fsz frd fqo frr sn v1 v2 v3 = fki := by unfold m_X5_pebblesBy_A_n5; rw [if_pos p_7, if_pos p_19, if_pos c_24]
        have q_64 : m_X5_pebblesBy_A_n6 pb fql fki fmo fsz frd fqo frr sn v1 v2 v3 = fmo := by unfold m_X5_pebblesBy_A_n6; rw [if_pos p_7, if_pos p_19, if_pos c_24]
        have q_65 : m_X5_pebblesBy_A_n7 pb fql fki fmo fsz frd fqo frr sn v1 v2 v3 = fsz := by unfold m_X5_pebblesBy_A_n7; rw [if_pos p_7, if_pos p_19, if_pos c_24]
        have q_66 : m_X5_pebblesBy_A_n8 pb fql fki fmo fsz frd fqo frr sn v1 v2 v3 = frd := by unfold m_X5_pebblesBy_A_n8; rw [if_pos p_7, if_pos p_19, if_pos c_24]
        have hz9 : gPD G A [zo5 h0 tt rd nw th kp sh tu him, zo0 nw tt n1 n2 n3 n4 n5 n6 n7 n8 (nI jg) (nI (m_X5_pebblesBy_A_nw10 pb fql fki fmo fsz frd fqo frr sn v1 v2 v3)) (nI lw), zi G n5 6 (m_X5_pebblesBy_A_n5 pb fql fki fmo fsz frd fqo frr sn v1 v2 v3), zi G n6 6 (m_X5_pebblesBy_A_n6 pb fql fki fmo fsz frd fqo frr sn v1 v2 v3), zi G n7 6 (m_X5_pebblesBy_A_n7 pb fql fki fmo fsz frd fqo frr sn v1 v2 v3), zi G n8 6 (m_X5_pebblesBy_A_n8 pb fql fki fmo fsz frd fqo frr sn v1 v2 v3), zo2 sh qn qo ql, zr G qn 4 fn, zi G qo 4 fqo, zi G ql 4 (nF fql), zi G rr 40 frr] H := ⟨by rw [q_62, q_63, q_64, q_65, q_66]; exact hP, by rw [q_62, q_63, q_64, q_65, q_66]; exact hD⟩
        have hP9 := hz9.1
        have hD9 := hz9.2
        have hpost : (fun (r : Int32) (u : Unit) => match u with | _ => r = m_X5_pebblesBy_A pb fql fki fmo fsz frd fqo frr sn v1 v2 v3) (-11) () := (show m_X5_pebblesBy_A pb fql fki fmo fsz frd fqo frr sn v1 v2 v3 = (-11) from by unfold m_X5_pebblesBy_A; rw [if_pos p_7, if_pos p_19, if_pos c_24]).symm
        exact W.iret (v := (-11)) hx hb hr (fun t ht hW => ⟨⟨(-11), (), rfl, hpost, by rw [ht]; exact hP9, va_K.moved hW.alike hK, hD9⟩, hS.F ht⟩) hS.2.2 dX5_pebblesBy_47
    · skip
      have n_20 : ¬ (0 ≤ v3 ∧ v3 ≤ 6) := of_decide_eq_false (bz_eq rfl c_18)
      refine lv_bipush (v := -2) hx hb dX5_pebblesBy_29 (by decide +kernel) ?_
      have q_67 : m_X5_pebblesBy_A_nw10 pb fql fki fmo fsz frd fqo frr sn v1 v2 v3 = pb := by unfold m_X5_pebblesBy_A_nw10; rw [if_pos p_7, if_neg n_20]
      have q_68 : m_X5_pebblesBy_A_n5 pb fql fki fmo fsz frd fqo frr sn v1 v2 v3 = fki := by unfold m_X5_pebblesBy_A_n5; rw [if_pos p_7, if_neg n_20]
      have q_69 : m_X5_pebblesBy_A_n6 pb fql fki fmo fsz frd fqo frr sn v1 v2 v3 = fmo := by unfold m_X5_pebblesBy_A_n6; rw [if_pos p_7, if_neg n_20]
      have q_70 : m_X5_pebblesBy_A_n7 pb fql fki fmo fsz frd fqo frr sn v1 v2 v3 = fsz := by unfold m_X5_pebblesBy_A_n7; rw [if_pos p_7, if_neg n_20]
      have q_71 : m_X5_pebblesBy_A_n8 pb fql fki fmo fsz frd fqo frr sn v1 v2 v3 = frd := by unfold m_X5_pebblesBy_A_n8; rw [if_pos p_7, if_neg n_20]
      have hz9 : gPD G A [zo5 h0 tt rd nw th kp sh tu him, zo0 nw tt n1 n2 n3 n4 n5 n6 n7 n8 (nI jg) (nI (m_X5_pebblesBy_A_nw10 pb fql fki fmo fsz frd fqo frr sn v1 v2 v3)) (nI lw), zi G n5 6 (m_X5_pebblesBy_A_n5 pb fql fki fmo fsz frd fqo frr sn v1 v2 v3), zi G n6 6 (m_X5_pebblesBy_A_n6 pb fql fki fmo fsz frd fqo frr sn v1 v2 v3), zi G n7 6 (m_X5_pebblesBy_A_n7 pb fql fki fmo fsz frd fqo frr sn v1 v2 v3), zi G n8 6 (m_X5_pebblesBy_A_n8 pb fql fki fmo fsz frd fqo frr sn v1 v2 v3), zo2 sh qn qo ql, zr G qn 4 fn, zi G qo 4 fqo, zi G ql 4 (nF fql), zi G rr 40 frr] H := ⟨by rw [q_67, q_68, q_69, q_70, q_71]; exact hP, by rw [q_67, q_68, q_69, q_70, q_71]; exact hD⟩
      have hP9 := hz9.1
      have hD9 := hz9.2
      have hpost : (fun (r : Int32) (u : Unit) => match u with | _ => r = m_X5_pebblesBy_A pb fql fki fmo fsz frd fqo frr sn v1 v2 v3) (-2) () := (show m_X5_pebblesBy_A pb fql fki fmo fsz frd fqo frr sn v1 v2 v3 = (-2) from by unfold m_X5_pebblesBy_A; rw [if_pos p_7, if_neg n_20]).symm
      exact W.iret (v := (-2)) hx hb hr (fun t ht hW => ⟨⟨(-2), (), rfl, hpost, by rw [ht]; exact hP9, va_K.moved hW.alike hK, hD9⟩, hS.F ht⟩) hS.2.2 dX5_pebblesBy_31
abbrev q_X5_pebblesBy_B (G : gG) (E : gS) (h0 tt rd nw th kp sh tu qn qo ql : Nat) (him : Int32) (v0 : Int32) (v1 : Int32) (v2 : Int32) (v3 : Int32) (A : Nat → Prop) : Array Value → State → Outcome → State → Prop := va_Qi (fun (r : Int32) (u : Unit) => match u with | _ => r = -2) (fun (u : Unit) t => match u with | _ => va_P G.1 vwCl [zo5 h0 tt rd nw th kp sh tu him, zo2 sh qn qo ql] t.heap ∧ gK G t ∧ va_D A [zo5 h0 tt rd nw th kp sh tu him, zo2 sh qn qo ql]) A
set_option maxHeartbeats 4000000 in
set_option maxRecDepth 100000 in
theorem c_X5_pebblesBy_B (l : Launch) (G : gG) (E : gS) (h0 tt rd nw th kp sh tu qn qo ql : Nat) (him : Int32) (v0 : Int32) (v1 : Int32) (v2 : Int32) (v3 : Int32) (sz : Nat) (hno : ¬ (0 ≤ v0 ∧ v0 ≤ 3)) : Met l yX5_pebblesBy wsX5_pebblesBy ({ frames := 2, cells := 0, slots := 0, locals := 42 }) (gPreE G E [.ref h0, .int v0, .int v1, .int v2, .int v3] [zo5 h0 tt rd nw th kp sh tu him, zo2 sh qn qo ql] sz) (q_X5_pebblesBy_B G E h0 tt rd nw th kp sh tu qn qo ql him v0 v1 v2 v3 (va_A [zo5 h0 tt rd nw th kp sh tu him, zo2 sh qn qo ql] sz)) 0 0 (va_A [zo5 h0 tt rd nw th kp sh tu him, zo2 sh qn qo ql] sz) := by
  refine Met.ofW (cc := cX5_pebblesBy) (maxL := 8) (ret := (some .int)) (by decide +kernel) rfl ?_
  intro p e s m args below meth c s₁ B hml hv
  obtain ⟨rfl, hsz, hP, hK, hD0, hE⟩ := hv
  have hx := B.exec
  have hb := B.bytes
  have hr := B.returns
  have hts := atoms_spec (ws := wsX5_pebblesBy) B.pre
  have hown : s.vm.findClass RX5 = some m.cls := findClass_of_methodNamed B.named
  have hlocks := B.notSynchronized
  subst hsz
  have hD := hD0.self (sz := s.heap.size)
  generalize hAe : va_A [zo5 h0 tt rd nw th kp sh tu him, zo2 sh qn qo ql] s.heap.size = A at hD hE ⊢
  have hA : ∀ q : Nat, s.heap.size ≤ q → A q := fun q h => by rw [← hAe]; exact Or.inr h
  have hS : va_S A s.heap s.heap [] := va_S.rf
  have hz9 : gPD G A [zo5 h0 tt rd nw th kp sh tu him, zo2 sh qn qo ql] s.heap := ⟨hP, hD⟩
  have hP := hz9.1
  have hD := hz9.2
  have hl := lv_entry ([.ref h0, .int v0, .int v1, .int v2, .int v3]) (n := 8) (Nat.le_of_ble_eq_true rfl)
  rw [lg_entry_eq]
  generalize (lg_sl ([.ref h0, .int v0, .int v1, .int v2, .int v3]) ++ List.replicate (8 - (lg_sl ([.ref h0, .int v0, .int v1, .int v2, .int v3])).length) Slot.unset).toArray = ls at hl ⊢
  have hl : lv_has ls 8 [zR 0 h0, zI 1 v0, zI 2 v1, zI 3 v2, zI 4 v3] := hl
  have kf41 := hts (.fieldLink RX5 41 "PebbleInShoe" "rows" "LPebbleInShoe$Sheets;") (by decide +kernel)
  have hiX5 := (by decide +kernel : ∀ w ∈ wsX50, w ∈ wsX5_pebblesBy)
  refine g_aget (D := G.1) (ci := 5) (v := .ref sh) (C := RX5) (T := TX5) (N := 8) hx hb dX5_pebblesBy_0 rfl (lv_at hl 0 rfl) hts hiX5 hown hK hP 0 rfl rfl 5 (by decide +kernel) kf41 (fun _ h9 => h9) rfl dX5_pebblesBy_1 ?_
  refine lv_iload_n hx hb dX5_pebblesBy_4 rfl (lv_at hl 1 rfl) ?_
  refine z_callp [1] (va_runV (As := [.int v0]) (rest := []) ⟨hx, hb, hml, hown, hts⟩ (c_X2_isSheet_g l G E sh qn qo ql v0 s.heap.size) (cwV 1 hts gX5_pebblesBy_X2_isSheet rfl rfl rfl (by decide +kernel) ⟨Nat.le_of_ble_eq_true rfl, Nat.le_of_ble_eq_true rfl⟩) ⟨gPreE_blind, va_recv (q := (RX2, TX2, 3)) hK hP (ci := 2) (q0 := 1) rfl rfl, fun U hU hW => gPreE_ofF [1] hU hW hK hP hD (by decide +kernel) rfl hE hS hA⟩ rfl rfl hl.1 rfl (lv_room (Nat.le_of_ble_eq_true rfl)) dX5_pebblesBy_5 ⟨Nat.le_of_ble_eq_true rfl, Nat.le_of_ble_eq_true rfl⟩) hS hD hA rfl (fun r_1 u t H locs ht hvm w_2 hB hz1 hk1 hFq hAq hS => ?_)
  obtain ⟨hP1, hK1, hD1⟩ := hB
  have w_2 : r_1 = bz (decide (0 ≤ v0 ∧ v0 ≤ 3)) := w_2
  have hP := zKeep hP hD [1] hAq hk1 ht hP1 rfl
  have w_2 : r_1 = 0 := w_2.trans (bz3_f hno)
  subst w_2
  refine lv_if_eq (tgt := 29) hx hb dX5_pebblesBy_8 (by decide +kernel) (fun c_3 => ?_) (fun c_3 => ?_)
  rotate_left
  · exact absurd (by decide +kernel) c_3
  refine lv_bipush (v := -2) hx hb dX5_pebblesBy_29 (by decide +kernel) ?_
  have hpost : (fun (r : Int32) (u : Unit) => match u with | _ => r = -2) (-2) () := rfl
  exact W.iret (v := (-2)) hx hb hr (fun t ht hW => ⟨⟨(-2), (), rfl, hpost, by rw [ht]; exact hP, va_K.moved hW.alike hK, hD⟩, hS.F ht⟩) hS.2.2 dX5_pebblesBy_31
noncomputable def m_X5_taken (jg : Nat) (pb : Nat) (fpa : Nat → Int32) (fki : Nat → Int32) (v0 : Int32) (v1 : Int32) : Int64 := if 0 ≤ v1 ∧ v1 ≤ 6 then (if 0 ≤ v0 ∧ v0 ≤ 9 then (if (nI (nC v0)) < 6 then (if (mHas pb (nI (nC v0))) = true then (if (m_X5_isOfKind (fki (nC v0)) (nI (nC v1))) = 0 then -13 else lN (nC v0)) else -11) else (if (mHas jg (nI ((nC v0) - 6))) = true then (if (nI (nC v1)) = 6 then (fpa ((nC v0) - 6)).toInt64 else -13) else -11)) else -12) else -2
abbrev q_X5_taken (G : gG) (h0 tt rd nw th kp sh tu n1 n2 n3 n4 n5 n6 n7 n8 : Nat) (jg : Nat) (pb : Nat) (lw : Nat) (him : Int32) (fpa : Nat → Int32) (fki : Nat → Int32) (v0 : Int32) (v1 : Int32) (A : Nat → Prop) : Array Value → State → Outcome → State → Prop := va_Ql (fun (r : Int64) (u : Unit) => match u with | _ => r = m_X5_taken jg pb fpa fki v0 v1) (fun (u : Unit) t => match u with | _ => va_P G.1 vwCl [zo5 h0 tt rd nw th kp sh tu him, zo0 nw tt n1 n2 n3 n4 n5 n6 n7 n8 (nI jg) (nI pb) (nI lw), zi G n4 4 fpa, zi G n5 6 fki] t.heap ∧ gK G t ∧ va_D A [zo5 h0 tt rd nw th kp sh tu him, zo0 nw tt n1 n2 n3 n4 n5 n6 n7 n8 (nI jg) (nI pb) (nI lw), zi G n4 4 fpa, zi G n5 6 fki]) A
set_option maxHeartbeats 4000000 in
set_option maxRecDepth 100000 in
theorem c_X5_taken (l : Launch) (G : gG) (h0 tt rd nw th kp sh tu n1 n2 n3 n4 n5 n6 n7 n8 : Nat) (jg : Nat) (pb : Nat) (lw : Nat) (him : Int32) (fpa : Nat → Int32) (fki : Nat → Int32) (v0 : Int32) (v1 : Int32) (sz : Nat) (hjg : jg ≤ 4) (hpb : pb ≤ 6) : Met l yX5_taken wsX5_taken ({ frames := 1, cells := 0, slots := 0, locals := 21 }) (gPre G [.ref h0, .int v0, .int v1] [zo5 h0 tt rd nw th kp sh tu him, zo0 nw tt n1 n2 n3 n4 n5 n6 n7 n8 (nI jg) (nI pb) (nI lw), zi G n4 4 fpa, zi G n5 6 fki] sz) (q_X5_taken G h0 tt rd nw th kp sh tu n1 n2 n3 n4 n5 n6 n7 n8 jg pb lw him fpa fki v0 v1 (va_A [zo5 h0 tt rd nw th kp sh tu him, zo0 nw tt n1 n2 n3 n4 n5 n6 n7 n8 (nI jg) (nI pb) (nI lw), zi G n4 4 fpa, zi G n5 6 fki] sz)) 0 0 (va_A [zo5 h0 tt rd nw th kp sh tu him, zo0 nw tt n1 n2 n3 n4 n5 n6 n7 n8 (nI jg) (nI pb) (nI lw), zi G n4 4 fpa, zi G n5 6 fki] sz) := by
  refine Met.ofW (cc := cX5_taken) (maxL := 4) (ret := (some .long)) (by decide +kernel) rfl ?_
  intro p e s m args below meth c s₁ B hml hv
  obtain ⟨rfl, hsz, hP, hK, hD0⟩ := hv
  have hx := B.exec
  have hb := B.bytes
  have hr := B.returns
  have hts := atoms_spec (ws := wsX5_taken) B.pre
  have hown : s.vm.findClass RX5 = some m.cls := findClass_of_methodNamed B.named
  have hlocks := B.notSynchronized
  subst hsz
  have hD := hD0.self (sz := s.heap.size)
  generalize hAe : va_A [zo5 h0 tt rd nw th kp sh tu him, zo0 nw tt n1 n2 n3 n4 n5 n6 n7 n8 (nI jg) (nI pb) (nI lw), zi G n4 4 fpa, zi G n5 6 fki] s.heap.size = A at hD ⊢
  have hA : ∀ q : Nat, s.heap.size ≤ q → A q := fun q h => by rw [← hAe]; exact Or.inr h
  have hS : va_S A s.heap s.heap [] := va_S.rf
  have hz9 : gPD G A [zo5 h0 tt rd nw th kp sh tu him, zo0 nw tt n1 n2 n3 n4 n5 n6 n7 n8 (nI jg) (nI pb) (nI lw), zi G n4 4 fpa, zi G n5 6 fki] s.heap := ⟨hP, hD⟩
  have hP := hz9.1
  have hD := hz9.2
  have hl := lv_entry ([.ref h0, .int v0, .int v1]) (n := 4) (Nat.le_of_ble_eq_true rfl)
  rw [lg_entry_eq]
  generalize (lg_sl ([.ref h0, .int v0, .int v1]) ++ List.replicate (4 - (lg_sl ([.ref h0, .int v0, .int v1])).length) Slot.unset).toArray = ls at hl ⊢
  have hl : lv_has ls 4 [zR 0 h0, zI 1 v0, zI 2 v1] := hl
  have kf28 := hts (.fieldLink RX5 28 "PebbleInShoe" "now" "LPebbleInShoe$Court;") (by decide +kernel)
  have hiX5 := (by decide +kernel : ∀ w ∈ wsX50, w ∈ wsX5_taken)
  have kf128 := hts (.fieldLink RX5 128 "PebbleInShoe$Court" "kind" "[I") (by decide +kernel)
  have hiX0 := (by decide +kernel : ∀ w ∈ wsX00, w ∈ wsX5_taken)
  have kf105 := hts (.fieldLink RX5 105 "PebbleInShoe$Court" "pains" "[I") (by decide +kernel)
  refine lv_iload_n hx hb dX5_taken_0 rfl (lv_at hl 2 rfl) ?_
  refine lv_bipush (v := 6) hx hb dX5_taken_1 (by decide +kernel) ?_
  refine z_calli [] (v := bz (decide (0 ≤ v1 ∧ v1 ≤ 6))) (fun _ _ h => h) (va_runS (As := [.int v1, .int 6]) (rest := []) ⟨hx, hb, hml, hown, hts⟩ (c_X5_within_g l G v1 6 s.heap.size) (va_cwS 2 hts gX5_taken_X5_within rfl rfl rfl (by decide +kernel) ⟨Nat.le_of_ble_eq_true rfl, Nat.le_of_ble_eq_true rfl⟩) ⟨gPre_blind, fun U hU hW => gPre_ofF [] hU hW hK hP hD (by decide +kernel) rfl⟩ rfl rfl hl.1 rfl (lv_room (Nat.le_of_ble_eq_true rfl)) dX5_taken_3 ⟨Nat.le_of_ble_eq_true rfl, Nat.le_of_ble_eq_true rfl⟩) hS hD hA rfl (fun u t H locs ht hvm hB hz1 hk1 hFq hAq hS => ?_)
  obtain ⟨hP1, hK1, hD1⟩ := hB
  have hP := zKeep hP hD [] hAq hk1 ht hP1 rfl
  refine lv_if_ne (tgt := 13) hx hb dX5_taken_6 (by decide +kernel) (fun c_3 => ?_) (fun c_3 => ?_)
  · skip
    have p_4 : 0 ≤ v1 ∧ v1 ≤ 6 := of_decide_eq_true (bz_ne rfl c_3)
    have hv_6 : v1 = nI (nC v1) := nC_eq p_4.1
    have hk_7 : nC v1 ≤ 6 := nC_le (n := 6) (by omega) p_4
    refine lv_iload_n hx hb dX5_taken_13 rfl (lv_at hl 1 rfl) ?_
    refine lv_bipush (v := 9) hx hb dX5_taken_14 (by decide +kernel) ?_
    refine z_calli [] (v := bz (decide (0 ≤ v0 ∧ v0 ≤ 9))) (fun _ _ h => h) (va_runS (As := [.int v0, .int 9]) (rest := []) ⟨hx, hb, hml, hown, hts⟩ (c_X5_within_g l G v0 9 H.size) (va_cwS 2 hts gX5_taken_X5_within rfl rfl rfl (by decide +kernel) ⟨Nat.le_of_ble_eq_true rfl, Nat.le_of_ble_eq_true rfl⟩) ⟨gPre_blind, fun U hU hW => gPre_ofF [] hU hW hK hP hD (by decide +kernel) rfl⟩ rfl rfl hl.1 rfl (lv_room (Nat.le_of_ble_eq_true rfl)) dX5_taken_16 ⟨Nat.le_of_ble_eq_true rfl, Nat.le_of_ble_eq_true rfl⟩) hS hD hA rfl (fun u t H locs ht hvm hB hz1 hk1 hFq hAq hS => ?_)
    obtain ⟨hP1, hK1, hD1⟩ := hB
    have hP := zKeep hP hD [] hAq hk1 ht hP1 rfl
    refine lv_if_ne (tgt := 26) hx hb dX5_taken_19 (by decide +kernel) (fun c_10 => ?_) (fun c_10 => ?_)
    · skip
      have p_11 : 0 ≤ v0 ∧ v0 ≤ 9 := of_decide_eq_true (bz_ne rfl c_10)
      have hv_13 : v0 = nI (nC v0) := nC_eq p_11.1
      have hk_14 : nC v0 ≤ 9 := nC_le (n := 9) (by omega) p_11
      refine lv_iload_n hx hb dX5_taken_26 rfl (lv_at hl 1 rfl) ?_
      refine g_topi (y := nI (nC v0)) hv_13 ?_
      refine lv_bipush (v := 6) hx hb dX5_taken_27 (by decide +kernel) ?_
      refine lv_icmp_lt (tgt := 75) hx hb dX5_taken_29 (by decide +kernel) (fun c_16 => ?_) (fun c_16 => ?_)
      · skip
        have c_16N : (nC v0) < 6 := nI_lt1 (a := (nC v0)) (b := 6) (by omega) (by omega) c_16
        refine g_aget (D := G.1) (ci := 5) (v := .ref nw) (C := RX5) (T := TX5) (N := 8) hx hb dX5_taken_75 rfl (lv_at hl 0 rfl) hts hiX5 hown hK hP 0 rfl rfl 2 (by decide +kernel) kf28 (fun _ h9 => h9) rfl dX5_taken_76 ?_
        refine lv_iload_n hx hb dX5_taken_79 rfl (lv_at hl 1 rfl) ?_
        refine g_topi (y := nI (nC v0)) hv_13 ?_
        refine z_calli [1] (v := bz (mHas pb (nI (nC v0)))) (fun _ _ h => h) (va_runV (As := [.int (nI (nC v0))]) (rest := []) ⟨hx, hb, hml, hown, hts⟩ (c_X0_hasPebble_g l G nw tt n1 n2 n3 n4 n5 n6 n7 n8 jg pb lw (nI (nC v0)) H.size (by first | exact hjg | assumption | omega) (by first | exact hpb | assumption | omega)) (cwV 1 hts gX5_taken_X0_hasPebble rfl rfl rfl (by decide +kernel) ⟨Nat.le_of_ble_eq_true rfl, Nat.le_of_ble_eq_true rfl⟩) ⟨gPre_blind, va_recv (q := (RX0, TX0, 12)) hK hP (ci := 0) (q0 := 1) rfl rfl, fun U hU hW => gPre_ofF [1] hU hW hK hP hD (by decide +kernel) rfl⟩ rfl rfl hl.1 rfl (lv_room (Nat.le_of_ble_eq_true rfl)) dX5_taken_80 ⟨Nat.le_of_ble_eq_true rfl, Nat.le_of_ble_eq_true rfl⟩) hS hD hA rfl (fun u t H locs ht hvm hB hz1 hk1 hFq hAq hS => ?_)
        obtain ⟨hP1, hK1, hD1⟩ := hB
        have hP := zKeep hP hD [1] hAq hk1 ht hP1 rfl
        refine lv_if_ne (tgt := 90) hx hb dX5_taken_83 (by decide +kernel) (fun c_20 => ?_) (fun c_20 => ?_)
        · skip
          have p_21 : (mHas pb (nI (nC v0))) = true := bz_ne rfl c_20
          have hk_23 : nC v0 < pb := mHas_lt9 (by omega) (by omega) p_21
          refine g_aget (D := G.1) (ci := 5) (v := .ref nw) (C := RX5) (T := TX5) (N := 8) hx hb dX5_taken_90 rfl (lv_at hl 0 rfl) hts hiX5 hown hK hP 0 rfl rfl 2 (by decide +kernel) kf28 (fun _ h9 => h9) rfl dX5_taken_91 ?_
          refine va_get (D := G.1) (ci := 0) (v := .ref n5) (C := RX0) (T := TX0) (N := 12) hx hb hts hiX0 hown hK hP 1 rfl rfl 5 (by decide +kernel) kf128 (fun _ h9 => h9) rfl dX5_taken_94 ?_
          refine lv_iload_n hx hb dX5_taken_97 rfl (lv_at hl 1 rfl) ?_
          refine g_topi (y := nI (nC v0)) hv_13 ?_
          refine g_iald (D := G.1) hx hb hK hP 3 0 rfl rfl (k := nC v0) (y := fki (nC v0)) (by omega) rfl rfl dX5_taken_98 ?_
          refine lv_iload_n hx hb dX5_taken_99 rfl (lv_at hl 2 rfl) ?_
          refine g_topi (y := nI (nC v1)) hv_6 ?_
          refine z_calli [] (v := m_X5_isOfKind (fki (nC v0)) (nI (nC v1))) (fun _ _ h => h) (va_runS (As := [.int (fki (nC v0)), .int (nI (nC v1))]) (rest := []) ⟨hx, hb, hml, hown, hts⟩ (c_X5_isOfKind l G (fki (nC v0)) (nI (nC v1)) H.size) (va_cwS 2 hts gX5_taken_X5_isOfKind rfl rfl rfl (by decide +kernel) ⟨Nat.le_of_ble_eq_true rfl, Nat.le_of_ble_eq_true rfl⟩) ⟨gPre_blind, fun U hU hW => gPre_ofF [] hU hW hK hP hD (by decide +kernel) rfl⟩ rfl rfl hl.1 rfl (lv_room (Nat.le_of_ble_eq_true rfl)) dX5_taken_100 ⟨Nat.le_of_ble_eq_true rfl, Nat.le_of_ble_eq_true rfl⟩) hS hD hA rfl (fun u t H locs ht hvm hB hz1 hk1 hFq hAq hS => ?_)
          obtain ⟨hP1, hK1, hD1⟩ := hB
          have hP := zKeep hP hD [] hAq hk1 ht hP1 rfl
          refine lv_if_eq (tgt := 111) hx hb dX5_taken_103 (by decide +kernel) (fun c_29 => ?_) (fun c_29 => ?_)
          · skip
            refine lv_ldc2 hx hb hown (hts (.constantLong RX5 254 (-13)) (by decide +kernel)) dX5_taken_111 ?_
            have hpost : (fun (r : Int64) (u : Unit) => match u with | _ => r = m_X5_taken jg pb fpa fki v0 v1) (-13) () := (show m_X5_taken jg pb fpa fki v0 v1 = (-13) from by unfold m_X5_taken; rw [if_pos p_4, if_pos p_11, if_pos c_16, if_pos p_21, if_pos c_29]).symm
            exact W.lret (v := (-13)) hx hb hr (fun t ht hW => ⟨⟨(-13), (), rfl, hpost, by rw [ht]; exact hP, va_K.moved hW.alike hK, hD⟩, hS.F ht⟩) hS.2.2 dX5_taken_114
          · skip
            refine lv_iload_n hx hb dX5_taken_106 rfl (lv_at hl 1 rfl) ?_
            refine g_topi (y := nI (nC v0)) hv_13 ?_
            refine lv_i2l (v := lN (nC v0)) hx hb dX5_taken_107 (nI_l (by omega)) ?_
            refine lv_goto (tgt := 114) hx hb dX5_taken_108 (by decide +kernel) ?_
            have hpost : (fun (r : Int64) (u : Unit) => match u with | _ => r = m_X5_taken jg pb fpa fki v0 v1) (lN (nC v0)) () := (show m_X5_taken jg pb fpa fki v0 v1 = (lN (nC v0)) from by unfold m_X5_taken; rw [if_pos p_4, if_pos p_11, if_pos c_16, if_pos p_21, if_neg c_29]).symm
            exact W.lret (v := (lN (nC v0))) hx hb hr (fun t ht hW => ⟨⟨(lN (nC v0)), (), rfl, hpost, by rw [ht]; exact hP, va_K.moved hW.alike hK, hD⟩, hS.F ht⟩) hS.2.2 dX5_taken_114
        · skip
          have n_22 : (mHas pb (nI (nC v0))) = false := bz_eq rfl c_20
          have n_22N : ¬ ((mHas pb (nI (nC v0))) = true) := by rw [n_22]; decide
          refine lv_ldc2 hx hb hown (hts (.constantLong RX5 252 (-11)) (by decide +kernel)) dX5_taken_86 ?_
          have hpost : (fun (r : Int64) (u : Unit) => match u with | _ => r = m_X5_taken jg pb fpa fki v0 v1) (-11) () := (show m_X5_taken jg pb fpa fki v0 v1 = (-11) from by unfold m_X5_taken; rw [if_pos p_4, if_pos p_11, if_pos c_16, if_neg n_22N]).symm
          exact W.lret (v := (-11)) hx hb hr (fun t ht hW => ⟨⟨(-11), (), rfl, hpost, by rw [ht]; exact hP, va_K.moved hW.alike hK, hD⟩, hS.F ht⟩) hS.2.2 dX5_taken_89
      · skip
        have c_16N : 6 ≤ (nC v0) := nI_lt0 (a := (nC v0)) (b := 6) (by omega) (by omega) c_16
        refine lv_iload_n hx hb dX5_taken_32 rfl (lv_at hl 1 rfl) ?_
        refine g_topi (y := nI (nC v0)) hv_13 ?_
        refine lv_bipush (v := 6) hx hb dX5_taken_33 (by decide +kernel) ?_
        refine lv_isub hx hb dX5_taken_35 ?_
        refine g_topi (y := nI ((nC v0) - 6)) (pk_sub (a := (nC v0)) (b := 6) (by omega)) ?_
        refine lv_istore_n (lv' := [zI 3 (nI ((nC v0) - 6)), zR 0 h0, zI 1 v0, zI 2 v1]) hx hb dX5_taken_36 rfl hl (by decide +kernel) rfl (fun ls hl => ?_)
        refine g_aget (D := G.1) (ci := 5) (v := .ref nw) (C := RX5) (T := TX5) (N := 8) hx hb dX5_taken_37 rfl (lv_at hl 1 rfl) hts hiX5 hown hK hP 0 rfl rfl 2 (by decide +kernel) kf28 (fun _ h9 => h9) rfl dX5_taken_38 ?_
        refine lv_iload_n hx hb dX5_taken_41 rfl (lv_at hl 0 rfl) ?_
        refine z_calli [1] (v := bz (mHas jg (nI ((nC v0) - 6)))) (fun _ _ h => h) (va_runV (As := [.int (nI ((nC v0) - 6))]) (rest := []) ⟨hx, hb, hml, hown, hts⟩ (c_X0_hasJudge_g l G nw tt n1 n2 n3 n4 n5 n6 n7 n8 jg pb lw (nI ((nC v0) - 6)) H.size (by first | exact hjg | assumption | omega) (by first | exact hpb | assumption | omega)) (cwV 1 hts gX5_taken_X0_hasJudge rfl rfl rfl (by decide +kernel) ⟨Nat.le_of_ble_eq_true rfl, Nat.le_of_ble_eq_true rfl⟩) ⟨gPre_blind, va_recv (q := (RX0, TX0, 12)) hK hP (ci := 0) (q0 := 1) rfl rfl, fun U hU hW => gPre_ofF [1] hU hW hK hP hD (by decide +kernel) rfl⟩ rfl rfl hl.1 rfl (lv_room (Nat.le_of_ble_eq_true rfl)) dX5_taken_42 ⟨Nat.le_of_ble_eq_true rfl, Nat.le_of_ble_eq_true rfl⟩) hS hD hA rfl (fun u t H locs ht hvm hB hz1 hk1 hFq hAq hS => ?_)
        obtain ⟨hP1, hK1, hD1⟩ := hB
        have hP := zKeep hP hD [1] hAq hk1 ht hP1 rfl
        refine lv_if_ne (tgt := 52) hx hb dX5_taken_45 (by decide +kernel) (fun c_35 => ?_) (fun c_35 => ?_)
        · skip
          have p_36 : (mHas jg (nI ((nC v0) - 6))) = true := bz_ne rfl c_35
          have hk_38 : (nC v0) - 6 < jg := mHas_lt9 (by omega) (by omega) p_36
          refine lv_iload_n hx hb dX5_taken_52 rfl (lv_at hl 3 rfl) ?_
          refine g_topi (y := nI (nC v1)) hv_6 ?_
          refine lv_bipush (v := 6) hx hb dX5_taken_53 (by decide +kernel) ?_
          refine lv_icmp_ne (tgt := 71) hx hb dX5_taken_55 (by decide +kernel) (fun c_40 => ?_) (fun c_40 => ?_)
          · skip
            have c_40N : ¬ (nC v1) = 6 := nI_eq0 (a := (nC v1)) (b := 6) (by omega) (by omega) c_40
            refine lv_ldc2 hx hb hown (hts (.constantLong RX5 254 (-13)) (by decide +kernel)) dX5_taken_71 ?_
            have hpost : (fun (r : Int64) (u : Unit) => match u with | _ => r = m_X5_taken jg pb fpa fki v0 v1) (-13) () := (show m_X5_taken jg pb fpa fki v0 v1 = (-13) from by unfold m_X5_taken; rw [if_pos p_4, if_pos p_11, if_neg c_16, if_pos p_36, if_neg c_40]).symm
            exact W.lret (v := (-13)) hx hb hr (fun t ht hW => ⟨⟨(-13), (), rfl, hpost, by rw [ht]; exact hP, va_K.moved hW.alike hK, hD⟩, hS.F ht⟩) hS.2.2 dX5_taken_74
          · skip
            have c_40N : (nC v1) = 6 := nI_eq1 (a := (nC v1)) (b := 6) (by omega) (by omega) c_40
            refine g_aget (D := G.1) (ci := 5) (v := .ref nw) (C := RX5) (T := TX5) (N := 8) hx hb dX5_taken_58 rfl (lv_at hl 1 rfl) hts hiX5 hown hK hP 0 rfl rfl 2 (by decide +kernel) kf28 (fun _ h9 => h9) rfl dX5_taken_59 ?_
            refine va_get (D := G.1) (ci := 0) (v := .ref n4) (C := RX0) (T := TX0) (N := 12) hx hb hts hiX0 hown hK hP 1 rfl rfl 4 (by decide +kernel) kf105 (fun _ h9 => h9) rfl dX5_taken_62 ?_
            refine lv_iload_n hx hb dX5_taken_65 rfl (lv_at hl 0 rfl) ?_
            refine g_iald (D := G.1) hx hb hK hP 2 0 rfl rfl (k := (nC v0) - 6) (y := fpa ((nC v0) - 6)) (by omega) rfl rfl dX5_taken_66 ?_
            refine lv_i2l (v := (fpa ((nC v0) - 6)).toInt64) hx hb dX5_taken_67 rfl ?_
            refine lv_goto (tgt := 74) hx hb dX5_taken_68 (by decide +kernel) ?_
            have hpost : (fun (r : Int64) (u : Unit) => match u with | _ => r = m_X5_taken jg pb fpa fki v0 v1) ((fpa ((nC v0) - 6)).toInt64) () := (show m_X5_taken jg pb fpa fki v0 v1 = ((fpa ((nC v0) - 6)).toInt64) from by unfold m_X5_taken; rw [if_pos p_4, if_pos p_11, if_neg c_16, if_pos p_36, if_pos c_40]).symm
            exact W.lret (v := ((fpa ((nC v0) - 6)).toInt64)) hx hb hr (fun t ht hW => ⟨⟨((fpa ((nC v0) - 6)).toInt64), (), rfl, hpost, by rw [ht]; exact hP, va_K.moved hW.alike hK, hD⟩, hS.F ht⟩) hS.2.2 dX5_taken_74
        · skip
          have n_37 : (mHas jg (nI ((nC v0) - 6))) = false := bz_eq rfl c_35
          have n_37N : ¬ ((mHas jg (nI ((nC v0) - 6))) = true) := by rw [n_37]; decide
          refine lv_ldc2 hx hb hown (hts (.constantLong RX5 252 (-11)) (by decide +kernel)) dX5_taken_48 ?_
          have hpost : (fun (r : Int64) (u : Unit) => match u with | _ => r = m_X5_taken jg pb fpa fki v0 v1) (-11) () := (show m_X5_taken jg pb fpa fki v0 v1 = (-11) from by unfold m_X5_taken; rw [if_pos p_4, if_pos p_11, if_neg c_16, if_neg n_37N]).symm
          exact W.lret (v := (-11)) hx hb hr (fun t ht hW => ⟨⟨(-11), (), rfl, hpost, by rw [ht]; exact hP, va_K.moved hW.alike hK, hD⟩, hS.F ht⟩) hS.2.2 dX5_taken_51
    · skip
      have n_12 : ¬ (0 ≤ v0 ∧ v0 ≤ 9) := of_decide_eq_false (bz_eq rfl c_10)
      refine lv_ldc2 hx hb hown (hts (.constantLong RX5 250 (-12)) (by decide +kernel)) dX5_taken_22 ?_
      have hpost : (fun (r : Int64) (u : Unit) => match u with | _ => r = m_X5_taken jg pb fpa fki v0 v1) (-12) () := (show m_X5_taken jg pb fpa fki v0 v1 = (-12) from by unfold m_X5_taken; rw [if_pos p_4, if_neg n_12]).symm
      exact W.lret (v := (-12)) hx hb hr (fun t ht hW => ⟨⟨(-12), (), rfl, hpost, by rw [ht]; exact hP, va_K.moved hW.alike hK, hD⟩, hS.F ht⟩) hS.2.2 dX5_taken_25
  · skip
    have n_5 : ¬ (0 ≤ v1 ∧ v1 ≤ 6) := of_decide_eq_false (bz_eq rfl c_3)
    refine lv_ldc2 hx hb hown (hts (.constantLong RX5 248 (-2)) (by decide +kernel)) dX5_taken_9 ?_
    have hpost : (fun (r : Int64) (u : Unit) => match u with | _ => r = m_X5_taken jg pb fpa fki v0 v1) (-2) () := (show m_X5_taken jg pb fpa fki v0 v1 = (-2) from by unfold m_X5_taken; rw [if_neg n_5]).symm
    exact W.lret (v := (-2)) hx hb hr (fun t ht hW => ⟨⟨(-2), (), rfl, hpost, by rw [ht]; exact hP, va_K.moved hW.alike hK, hD⟩, hS.F ht⟩) hS.2.2 dX5_taken_12
noncomputable def m_X5_copy_A (fql : Nat → Nat) (fqo : Nat → Int32) (sn : Nat) (on9 : Nat) (v1 : Int32) (v3 : Int32) (v4 : Int32) : Int32 := if (fqo sn) = (-1) then -11 else (if (fqo on9) = (-1) then -11 else (if (fqo sn) = (fqo on9) then (if (mHolds (fql sn) v1 v4) = true then (if (mHolds (fql on9) v3 (nI (nC v4))) = true then nI (nC v4) else -12) else -12) else -13))
noncomputable def m_X5_copy_A_r2 (fql : Nat → Nat) (fqo : Nat → Int32) (frr : Nat → Int32) (fr2 : Nat → Int32) (sn : Nat) (on9 : Nat) (v1 : Int32) (v3 : Int32) (v4 : Int32) : Nat → Int32 := if (fqo sn) = (-1) then fr2 else (if (fqo on9) = (-1) then fr2 else (if (fqo sn) = (fqo on9) then (if (mHolds (fql sn) v1 v4) = true then (if (mHolds (fql on9) v3 (nI (nC v4))) = true then va_cpy frr fr2 (nC v1) (nC v3) (nC v4) else fr2) else fr2) else fr2))
abbrev q_X5_copy_A (G : gG) (E : gS) (h0 tt rd nw th kp sh tu qn qo ql rr r2 : Nat) (him : Int32) (fn : Nat → Option Nat) (fql : Nat → Nat) (fqo : Nat → Int32) (frr : Nat → Int32) (fr2 : Nat → Int32) (sn : Nat) (on9 : Nat) (v1 : Int32) (v3 : Int32) (v4 : Int32) (A : Nat → Prop) : Array Value → State → Outcome → State → Prop := va_Qi (fun (r : Int32) (u : Unit) => match u with | _ => r = m_X5_copy_A fql fqo sn on9 v1 v3 v4) (fun (u : Unit) t => match u with | _ => va_P G.1 vwCl [zo5 h0 tt rd nw th kp sh tu him, zo2 sh qn qo ql, zr G qn 4 fn, zi G qo 4 fqo, zi G ql 4 (nF fql), zi G rr 40 frr, zi G r2 40 (m_X5_copy_A_r2 fql fqo frr fr2 sn on9 v1 v3 v4)] t.heap ∧ gK G t ∧ va_D A [zo5 h0 tt rd nw th kp sh tu him, zo2 sh qn qo ql, zr G qn 4 fn, zi G qo 4 fqo, zi G ql 4 (nF fql), zi G rr 40 frr, zi G r2 40 (m_X5_copy_A_r2 fql fqo frr fr2 sn on9 v1 v3 v4)]) A
set_option maxHeartbeats 4000000 in
set_option maxRecDepth 100000 in
theorem c_X5_copy_A (l : Launch) (G : gG) (E : gS) (h0 tt rd nw th kp sh tu qn qo ql rr r2 : Nat) (him : Int32) (fn : Nat → Option Nat) (fql : Nat → Nat) (fqo : Nat → Int32) (frr : Nat → Int32) (fr2 : Nat → Int32) (sn : Nat) (on9 : Nat) (v1 : Int32) (v3 : Int32) (v4 : Int32) (sz : Nat) (hsn : sn < 4) (hrw : fn sn = some rr) (hql : ∀ q9, q9 < 4 → fql q9 ≤ 40) (hon : on9 < 4) (hr2 : fn on9 = some r2) : Met l yX5_copy wsX5_copy ({ frames := 2, cells := 0, slots := 0, locals := 400 }) (gPreE G E [.ref h0, .int (nI sn), .int v1, .int (nI on9), .int v3, .int v4] [zo5 h0 tt rd nw th kp sh tu him, zo2 sh qn qo ql, zr G qn 4 fn, zi G qo 4 fqo, zi G ql 4 (nF fql), zi G rr 40 frr, zi G r2 40 fr2] sz) (q_X5_copy_A G E h0 tt rd nw th kp sh tu qn qo ql rr r2 him fn fql fqo frr fr2 sn on9 v1 v3 v4 (va_A [zo5 h0 tt rd nw th kp sh tu him, zo2 sh qn qo ql, zr G qn 4 fn, zi G qo 4 fqo, zi G ql 4 (nF fql), zi G rr 40 frr, zi G r2 40 fr2] sz)) 0 0 (va_A [zo5 h0 tt rd nw th kp sh tu him, zo2 sh qn qo ql, zr G qn 4 fn, zi G qo 4 fqo, zi G ql 4 (nF fql), zi G rr 40 frr, zi G r2 40 fr2] sz) := by
  refine Met.ofW (cc := cX5_copy) (maxL := 6) (ret := (some .int)) (by decide +kernel) rfl ?_
  intro p e s m args below meth c s₁ B hml hv
  obtain ⟨rfl, hsz, hP, hK, hD0, hE⟩ := hv
  have hx := B.exec
  have hb := B.bytes
  have hr := B.returns
  have hts := atoms_spec (ws := wsX5_copy) B.pre
  have hown : s.vm.findClass RX5 = some m.cls := findClass_of_methodNamed B.named
  have hlocks := B.notSynchronized
  subst hsz
  have hD := hD0.self (sz := s.heap.size)
  generalize hAe : va_A [zo5 h0 tt rd nw th kp sh tu him, zo2 sh qn qo ql, zr G qn 4 fn, zi G qo 4 fqo, zi G ql 4 (nF fql), zi G rr 40 frr, zi G r2 40 fr2] s.heap.size = A at hD hE ⊢
  have hA : ∀ q : Nat, s.heap.size ≤ q → A q := fun q h => by rw [← hAe]; exact Or.inr h
  have hS : va_S A s.heap s.heap [] := va_S.rf
  have hz9 : gPD G A [zo5 h0 tt rd nw th kp sh tu him, zo2 sh qn qo ql, zr G qn 4 fn, zi G qo 4 fqo, zi G ql 4 (nF fql), zi G rr 40 frr, zi G r2 40 fr2] s.heap := ⟨hP, hD⟩
  have hP := hz9.1
  have hD := hz9.2
  have hl := lv_entry ([.ref h0, .int (nI sn), .int v1, .int (nI on9), .int v3, .int v4]) (n := 6) (Nat.le_of_ble_eq_true rfl)
  rw [lg_entry_eq]
  generalize (lg_sl ([.ref h0, .int (nI sn), .int v1, .int (nI on9), .int v3, .int v4]) ++ List.replicate (6 - (lg_sl ([.ref h0, .int (nI sn), .int v1, .int (nI on9), .int v3, .int v4])).length) Slot.unset).toArray = ls at hl ⊢
  have hl : lv_has ls 6 [zR 0 h0, zI 1 (nI sn), zI 2 v1, zI 3 (nI on9), zI 4 v3, zI 5 v4] := hl
  have kf41 := hts (.fieldLink RX5 41 "PebbleInShoe" "rows" "LPebbleInShoe$Sheets;") (by decide +kernel)
  have hiX5 := (by decide +kernel : ∀ w ∈ wsX50, w ∈ wsX5_copy)
  have kf225 := hts (.fieldLink RX5 225 "PebbleInShoe$Sheets" "sorts" "[I") (by decide +kernel)
  have hiX2 := (by decide +kernel : ∀ w ∈ wsX20, w ∈ wsX5_copy)
  have kf235 := hts (.fieldLink RX5 235 "PebbleInShoe$Sheets" "numbers" "[[I") (by decide +kernel)
  refine g_aget (D := G.1) (ci := 5) (v := .ref sh) (C := RX5) (T := TX5) (N := 8) hx hb dX5_copy_0 rfl (lv_at hl 0 rfl) hts hiX5 hown hK hP 0 rfl rfl 5 (by decide +kernel) kf41 (fun _ h9 => h9) rfl dX5_copy_1 ?_
  refine lv_iload_n hx hb dX5_copy_4 rfl (lv_at hl 1 rfl) ?_
  refine z_callp [1] (va_runV (As := [.int (nI sn)]) (rest := []) ⟨hx, hb, hml, hown, hts⟩ (c_X2_isSheet_g l G E sh qn qo ql (nI sn) s.heap.size) (cwV 1 hts gX5_copy_X2_isSheet rfl rfl rfl (by decide +kernel) ⟨Nat.le_of_ble_eq_true rfl, Nat.le_of_ble_eq_true rfl⟩) ⟨gPreE_blind, va_recv (q := (RX2, TX2, 3)) hK hP (ci := 2) (q0 := 1) rfl rfl, fun U hU hW => gPreE_ofF [1] hU hW hK hP hD (by decide +kernel) rfl hE hS hA⟩ rfl rfl hl.1 rfl (lv_room (Nat.le_of_ble_eq_true rfl)) dX5_copy_5 ⟨Nat.le_of_ble_eq_true rfl, Nat.le_of_ble_eq_true rfl⟩) hS hD hA rfl (fun r_1 u t H locs ht hvm w_2 hB hz1 hk1 hFq hAq hS => ?_)
  obtain ⟨hP1, hK1, hD1⟩ := hB
  have w_2 : r_1 = bz (decide (0 ≤ (nI sn) ∧ (nI sn) ≤ 3)) := w_2
  have hP := zKeep hP hD [1] hAq hk1 ht hP1 rfl
  have w_2 : r_1 = 1 := w_2.trans (bz3_t (by assumption))
  subst w_2
  refine lv_if_eq (tgt := 22) hx hb dX5_copy_8 (by decide +kernel) (fun c_3 => ?_) (fun c_3 => ?_)
  · exact absurd c_3 (by decide +kernel)
  refine g_aget (D := G.1) (ci := 5) (v := .ref sh) (C := RX5) (T := TX5) (N := 8) hx hb dX5_copy_11 rfl (lv_at hl 0 rfl) hts hiX5 hown hK hP 0 rfl rfl 5 (by decide +kernel) kf41 (fun _ h9 => h9) rfl dX5_copy_12 ?_
  refine lv_iload_n hx hb dX5_copy_15 rfl (lv_at hl 3 rfl) ?_
  refine z_callp [1] (va_runV (As := [.int (nI on9)]) (rest := []) ⟨hx, hb, hml, hown, hts⟩ (c_X2_isSheet_g l G E sh qn qo ql (nI on9) H.size) (cwV 1 hts gX5_copy_X2_isSheet rfl rfl rfl (by decide +kernel) ⟨Nat.le_of_ble_eq_true rfl, Nat.le_of_ble_eq_true rfl⟩) ⟨gPreE_blind, va_recv (q := (RX2, TX2, 3)) hK hP (ci := 2) (q0 := 1) rfl rfl, fun U hU hW => gPreE_ofF [1] hU hW hK hP hD (by decide +kernel) rfl hE hS hA⟩ rfl rfl hl.1 rfl (lv_room (Nat.le_of_ble_eq_true rfl)) dX5_copy_16 ⟨Nat.le_of_ble_eq_true rfl, Nat.le_of_ble_eq_true rfl⟩) hS hD hA rfl (fun r_4 u t H locs ht hvm w_5 hB hz1 hk1 hFq hAq hS => ?_)
  obtain ⟨hP1, hK1, hD1⟩ := hB
  have w_5 : r_4 = bz (decide (0 ≤ (nI on9) ∧ (nI on9) ≤ 3)) := w_5
  have hP := zKeep hP hD [1] hAq hk1 ht hP1 rfl
  have w_5 : r_4 = 1 := w_5.trans (bz3_t (by assumption))
  subst w_5
  refine lv_if_ne (tgt := 25) hx hb dX5_copy_19 (by decide +kernel) (fun c_6 => ?_) (fun c_6 => ?_)
  rotate_left
  · exact absurd c_6 (by decide +kernel)
  refine g_aget (D := G.1) (ci := 5) (v := .ref sh) (C := RX5) (T := TX5) (N := 8) hx hb dX5_copy_25 rfl (lv_at hl 0 rfl) hts hiX5 hown hK hP 0 rfl rfl 5 (by decide +kernel) kf41 (fun _ h9 => h9) rfl dX5_copy_26 ?_
  refine va_get (D := G.1) (ci := 2) (v := .ref qo) (C := RX2) (T := TX2) (N := 3) hx hb hts hiX2 hown hK hP 1 rfl rfl 1 (by decide +kernel) kf225 (fun _ h9 => h9) rfl dX5_copy_29 ?_
  refine lv_iload_n hx hb dX5_copy_32 rfl (lv_at hl 1 rfl) ?_
  refine g_iald (D := G.1) hx hb hK hP 3 0 rfl rfl (k := sn) (y := fqo sn) (by omega) rfl rfl dX5_copy_33 ?_
  refine lv_iconst (v := -1) hx hb dX5_copy_34 (by decide +kernel) ?_
  refine lv_icmp_eq (tgt := 51) hx hb dX5_copy_35 (by decide +kernel) (fun c_8 => ?_) (fun c_8 => ?_)
  · skip
    refine lv_bipush (v := -11) hx hb dX5_copy_51 (by decide +kernel) ?_
    have q_9 : m_X5_copy_A_r2 fql fqo frr fr2 sn on9 v1 v3 v4 = fr2 := by unfold m_X5_copy_A_r2; rw [if_pos c_8]
    have hz9 : gPD G A [zo5 h0 tt rd nw th kp sh tu him, zo2 sh qn qo ql, zr G qn 4 fn, zi G qo 4 fqo, zi G ql 4 (nF fql), zi G rr 40 frr, zi G r2 40 (m_X5_copy_A_r2 fql fqo frr fr2 sn on9 v1 v3 v4)] H := ⟨by rw [q_9]; exact hP, by rw [q_9]; exact hD⟩
    have hP9 := hz9.1
    have hD9 := hz9.2
    have hpost : (fun (r : Int32) (u : Unit) => match u with | _ => r = m_X5_copy_A fql fqo sn on9 v1 v3 v4) (-11) () := (show m_X5_copy_A fql fqo sn on9 v1 v3 v4 = (-11) from by unfold m_X5_copy_A; rw [if_pos c_8]).symm
    exact W.iret (v := (-11)) hx hb hr (fun t ht hW => ⟨⟨(-11), (), rfl, hpost, by rw [ht]; exact hP9, va_K.moved hW.alike hK, hD9⟩, hS.F ht⟩) hS.2.2 dX5_copy_53
  · skip
    refine g_aget (D := G.1) (ci := 5) (v := .ref sh) (C := RX5) (T := TX5) (N := 8) hx hb dX5_copy_38 rfl (lv_at hl 0 rfl) hts hiX5 hown hK hP 0 rfl rfl 5 (by decide +kernel) kf41 (fun _ h9 => h9) rfl dX5_copy_39 ?_
    refine va_get (D := G.1) (ci := 2) (v := .ref qo) (C := RX2) (T := TX2) (N := 3) hx hb hts hiX2 hown hK hP 1 rfl rfl 1 (by decide +kernel) kf225 (fun _ h9 => h9) rfl dX5_copy_42 ?_
    refine lv_iload_n hx hb dX5_copy_45 rfl (lv_at hl 3 rfl) ?_
    refine g_iald (D := G.1) hx hb hK hP 3 0 rfl rfl (k := on9) (y := fqo on9) (by omega) rfl rfl dX5_copy_46 ?_
    refine lv_iconst (v := -1) hx hb dX5_copy_47 (by decide +kernel) ?_
    refine lv_icmp_ne (tgt := 54) hx hb dX5_copy_48 (by decide +kernel) (fun c_11 => ?_) (fun c_11 => ?_)
    · skip
      refine g_aget (D := G.1) (ci := 5) (v := .ref sh) (C := RX5) (T := TX5) (N := 8) hx hb dX5_copy_54 rfl (lv_at hl 0 rfl) hts hiX5 hown hK hP 0 rfl rfl 5 (by decide +kernel) kf41 (fun _ h9 => h9) rfl dX5_copy_55 ?_
      refine va_get (D := G.1) (ci := 2) (v := .ref qo) (C := RX2) (T := TX2) (N := 3) hx hb hts hiX2 hown hK hP 1 rfl rfl 1 (by decide +kernel) kf225 (fun _ h9 => h9) rfl dX5_copy_58 ?_
      refine lv_iload_n hx hb dX5_copy_61 rfl (lv_at hl 1 rfl) ?_
      refine g_iald (D := G.1) hx hb hK hP 3 0 rfl rfl (k := sn) (y := fqo sn) (by omega) rfl rfl dX5_copy_62 ?_
      refine g_aget (D := G.1) (ci := 5) (v := .ref sh) (C := RX5) (T := TX5) (N := 8) hx hb dX5_copy_63 rfl (lv_at hl 0 rfl) hts hiX5 hown hK hP 0 rfl rfl 5 (by decide +kernel) kf41 (fun _ h9 => h9) rfl dX5_copy_64 ?_
      refine va_get (D := G.1) (ci := 2) (v := .ref qo) (C := RX2) (T := TX2) (N := 3) hx hb hts hiX2 hown hK hP 1 rfl rfl 1 (by decide +kernel) kf225 (fun _ h9 => h9) rfl dX5_copy_67 ?_
      refine lv_iload_n hx hb dX5_copy_70 rfl (lv_at hl 3 rfl) ?_
      refine g_iald (D := G.1) hx hb hK hP 3 0 rfl rfl (k := on9) (y := fqo on9) (by omega) rfl rfl dX5_copy_71 ?_
      refine lv_icmp_eq (tgt := 78) hx hb dX5_copy_72 (by decide +kernel) (fun c_14 => ?_) (fun c_14 => ?_)
      · skip
        have hs4 := hql sn hsn
        have hs5 := hql on9 hon
        refine g_aget (D := G.1) (ci := 5) (v := .ref sh) (C := RX5) (T := TX5) (N := 8) hx hb dX5_copy_78 rfl (lv_at hl 0 rfl) hts hiX5 hown hK hP 0 rfl rfl 5 (by decide +kernel) kf41 (fun _ h9 => h9) rfl dX5_copy_79 ?_
        refine lv_iload_n hx hb dX5_copy_82 rfl (lv_at hl 1 rfl) ?_
        refine lv_iload_n hx hb dX5_copy_83 rfl (lv_at hl 2 rfl) ?_
        refine lv_iload hx hb dX5_copy_84 (lv_at hl 5 rfl) ?_
        refine z_calli [1, 4] (v := bz (mHolds (fql sn) v1 v4)) (fun _ _ h => h) (va_runV (As := [.int (nI sn), .int v1, .int v4]) (rest := []) ⟨hx, hb, hml, hown, hts⟩ (c_X2_holds l G sh qn qo ql fql sn v1 v4 H.size (by first | exact hsn | assumption | omega)) (cwV 3 hts gX5_copy_X2_holds rfl rfl rfl (by decide +kernel) ⟨Nat.le_of_ble_eq_true rfl, Nat.le_of_ble_eq_true rfl⟩) ⟨gPre_blind, va_recv (q := (RX2, TX2, 3)) hK hP (ci := 2) (q0 := 1) rfl rfl, fun U hU hW => gPre_ofF [1, 4] hU hW hK hP hD (by decide +kernel) rfl⟩ rfl rfl hl.1 rfl (lv_room (Nat.le_of_ble_eq_true rfl)) dX5_copy_86 ⟨Nat.le_of_ble_eq_true rfl, Nat.le_of_ble_eq_true rfl⟩) hS hD hA rfl (fun u t H locs ht hvm hB hz1 hk1 hFq hAq hS => ?_)
        obtain ⟨hP1, hK1, hD1⟩ := hB
        have hP := zKeep hP hD [1, 4] hAq hk1 ht hP1 rfl
        refine lv_if_eq (tgt := 107) hx hb dX5_copy_89 (by decide +kernel) (fun c_17 => ?_) (fun c_17 => ?_)
        · skip
          have n_19 : (mHolds (fql sn) v1 v4) = false := bz_eq rfl c_17
          have n_19N : ¬ ((mHolds (fql sn) v1 v4) = true) := by rw [n_19]; decide
          refine lv_bipush (v := -12) hx hb dX5_copy_107 (by decide +kernel) ?_
          have q_25 : m_X5_copy_A_r2 fql fqo frr fr2 sn on9 v1 v3 v4 = fr2 := by unfold m_X5_copy_A_r2; rw [if_neg c_8, if_neg c_11, if_pos c_14, if_neg n_19N]
          have hz9 : gPD G A [zo5 h0 tt rd nw th kp sh tu him, zo2 sh qn qo ql, zr G qn 4 fn, zi G qo 4 fqo, zi G ql 4 (nF fql), zi G rr 40 frr, zi G r2 40 (m_X5_copy_A_r2 fql fqo frr fr2 sn on9 v1 v3 v4)] H := ⟨by rw [q_25]; exact hP, by rw [q_25]; exact hD⟩
          have hP9 := hz9.1
          have hD9 := hz9.2
          have hpost : (fun (r : Int32) (u : Unit) => match u with | _ => r = m_X5_copy_A fql fqo sn on9 v1 v3 v4) (-12) () := (show m_X5_copy_A fql fqo sn on9 v1 v3 v4 = (-12) from by unfold m_X5_copy_A; rw [if_neg c_8, if_neg c_11, if_pos c_14, if_neg n_19N]).symm
          exact W.iret (v := (-12)) hx hb hr (fun t ht hW => ⟨⟨(-12), (), rfl, hpost, by rw [ht]; exact hP9, va_K.moved hW.alike hK, hD9⟩, hS.F ht⟩) hS.2.2 dX5_copy_109
        · skip
          have p_18 : (mHolds (fql sn) v1 v4) = true := bz_ne rfl c_17
          have hv_20 : v1 = nI (nC v1) := mHolds_1 p_18
          have hk_21 : nC v1 < 2 ^ 31 := nC_31 _
          have hv_22 : v4 = nI (nC v4) := mHolds_2 p_18
          have hk_23 : nC v4 < 2 ^ 31 := nC_31 _
          have hk_24 : (nC v1) + (nC v4) ≤ fql sn := mHolds_3 (by omega) (by omega) (by omega) p_18 (by first | exact hv_20 | rfl) (by first | exact hv_22 | rfl)
          refine g_aget (D := G.1) (ci := 5) (v := .ref sh) (C := RX5) (T := TX5) (N := 8) hx hb dX5_copy_92 rfl (lv_at hl 0 rfl) hts hiX5 hown hK hP 0 rfl rfl 5 (by decide +kernel) kf41 (fun _ h9 => h9) rfl dX5_copy_93 ?_
          refine lv_iload_n hx hb dX5_copy_96 rfl (lv_at hl 3 rfl) ?_
          refine lv_iload hx hb dX5_copy_97 (lv_at hl 4 rfl) ?_
          refine lv_iload hx hb dX5_copy_99 (lv_at hl 5 rfl) ?_
          refine g_topi (y := nI (nC v4)) hv_22 ?_
          refine z_calli [1, 4] (v := bz (mHolds (fql on9) v3 (nI (nC v4)))) (fun _ _ h => h) (va_runV (As := [.int (nI on9), .int v3, .int (nI (nC v4))]) (rest := []) ⟨hx, hb, hml, hown, hts⟩ (c_X2_holds l G sh qn qo ql fql on9 v3 (nI (nC v4)) H.size (by first | exact hsn | assumption | omega)) (cwV 3 hts gX5_copy_X2_holds rfl rfl rfl (by decide +kernel) ⟨Nat.le_of_ble_eq_true rfl, Nat.le_of_ble_eq_true rfl⟩) ⟨gPre_blind, va_recv (q := (RX2, TX2, 3)) hK hP (ci := 2) (q0 := 1) rfl rfl, fun U hU hW => gPre_ofF [1, 4] hU hW hK hP hD (by decide +kernel) rfl⟩ rfl rfl hl.1 rfl (lv_room (Nat.le_of_ble_eq_true rfl)) dX5_copy_101 ⟨Nat.le_of_ble_eq_true rfl, Nat.le_of_ble_eq_true rfl⟩) hS hD hA rfl (fun u t H locs ht hvm hB hz1 hk1 hFq hAq hS => ?_)
          obtain ⟨hP1, hK1, hD1⟩ := hB
          have hP := zKeep hP hD [1, 4] hAq hk1 ht hP1 rfl
          refine lv_if_ne (tgt := 110) hx hb dX5_copy_104 (by decide +kernel) (fun c_29 => ?_) (fun c_29 => ?_)
          · skip
            have p_30 : (mHolds (fql on9) v3 (nI (nC v4))) = true := bz_ne rfl c_29
            have hv_32 : v3 = nI (nC v3) := mHolds_1 p_30
            have hk_33 : nC v3 < 2 ^ 31 := nC_31 _
            have hk_34 : (nC v3) + (nC v4) ≤ fql on9 := mHolds_3 (by omega) (by omega) (by omega) p_30 (by first | exact hv_32 | rfl) (by first | exact rfl | rfl)
            refine g_aget (D := G.1) (ci := 5) (v := .ref sh) (C := RX5) (T := TX5) (N := 8) hx hb dX5_copy_110 rfl (lv_at hl 0 rfl) hts hiX5 hown hK hP 0 rfl rfl 5 (by decide +kernel) kf41 (fun _ h9 => h9) rfl dX5_copy_111 ?_
            refine va_get (D := G.1) (ci := 2) (v := .ref qn) (C := RX2) (T := TX2) (N := 3) hx hb hts hiX2 hown hK hP 1 rfl rfl 0 (by decide +kernel) kf235 (fun _ h9 => h9) rfl dX5_copy_114 ?_
            refine lv_iload_n hx hb dX5_copy_117 rfl (lv_at hl 1 rfl) ?_
            refine g_aald (x := rr) hx hb hK hP 2 2 rfl rfl (i := (nI sn)) (vpn (by omega) rfl) (by rw [nI_clamp (by omega)]; exact hrw) dX5_copy_118 ?_
            refine lv_iload_n hx hb dX5_copy_119 rfl (lv_at hl 2 rfl) ?_
            refine g_topi (y := nI (nC v1)) hv_20 ?_
            refine g_aget (D := G.1) (ci := 5) (v := .ref sh) (C := RX5) (T := TX5) (N := 8) hx hb dX5_copy_120 rfl (lv_at hl 0 rfl) hts hiX5 hown hK hP 0 rfl rfl 5 (by decide +kernel) kf41 (fun _ h9 => h9) rfl dX5_copy_121 ?_
            refine va_get (D := G.1) (ci := 2) (v := .ref qn) (C := RX2) (T := TX2) (N := 3) hx hb hts hiX2 hown hK hP 1 rfl rfl 0 (by decide +kernel) kf235 (fun _ h9 => h9) rfl dX5_copy_124 ?_
            refine lv_iload_n hx hb dX5_copy_127 rfl (lv_at hl 3 rfl) ?_
            refine g_aald (x := r2) hx hb hK hP 2 2 rfl rfl (i := (nI on9)) (vpn (by omega) rfl) (by rw [nI_clamp (by omega)]; exact hr2) dX5_copy_128 ?_
            refine lv_iload hx hb dX5_copy_129 (lv_at hl 4 rfl) ?_
            refine g_topi (y := nI (nC v3)) hv_32 ?_
            refine lv_iload hx hb dX5_copy_131 (lv_at hl 5 rfl) ?_
            refine g_topi (y := nI (nC v4)) hv_22 ?_
            refine va_copyi (D := G.1) (ty := .int) hx hb (by rw [hml]; exact hl.1.symm) hown (hts (.methodLink RX5 239 arraycopyName) (by decide +kernel)) (hts (.native arraycopyName) (by decide +kernel)) (hts (.static arraycopyName) (by decide +kernel)) (hts (.initialized "java/lang/System") (by decide +kernel)) hK hP hD hS 5 6 0 0 rfl rfl rfl rfl rfl (nI_pos (by omega)) (nI_pos (by omega)) (nI_pos (by omega)) (cl_le (by omega) (by omega) (by omega)) (cl_le (by omega) (by omega) (by omega)) (fun _ _ => rfl) (Nat.le_of_ble_eq_true rfl) (Nat.le_of_ble_eq_true rfl) dX5_copy_133 (fun H locs hP hD hS => ?_)
            have hz9 : gPD G A [zo5 h0 tt rd nw th kp sh tu him, zo2 sh qn qo ql, zr G qn 4 fn, zi G qo 4 fqo, zi G ql 4 (nF fql), zi G rr 40 frr, zi G r2 40 (va_cpy frr fr2 (nC v1) (nC v3) (nC v4))] H := ⟨by rw [cpy_nI (a := (nC v1)) (b := (nC v3)) (c := (nC v4)) (by omega) (by omega) (by omega)] at hP; exact hP, by rw [cpy_nI (a := (nC v1)) (b := (nC v3)) (c := (nC v4)) (by omega) (by omega) (by omega)] at hD; exact hD⟩
            have hP := hz9.1
            have hD := hz9.2
            refine lv_iload hx hb dX5_copy_136 (lv_at hl 5 rfl) ?_
            refine g_topi (y := nI (nC v4)) hv_22 ?_
            have q_39 : m_X5_copy_A_r2 fql fqo frr fr2 sn on9 v1 v3 v4 = va_cpy frr fr2 (nC v1) (nC v3) (nC v4) := by unfold m_X5_copy_A_r2; rw [if_neg c_8, if_neg c_11, if_pos c_14, if_pos p_18, if_pos p_30]
            have hz9 : gPD G A [zo5 h0 tt rd nw th kp sh tu him, zo2 sh qn qo ql, zr G qn 4 fn, zi G qo 4 fqo, zi G ql 4 (nF fql), zi G rr 40 frr, zi G r2 40 (m_X5_copy_A_r2 fql fqo frr fr2 sn on9 v1 v3 v4)] H := ⟨by rw [q_39]; exact hP, by rw [q_39]; exact hD⟩
            have hP9 := hz9.1
            have hD9 := hz9.2
            have hpost : (fun (r : Int32) (u : Unit) => match u with | _ => r = m_X5_copy_A fql fqo sn on9 v1 v3 v4) (nI (nC v4)) () := (show m_X5_copy_A fql fqo sn on9 v1 v3 v4 = (nI (nC v4)) from by unfold m_X5_copy_A; rw [if_neg c_8, if_neg c_11, if_pos c_14, if_pos p_18, if_pos p_30]).symm
            exact W.iret (v := (nI (nC v4))) hx hb hr (fun t ht hW => ⟨⟨(nI (nC v4)), (), rfl, hpost, by rw [ht]; exact hP9, va_K.moved hW.alike hK, hD9⟩, hS.F ht⟩) hS.2.2 dX5_copy_138
          · skip
            have n_31 : (mHolds (fql on9) v3 (nI (nC v4))) = false := bz_eq rfl c_29
            have n_31N : ¬ ((mHolds (fql on9) v3 (nI (nC v4))) = true) := by rw [n_31]; decide
            refine lv_bipush (v := -12) hx hb dX5_copy_107 (by decide +kernel) ?_
            have q_40 : m_X5_copy_A_r2 fql fqo frr fr2 sn on9 v1 v3 v4 = fr2 := by unfold m_X5_copy_A_r2; rw [if_neg c_8, if_neg c_11, if_pos c_14, if_pos p_18, if_neg n_31N]
            have hz9 : gPD G A [zo5 h0 tt rd nw th kp sh tu him, zo2 sh qn qo ql, zr G qn 4 fn, zi G qo 4 fqo, zi G ql 4 (nF fql), zi G rr 40 frr, zi G r2 40 (m_X5_copy_A_r2 fql fqo frr fr2 sn on9 v1 v3 v4)] H := ⟨by rw [q_40]; exact hP, by rw [q_40]; exact hD⟩
            have hP9 := hz9.1
            have hD9 := hz9.2
            have hpost : (fun (r : Int32) (u : Unit) => match u with | _ => r = m_X5_copy_A fql fqo sn on9 v1 v3 v4) (-12) () := (show m_X5_copy_A fql fqo sn on9 v1 v3 v4 = (-12) from by unfold m_X5_copy_A; rw [if_neg c_8, if_neg c_11, if_pos c_14, if_pos p_18, if_neg n_31N]).symm
            exact W.iret (v := (-12)) hx hb hr (fun t ht hW => ⟨⟨(-12), (), rfl, hpost, by rw [ht]; exact hP9, va_K.moved hW.alike hK, hD9⟩, hS.F ht⟩) hS.2.2 dX5_copy_109
      · skip
        refine lv_bipush (v := -13) hx hb dX5_copy_75 (by decide +kernel) ?_
        have q_41 : m_X5_copy_A_r2 fql fqo frr fr2 sn on9 v1 v3 v4 = fr2 := by unfold m_X5_copy_A_r2; rw [if_neg c_8, if_neg c_11, if_neg c_14]
        have hz9 : gPD G A [zo5 h0 tt rd nw th kp sh tu him, zo2 sh qn qo ql, zr G qn 4 fn, zi G qo 4 fqo, zi G ql 4 (nF fql), zi G rr 40 frr, zi G r2 40 (m_X5_copy_A_r2 fql fqo frr fr2 sn on9 v1 v3 v4)] H := ⟨by rw [q_41]; exact hP, by rw [q_41]; exact hD⟩
        have hP9 := hz9.1
        have hD9 := hz9.2
        have hpost : (fun (r : Int32) (u : Unit) => match u with | _ => r = m_X5_copy_A fql fqo sn on9 v1 v3 v4) (-13) () := (show m_X5_copy_A fql fqo sn on9 v1 v3 v4 = (-13) from by unfold m_X5_copy_A; rw [if_neg c_8, if_neg c_11, if_neg c_14]).symm
        exact W.iret (v := (-13)) hx hb hr (fun t ht hW => ⟨⟨(-13), (), rfl, hpost, by rw [ht]; exact hP9, va_K.moved hW.alike hK, hD9⟩, hS.F ht⟩) hS.2.2 dX5_copy_77
    · skip
      refine lv_bipush (v := -11) hx hb dX5_copy_51 (by decide +kernel) ?_
      have q_42 : m_X5_copy_A_r2 fql fqo frr fr2 sn on9 v1 v3 v4 = fr2 := by unfold m_X5_copy_A_r2; rw [if_neg c_8, if_pos c_11]
      have hz9 : gPD G A [zo5 h0 tt rd nw th kp sh tu him, zo2 sh qn qo ql, zr G qn 4 fn, zi G qo 4 fqo, zi G ql 4 (nF fql), zi G rr 40 frr, zi G r2 40 (m_X5_copy_A_r2 fql fqo frr fr2 sn on9 v1 v3 v4)] H := ⟨by rw [q_42]; exact hP, by rw [q_42]; exact hD⟩
      have hP9 := hz9.1
      have hD9 := hz9.2
      have hpost : (fun (r : Int32) (u : Unit) => match u with | _ => r = m_X5_copy_A fql fqo sn on9 v1 v3 v4) (-11) () := (show m_X5_copy_A fql fqo sn on9 v1 v3 v4 = (-11) from by unfold m_X5_copy_A; rw [if_neg c_8, if_pos c_11]).symm
      exact W.iret (v := (-11)) hx hb hr (fun t ht hW => ⟨⟨(-11), (), rfl, hpost, by rw [ht]; exact hP9, va_K.moved hW.alike hK, hD9⟩, hS.F ht⟩) hS.2.2 dX5_copy_53
noncomputable def m_X5_copy_S (fql : Nat → Nat) (fqo : Nat → Int32) (sn : Nat) (v1 : Int32) (v3 : Int32) (v4 : Int32) : Int32 := if (fqo sn) = (-1) then -11 else (if (fqo sn) = (fqo sn) then (if (mHolds (fql sn) v1 v4) = true then (if (mHolds (fql sn) v3 (nI (nC v4))) = true then nI (nC v4) else -12) else -12) else -13)
noncomputable def m_X5_copy_S_rr (fql : Nat → Nat) (fqo : Nat → Int32) (frr : Nat → Int32) (sn : Nat) (v1 : Int32) (v3 : Int32) (v4 : Int32) : Nat → Int32 := if (fqo sn) = (-1) then frr else (if (fqo sn) = (fqo sn) then (if (mHolds (fql sn) v1 v4) = true then (if (mHolds (fql sn) v3 (nI (nC v4))) = true then va_cpy frr frr (nC v1) (nC v3) (nC v4) else frr) else frr) else frr)
abbrev q_X5_copy_S (G : gG) (E : gS) (h0 tt rd nw th kp sh tu qn qo ql rr : Nat) (him : Int32) (fn : Nat → Option Nat) (fql : Nat → Nat) (fqo : Nat → Int32) (frr : Nat → Int32) (sn : Nat) (v1 : Int32) (v3 : Int32) (v4 : Int32) (A : Nat → Prop) : Array Value → State → Outcome → State → Prop := va_Qi (fun (r : Int32) (u : Unit) => match u with | _ => r = m_X5_copy_S fql fqo sn v1 v3 v4) (fun (u : Unit) t => match u with | _ => va_P G.1 vwCl [zo5 h0 tt rd nw th kp sh tu him, zo2 sh qn qo ql, zr G qn 4 fn, zi G qo 4 fqo, zi G ql 4 (nF fql), zi G rr 40 (m_X5_copy_S_rr fql fqo frr sn v1 v3 v4)] t.heap ∧ gK G t ∧ va_D A [zo5 h0 tt rd nw th kp sh tu him, zo2 sh qn qo ql, zr G qn 4 fn, zi G qo 4 fqo, zi G ql 4 (nF fql), zi G rr 40 (m_X5_copy_S_rr fql fqo frr sn v1 v3 v4)]) A
set_option maxHeartbeats 4000000 in
set_option maxRecDepth 100000 in
theorem c_X5_copy_S (l : Launch) (G : gG) (E : gS) (h0 tt rd nw th kp sh tu qn qo ql rr : Nat) (him : Int32) (fn : Nat → Option Nat) (fql : Nat → Nat) (fqo : Nat → Int32) (frr : Nat → Int32) (sn : Nat) (v1 : Int32) (v3 : Int32) (v4 : Int32) (sz : Nat) (hsn : sn < 4) (hrw : fn sn = some rr) (hql : ∀ q9, q9 < 4 → fql q9 ≤ 40) : Met l yX5_copy wsX5_copy ({ frames := 2, cells := 0, slots := 0, locals := 400 }) (gPreE G E [.ref h0, .int (nI sn), .int v1, .int (nI sn), .int v3, .int v4] [zo5 h0 tt rd nw th kp sh tu him, zo2 sh qn qo ql, zr G qn 4 fn, zi G qo 4 fqo, zi G ql 4 (nF fql), zi G rr 40 frr] sz) (q_X5_copy_S G E h0 tt rd nw th kp sh tu qn qo ql rr him fn fql fqo frr sn v1 v3 v4 (va_A [zo5 h0 tt rd nw th kp sh tu him, zo2 sh qn qo ql, zr G qn 4 fn, zi G qo 4 fqo, zi G ql 4 (nF fql), zi G rr 40 frr] sz)) 0 0 (va_A [zo5 h0 tt rd nw th kp sh tu him, zo2 sh qn qo ql, zr G qn 4 fn, zi G qo 4 fqo, zi G ql 4 (nF fql), zi G rr 40 frr] sz) := by
  refine Met.ofW (cc := cX5_copy) (maxL := 6) (ret := (some .int)) (by decide +kernel) rfl ?_
  intro p e s m args below meth c s₁ B hml hv
  obtain ⟨rfl, hsz, hP, hK, hD0, hE⟩ := hv
  have hx := B.exec
  have hb := B.bytes
  have hr := B.returns
  have hts := atoms_spec (ws := wsX5_copy) B.pre
  have hown : s.vm.findClass RX5 = some m.cls := findClass_of_methodNamed B.named
  have hlocks := B.notSynchronized
  subst hsz
  have hD := hD0.self (sz := s.heap.size)
  generalize hAe : va_A [zo5 h0 tt rd nw th kp sh tu him, zo2 sh qn qo ql, zr G qn 4 fn, zi G qo 4 fqo, zi G ql 4 (nF fql), zi G rr 40 frr] s.heap.size = A at hD hE ⊢
  have hA : ∀ q : Nat, s.heap.size ≤ q → A q := fun q h => by rw [← hAe]; exact Or.inr h
  have hS : va_S A s.heap s.heap [] := va_S.rf
  have hz9 : gPD G A [zo5 h0 tt rd nw th kp sh tu him, zo2 sh qn qo ql, zr G qn 4 fn, zi G qo 4 fqo, zi G ql 4 (nF fql), zi G rr 40 frr] s.heap := ⟨hP, hD⟩
  have hP := hz9.1
  have hD := hz9.2
  have hl := lv_entry ([.ref h0, .int (nI sn), .int v1, .int (nI sn), .int v3, .int v4]) (n := 6) (Nat.le_of_ble_eq_true rfl)
  rw [lg_entry_eq]
  generalize (lg_sl ([.ref h0, .int (nI sn), .int v1, .int (nI sn), .int v3, .int v4]) ++ List.replicate (6 - (lg_sl ([.ref h0, .int (nI sn), .int v1, .int (nI sn), .int v3, .int v4])).length) Slot.unset).toArray = ls at hl ⊢
  have hl : lv_has ls 6 [zR 0 h0, zI 1 (nI sn), zI 2 v1, zI 3 (nI sn), zI 4 v3, zI 5 v4] := hl
  have kf41 := hts (.fieldLink RX5 41 "PebbleInShoe" "rows" "LPebbleInShoe$Sheets;") (by decide +kernel)
  have hiX5 := (by decide +kernel : ∀ w ∈ wsX50, w ∈ wsX5_copy)
  have kf225 := hts (.fieldLink RX5 225 "PebbleInShoe$Sheets" "sorts" "[I") (by decide +kernel)
  have hiX2 := (by decide +kernel : ∀ w ∈ wsX20, w ∈ wsX5_copy)
  have kf235 := hts (.fieldLink RX5 235 "PebbleInShoe$Sheets" "numbers" "[[I") (by decide +kernel)
  refine g_aget (D := G.1) (ci := 5) (v := .ref sh) (C := RX5) (T := TX5) (N := 8) hx hb dX5_copy_0 rfl (lv_at hl 0 rfl) hts hiX5 hown hK hP 0 rfl rfl 5 (by decide +kernel) kf41 (fun _ h9 => h9) rfl dX5_copy_1 ?_
  refine lv_iload_n hx hb dX5_copy_4 rfl (lv_at hl 1 rfl) ?_
  refine z_callp [1] (va_runV (As := [.int (nI sn)]) (rest := []) ⟨hx, hb, hml, hown, hts⟩ (c_X2_isSheet_g l G E sh qn qo ql (nI sn) s.heap.size) (cwV 1 hts gX5_copy_X2_isSheet rfl rfl rfl (by decide +kernel) ⟨Nat.le_of_ble_eq_true rfl, Nat.le_of_ble_eq_true rfl⟩) ⟨gPreE_blind, va_recv (q := (RX2, TX2, 3)) hK hP (ci := 2) (q0 := 1) rfl rfl, fun U hU hW => gPreE_ofF [1] hU hW hK hP hD (by decide +kernel) rfl hE hS hA⟩ rfl rfl hl.1 rfl (lv_room (Nat.le_of_ble_eq_true rfl)) dX5_copy_5 ⟨Nat.le_of_ble_eq_true rfl, Nat.le_of_ble_eq_true rfl⟩) hS hD hA rfl (fun r_1 u t H locs ht hvm w_2 hB hz1 hk1 hFq hAq hS => ?_)
  obtain ⟨hP1, hK1, hD1⟩ := hB
  have w_2 : r_1 = bz (decide (0 ≤ (nI sn) ∧ (nI sn) ≤ 3)) := w_2
  have hP := zKeep hP hD [1] hAq hk1 ht hP1 rfl
  have w_2 : r_1 = 1 := w_2.trans (bz3_t (by assumption))
  subst w_2
  refine lv_if_eq (tgt := 22) hx hb dX5_copy_8 (by decide +kernel) (fun c_3 => ?_) (fun c_3 => ?_)
  · exact absurd c_3 (by decide +kernel)
  refine g_aget (D := G.1) (ci := 5) (v := .ref sh) (C := RX5) (T := TX5) (N := 8) hx hb dX5_copy_11 rfl (lv_at hl 0 rfl) hts hiX5 hown hK hP 0 rfl rfl 5 (by decide +kernel) kf41 (fun _ h9 => h9) rfl dX5_copy_12 ?_
  refine lv_iload_n hx hb dX5_copy_15 rfl (lv_at hl 3 rfl) ?_
  refine z_callp [1] (va_runV (As := [.int (nI sn)]) (rest := []) ⟨hx, hb, hml, hown, hts⟩ (c_X2_isSheet_g l G E sh qn qo ql (nI sn) H.size) (cwV 1 hts gX5_copy_X2_isSheet rfl rfl rfl (by decide +kernel) ⟨Nat.le_of_ble_eq_true rfl, Nat.le_of_ble_eq_true rfl⟩) ⟨gPreE_blind, va_recv (q := (RX2, TX2, 3)) hK hP (ci := 2) (q0 := 1) rfl rfl, fun U hU hW => gPreE_ofF [1] hU hW hK hP hD (by decide +kernel) rfl hE hS hA⟩ rfl rfl hl.1 rfl (lv_room (Nat.le_of_ble_eq_true rfl)) dX5_copy_16 ⟨Nat.le_of_ble_eq_true rfl, Nat.le_of_ble_eq_true rfl⟩) hS hD hA rfl (fun r_4 u t H locs ht hvm w_5 hB hz1 hk1 hFq hAq hS => ?_)
  obtain ⟨hP1, hK1, hD1⟩ := hB
  have w_5 : r_4 = bz (decide (0 ≤ (nI sn) ∧ (nI sn) ≤ 3)) := w_5
  have hP := zKeep hP hD [1] hAq hk1 ht hP1 rfl
  have w_5 : r_4 = 1 := w_5.trans (bz3_t (by assumption))
  subst w_5
  refine lv_if_ne (tgt := 25) hx hb dX5_copy_19 (by decide +kernel) (fun c_6 => ?_) (fun c_6 => ?_)
  rotate_left
  · exact absurd c_6 (by decide +kernel)
  refine g_aget (D := G.1) (ci := 5) (v := .ref sh) (C := RX5) (T := TX5) (N := 8) hx hb dX5_copy_25 rfl (lv_at hl 0 rfl) hts hiX5 hown hK hP 0 rfl rfl 5 (by decide +kernel) kf41 (fun _ h9 => h9) rfl dX5_copy_26 ?_
  refine va_get (D := G.1) (ci := 2) (v := .ref qo) (C := RX2) (T := TX2) (N := 3) hx hb hts hiX2 hown hK hP 1 rfl rfl 1 (by decide +kernel) kf225 (fun _ h9 => h9) rfl dX5_copy_29 ?_
  refine lv_iload_n hx hb dX5_copy_32 rfl (lv_at hl 1 rfl) ?_
  refine g_iald (D := G.1) hx hb hK hP 3 0 rfl rfl (k := sn) (y := fqo sn) (by omega) rfl rfl dX5_copy_33 ?_
  refine lv_iconst (v := -1) hx hb dX5_copy_34 (by decide +kernel) ?_
  refine lv_icmp_eq (tgt := 51) hx hb dX5_copy_35 (by decide +kernel) (fun c_8 => ?_) (fun c_8 => ?_)
  · skip
    refine lv_bipush (v := -11) hx hb dX5_copy_51 (by decide +kernel) ?_
    have q_9 : m_X5_copy_S_rr fql fqo frr sn v1 v3 v4 = frr := by unfold m_X5_copy_S_rr; rw [if_pos c_8]
    have hz9 : gPD G A [zo5 h0 tt rd nw th kp sh tu him, zo2 sh qn qo ql, zr G qn 4 fn, zi G qo 4 fqo, zi G ql 4 (nF fql), zi G rr 40 (m_X5_copy_S_rr fql fqo frr sn v1 v3 v4)] H := ⟨by rw [q_9]; exact hP, by rw [q_9]; exact hD⟩
    have hP9 := hz9.1
    have hD9 := hz9.2
    have hpost : (fun (r : Int32) (u : Unit) => match u with | _ => r = m_X5_copy_S fql fqo sn v1 v3 v4) (-11) () := (show m_X5_copy_S fql fqo sn v1 v3 v4 = (-11) from by unfold m_X5_copy_S; rw [if_pos c_8]).symm
    exact W.iret (v := (-11)) hx hb hr (fun t ht hW => ⟨⟨(-11), (), rfl, hpost, by rw [ht]; exact hP9, va_K.moved hW.alike hK, hD9⟩, hS.F ht⟩) hS.2.2 dX5_copy_53
  · skip
    refine g_aget (D := G.1) (ci := 5) (v := .ref sh) (C := RX5) (T := TX5) (N := 8) hx hb dX5_copy_38 rfl (lv_at hl 0 rfl) hts hiX5 hown hK hP 0 rfl rfl 5 (by decide +kernel) kf41 (fun _ h9 => h9) rfl dX5_copy_39 ?_
    refine va_get (D := G.1) (ci := 2) (v := .ref qo) (C := RX2) (T := TX2) (N := 3) hx hb hts hiX2 hown hK hP 1 rfl rfl 1 (by decide +kernel) kf225 (fun _ h9 => h9) rfl dX5_copy_42 ?_
    refine lv_iload_n hx hb dX5_copy_45 rfl (lv_at hl 3 rfl) ?_
    refine g_iald (D := G.1) hx hb hK hP 3 0 rfl rfl (k := sn) (y := fqo sn) (by omega) rfl rfl dX5_copy_46 ?_
    refine lv_iconst (v := -1) hx hb dX5_copy_47 (by decide +kernel) ?_
    refine lv_icmp_ne (tgt := 54) hx hb dX5_copy_48 (by decide +kernel) (fun c_11 => ?_) (fun c_11 => ?_)
    rotate_left
    · exact absurd c_11 (c_8)
    refine g_aget (D := G.1) (ci := 5) (v := .ref sh) (C := RX5) (T := TX5) (N := 8) hx hb dX5_copy_54 rfl (lv_at hl 0 rfl) hts hiX5 hown hK hP 0 rfl rfl 5 (by decide +kernel) kf41 (fun _ h9 => h9) rfl dX5_copy_55 ?_
    refine va_get (D := G.1) (ci := 2) (v := .ref qo) (C := RX2) (T := TX2) (N := 3) hx hb hts hiX2 hown hK hP 1 rfl rfl 1 (by decide +kernel) kf225 (fun _ h9 => h9) rfl dX5_copy_58 ?_
    refine lv_iload_n hx hb dX5_copy_61 rfl (lv_at hl 1 rfl) ?_
    refine g_iald (D := G.1) hx hb hK hP 3 0 rfl rfl (k := sn) (y := fqo sn) (by omega) rfl rfl dX5_copy_62 ?_
    refine g_aget (D := G.1) (ci := 5) (v := .ref sh) (C := RX5) (T := TX5) (N := 8) hx hb dX5_copy_63 rfl (lv_at hl 0 rfl) hts hiX5 hown hK hP 0 rfl rfl 5 (by decide +kernel) kf41 (fun _ h9 => h9) rfl dX5_copy_64 ?_
    refine va_get (D := G.1) (ci := 2) (v := .ref qo) (C := RX2) (T := TX2) (N := 3) hx hb hts hiX2 hown hK hP 1 rfl rfl 1 (by decide +kernel) kf225 (fun _ h9 => h9) rfl dX5_copy_67 ?_
    refine lv_iload_n hx hb dX5_copy_70 rfl (lv_at hl 3 rfl) ?_
    refine g_iald (D := G.1) hx hb hK hP 3 0 rfl rfl (k := sn) (y := fqo sn) (by omega) rfl rfl dX5_copy_71 ?_
    refine lv_icmp_eq (tgt := 78) hx hb dX5_copy_72 (by decide +kernel) (fun c_14 => ?_) (fun c_14 => ?_)
    · skip
      have hs4 := hql sn hsn
      refine g_aget (D := G.1) (ci := 5) (v := .ref sh) (C := RX5) (T := TX5) (N := 8) hx hb dX5_copy_78 rfl (lv_at hl 0 rfl) hts hiX5 hown hK hP 0 rfl rfl 5 (by decide +kernel) kf41 (fun _ h9 => h9) rfl dX5_copy_79 ?_
      refine lv_iload_n hx hb dX5_copy_82 rfl (lv_at hl 1 rfl) ?_
      refine lv_iload_n hx hb dX5_copy_83 rfl (lv_at hl 2 rfl) ?_
      refine lv_iload hx hb dX5_copy_84 (lv_at hl 5 rfl) ?_
      refine z_calli [1, 4] (v := bz (mHolds (fql sn) v1 v4)) (fun _ _ h => h) (va_runV (As := [.int (nI sn), .int v1, .int v4]) (rest := []) ⟨hx, hb, hml, hown, hts⟩ (c_X2_holds l G sh qn qo ql fql sn v1 v4 H.size (by first | exact hsn | assumption | omega)) (cwV 3 hts gX5_copy_X2_holds rfl rfl rfl (by decide +kernel) ⟨Nat.le_of_ble_eq_true rfl, Nat.le_of_ble_eq_true rfl⟩) ⟨gPre_blind, va_recv (q := (RX2, TX2, 3)) hK hP (ci := 2) (q0 := 1) rfl rfl, fun U hU hW => gPre_ofF [1, 4] hU hW hK hP hD (by decide +kernel) rfl⟩ rfl rfl hl.1 rfl (lv_room (Nat.le_of_ble_eq_true rfl)) dX5_copy_86 ⟨Nat.le_of_ble_eq_true rfl, Nat.le_of_ble_eq_true rfl⟩) hS hD hA rfl (fun u t H locs ht hvm hB hz1 hk1 hFq hAq hS => ?_)
      obtain ⟨hP1, hK1, hD1⟩ := hB
      have hP := zKeep hP hD [1, 4] hAq hk1 ht hP1 rfl
      refine lv_if_eq (tgt := 107) hx hb dX5_copy_89 (by decide +kernel) (fun c_17 => ?_) (fun c_17 => ?_)
      · skip
        have n_19 : (mHolds (fql sn) v1 v4) = false := bz_eq rfl c_17
        have n_19N : ¬ ((mHolds (fql sn) v1 v4) = true) := by rw [n_19]; decide
        refine lv_bipush (v := -12) hx hb dX5_copy_107 (by decide +kernel) ?_
        have q_25 : m_X5_copy_S_rr fql fqo frr sn v1 v3 v4 = frr := by unfold m_X5_copy_S_rr; rw [if_neg c_8, if_pos c_14, if_neg n_19N]
        have hz9 : gPD G A [zo5 h0 tt rd nw th kp sh tu him, zo2 sh qn qo ql, zr G qn 4 fn, zi G qo 4 fqo, zi G ql 4 (nF fql), zi G rr 40 (m_X5_copy_S_rr fql fqo frr sn v1 v3 v4)] H := ⟨by rw [q_25]; exact hP, by rw [q_25]; exact hD⟩
        have hP9 := hz9.1
        have hD9 := hz9.2
        have hpost : (fun (r : Int32) (u : Unit) => match u with | _ => r = m_X5_copy_S fql fqo sn v1 v3 v4) (-12) () := (show m_X5_copy_S fql fqo sn v1 v3 v4 = (-12) from by unfold m_X5_copy_S; rw [if_neg c_8, if_pos c_14, if_neg n_19N]).symm
        exact W.iret (v := (-12)) hx hb hr (fun t ht hW => ⟨⟨(-12), (), rfl, hpost, by rw [ht]; exact hP9, va_K.moved hW.alike hK, hD9⟩, hS.F ht⟩) hS.2.2 dX5_copy_109
      · skip
        have p_18 : (mHolds (fql sn) v1 v4) = true := bz_ne rfl c_17
        have hv_20 : v1 = nI (nC v1) := mHolds_1 p_18
        have hk_21 : nC v1 < 2 ^ 31 := nC_31 _
        have hv_22 : v4 = nI (nC v4) := mHolds_2 p_18
        have hk_23 : nC v4 < 2 ^ 31 := nC_31 _
        have hk_24 : (nC v1) + (nC v4) ≤ fql sn := mHolds_3 (by omega) (by omega) (by omega) p_18 (by first | exact hv_20 | rfl) (by first | exact hv_22 | rfl)
        refine g_aget (D := G.1) (ci := 5) (v := .ref sh) (C := RX5) (T := TX5) (N := 8) hx hb dX5_copy_92 rfl (lv_at hl 0 rfl) hts hiX5 hown hK hP 0 rfl rfl 5 (by decide +kernel) kf41 (fun _ h9 => h9) rfl dX5_copy_93 ?_
        refine lv_iload_n hx hb dX5_copy_96 rfl (lv_at hl 3 rfl) ?_
        refine lv_iload hx hb dX5_copy_97 (lv_at hl 4 rfl) ?_
        refine lv_iload hx hb dX5_copy_99 (lv_at hl 5 rfl) ?_
        refine g_topi (y := nI (nC v4)) hv_22 ?_
        refine z_calli [1, 4] (v := bz (mHolds (fql sn) v3 (nI (nC v4)))) (fun _ _ h => h) (va_runV (As := [.int (nI sn), .int v3, .int (nI (nC v4))]) (rest := []) ⟨hx, hb, hml, hown, hts⟩ (c_X2_holds l G sh qn qo ql fql sn v3 (nI (nC v4)) H.size (by first | exact hsn | assumption | omega)) (cwV 3 hts gX5_copy_X2_holds rfl rfl rfl (by decide +kernel) ⟨Nat.le_of_ble_eq_true rfl, Nat.le_of_ble_eq_true rfl⟩) ⟨gPre_blind, va_recv (q := (RX2, TX2, 3)) hK hP (ci := 2) (q0 := 1) rfl rfl, fun U hU hW => gPre_ofF [1, 4] hU hW hK hP hD (by decide +kernel) rfl⟩ rfl rfl hl.1 rfl (lv_room (Nat.le_of_ble_eq_true rfl)) dX5_copy_101 ⟨Nat.le_of_ble_eq_true rfl, Nat.le_of_ble_eq_true rfl⟩) hS hD hA rfl (fun u t H locs ht hvm hB hz1 hk1 hFq hAq hS => ?_)
        obtain ⟨hP1, hK1, hD1⟩ := hB
        have hP := zKeep hP hD [1, 4] hAq hk1 ht hP1 rfl
        refine lv_if_ne (tgt := 110) hx hb dX5_copy_104 (by decide +kernel) (fun c_29 => ?_) (fun c_29 => ?_)
        · skip
          have p_30 : (mHolds (fql sn) v3 (nI (nC v4))) = true := bz_ne rfl c_29
          have hv_32 : v3 = nI (nC v3) := mHolds_1 p_30
          have hk_33 : nC v3 < 2 ^ 31 := nC_31 _
          have hk_34 : (nC v3) + (nC v4) ≤ fql sn := mHolds_3 (by omega) (by omega) (by omega) p_30 (by first | exact hv_32 | rfl) (by first | exact rfl | rfl)
          refine g_aget (D := G.1) (ci := 5) (v := .ref sh) (C := RX5) (T := TX5) (N := 8) hx hb dX5_copy_110 rfl (lv_at hl 0 rfl) hts hiX5 hown hK hP 0 rfl rfl 5 (by decide +kernel) kf41 (fun _ h9 => h9) rfl dX5_copy_111 ?_
          refine va_get (D := G.1) (ci := 2) (v := .ref qn) (C := RX2) (T := TX2) (N := 3) hx hb hts hiX2 hown hK hP 1 rfl rfl 0 (by decide +kernel) kf235 (fun _ h9 => h9) rfl dX5_copy_114 ?_
          refine lv_iload_n hx hb dX5_copy_117 rfl (lv_at hl 1 rfl) ?_
          refine g_aald (x := rr) hx hb hK hP 2 2 rfl rfl (i := (nI sn)) (vpn (by omega) rfl) (by rw [nI_clamp (by omega)]; exact hrw) dX5_copy_118 ?_
          refine lv_iload_n hx hb dX5_copy_119 rfl (lv_at hl 2 rfl) ?_
          refine g_topi (y := nI (nC v1)) hv_20 ?_
          refine g_aget (D := G.1) (ci := 5) (v := .ref sh) (C := RX5) (T := TX5) (N := 8) hx hb dX5_copy_120 rfl (lv_at hl 0 rfl) hts hiX5 hown hK hP 0 rfl rfl 5 (by decide +kernel) kf41 (fun _ h9 => h9) rfl dX5_copy_121 ?_
          refine va_get (D := G.1) (ci := 2) (v := .ref qn) (C := RX2) (T := TX2) (N := 3) hx hb hts hiX2 hown hK hP 1 rfl rfl 0 (by decide +kernel) kf235 (fun _ h9 => h9) rfl dX5_copy_124 ?_
          refine lv_iload_n hx hb dX5_copy_127 rfl (lv_at hl 3 rfl) ?_
          refine g_aald (x := rr) hx hb hK hP 2 2 rfl rfl (i := (nI sn)) (vpn (by omega) rfl) (by rw [nI_clamp (by omega)]; exact hrw) dX5_copy_128 ?_
          refine lv_iload hx hb dX5_copy_129 (lv_at hl 4 rfl) ?_
          refine g_topi (y := nI (nC v3)) hv_32 ?_
          refine lv_iload hx hb dX5_copy_131 (lv_at hl 5 rfl) ?_
          refine g_topi (y := nI (nC v4)) hv_22 ?_
          refine va_copyi (D := G.1) (ty := .int) hx hb (by rw [hml]; exact hl.1.symm) hown (hts (.methodLink RX5 239 arraycopyName) (by decide +kernel)) (hts (.native arraycopyName) (by decide +kernel)) (hts (.static arraycopyName) (by decide +kernel)) (hts (.initialized "java/lang/System") (by decide +kernel)) hK hP hD hS 5 5 0 0 rfl rfl rfl rfl rfl (nI_pos (by omega)) (nI_pos (by omega)) (nI_pos (by omega)) (cl_le (by omega) (by omega) (by omega)) (cl_le (by omega) (by omega) (by omega)) (fun _ _ => rfl) (Nat.le_of_ble_eq_true rfl) (Nat.le_of_ble_eq_true rfl) dX5_copy_133 (fun H locs hP hD hS => ?_)
          have hz9 : gPD G A [zo5 h0 tt rd nw th kp sh tu him, zo2 sh qn qo ql, zr G qn 4 fn, zi G qo 4 fqo, zi G ql 4 (nF fql), zi G rr 40 (va_cpy frr frr (nC v1) (nC v3) (nC v4))] H := ⟨by rw [cpy_nI (a := (nC v1)) (b := (nC v3)) (c := (nC v4)) (by omega) (by omega) (by omega)] at hP; exact hP, by rw [cpy_nI (a := (nC v1)) (b := (nC v3)) (c := (nC v4)) (by omega) (by omega) (by omega)] at hD; exact hD⟩
          have hP := hz9.1
          have hD := hz9.2
          refine lv_iload hx hb dX5_copy_136 (lv_at hl 5 rfl) ?_
          refine g_topi (y := nI (nC v4)) hv_22 ?_
          have q_39 : m_X5_copy_S_rr fql fqo frr sn v1 v3 v4 = va_cpy frr frr (nC v1) (nC v3) (nC v4) := by unfold m_X5_copy_S_rr; rw [if_neg c_8, if_pos c_14, if_pos p_18, if_pos p_30]
          have hz9 : gPD G A [zo5 h0 tt rd nw th kp sh tu him, zo2 sh qn qo ql, zr G qn 4 fn, zi G qo 4 fqo, zi G ql 4 (nF fql), zi G rr 40 (m_X5_copy_S_rr fql fqo frr sn v1 v3 v4)] H := ⟨by rw [q_39]; exact hP, by rw [q_39]; exact hD⟩
          have hP9 := hz9.1
          have hD9 := hz9.2
          have hpost : (fun (r : Int32) (u : Unit) => match u with | _ => r = m_X5_copy_S fql fqo sn v1 v3 v4) (nI (nC v4)) () := (show m_X5_copy_S fql fqo sn v1 v3 v4 = (nI (nC v4)) from by unfold m_X5_copy_S; rw [if_neg c_8, if_pos c_14, if_pos p_18, if_pos p_30]).symm
          exact W.iret (v := (nI (nC v4))) hx hb hr (fun t ht hW => ⟨⟨(nI (nC v4)), (), rfl, hpost, by rw [ht]; exact hP9, va_K.moved hW.alike hK, hD9⟩, hS.F ht⟩) hS.2.2 dX5_copy_138
        · skip
          have n_31 : (mHolds (fql sn) v3 (nI (nC v4))) = false := bz_eq rfl c_29
          have n_31N : ¬ ((mHolds (fql sn) v3 (nI (nC v4))) = true) := by rw [n_31]; decide
          refine lv_bipush (v := -12) hx hb dX5_copy_107 (by decide +kernel) ?_
          have q_40 : m_X5_copy_S_rr fql fqo frr sn v1 v3 v4 = frr := by unfold m_X5_copy_S_rr; rw [if_neg c_8, if_pos c_14, if_pos p_18, if_neg n_31N]
          have hz9 : gPD G A [zo5 h0 tt rd nw th kp sh tu him, zo2 sh qn qo ql, zr G qn 4 fn, zi G qo 4 fqo, zi G ql 4 (nF fql), zi G rr 40 (m_X5_copy_S_rr fql fqo frr sn v1 v3 v4)] H := ⟨by rw [q_40]; exact hP, by rw [q_40]; exact hD⟩
          have hP9 := hz9.1
          have hD9 := hz9.2
          have hpost : (fun (r : Int32) (u : Unit) => match u with | _ => r = m_X5_copy_S fql fqo sn v1 v3 v4) (-12) () := (show m_X5_copy_S fql fqo sn v1 v3 v4 = (-12) from by unfold m_X5_copy_S; rw [if_neg c_8, if_pos c_14, if_pos p_18, if_neg n_31N]).symm
          exact W.iret (v := (-12)) hx hb hr (fun t ht hW => ⟨⟨(-12), (), rfl, hpost, by rw [ht]; exact hP9, va_K.moved hW.alike hK, hD9⟩, hS.F ht⟩) hS.2.2 dX5_copy_109
    · skip
      refine lv_bipush (v := -13) hx hb dX5_copy_75 (by decide +kernel) ?_
      have q_41 : m_X5_copy_S_rr fql fqo frr sn v1 v3 v4 = frr := by unfold m_X5_copy_S_rr; rw [if_neg c_8, if_neg c_14]
      have hz9 : gPD G A [zo5 h0 tt rd nw th kp sh tu him, zo2 sh qn qo ql, zr G qn 4 fn, zi G qo 4 fqo, zi G ql 4 (nF fql), zi G rr 40 (m_X5_copy_S_rr fql fqo frr sn v1 v3 v4)] H := ⟨by rw [q_41]; exact hP, by rw [q_41]; exact hD⟩
      have hP9 := hz9.1
      have hD9 := hz9.2
      have hpost : (fun (r : Int32) (u : Unit) => match u with | _ => r = m_X5_copy_S fql fqo sn v1 v3 v4) (-13) () := (show m_X5_copy_S fql fqo sn v1 v3 v4 = (-13) from by unfold m_X5_copy_S; rw [if_neg c_8, if_neg c_14]).symm
      exact W.iret (v := (-13)) hx hb hr (fun t ht hW => ⟨⟨(-13), (), rfl, hpost, by rw [ht]; exact hP9, va_K.moved hW.alike hK, hD9⟩, hS.F ht⟩) hS.2.2 dX5_copy_77
abbrev q_X5_copy_B (G : gG) (E : gS) (h0 tt rd nw th kp sh tu qn qo ql : Nat) (him : Int32) (v0 : Int32) (v1 : Int32) (v2 : Int32) (v3 : Int32) (v4 : Int32) (A : Nat → Prop) : Array Value → State → Outcome → State → Prop := va_Qi (fun (r : Int32) (u : Unit) => match u with | _ => r = -2) (fun (u : Unit) t => match u with | _ => va_P G.1 vwCl [zo5 h0 tt rd nw th kp sh tu him, zo2 sh qn qo ql] t.heap ∧ gK G t ∧ va_D A [zo5 h0 tt rd nw th kp sh tu him, zo2 sh qn qo ql]) A
set_option maxHeartbeats 4000000 in
set_option maxRecDepth 100000 in
theorem c_X5_copy_B (l : Launch) (G : gG) (E : gS) (h0 tt rd nw th kp sh tu qn qo ql : Nat) (him : Int32) (v0 : Int32) (v1 : Int32) (v2 : Int32) (v3 : Int32) (v4 : Int32) (sz : Nat) (hno : ¬ (0 ≤ v0 ∧ v0 ≤ 3)) : Met l yX5_copy wsX5_copy ({ frames := 2, cells := 0, slots := 0, locals := 42 }) (gPreE G E [.ref h0, .int v0, .int v1, .int v2, .int v3, .int v4] [zo5 h0 tt rd nw th kp sh tu him, zo2 sh qn qo ql] sz) (q_X5_copy_B G E h0 tt rd nw th kp sh tu qn qo ql him v0 v1 v2 v3 v4 (va_A [zo5 h0 tt rd nw th kp sh tu him, zo2 sh qn qo ql] sz)) 0 0 (va_A [zo5 h0 tt rd nw th kp sh tu him, zo2 sh qn qo ql] sz) := by
  refine Met.ofW (cc := cX5_copy) (maxL := 6) (ret := (some .int)) (by decide +kernel) rfl ?_
  intro p e s m args below meth c s₁ B hml hv
  obtain ⟨rfl, hsz, hP, hK, hD0, hE⟩ := hv
  have hx := B.exec
  have hb := B.bytes
  have hr := B.returns
  have hts := atoms_spec (ws := wsX5_copy) B.pre
  have hown : s.vm.findClass RX5 = some m.cls := findClass_of_methodNamed B.named
  have hlocks := B.notSynchronized
  subst hsz
  have hD := hD0.self (sz := s.heap.size)
  generalize hAe : va_A [zo5 h0 tt rd nw th kp sh tu him, zo2 sh qn qo ql] s.heap.size = A at hD hE ⊢
  have hA : ∀ q : Nat, s.heap.size ≤ q → A q := fun q h => by rw [← hAe]; exact Or.inr h
  have hS : va_S A s.heap s.heap [] := va_S.rf
  have hz9 : gPD G A [zo5 h0 tt rd nw th kp sh tu him, zo2 sh qn qo ql] s.heap := ⟨hP, hD⟩
  have hP := hz9.1
  have hD := hz9.2
  have hl := lv_entry ([.ref h0, .int v0, .int v1, .int v2, .int v3, .int v4]) (n := 6) (Nat.le_of_ble_eq_true rfl)
  rw [lg_entry_eq]
  generalize (lg_sl ([.ref h0, .int v0, .int v1, .int v2, .int v3, .int v4]) ++ List.replicate (6 - (lg_sl ([.ref h0, .int v0, .int v1, .int v2, .int v3, .int v4])).length) Slot.unset).toArray = ls at hl ⊢
  have hl : lv_has ls 6 [zR 0 h0, zI 1 v0, zI 2 v1, zI 3 v2, zI 4 v3, zI 5 v4] := hl
  have kf41 := hts (.fieldLink RX5 41 "PebbleInShoe" "rows" "LPebbleInShoe$Sheets;") (by decide +kernel)
  have hiX5 := (by decide +kernel : ∀ w ∈ wsX50, w ∈ wsX5_copy)
  refine g_aget (D := G.1) (ci := 5) (v := .ref sh) (C := RX5) (T := TX5) (N := 8) hx hb dX5_copy_0 rfl (lv_at hl 0 rfl) hts hiX5 hown hK hP 0 rfl rfl 5 (by decide +kernel) kf41 (fun _ h9 => h9) rfl dX5_copy_1 ?_
  refine lv_iload_n hx hb dX5_copy_4 rfl (lv_at hl 1 rfl) ?_
  refine z_callp [1] (va_runV (As := [.int v0]) (rest := []) ⟨hx, hb, hml, hown, hts⟩ (c_X2_isSheet_g l G E sh qn qo ql v0 s.heap.size) (cwV 1 hts gX5_copy_X2_isSheet rfl rfl rfl (by decide +kernel) ⟨Nat.le_of_ble_eq_true rfl, Nat.le_of_ble_eq_true rfl⟩) ⟨gPreE_blind, va_recv (q := (RX2, TX2, 3)) hK hP (ci := 2) (q0 := 1) rfl rfl, fun U hU hW => gPreE_ofF [1] hU hW hK hP hD (by decide +kernel) rfl hE hS hA⟩ rfl rfl hl.1 rfl (lv_room (Nat.le_of_ble_eq_true rfl)) dX5_copy_5 ⟨Nat.le_of_ble_eq_true rfl, Nat.le_of_ble_eq_true rfl⟩) hS hD hA rfl (fun r_1 u t H locs ht hvm w_2 hB hz1 hk1 hFq hAq hS => ?_)
  obtain ⟨hP1, hK1, hD1⟩ := hB
  have w_2 : r_1 = bz (decide (0 ≤ v0 ∧ v0 ≤ 3)) := w_2
  have hP := zKeep hP hD [1] hAq hk1 ht hP1 rfl
  have w_2 : r_1 = 0 := w_2.trans (bz3_f hno)
  subst w_2
  refine lv_if_eq (tgt := 22) hx hb dX5_copy_8 (by decide +kernel) (fun c_3 => ?_) (fun c_3 => ?_)
  rotate_left
  · exact absurd (by decide +kernel) c_3
  refine lv_bipush (v := -2) hx hb dX5_copy_22 (by decide +kernel) ?_
  have hpost : (fun (r : Int32) (u : Unit) => match u with | _ => r = -2) (-2) () := rfl
  exact W.iret (v := (-2)) hx hb hr (fun t ht hW => ⟨⟨(-2), (), rfl, hpost, by rw [ht]; exact hP, va_K.moved hW.alike hK, hD⟩, hS.F ht⟩) hS.2.2 dX5_copy_24
abbrev q_X5_copy_C (G : gG) (E : gS) (h0 tt rd nw th kp sh tu qn qo ql : Nat) (him : Int32) (sn : Nat) (v1 : Int32) (v2 : Int32) (v3 : Int32) (v4 : Int32) (A : Nat → Prop) : Array Value → State → Outcome → State → Prop := va_Qi (fun (r : Int32) (u : Unit) => match u with | _ => r = -2) (fun (u : Unit) t => match u with | _ => va_P G.1 vwCl [zo5 h0 tt rd nw th kp sh tu him, zo2 sh qn qo ql] t.heap ∧ gK G t ∧ va_D A [zo5 h0 tt rd nw th kp sh tu him, zo2 sh qn qo ql]) A
set_option maxHeartbeats 4000000 in
set_option maxRecDepth 100000 in
theorem c_X5_copy_C (l : Launch) (G : gG) (E : gS) (h0 tt rd nw th kp sh tu qn qo ql : Nat) (him : Int32) (sn : Nat) (v1 : Int32) (v2 : Int32) (v3 : Int32) (v4 : Int32) (sz : Nat) (hsn : sn < 4) (hno : ¬ (0 ≤ v2 ∧ v2 ≤ 3)) : Met l yX5_copy wsX5_copy ({ frames := 2, cells := 0, slots := 0, locals := 42 }) (gPreE G E [.ref h0, .int (nI sn), .int v1, .int v2, .int v3, .int v4] [zo5 h0 tt rd nw th kp sh tu him, zo2 sh qn qo ql] sz) (q_X5_copy_C G E h0 tt rd nw th kp sh tu qn qo ql him sn v1 v2 v3 v4 (va_A [zo5 h0 tt rd nw th kp sh tu him, zo2 sh qn qo ql] sz)) 0 0 (va_A [zo5 h0 tt rd nw th kp sh tu him, zo2 sh qn qo ql] sz) := by
  refine Met.ofW (cc := cX5_copy) (maxL := 6) (ret := (some .int)) (by decide +kernel) rfl ?_
  intro p e s m args below meth c s₁ B hml hv
  obtain ⟨rfl, hsz, hP, hK, hD0, hE⟩ := hv
  have hx := B.exec
  have hb := B.bytes
  have hr := B.returns
  have hts := atoms_spec (ws := wsX5_copy) B.pre
  have hown : s.vm.findClass RX5 = some m.cls := findClass_of_methodNamed B.named
  have hlocks := B.notSynchronized
  subst hsz
  have hD := hD0.self (sz := s.heap.size)
  generalize hAe : va_A [zo5 h0 tt rd nw th kp sh tu him, zo2 sh qn qo ql] s.heap.size = A at hD hE ⊢
  have hA : ∀ q : Nat, s.heap.size ≤ q → A q := fun q h => by rw [← hAe]; exact Or.inr h
  have hS : va_S A s.heap s.heap [] := va_S.rf
  have hz9 : gPD G A [zo5 h0 tt rd nw th kp sh tu him, zo2 sh qn qo ql] s.heap := ⟨hP, hD⟩
  have hP := hz9.1
  have hD := hz9.2
  have hl := lv_entry ([.ref h0, .int (nI sn), .int v1, .int v2, .int v3, .int v4]) (n := 6) (Nat.le_of_ble_eq_true rfl)
  rw [lg_entry_eq]
  generalize (lg_sl ([.ref h0, .int (nI sn), .int v1, .int v2, .int v3, .int v4]) ++ List.replicate (6 - (lg_sl ([.ref h0, .int (nI sn), .int v1, .int v2, .int v3, .int v4])).length) Slot.unset).toArray = ls at hl ⊢
  have hl : lv_has ls 6 [zR 0 h0, zI 1 (nI sn), zI 2 v1, zI 3 v2, zI 4 v3, zI 5 v4] := hl
  have kf41 := hts (.fieldLink RX5 41 "PebbleInShoe" "rows" "LPebbleInShoe$Sheets;") (by decide +kernel)
  have hiX5 := (by decide +kernel : ∀ w ∈ wsX50, w ∈ wsX5_copy)
  refine g_aget (D := G.1) (ci := 5) (v := .ref sh) (C := RX5) (T := TX5) (N := 8) hx hb dX5_copy_0 rfl (lv_at hl 0 rfl) hts hiX5 hown hK hP 0 rfl rfl 5 (by decide +kernel) kf41 (fun _ h9 => h9) rfl dX5_copy_1 ?_
  refine lv_iload_n hx hb dX5_copy_4 rfl (lv_at hl 1 rfl) ?_
  refine z_callp [1] (va_runV (As := [.int (nI sn)]) (rest := []) ⟨hx, hb, hml, hown, hts⟩ (c_X2_isSheet_g l G E sh qn qo ql (nI sn) s.heap.size) (cwV 1 hts gX5_copy_X2_isSheet rfl rfl rfl (by decide +kernel) ⟨Nat.le_of_ble_eq_true rfl, Nat.le_of_ble_eq_true rfl⟩) ⟨gPreE_blind, va_recv (q := (RX2, TX2, 3)) hK hP (ci := 2) (q0 := 1) rfl rfl, fun U hU hW => gPreE_ofF [1] hU hW hK hP hD (by decide +kernel) rfl hE hS hA⟩ rfl rfl hl.1 rfl (lv_room (Nat.le_of_ble_eq_true rfl)) dX5_copy_5 ⟨Nat.le_of_ble_eq_true rfl, Nat.le_of_ble_eq_true rfl⟩) hS hD hA rfl (fun r_1 u t H locs ht hvm w_2 hB hz1 hk1 hFq hAq hS => ?_)
  obtain ⟨hP1, hK1, hD1⟩ := hB
  have w_2 : r_1 = bz (decide (0 ≤ (nI sn) ∧ (nI sn) ≤ 3)) := w_2
  have hP := zKeep hP hD [1] hAq hk1 ht hP1 rfl
  have w_2 : r_1 = 1 := w_2.trans (bz3_t (by assumption))
  subst w_2
  refine lv_if_eq (tgt := 22) hx hb dX5_copy_8 (by decide +kernel) (fun c_3 => ?_) (fun c_3 => ?_)
  · exact absurd c_3 (by decide +kernel)
  refine g_aget (D := G.1) (ci := 5) (v := .ref sh) (C := RX5) (T := TX5) (N := 8) hx hb dX5_copy_11 rfl (lv_at hl 0 rfl) hts hiX5 hown hK hP 0 rfl rfl 5 (by decide +kernel) kf41 (fun _ h9 => h9) rfl dX5_copy_12 ?_
  refine lv_iload_n hx hb dX5_copy_15 rfl (lv_at hl 3 rfl) ?_
  refine z_callp [1] (va_runV (As := [.int v2]) (rest := []) ⟨hx, hb, hml, hown, hts⟩ (c_X2_isSheet_g l G E sh qn qo ql v2 H.size) (cwV 1 hts gX5_copy_X2_isSheet rfl rfl rfl (by decide +kernel) ⟨Nat.le_of_ble_eq_true rfl, Nat.le_of_ble_eq_true rfl⟩) ⟨gPreE_blind, va_recv (q := (RX2, TX2, 3)) hK hP (ci := 2) (q0 := 1) rfl rfl, fun U hU hW => gPreE_ofF [1] hU hW hK hP hD (by decide +kernel) rfl hE hS hA⟩ rfl rfl hl.1 rfl (lv_room (Nat.le_of_ble_eq_true rfl)) dX5_copy_16 ⟨Nat.le_of_ble_eq_true rfl, Nat.le_of_ble_eq_true rfl⟩) hS hD hA rfl (fun r_4 u t H locs ht hvm w_5 hB hz1 hk1 hFq hAq hS => ?_)
  obtain ⟨hP1, hK1, hD1⟩ := hB
  have w_5 : r_4 = bz (decide (0 ≤ v2 ∧ v2 ≤ 3)) := w_5
  have hP := zKeep hP hD [1] hAq hk1 ht hP1 rfl
  have w_5 : r_4 = 0 := w_5.trans (bz3_f hno)
  subst w_5
  refine lv_if_ne (tgt := 25) hx hb dX5_copy_19 (by decide +kernel) (fun c_6 => ?_) (fun c_6 => ?_)
  · exact absurd (by decide +kernel) c_6
  refine lv_bipush (v := -2) hx hb dX5_copy_22 (by decide +kernel) ?_
  have hpost : (fun (r : Int32) (u : Unit) => match u with | _ => r = -2) (-2) () := rfl
  exact W.iret (v := (-2)) hx hb hr (fun t ht hW => ⟨⟨(-2), (), rfl, hpost, by rw [ht]; exact hP, va_K.moved hW.alike hK, hD⟩, hS.F ht⟩) hS.2.2 dX5_copy_24
noncomputable def p_X5_laws_A_19 (fql : Nat → Nat) (fso : Nat → Int32) (fmi : Nat → Int32) (fpa : Nat → Int32) (fki : Nat → Int32) (fmo : Nat → Int32) (fsz : Nat → Int32) (frd : Nat → Int32) (fer0 : Nat → Nat) (fcr0 : Nat → Int32) (fer1 : Nat → Nat) (fcr1 : Nat → Int32) (fer2 : Nat → Nat) (fcr2 : Nat → Int32) (fer3 : Nat → Nat) (fcr3 : Nat → Int32) (fer4 : Nat → Nat) (fcr4 : Nat → Int32) (fer5 : Nat → Nat) (fcr5 : Nat → Int32) (frr : Nat → Int32) (sn : Nat) (v1 : Int32) : Nat → Nat → Int32 → Nat × Int32
  | 0, t19, bi => (t19, bi)
  | q9 + 1, t19, bi => if (m_X5_firstOtherwise (eAt fer0 fer1 fer2 fer3 fer4 fer5 t19) fql fso fmi fpa fki fmo fsz frd (cAt fcr0 fcr1 fcr2 fcr3 fcr4 fcr5 t19) frr sn (nC v1)) = (-1) then p_X5_laws_A_19 fql fso fmi fpa fki fmo fsz frd fer0 fcr0 fer1 fcr1 fer2 fcr2 fer3 fcr3 fer4 fcr4 fer5 fcr5 frr sn v1 q9 (t19 + 1) (bi ||| (1 <<< ((nI t19) &&& 31))) else p_X5_laws_A_19 fql fso fmi fpa fki fmo fsz frd fer0 fcr0 fer1 fcr1 fer2 fcr2 fer3 fcr3 fer4 fcr4 fer5 fcr5 frr sn v1 q9 (t19 + 1) bi
noncomputable def g_X5_laws_A_19 (tx : Nat) (fql : Nat → Nat) (fso : Nat → Int32) (fmi : Nat → Int32) (fpa : Nat → Int32) (fki : Nat → Int32) (fmo : Nat → Int32) (fsz : Nat → Int32) (frd : Nat → Int32) (fer0 : Nat → Nat) (fcr0 : Nat → Int32) (fer1 : Nat → Nat) (fcr1 : Nat → Int32) (fer2 : Nat → Nat) (fcr2 : Nat → Int32) (fer3 : Nat → Nat) (fcr3 : Nat → Int32) (fer4 : Nat → Nat) (fcr4 : Nat → Int32) (fer5 : Nat → Nat) (fcr5 : Nat → Int32) (frr : Nat → Int32) (sn : Nat) (v1 : Int32) : Nat × Int32 := p_X5_laws_A_19 fql fso fmi fpa fki fmo fsz frd fer0 fcr0 fer1 fcr1 fer2 fcr2 fer3 fcr3 fer4 fcr4 fer5 fcr5 frr sn v1 (tx - 0) 0 0
noncomputable def m_X5_laws_A (jg : Nat) (pb : Nat) (tx : Nat) (fql : Nat → Nat) (fso : Nat → Int32) (fmi : Nat → Int32) (fpa : Nat → Int32) (fki : Nat → Int32) (fmo : Nat → Int32) (fsz : Nat → Int32) (frd : Nat → Int32) (fer0 : Nat → Nat) (fcr0 : Nat → Int32) (fer1 : Nat → Nat) (fcr1 : Nat → Int32) (fer2 : Nat → Nat) (fcr2 : Nat → Int32) (fer3 : Nat → Nat) (fcr3 : Nat → Int32) (fer4 : Nat → Nat) (fcr4 : Nat → Int32) (fer5 : Nat → Nat) (fcr5 : Nat → Int32) (fqo : Nat → Int32) (frr : Nat → Int32) (sn : Nat) (v1 : Int32) : Int32 := if (m_X5_refusalOf_A jg pb fql fqo frr sn v1) = 0 then ((g_X5_laws_A_19 tx fql fso fmi fpa fki fmo fsz frd fer0 fcr0 fer1 fcr1 fer2 fcr2 fer3 fcr3 fer4 fcr4 fer5 fcr5 frr sn v1).2) else m_X5_refusalOf_A jg pb fql fqo frr sn v1
abbrev q_X5_laws_A (G : gG) (E : gS) (h0 tt rd nw th kp sh tu n1 n2 n3 n4 n5 n6 n7 n8 t1 t2 t3 t4 t5 t6 t7 t8 co en sk c0 c1 c2 c3 c4 c5 e0 e1 e2 e3 e4 e5 qn qo ql rr : Nat) (jg : Nat) (pb : Nat) (lw : Nat) (tx : Nat) (him : Int32) (wr : Int32) (tj : Int32) (tb : Int32) (tl : Int32) (fc : Nat → Option Nat) (fe : Nat → Option Nat) (fn : Nat → Option Nat) (fql : Nat → Nat) (fso : Nat → Int32) (fmi : Nat → Int32) (fpa : Nat → Int32) (fki : Nat → Int32) (fmo : Nat → Int32) (fsz : Nat → Int32) (frd : Nat → Int32) (unm : Nat → Int32) (uso : Nat → Int32) (umi : Nat → Int32) (upa : Nat → Int32) (uki : Nat → Int32) (umo : Nat → Int32) (usz : Nat → Int32) (urd : Nat → Int32) (fer0 : Nat → Nat) (fcr0 : Nat → Int32) (fer1 : Nat → Nat) (fcr1 : Nat → Int32) (fer2 : Nat → Nat) (fcr2 : Nat → Int32) (fer3 : Nat → Nat) (fcr3 : Nat → Int32) (fer4 : Nat → Nat) (fcr4 : Nat → Int32) (fer5 : Nat → Nat) (fcr5 : Nat → Int32) (fsk : Nat → Int32) (fqo : Nat → Int32) (frr : Nat → Int32) (sn : Nat) (v1 : Int32) (A : Nat → Prop) : Array Value → State → Outcome → State → Prop := va_Qi (fun (r : Int32) (u : Int32 × Int32 × Int32 × (Nat → Int32) × (Nat → Int32) × (Nat → Int32) × (Nat → Int32) × (Nat → Int32) × (Nat → Int32) × (Nat → Int32) × (Nat → Int32) × (Nat → Int32)) => match u with | (zj9, zb9, zl9, yt1, yt2, yt3, yt4, yt5, yt6, yt7, yt8, ysk) => r = m_X5_laws_A jg pb tx fql fso fmi fpa fki fmo fsz frd fer0 fcr0 fer1 fcr1 fer2 fcr2 fer3 fcr3 fer4 fcr4 fer5 fcr5 fqo frr sn v1) (fun (u : Int32 × Int32 × Int32 × (Nat → Int32) × (Nat → Int32) × (Nat → Int32) × (Nat → Int32) × (Nat → Int32) × (Nat → Int32) × (Nat → Int32) × (Nat → Int32) × (Nat → Int32)) t => match u with | (zj9, zb9, zl9, yt1, yt2, yt3, yt4, yt5, yt6, yt7, yt8, ysk) => va_P G.1 vwCl [zo5 h0 tt rd nw th kp sh tu him, zo0 nw tt n1 n2 n3 n4 n5 n6 n7 n8 (nI jg) (nI pb) (nI lw), zi G n2 4 fso, zi G n3 4 fmi, zi G n4 4 fpa, zi G n5 6 fki, zi G n6 6 fmo, zi G n7 6 fsz, zi G n8 6 frd, zo0 th tt t1 t2 t3 t4 t5 t6 t7 t8 zj9 zb9 zl9, zi G t1 6 yt1, zi G t2 4 yt2, zi G t3 4 yt3, zi G t4 4 yt4, zi G t5 6 yt5, zi G t6 6 yt6, zi G t7 6 yt7, zi G t8 6 yt8, zo3 tt co en sk wr (nI tx), zr G co 6 fc, zr G en 6 fe, zi G c0 160 fcr0, zi G c1 160 fcr1, zi G c2 160 fcr2, zi G c3 160 fcr3, zi G c4 160 fcr4, zi G c5 160 fcr5, zi G e0 3 (nF fer0), zi G e1 3 (nF fer1), zi G e2 3 (nF fer2), zi G e3 3 (nF fer3), zi G e4 3 (nF fer4), zi G e5 3 (nF fer5), zi G sk 32 ysk, zo2 sh qn qo ql, zr G qn 4 fn, zi G qo 4 fqo, zi G ql 4 (nF fql), zi G rr 40 frr] t.heap ∧ gK G t ∧ va_D A [zo5 h0 tt rd nw th kp sh tu him, zo0 nw tt n1 n2 n3 n4 n5 n6 n7 n8 (nI jg) (nI pb) (nI lw), zi G n2 4 fso, zi G n3 4 fmi, zi G n4 4 fpa, zi G n5 6 fki, zi G n6 6 fmo, zi G n7 6 fsz, zi G n8 6 frd, zo0 th tt t1 t2 t3 t4 t5 t6 t7 t8 zj9 zb9 zl9, zi G t1 6 yt1, zi G t2 4 yt2, zi G t3 4 yt3, zi G t4 4 yt4, zi G t5 6 yt5, zi G t6 6 yt6, zi G t7 6 yt7, zi G t8 6 yt8, zo3 tt co en sk wr (nI tx), zr G co 6 fc, zr G en 6 fe, zi G c0 160 fcr0, zi G c1 160 fcr1, zi G c2 160 fcr2, zi G c3 160 fcr3, zi G c4 160 fcr4, zi G c5 160 fcr5, zi G e0 3 (nF fer0), zi G e1 3 (nF fer1), zi G e2 3 (nF fer2), zi G e3 3 (nF fer3), zi G e4 3 (nF fer4), zi G e5 3 (nF fer5), zi G sk 32 ysk, zo2 sh qn qo ql, zr G qn 4 fn, zi G qo 4 fqo, zi G ql 4 (nF fql), zi G rr 40 frr]) A
set_option maxHeartbeats 4000000 in
set_option maxRecDepth 100000 in
theorem c_X5_laws_A (l : Launch) (G : gG) (E : gS) (h0 tt rd nw th kp sh tu n1 n2 n3 n4 n5 n6 n7 n8 t1 t2 t3 t4 t5 t6 t7 t8 co en sk c0 c1 c2 c3 c4 c5 e0 e1 e2 e3 e4 e5 qn qo ql rr : Nat) (jg : Nat) (pb : Nat) (lw : Nat) (tx : Nat) (him : Int32) (wr : Int32) (tj : Int32) (tb : Int32) (tl : Int32) (fc : Nat → Option Nat) (fe : Nat → Option Nat) (fn : Nat → Option Nat) (fql : Nat → Nat) (fso : Nat → Int32) (fmi : Nat → Int32) (fpa : Nat → Int32) (fki : Nat → Int32) (fmo : Nat → Int32) (fsz : Nat → Int32) (frd : Nat → Int32) (unm : Nat → Int32) (uso : Nat → Int32) (umi : Nat → Int32) (upa : Nat → Int32) (uki : Nat → Int32) (umo : Nat → Int32) (usz : Nat → Int32) (urd : Nat → Int32) (fer0 : Nat → Nat) (fcr0 : Nat → Int32) (fer1 : Nat → Nat) (fcr1 : Nat → Int32) (fer2 : Nat → Nat) (fcr2 : Nat → Int32) (fer3 : Nat → Nat) (fcr3 : Nat → Int32) (fer4 : Nat → Nat) (fcr4 : Nat → Int32) (fer5 : Nat → Nat) (fcr5 : Nat → Int32) (fsk : Nat → Int32) (fqo : Nat → Int32) (frr : Nat → Int32) (sn : Nat) (v1 : Int32) (sz : Nat) (hsn : sn < 4) (hrw : fn sn = some rr) (hql : ∀ q9, q9 < 4 → fql q9 ≤ 40) (hc0 : fc 0 = some c0) (hc1 : fc 1 = some c1) (hc2 : fc 2 = some c2) (hc3 : fc 3 = some c3) (hc4 : fc 4 = some c4) (hc5 : fc 5 = some c5) (he0 : fe 0 = some e0) (he1 : fe 1 = some e1) (he2 : fe 2 = some e2) (he3 : fe 3 = some e3) (he4 : fe 4 = some e4) (he5 : fe 5 = some e5) (hw0 : 0 < tx → mWx fcr0 fer0) (hw1 : 1 < tx → mWx fcr1 fer1) (hw2 : 2 < tx → mWx fcr2 fer2) (hw3 : 3 < tx → mWx fcr3 fer3) (hw4 : 4 < tx → mWx fcr4 fer4) (hw5 : 5 < tx → mWx fcr5 fer5) (htx : tx ≤ 6) (hjg : jg ≤ 4) (hpb : pb ≤ 6) : Met l yX5_laws wsX5_laws ({ frames := 6, cells := 0, slots := 0, locals := 441 }) (gPreE G E [.ref h0, .int (nI sn), .int v1] [zo5 h0 tt rd nw th kp sh tu him, zo0 nw tt n1 n2 n3 n4 n5 n6 n7 n8 (nI jg) (nI pb) (nI lw), zi G n2 4 fso, zi G n3 4 fmi, zi G n4 4 fpa, zi G n5 6 fki, zi G n6 6 fmo, zi G n7 6 fsz, zi G n8 6 frd, zo0 th tt t1 t2 t3 t4 t5 t6 t7 t8 tj tb tl, zi G t1 6 unm, zi G t2 4 uso, zi G t3 4 umi, zi G t4 4 upa, zi G t5 6 uki, zi G t6 6 umo, zi G t7 6 usz, zi G t8 6 urd, zo3 tt co en sk wr (nI tx), zr G co 6 fc, zr G en 6 fe, zi G c0 160 fcr0, zi G c1 160 fcr1, zi G c2 160 fcr2, zi G c3 160 fcr3, zi G c4 160 fcr4, zi G c5 160 fcr5, zi G e0 3 (nF fer0), zi G e1 3 (nF fer1), zi G e2 3 (nF fer2), zi G e3 3 (nF fer3), zi G e4 3 (nF fer4), zi G e5 3 (nF fer5), zi G sk 32 fsk, zo2 sh qn qo ql, zr G qn 4 fn, zi G qo 4 fqo, zi G ql 4 (nF fql), zi G rr 40 frr] sz) (q_X5_laws_A G E h0 tt rd nw th kp sh tu n1 n2 n3 n4 n5 n6 n7 n8 t1 t2 t3 t4 t5 t6 t7 t8 co en sk c0 c1 c2 c3 c4 c5 e0 e1 e2 e3 e4 e5 qn qo ql rr jg pb lw tx him wr tj tb tl fc fe fn fql fso fmi fpa fki fmo fsz frd unm uso umi upa uki umo usz urd fer0 fcr0 fer1 fcr1 fer2 fcr2 fer3 fcr3 fer4 fcr4 fer5 fcr5 fsk fqo frr sn v1 (va_A [zo5 h0 tt rd nw th kp sh tu him, zo0 nw tt n1 n2 n3 n4 n5 n6 n7 n8 (nI jg) (nI pb) (nI lw), zi G n2 4 fso, zi G n3 4 fmi, zi G n4 4 fpa, zi G n5 6 fki, zi G n6 6 fmo, zi G n7 6 fsz, zi G n8 6 frd, zo0 th tt t1 t2 t3 t4 t5 t6 t7 t8 tj tb tl, zi G t1 6 unm, zi G t2 4 uso, zi G t3 4 umi, zi G t4 4 upa, zi G t5 6 uki, zi G t6 6 umo, zi G t7 6 usz, zi G t8 6 urd, zo3 tt co en sk wr (nI tx), zr G co 6 fc, zr G en 6 fe, zi G c0 160 fcr0, zi G c1 160 fcr1, zi G c2 160 fcr2, zi G c3 160 fcr3, zi G c4 160 fcr4, zi G c5 160 fcr5, zi G e0 3 (nF fer0), zi G e1 3 (nF fer1), zi G e2 3 (nF fer2), zi G e3 3 (nF fer3), zi G e4 3 (nF fer4), zi G e5 3 (nF fer5), zi G sk 32 fsk, zo2 sh qn qo ql, zr G qn 4 fn, zi G qo 4 fqo, zi G ql 4 (nF fql), zi G rr 40 frr] sz)) 0 0 (va_A [zo5 h0 tt rd nw th kp sh tu him, zo0 nw tt n1 n2 n3 n4 n5 n6 n7 n8 (nI jg) (nI pb) (nI lw), zi G n2 4 fso, zi G n3 4 fmi, zi G n4 4 fpa, zi G n5 6 fki, zi G n6 6 fmo, zi G n7 6 fsz, zi G n8 6 frd, zo0 th tt t1 t2 t3 t4 t5 t6 t7 t8 tj tb tl, zi G t1 6 unm, zi G t2 4 uso, zi G t3 4 umi, zi G t4 4 upa, zi G t5 6 uki, zi G t6 6 umo, zi G t7 6 usz, zi G t8 6 urd, zo3 tt co en sk wr (nI tx), zr G co 6 fc, zr G en 6 fe, zi G c0 160 fcr0, zi G c1 160 fcr1, zi G c2 160 fcr2, zi G c3 160 fcr3, zi G c4 160 fcr4, zi G c5 160 fcr5, zi G e0 3 (nF fer0), zi G e1 3 (nF fer1), zi G e2 3 (nF fer2), zi G e3 3 (nF fer3), zi G e4 3 (nF fer4), zi G e5 3 (nF fer5), zi G sk 32 fsk, zo2 sh qn qo ql, zr G qn 4 fn, zi G qo 4 fqo, zi G ql 4 (nF fql), zi G rr 40 frr] sz) := by
  refine Met.ofW (cc := cX5_laws) (maxL := 6) (ret := (some .int)) (by decide +kernel) rfl ?_
  intro p e s m args below meth c s₁ B hml hv
  obtain ⟨rfl, hsz, hP, hK, hD0, hE⟩ := hv
  have hx := B.exec
  have hb := B.bytes
  have hr := B.returns
  have hts := atoms_spec (ws := wsX5_laws) B.pre
  have hown : s.vm.findClass RX5 = some m.cls := findClass_of_methodNamed B.named
  have hlocks := B.notSynchronized
  subst hsz
  have hD := hD0.self (sz := s.heap.size)
  generalize hAe : va_A [zo5 h0 tt rd nw th kp sh tu him, zo0 nw tt n1 n2 n3 n4 n5 n6 n7 n8 (nI jg) (nI pb) (nI lw), zi G n2 4 fso, zi G n3 4 fmi, zi G n4 4 fpa, zi G n5 6 fki, zi G n6 6 fmo, zi G n7 6 fsz, zi G n8 6 frd, zo0 th tt t1 t2 t3 t4 t5 t6 t7 t8 tj tb tl, zi G t1 6 unm, zi G t2 4 uso, zi G t3 4 umi, zi G t4 4 upa, zi G t5 6 uki, zi G t6 6 umo, zi G t7 6 usz, zi G t8 6 urd, zo3 tt co en sk wr (nI tx), zr G co 6 fc, zr G en 6 fe, zi G c0 160 fcr0, zi G c1 160 fcr1, zi G c2 160 fcr2, zi G c3 160 fcr3, zi G c4 160 fcr4, zi G c5 160 fcr5, zi G e0 3 (nF fer0), zi G e1 3 (nF fer1), zi G e2 3 (nF fer2), zi G e3 3 (nF fer3), zi G e4 3 (nF fer4), zi G e5 3 (nF fer5), zi G sk 32 fsk, zo2 sh qn qo ql, zr G qn 4 fn, zi G qo 4 fqo, zi G ql 4 (nF fql), zi G rr 40 frr] s.heap.size = A at hD hE ⊢
  have hA : ∀ q : Nat, s.heap.size ≤ q → A q := fun q h => by rw [← hAe]; exact Or.inr h
  have hS : va_S A s.heap s.heap [] := va_S.rf
  have hz9 : gPD G A [zo5 h0 tt rd nw th kp sh tu him, zo0 nw tt n1 n2 n3 n4 n5 n6 n7 n8 (nI jg) (nI pb) (nI lw), zi G n2 4 fso, zi G n3 4 fmi, zi G n4 4 fpa, zi G n5 6 fki, zi G n6 6 fmo, zi G n7 6 fsz, zi G n8 6 frd, zo0 th tt t1 t2 t3 t4 t5 t6 t7 t8 tj tb tl, zi G t1 6 unm, zi G t2 4 uso, zi G t3 4 umi, zi G t4 4 upa, zi G t5 6 uki, zi G t6 6 umo, zi G t7 6 usz, zi G t8 6 urd, zo3 tt co en sk wr (nI tx), zr G co 6 fc, zr G en 6 fe, zi G c0 160 fcr0, zi G c1 160 fcr1, zi G c2 160 fcr2, zi G c3 160 fcr3, zi G c4 160 fcr4, zi G c5 160 fcr5, zi G e0 3 (nF fer0), zi G e1 3 (nF fer1), zi G e2 3 (nF fer2), zi G e3 3 (nF fer3), zi G e4 3 (nF fer4), zi G e5 3 (nF fer5), zi G sk 32 fsk, zo2 sh qn qo ql, zr G qn 4 fn, zi G qo 4 fqo, zi G ql 4 (nF fql), zi G rr 40 frr] s.heap := ⟨hP, hD⟩
  have hP := hz9.1
  have hD := hz9.2
  have hl := lv_entry ([.ref h0, .int (nI sn), .int v1]) (n := 6) (Nat.le_of_ble_eq_true rfl)
  rw [lg_entry_eq]
  generalize (lg_sl ([.ref h0, .int (nI sn), .int v1]) ++ List.replicate (6 - (lg_sl ([.ref h0, .int (nI sn), .int v1])).length) Slot.unset).toArray = ls at hl ⊢
  have hl : lv_has ls 6 [zR 0 h0, zI 1 (nI sn), zI 2 v1] := hl
  have kf10 := hts (.fieldLink RX5 10 "PebbleInShoe" "texts" "LPebbleInShoe$Texts;") (by decide +kernel)
  have hiX5 := (by decide +kernel : ∀ w ∈ wsX50, w ∈ wsX5_laws)
  have kf78 := hts (.fieldLink RX5 78 "PebbleInShoe$Texts" "number" "I") (by decide +kernel)
  have hiX3 := (by decide +kernel : ∀ w ∈ wsX30, w ∈ wsX5_laws)
  have kf32 := hts (.fieldLink RX5 32 "PebbleInShoe" "thought" "LPebbleInShoe$Court;") (by decide +kernel)
  have kf81 := hts (.fieldLink RX5 81 "PebbleInShoe$Court" "law" "I") (by decide +kernel)
  have hiX0 := (by decide +kernel : ∀ w ∈ wsX00, w ∈ wsX5_laws)
  refine lv_aload_n hx hb dX5_laws_0 rfl (lv_at hl 0 rfl) ?_
  refine lv_iload_n hx hb dX5_laws_1 rfl (lv_at hl 1 rfl) ?_
  refine lv_iload_n hx hb dX5_laws_2 rfl (lv_at hl 2 rfl) ?_
  refine z_calli [0, 1, 34, 35, 36, 37, 38] (v := m_X5_refusalOf_A jg pb fql fqo frr sn v1) (fun _ _ h => h) (va_runV (As := [.int (nI sn), .int v1]) (rest := []) ⟨hx, hb, hml, hown, hts⟩ (c_X5_refusalOf_A l G E h0 tt rd nw th kp sh tu n1 n2 n3 n4 n5 n6 n7 n8 qn qo ql rr jg pb lw him fn fql fqo frr sn v1 s.heap.size (by first | exact hsn | assumption | omega) (by first | exact hrw | assumption | omega) (by first | exact hql | assumption | omega) (by first | exact hjg | assumption | omega) (by first | exact hpb | assumption | omega)) (cwV 2 hts gX5_laws_X5_refusalOf rfl rfl rfl (by decide +kernel) ⟨Nat.le_of_ble_eq_true rfl, Nat.le_of_ble_eq_true rfl⟩) ⟨gPreE_blind, va_recv (q := (RX5, TX5, 8)) hK hP (ci := 5) (q0 := 0) rfl rfl, fun U hU hW => gPreE_ofF [0, 1, 34, 35, 36, 37, 38] hU hW hK hP hD (by decide +kernel) rfl hE hS hA⟩ rfl rfl hl.1 rfl (lv_room (Nat.le_of_ble_eq_true rfl)) dX5_laws_3 ⟨Nat.le_of_ble_eq_true rfl, Nat.le_of_ble_eq_true rfl⟩) hS hD hA rfl (fun u t H locs ht hvm hB hz1 hk1 hFq hAq hS => ?_)
  obtain ⟨hP1, hK1, hD1⟩ := hB
  have hP := zKeep hP hD [0, 1, 34, 35, 36, 37, 38] hAq hk1 ht hP1 rfl
  refine lv_istore_n (lv' := [zI 3 (m_X5_refusalOf_A jg pb fql fqo frr sn v1), zR 0 h0, zI 1 (nI sn), zI 2 v1]) hx hb dX5_laws_6 rfl hl (by decide +kernel) rfl (fun ls hl => ?_)
  refine lv_iload_n hx hb dX5_laws_7 rfl (lv_at hl 0 rfl) ?_
  refine lv_if_eq (tgt := 13) hx hb dX5_laws_8 (by decide +kernel) (fun c_3 => ?_) (fun c_3 => ?_)
  · skip
    obtain ⟨hjw, hvl⟩ := refusalOf_0 (hql sn hsn) c_3
    have hv_4 : v1 = nI (nC v1) := mHas_eq hjw
    have hk_5 : nC v1 < jg := mHas_lt (by omega) hjw
    refine lv_iconst (v := 0) hx hb dX5_laws_13 (by decide +kernel) ?_
    refine lv_istore (lv' := [zI 4 0, zI 3 (m_X5_refusalOf_A jg pb fql fqo frr sn v1), zR 0 h0, zI 1 (nI sn), zI 2 v1]) hx hb dX5_laws_14 hl (by decide +kernel) rfl (fun ls hl => ?_)
    refine lv_iconst (v := 0) hx hb dX5_laws_16 (by decide +kernel) ?_
    refine lv_istore (lv' := [zI 5 0, zI 4 0, zI 3 (m_X5_refusalOf_A jg pb fql fqo frr sn v1), zR 0 h0, zI 1 (nI sn), zI 2 v1]) hx hb dX5_laws_17 hl (by decide +kernel) rfl (fun ls hl => ?_)
    have loop_19 : ∀ (n9 : Nat) (t19 : Nat) (bi : Int32) (x19t1 : Nat → Int32) (x19sk : Nat → Int32) (x19t2 : Nat → Int32) (x19t3 : Nat → Int32) (x19t4 : Nat → Int32) (x19t5 : Nat → Int32) (x19t6 : Nat → Int32) (x19t7 : Nat → Int32) (x19t8 : Nat → Int32) (zj9l : Int32) (zb9l : Int32) (zl9l : Int32), (t19 ≤ tx) → (p_X5_laws_A_19 fql fso fmi fpa fki fmo fsz frd fer0 fcr0 fer1 fcr1 fer2 fcr2 fer3 fcr3 fer4 fcr4 fer5 fcr5 frr sn v1 (tx - t19) t19 bi = (g_X5_laws_A_19 tx fql fso fmi fpa fki fmo fsz frd fer0 fcr0 fer1 fcr1 fer2 fcr2 fer3 fcr3 fer4 fcr4 fer5 fcr5 frr sn v1)) → (tx - t19) < n9 → ∀ (H : Heap) (locs : List Loc), va_P G.1 vwCl [zo5 h0 tt rd nw th kp sh tu him, zo0 nw tt n1 n2 n3 n4 n5 n6 n7 n8 (nI jg) (nI pb) (nI lw), zi G n2 4 fso, zi G n3 4 fmi, zi G n4 4 fpa, zi G n5 6 fki, zi G n6 6 fmo, zi G n7 6 fsz, zi G n8 6 frd, zo0 th tt t1 t2 t3 t4 t5 t6 t7 t8 zj9l zb9l zl9l, zi G t1 6 x19t1, zi G t2 4 x19t2, zi G t3 4 x19t3, zi G t4 4 x19t4, zi G t5 6 x19t5, zi G t6 6 x19t6, zi G t7 6 x19t7, zi G t8 6 x19t8, zo3 tt co en sk wr (nI tx), zr G co 6 fc, zr G en 6 fe, zi G c0 160 fcr0, zi G c1 160 fcr1, zi G c2 160 fcr2, zi G c3 160 fcr3, zi G c4 160 fcr4, zi G c5 160 fcr5, zi G e0 3 (nF fer0), zi G e1 3 (nF fer1), zi G e2 3 (nF fer2), zi G e3 3 (nF fer3), zi G e4 3 (nF fer4), zi G e5 3 (nF fer5), zi G sk 32 x19sk, zo2 sh qn qo ql, zr G qn 4 fn, zi G qo 4 fqo, zi G ql 4 (nF fql), zi G rr 40 frr] H → va_D A [zo5 h0 tt rd nw th kp sh tu him, zo0 nw tt n1 n2 n3 n4 n5 n6 n7 n8 (nI jg) (nI pb) (nI lw), zi G n2 4 fso, zi G n3 4 fmi, zi G n4 4 fpa, zi G n5 6 fki, zi G n6 6 fmo, zi G n7 6 fsz, zi G n8 6 frd, zo0 th tt t1 t2 t3 t4 t5 t6 t7 t8 zj9l zb9l zl9l, zi G t1 6 x19t1, zi G t2 4 x19t2, zi G t3 4 x19t3, zi G t4 4 x19t4, zi G t5 6 x19t5, zi G t6 6 x19t6, zi G t7 6 x19t7, zi G t8 6 x19t8, zo3 tt co en sk wr (nI tx), zr G co 6 fc, zr G en 6 fe, zi G c0 160 fcr0, zi G c1 160 fcr1, zi G c2 160 fcr2, zi G c3 160 fcr3, zi G c4 160 fcr4, zi G c5 160 fcr5, zi G e0 3 (nF fer0), zi G e1 3 (nF fer1), zi G e2 3 (nF fer2), zi G e3 3 (nF fer3), zi G e4 3 (nF fer4), zi G e5 3 (nF fer5), zi G sk 32 x19sk, zo2 sh qn qo ql, zr G qn 4 fn, zi G qo 4 fqo, zi G ql 4 (nF fql), zi G rr 40 frr] → va_S A s.heap H locs → ∀ ls : Array Slot, lv_has ls 6 [zI 5 (nI t19), zI 4 bi, zI 3 (m_X5_refusalOf_A jg pb fql fqo frr sn v1), zR 0 h0, zI 1 (nI sn), zI 2 v1] → W p l e (headSpec wsX5_laws ({ frames := 6, cells := 0, slots := 0, locals := 441 })).room s m ([.ref h0, .int (nI sn), .int v1] : List Value).toArray below meth c H locs 0 0 (MQ below (q_X5_laws_A G E h0 tt rd nw th kp sh tu n1 n2 n3 n4 n5 n6 n7 n8 t1 t2 t3 t4 t5 t6 t7 t8 co en sk c0 c1 c2 c3 c4 c5 e0 e1 e2 e3 e4 e5 qn qo ql rr jg pb lw tx him wr tj tb tl fc fe fn fql fso fmi fpa fki fmo fsz frd unm uso umi upa uki umo usz urd fer0 fcr0 fer1 fcr1 fer2 fcr2 fer3 fcr3 fer4 fcr4 fer5 fcr5 fsk fqo frr sn v1 A) ([.ref h0, .int (nI sn), .int v1] : List Value).toArray s 0 0 A) (F0 m 19 ls []) := by
      intro n9
      induction n9 with
      | zero => intro t19 bi x19t1 x19sk x19t2 x19t3 x19t4 x19t5 x19t6 x19t7 x19t8 zj9l zb9l zl9l ht19 R19 hm9_19; exact absurd hm9_19 (Nat.not_lt_zero _)
      | succ n9 ih9_19 =>
        intro t19 bi x19t1 x19sk x19t2 x19t3 x19t4 x19t5 x19t6 x19t7 x19t8 zj9l zb9l zl9l ht19 R19 hm9_19 H locs hP hD hS ls hl
        refine lv_iload hx hb dX5_laws_19 (lv_at hl 0 rfl) ?_
        refine g_aget (D := G.1) (ci := 5) (v := .ref tt) (C := RX5) (T := TX5) (N := 8) hx hb dX5_laws_21 rfl (lv_at hl 3 rfl) hts hiX5 hown hK hP 0 rfl rfl 0 (by decide +kernel) kf10 (fun _ h9 => h9) rfl dX5_laws_22 ?_
        refine va_get (D := G.1) (ci := 3) (v := .int (nI tx)) (C := RX3) (T := TX3) (N := 5) hx hb hts hiX3 hown hK hP 18 rfl rfl 4 (by decide +kernel) kf78 (fun _ h9 => h9) rfl dX5_laws_25 ?_
        refine lv_icmp_ge (tgt := 69) hx hb dX5_laws_28 (by decide +kernel) (fun c_6 => ?_) (fun c_6 => ?_)
        · skip
          have c_6N : tx ≤ t19 := nI_le1 (a := tx) (b := t19) (by omega) (by omega) c_6
          have hF19 : (g_X5_laws_A_19 tx fql fso fmi fpa fki fmo fsz frd fer0 fcr0 fer1 fcr1 fer2 fcr2 fer3 fcr3 fer4 fcr4 fer5 fcr5 frr sn v1) = (t19, bi) := by rw [← R19, show tx - t19 = 0 by omega]; rfl
          have hE19_0 : t19 = ((g_X5_laws_A_19 tx fql fso fmi fpa fki fmo fsz frd fer0 fcr0 fer1 fcr1 fer2 fcr2 fer3 fcr3 fer4 fcr4 fer5 fcr5 frr sn v1).1) := by rw [hF19]
          have hE19_1 : bi = ((g_X5_laws_A_19 tx fql fso fmi fpa fki fmo fsz frd fer0 fcr0 fer1 fcr1 fer2 fcr2 fer3 fcr3 fer4 fcr4 fer5 fcr5 frr sn v1).2) := by rw [hF19]
          clear hF19 R19
          subst hE19_0
          subst hE19_1
          refine lv_iload hx hb dX5_laws_69 (lv_at hl 1 rfl) ?_
          have hpost : (fun (r : Int32) (u : Int32 × Int32 × Int32 × (Nat → Int32) × (Nat → Int32) × (Nat → Int32) × (Nat → Int32) × (Nat → Int32) × (Nat → Int32) × (Nat → Int32) × (Nat → Int32) × (Nat → Int32)) => match u with | (zj9, zb9, zl9, yt1, yt2, yt3, yt4, yt5, yt6, yt7, yt8, ysk) => r = m_X5_laws_A jg pb tx fql fso fmi fpa fki fmo fsz frd fer0 fcr0 fer1 fcr1 fer2 fcr2 fer3 fcr3 fer4 fcr4 fer5 fcr5 fqo frr sn v1) ((g_X5_laws_A_19 tx fql fso fmi fpa fki fmo fsz frd fer0 fcr0 fer1 fcr1 fer2 fcr2 fer3 fcr3 fer4 fcr4 fer5 fcr5 frr sn v1).2) (zj9l, zb9l, zl9l, x19t1, x19t2, x19t3, x19t4, x19t5, x19t6, x19t7, x19t8, x19sk) := (show m_X5_laws_A jg pb tx fql fso fmi fpa fki fmo fsz frd fer0 fcr0 fer1 fcr1 fer2 fcr2 fer3 fcr3 fer4 fcr4 fer5 fcr5 fqo frr sn v1 = ((g_X5_laws_A_19 tx fql fso fmi fpa fki fmo fsz frd fer0 fcr0 fer1 fcr1 fer2 fcr2 fer3 fcr3 fer4 fcr4 fer5 fcr5 frr sn v1).2) from by unfold m_X5_laws_A; rw [if_pos c_3]).symm
          exact W.iret (v := ((g_X5_laws_A_19 tx fql fso fmi fpa fki fmo fsz frd fer0 fcr0 fer1 fcr1 fer2 fcr2 fer3 fcr3 fer4 fcr4 fer5 fcr5 frr sn v1).2)) hx hb hr (fun t ht hW => ⟨⟨((g_X5_laws_A_19 tx fql fso fmi fpa fki fmo fsz frd fer0 fcr0 fer1 fcr1 fer2 fcr2 fer3 fcr3 fer4 fcr4 fer5 fcr5 frr sn v1).2), (zj9l, zb9l, zl9l, x19t1, x19t2, x19t3, x19t4, x19t5, x19t6, x19t7, x19t8, x19sk), rfl, hpost, by rw [ht]; exact hP, va_K.moved hW.alike hK, hD⟩, hS.F ht⟩) hS.2.2 dX5_laws_71
        · skip
          have c_6N : t19 < tx := nI_le0 (a := tx) (b := t19) (by omega) (by omega) c_6
          refine lv_aload_n hx hb dX5_laws_31 rfl (lv_at hl 3 rfl) ?_
          refine z_callv [0, 1, 2, 3, 4, 5, 6, 7, 8, 9, 11, 12, 13, 14, 15, 16, 17] (va_runV (As := []) (rest := []) ⟨hx, hb, hml, hown, hts⟩ (c_X5_think l G h0 tt rd nw th kp sh tu n1 n2 n3 n4 n5 n6 n7 n8 t1 t2 t3 t4 t5 t6 t7 t8 jg pb lw him zj9l zb9l zl9l fso fmi fpa fki fmo fsz frd x19t2 x19t3 x19t4 x19t5 x19t6 x19t7 x19t8 H.size (by first | exact hjg | assumption | omega) (by first | exact hpb | assumption | omega)) (cwV 0 hts gX5_laws_X5_think rfl rfl rfl (by decide +kernel) ⟨Nat.le_of_ble_eq_true rfl, Nat.le_of_ble_eq_true rfl⟩) ⟨gPre_blind, va_recv (q := (RX5, TX5, 8)) hK hP (ci := 5) (q0 := 0) rfl rfl, fun U hU hW => gPre_ofF [0, 1, 2, 3, 4, 5, 6, 7, 8, 9, 11, 12, 13, 14, 15, 16, 17] hU hW hK hP hD (by decide +kernel) rfl⟩ rfl rfl hl.1 rfl (lv_room (Nat.le_of_ble_eq_true rfl)) dX5_laws_32 ⟨Nat.le_of_ble_eq_true rfl, Nat.le_of_ble_eq_true rfl⟩) hS hD hA rfl (fun u t H locs ht hvm w_8 hB hz1 hk1 hFq hAq hS => ?_)
          obtain ⟨hP1, hK1, hD1⟩ := hB
          have hz9 : gPD G A [zo5 h0 tt rd nw th kp sh tu him, zo0 nw tt n1 n2 n3 n4 n5 n6 n7 n8 (nI jg) (nI pb) (nI lw), zi G n2 4 fso, zi G n3 4 fmi, zi G n4 4 fpa, zi G n5 6 fki, zi G n6 6 fmo, zi G n7 6 fsz, zi G n8 6 frd, zo0 th tt t1 t2 t3 t4 t5 t6 t7 t8 (nI jg) (nI pb) (nI lw), zi G t1 6 x19t1, zi G t2 4 fso, zi G t3 4 fmi, zi G t4 4 fpa, zi G t5 6 fki, zi G t6 6 fmo, zi G t7 6 fsz, zi G t8 6 frd, zo3 tt co en sk wr (nI tx), zr G co 6 fc, zr G en 6 fe, zi G c0 160 fcr0, zi G c1 160 fcr1, zi G c2 160 fcr2, zi G c3 160 fcr3, zi G c4 160 fcr4, zi G c5 160 fcr5, zi G e0 3 (nF fer0), zi G e1 3 (nF fer1), zi G e2 3 (nF fer2), zi G e3 3 (nF fer3), zi G e4 3 (nF fer4), zi G e5 3 (nF fer5), zi G sk 32 x19sk, zo2 sh qn qo ql, zr G qn 4 fn, zi G qo 4 fqo, zi G ql 4 (nF fql), zi G rr 40 frr] H := zFill hP hD [0, 1, 2, 3, 4, 5, 6, 7, 8, 9, 11, 12, 13, 14, 15, 16, 17] [1, 2, 3, 4, 5, 6, 7, 8, 9, 10, 0, 11, 12, 13, 14, 15, 16, 17] hAq hk1 hFq ht hP1 hD1 rfl (by decide +kernel)
          have hP := hz9.1
          have hD := hz9.2
          refine g_aget (D := G.1) (ci := 5) (v := .ref th) (C := RX5) (T := TX5) (N := 8) hx hb dX5_laws_35 rfl (lv_at hl 3 rfl) hts hiX5 hown hK hP 0 rfl rfl 3 (by decide +kernel) kf32 (fun _ h9 => h9) rfl dX5_laws_36 ?_
          refine lv_iload hx hb dX5_laws_39 (lv_at hl 0 rfl) ?_
          refine va_put (D := G.1) (ci := 0) (v := .int (nI t19)) (ty := .int) (C := RX0) (T := TX0) (N := 12) hx hb hts hiX0 tyX0 tyX0_ok nmX0 hown hK hP hD hS 9 rfl rfl 11 (by decide +kernel) kf81 (fun _ h9 => h9) rfl (by decide +kernel) rfl rfl (Nat.le_of_ble_eq_true rfl) dX5_laws_41 (fun H locs hP hD hS => ?_)
          have hz9 : gPD G A [zo5 h0 tt rd nw th kp sh tu him, zo0 nw tt n1 n2 n3 n4 n5 n6 n7 n8 (nI jg) (nI pb) (nI lw), zi G n2 4 fso, zi G n3 4 fmi, zi G n4 4 fpa, zi G n5 6 fki, zi G n6 6 fmo, zi G n7 6 fsz, zi G n8 6 frd, zo0 th tt t1 t2 t3 t4 t5 t6 t7 t8 (nI jg) (nI pb) (nI t19), zi G t1 6 x19t1, zi G t2 4 fso, zi G t3 4 fmi, zi G t4 4 fpa, zi G t5 6 fki, zi G t6 6 fmo, zi G t7 6 fsz, zi G t8 6 frd, zo3 tt co en sk wr (nI tx), zr G co 6 fc, zr G en 6 fe, zi G c0 160 fcr0, zi G c1 160 fcr1, zi G c2 160 fcr2, zi G c3 160 fcr3, zi G c4 160 fcr4, zi G c5 160 fcr5, zi G e0 3 (nF fer0), zi G e1 3 (nF fer1), zi G e2 3 (nF fer2), zi G e3 3 (nF fer3), zi G e4 3 (nF fer4), zi G e5 3 (nF fer5), zi G sk 32 x19sk, zo2 sh qn qo ql, zr G qn 4 fn, zi G qo 4 fqo, zi G ql 4 (nF fql), zi G rr 40 frr] H := ⟨hP, hD⟩
          have hP := hz9.1
          have hD := hz9.2
          refine lv_aload_n hx hb dX5_laws_44 rfl (lv_at hl 3 rfl) ?_
          refine lv_iload_n hx hb dX5_laws_45 rfl (lv_at hl 4 rfl) ?_
          refine lv_iload_n hx hb dX5_laws_46 rfl (lv_at hl 5 rfl) ?_
          refine g_topi (y := nI (nC v1)) hv_4 ?_
          rcases g06 (show t19 < 6 by omega) with hq | hq | hq | hq | hq | hq
          · skip
            refine z_callp [0, 9, 10, 11, 12, 13, 14, 15, 16, 17, 18, 19, 20, 21, 27, 33, 34, 35, 36, 37, 38] (va_runV (As := [.int (nI sn), .int (nI (nC v1))]) (rest := []) ⟨hx, hb, hml, hown, hts⟩ (c_X5_firstOtherwise l G h0 tt rd nw th kp sh tu t1 t2 t3 t4 t5 t6 t7 t8 co en sk c0 e0 qn qo ql rr t19 tx him wr (nI jg) (nI pb) fc fe fn fer0 fql x19t1 fso fmi fpa fki fmo fsz frd fcr0 x19sk fqo frr sn (nC v1) pb H.size (by first | exact hsn | assumption | omega) (by first | exact hrw | assumption | omega) (by first | exact hql | assumption | omega) (by first | exact hj | assumption | omega) (hvl) (hpb) (⟨by omega, htx⟩) (by rw [hq]; exact hc0) (by rw [hq]; exact he0) (hw0 (by omega))) (cwV 2 hts gX5_laws_X5_firstOtherwise rfl rfl rfl (by decide +kernel) ⟨Nat.le_of_ble_eq_true rfl, Nat.le_of_ble_eq_true rfl⟩) ⟨gPre_blind, va_recv (q := (RX5, TX5, 8)) hK hP (ci := 5) (q0 := 0) rfl rfl, fun U hU hW => gPre_ofF [0, 9, 10, 11, 12, 13, 14, 15, 16, 17, 18, 19, 20, 21, 27, 33, 34, 35, 36, 37, 38] hU hW hK hP hD (by decide +kernel) rfl⟩ rfl rfl hl.1 rfl (lv_room (Nat.le_of_ble_eq_true rfl)) dX5_laws_47 ⟨Nat.le_of_ble_eq_true rfl, Nat.le_of_ble_eq_true rfl⟩) hS hD hA rfl (fun r_10 u t H locs ht hvm w_11 hB hz1 hk1 hFq hAq hS => ?_)
            obtain ⟨yt1_12, yt2_13, yt3_14, yt4_15, yt5_16, yt6_17, yt7_18, yt8_19, ysk_20⟩ := u
            obtain ⟨hP1, hK1, hD1⟩ := hB
            have w_11 : r_10 = m_X5_firstOtherwise fer0 fql fso fmi fpa fki fmo fsz frd fcr0 frr sn (nC v1) := w_11
            have hz9 : gPD G A [zo5 h0 tt rd nw th kp sh tu him, zo0 nw tt n1 n2 n3 n4 n5 n6 n7 n8 (nI jg) (nI pb) (nI lw), zi G n2 4 fso, zi G n3 4 fmi, zi G n4 4 fpa, zi G n5 6 fki, zi G n6 6 fmo, zi G n7 6 fsz, zi G n8 6 frd, zo0 th tt t1 t2 t3 t4 t5 t6 t7 t8 (nI jg) (nI pb) (nI t19), zi G t1 6 yt1_12, zi G t2 4 yt2_13, zi G t3 4 yt3_14, zi G t4 4 yt4_15, zi G t5 6 yt5_16, zi G t6 6 yt6_17, zi G t7 6 yt7_18, zi G t8 6 yt8_19, zo3 tt co en sk wr (nI tx), zr G co 6 fc, zr G en 6 fe, zi G c0 160 fcr0, zi G c1 160 fcr1, zi G c2 160 fcr2, zi G c3 160 fcr3, zi G c4 160 fcr4, zi G c5 160 fcr5, zi G e0 3 (nF fer0), zi G e1 3 (nF fer1), zi G e2 3 (nF fer2), zi G e3 3 (nF fer3), zi G e4 3 (nF fer4), zi G e5 3 (nF fer5), zi G sk 32 ysk_20, zo2 sh qn qo ql, zr G qn 4 fn, zi G qo 4 fqo, zi G ql 4 (nF fql), zi G rr 40 frr] H := zFill hP hD [0, 9, 10, 11, 12, 13, 14, 15, 16, 17, 18, 19, 20, 21, 27, 33, 34, 35, 36, 37, 38] [1, 0, 0, 0, 0, 0, 0, 0, 0, 2, 3, 4, 5, 6, 7, 8, 9, 10, 11, 12, 13, 14, 0, 0, 0, 0, 0, 15, 0, 0, 0, 0, 0, 16, 17, 18, 19, 20, 21] hAq hk1 hFq ht hP1 hD1 rfl (by decide +kernel)
            have hP := hz9.1
            have hD := hz9.2
            have w_11 : r_10 = m_X5_firstOtherwise (eAt fer0 fer1 fer2 fer3 fer4 fer5 t19) fql fso fmi fpa fki fmo fsz frd (cAt fcr0 fcr1 fcr2 fcr3 fcr4 fcr5 t19) frr sn (nC v1) := w_11.trans (by rw [hq]; rfl)
            subst w_11
            refine lv_iconst (v := -1) hx hb dX5_laws_50 (by decide +kernel) ?_
            refine lv_icmp_ne (tgt := 63) hx hb dX5_laws_51 (by decide +kernel) (fun c_21 => ?_) (fun c_21 => ?_)
            · skip
              refine lv_iinc (v := nI (t19 + 1)) (lv' := [zI 5 (nI (t19 + 1)), zI 4 bi, zI 3 (m_X5_refusalOf_A jg pb fql fqo frr sn v1), zR 0 h0, zI 1 (nI sn), zI 2 v1]) hx hb dX5_laws_63 hl (k := 0) rfl (nI_add t19 1) (by decide +kernel) rfl (fun ls hl => ?_)
              refine lv_goto (tgt := 19) hx hb dX5_laws_66 (by decide +kernel) ?_
              exact ih9_19 (t19 + 1) bi yt1_12 ysk_20 yt2_13 yt3_14 yt4_15 yt5_16 yt6_17 yt7_18 yt8_19 (nI jg) (nI pb) (nI t19) (by omega) (Eq.trans (Eq.symm ((congrArg (fun z9 => p_X5_laws_A_19 fql fso fmi fpa fki fmo fsz frd fer0 fcr0 fer1 fcr1 fer2 fcr2 fer3 fcr3 fer4 fcr4 fer5 fcr5 frr sn v1 (z9) t19 bi) (show tx - t19 = tx - (t19 + 1) + 1 by omega)).trans (by show p_X5_laws_A_19 fql fso fmi fpa fki fmo fsz frd fer0 fcr0 fer1 fcr1 fer2 fcr2 fer3 fcr3 fer4 fcr4 fer5 fcr5 frr sn v1 (tx - (t19 + 1) + 1) t19 bi = _; rw [p_X5_laws_A_19, if_neg c_21]))) R19) (by omega) _ _ hP hD hS ls hl
            · skip
              refine lv_iload hx hb dX5_laws_54 (lv_at hl 1 rfl) ?_
              refine lv_iconst (v := 1) hx hb dX5_laws_56 (by decide +kernel) ?_
              refine lv_iload hx hb dX5_laws_57 (lv_at hl 0 rfl) ?_
              refine lv_ishl hx hb dX5_laws_59 ?_
              refine lv_ior hx hb dX5_laws_60 ?_
              refine lv_istore (lv' := [zI 4 (bi ||| (1 <<< ((nI t19) &&& 31))), zI 5 (nI t19), zI 3 (m_X5_refusalOf_A jg pb fql fqo frr sn v1), zR 0 h0, zI 1 (nI sn), zI 2 v1]) hx hb dX5_laws_61 hl (by decide +kernel) rfl (fun ls hl => ?_)
              refine lv_iinc (v := nI (t19 + 1)) (lv' := [zI 5 (nI (t19 + 1)), zI 4 (bi ||| (1 <<< ((nI t19) &&& 31))), zI 3 (m_X5_refusalOf_A jg pb fql fqo frr sn v1), zR 0 h0, zI 1 (nI sn), zI 2 v1]) hx hb dX5_laws_63 hl (k := 1) rfl (nI_add t19 1) (by decide +kernel) rfl (fun ls hl => ?_)
              refine lv_goto (tgt := 19) hx hb dX5_laws_66 (by decide +kernel) ?_
              exact ih9_19 (t19 + 1) (bi ||| (1 <<< ((nI t19) &&& 31))) yt1_12 ysk_20 yt2_13 yt3_14 yt4_15 yt5_16 yt6_17 yt7_18 yt8_19 (nI jg) (nI pb) (nI t19) (by omega) (Eq.trans (Eq.symm ((congrArg (fun z9 => p_X5_laws_A_19 fql fso fmi fpa fki fmo fsz frd fer0 fcr0 fer1 fcr1 fer2 fcr2 fer3 fcr3 fer4 fcr4 fer5 fcr5 frr sn v1 (z9) t19 bi) (show tx - t19 = tx - (t19 + 1) + 1 by omega)).trans (by show p_X5_laws_A_19 fql fso fmi fpa fki fmo fsz frd fer0 fcr0 fer1 fcr1 fer2 fcr2 fer3 fcr3 fer4 fcr4 fer5 fcr5 frr sn v1 (tx - (t19 + 1) + 1) t19 bi = _; rw [p_X5_laws_A_19, if_pos c_21]))) R19) (by omega) _ _ hP hD hS ls hl
          · skip
            refine z_callp [0, 9, 10, 11, 12, 13, 14, 15, 16, 17, 18, 19, 20, 22, 28, 33, 34, 35, 36, 37, 38] (va_runV (As := [.int (nI sn), .int (nI (nC v1))]) (rest := []) ⟨hx, hb, hml, hown, hts⟩ (c_X5_firstOtherwise l G h0 tt rd nw th kp sh tu t1 t2 t3 t4 t5 t6 t7 t8 co en sk c1 e1 qn qo ql rr t19 tx him wr (nI jg) (nI pb) fc fe fn fer1 fql x19t1 fso fmi fpa fki fmo fsz frd fcr1 x19sk fqo frr sn (nC v1) pb H.size (by first | exact hsn | assumption | omega) (by first | exact hrw | assumption | omega) (by first | exact hql | assumption | omega) (by first | exact hj | assumption | omega) (hvl) (hpb) (⟨by omega, htx⟩) (by rw [hq]; exact hc1) (by rw [hq]; exact he1) (hw1 (by omega))) (cwV 2 hts gX5_laws_X5_firstOtherwise rfl rfl rfl (by decide +kernel) ⟨Nat.le_of_ble_eq_true rfl, Nat.le_of_ble_eq_true rfl⟩) ⟨gPre_blind, va_recv (q := (RX5, TX5, 8)) hK hP (ci := 5) (q0 := 0) rfl rfl, fun U hU hW => gPre_ofF [0, 9, 10, 11, 12, 13, 14, 15, 16, 17, 18, 19, 20, 22, 28, 33, 34, 35, 36, 37, 38] hU hW hK hP hD (by decide +kernel) rfl⟩ rfl rfl hl.1 rfl (lv_room (Nat.le_of_ble_eq_true rfl)) dX5_laws_47 ⟨Nat.le_of_ble_eq_true rfl, Nat.le_of_ble_eq_true rfl⟩) hS hD hA rfl (fun r_22 u t H locs ht hvm w_23 hB hz1 hk1 hFq hAq hS => ?_)
            obtain ⟨yt1_24, yt2_25, yt3_26, yt4_27, yt5_28, yt6_29, yt7_30, yt8_31, ysk_32⟩ := u
            obtain ⟨hP1, hK1, hD1⟩ := hB
            have w_23 : r_22 = m_X5_firstOtherwise fer1 fql fso fmi fpa fki fmo fsz frd fcr1 frr sn (nC v1) := w_23
            have hz9 : gPD G A [zo5 h0 tt rd nw th kp sh tu him, zo0 nw tt n1 n2 n3 n4 n5 n6 n7 n8 (nI jg) (nI pb) (nI lw), zi G n2 4 fso, zi G n3 4 fmi, zi G n4 4 fpa, zi G n5 6 fki, zi G n6 6 fmo, zi G n7 6 fsz, zi G n8 6 frd, zo0 th tt t1 t2 t3 t4 t5 t6 t7 t8 (nI jg) (nI pb) (nI t19), zi G t1 6 yt1_24, zi G t2 4 yt2_25, zi G t3 4 yt3_26, zi G t4 4 yt4_27, zi G t5 6 yt5_28, zi G t6 6 yt6_29, zi G t7 6 yt7_30, zi G t8 6 yt8_31, zo3 tt co en sk wr (nI tx), zr G co 6 fc, zr G en 6 fe, zi G c0 160 fcr0, zi G c1 160 fcr1, zi G c2 160 fcr2, zi G c3 160 fcr3, zi G c4 160 fcr4, zi G c5 160 fcr5, zi G e0 3 (nF fer0), zi G e1 3 (nF fer1), zi G e2 3 (nF fer2), zi G e3 3 (nF fer3), zi G e4 3 (nF fer4), zi G e5 3 (nF fer5), zi G sk 32 ysk_32, zo2 sh qn qo ql, zr G qn 4 fn, zi G qo 4 fqo, zi G ql 4 (nF fql), zi G rr 40 frr] H := zFill hP hD [0, 9, 10, 11, 12, 13, 14, 15, 16, 17, 18, 19, 20, 22, 28, 33, 34, 35, 36, 37, 38] [1, 0, 0, 0, 0, 0, 0, 0, 0, 2, 3, 4, 5, 6, 7, 8, 9, 10, 11, 12, 13, 0, 14, 0, 0, 0, 0, 0, 15, 0, 0, 0, 0, 16, 17, 18, 19, 20, 21] hAq hk1 hFq ht hP1 hD1 rfl (by decide +kernel)
            have hP := hz9.1
            have hD := hz9.2
            have w_23 : r_22 = m_X5_firstOtherwise (eAt fer0 fer1 fer2 fer3 fer4 fer5 t19) fql fso fmi fpa fki fmo fsz frd (cAt fcr0 fcr1 fcr2 fcr3 fcr4 fcr5 t19) frr sn (nC v1) := w_23.trans (by rw [hq]; rfl)
            subst w_23
            refine lv_iconst (v := -1) hx hb dX5_laws_50 (by decide +kernel) ?_
            refine lv_icmp_ne (tgt := 63) hx hb dX5_laws_51 (by decide +kernel) (fun c_33 => ?_) (fun c_33 => ?_)
            · skip
              refine lv_iinc (v := nI (t19 + 1)) (lv' := [zI 5 (nI (t19 + 1)), zI 4 bi, zI 3 (m_X5_refusalOf_A jg pb fql fqo frr sn v1), zR 0 h0, zI 1 (nI sn), zI 2 v1]) hx hb dX5_laws_63 hl (k := 0) rfl (nI_add t19 1) (by decide +kernel) rfl (fun ls hl => ?_)
              refine lv_goto (tgt := 19) hx hb dX5_laws_66 (by decide +kernel) ?_
              exact ih9_19 (t19 + 1) bi yt1_24 ysk_32 yt2_25 yt3_26 yt4_27 yt5_28 yt6_29 yt7_30 yt8_31 (nI jg) (nI pb) (nI t19) (by omega) (Eq.trans (Eq.symm ((congrArg (fun z9 => p_X5_laws_A_19 fql fso fmi fpa fki fmo fsz frd fer0 fcr0 fer1 fcr1 fer2 fcr2 fer3 fcr3 fer4 fcr4 fer5 fcr5 frr sn v1 (z9) t19 bi) (show tx - t19 = tx - (t19 + 1) + 1 by omega)).trans (by show p_X5_laws_A_19 fql fso fmi fpa fki fmo fsz frd fer0 fcr0 fer1 fcr1 fer2 fcr2 fer3 fcr3 fer4 fcr4 fer5 fcr5 frr sn v1 (tx - (t19 + 1) + 1) t19 bi = _; rw [p_X5_laws_A_19, if_neg c_33]))) R19) (by omega) _ _ hP hD hS ls hl
            · skip
              refine lv_iload hx hb dX5_laws_54 (lv_at hl 1 rfl) ?_
              refine lv_iconst (v := 1) hx hb dX5_laws_56 (by decide +kernel) ?_
              refine lv_iload hx hb dX5_laws_57 (lv_at hl 0 rfl) ?_
              refine lv_ishl hx hb dX5_laws_59 ?_
              refine lv_ior hx hb dX5_laws_60 ?_
              refine lv_istore (lv' := [zI 4 (bi ||| (1 <<< ((nI t19) &&& 31))), zI 5 (nI t19), zI 3 (m_X5_refusalOf_A jg pb fql fqo frr sn v1), zR 0 h0, zI 1 (nI sn), zI 2 v1]) hx hb dX5_laws_61 hl (by decide +kernel) rfl (fun ls hl => ?_)
              refine lv_iinc (v := nI (t19 + 1)) (lv' := [zI 5 (nI (t19 + 1)), zI 4 (bi ||| (1 <<< ((nI t19) &&& 31))), zI 3 (m_X5_refusalOf_A jg pb fql fqo frr sn v1), zR 0 h0, zI 1 (nI sn), zI 2 v1]) hx hb dX5_laws_63 hl (k := 1) rfl (nI_add t19 1) (by decide +kernel) rfl (fun ls hl => ?_)
              refine lv_goto (tgt := 19) hx hb dX5_laws_66 (by decide +kernel) ?_
              exact ih9_19 (t19 + 1) (bi ||| (1 <<< ((nI t19) &&& 31))) yt1_24 ysk_32 yt2_25 yt3_26 yt4_27 yt5_28 yt6_29 yt7_30 yt8_31 (nI jg) (nI pb) (nI t19) (by omega) (Eq.trans (Eq.symm ((congrArg (fun z9 => p_X5_laws_A_19 fql fso fmi fpa fki fmo fsz frd fer0 fcr0 fer1 fcr1 fer2 fcr2 fer3 fcr3 fer4 fcr4 fer5 fcr5 frr sn v1 (z9) t19 bi) (show tx - t19 = tx - (t19 + 1) + 1 by omega)).trans (by show p_X5_laws_A_19 fql fso fmi fpa fki fmo fsz frd fer0 fcr0 fer1 fcr1 fer2 fcr2 fer3 fcr3 fer4 fcr4 fer5 fcr5 frr sn v1 (tx - (t19 + 1) + 1) t19 bi = _; rw [p_X5_laws_A_19, if_pos c_33]))) R19) (by omega) _ _ hP hD hS ls hl
          · skip
            refine z_callp [0, 9, 10, 11, 12, 13, 14, 15, 16, 17, 18, 19, 20, 23, 29, 33, 34, 35, 36, 37, 38] (va_runV (As := [.int (nI sn), .int (nI (nC v1))]) (rest := []) ⟨hx, hb, hml, hown, hts⟩ (c_X5_firstOtherwise l G h0 tt rd nw th kp sh tu t1 t2 t3 t4 t5 t6 t7 t8 co en sk c2 e2 qn qo ql rr t19 tx him wr (nI jg) (nI pb) fc fe fn fer2 fql x19t1 fso fmi fpa fki fmo fsz frd fcr2 x19sk fqo frr sn (nC v1) pb H.size (by first | exact hsn | assumption | omega) (by first | exact hrw | assumption | omega) (by first | exact hql | assumption | omega) (by first | exact hj | assumption | omega) (hvl) (hpb) (⟨by omega, htx⟩) (by rw [hq]; exact hc2) (by rw [hq]; exact he2) (hw2 (by omega))) (cwV 2 hts gX5_laws_X5_firstOtherwise rfl rfl rfl (by decide +kernel) ⟨Nat.le_of_ble_eq_true rfl, Nat.le_of_ble_eq_true rfl⟩) ⟨gPre_blind, va_recv (q := (RX5, TX5, 8)) hK hP (ci := 5) (q0 := 0) rfl rfl, fun U hU hW => gPre_ofF [0, 9, 10, 11, 12, 13, 14, 15, 16, 17, 18, 19, 20, 23, 29, 33, 34, 35, 36, 37, 38] hU hW hK hP hD (by decide +kernel) rfl⟩ rfl rfl hl.1 rfl (lv_room (Nat.le_of_ble_eq_true rfl)) dX5_laws_47 ⟨Nat.le_of_ble_eq_true rfl, Nat.le_of_ble_eq_true rfl⟩) hS hD hA rfl (fun r_34 u t H locs ht hvm w_35 hB hz1 hk1 hFq hAq hS => ?_)
            obtain ⟨yt1_36, yt2_37, yt3_38, yt4_39, yt5_40, yt6_41, yt7_42, yt8_43, ysk_44⟩ := u
            obtain ⟨hP1, hK1, hD1⟩ := hB
            have w_35 : r_34 = m_X5_firstOtherwise fer2 fql fso fmi fpa fki fmo fsz frd fcr2 frr sn (nC v1) := w_35
            have hz9 : gPD G A [zo5 h0 tt rd nw th kp sh tu him, zo0 nw tt n1 n2 n3 n4 n5 n6 n7 n8 (nI jg) (nI pb) (nI lw), zi G n2 4 fso, zi G n3 4 fmi, zi G n4 4 fpa, zi G n5 6 fki, zi G n6 6 fmo, zi G n7 6 fsz, zi G n8 6 frd, zo0 th tt t1 t2 t3 t4 t5 t6 t7 t8 (nI jg) (nI pb) (nI t19), zi G t1 6 yt1_36, zi G t2 4 yt2_37, zi G t3 4 yt3_38, zi G t4 4 yt4_39, zi G t5 6 yt5_40, zi G t6 6 yt6_41, zi G t7 6 yt7_42, zi G t8 6 yt8_43, zo3 tt co en sk wr (nI tx), zr G co 6 fc, zr G en 6 fe, zi G c0 160 fcr0, zi G c1 160 fcr1, zi G c2 160 fcr2, zi G c3 160 fcr3, zi G c4 160 fcr4, zi G c5 160 fcr5, zi G e0 3 (nF fer0), zi G e1 3 (nF fer1), zi G e2 3 (nF fer2), zi G e3 3 (nF fer3), zi G e4 3 (nF fer4), zi G e5 3 (nF fer5), zi G sk 32 ysk_44, zo2 sh qn qo ql, zr G qn 4 fn, zi G qo 4 fqo, zi G ql 4 (nF fql), zi G rr 40 frr] H := zFill hP hD [0, 9, 10, 11, 12, 13, 14, 15, 16, 17, 18, 19, 20, 23, 29, 33, 34, 35, 36, 37, 38] [1, 0, 0, 0, 0, 0, 0, 0, 0, 2, 3, 4, 5, 6, 7, 8, 9, 10, 11, 12, 13, 0, 0, 14, 0, 0, 0, 0, 0, 15, 0, 0, 0, 16, 17, 18, 19, 20, 21] hAq hk1 hFq ht hP1 hD1 rfl (by decide +kernel)
            have hP := hz9.1
            have hD := hz9.2
            have w_35 : r_34 = m_X5_firstOtherwise (eAt fer0 fer1 fer2 fer3 fer4 fer5 t19) fql fso fmi fpa fki fmo fsz frd (cAt fcr0 fcr1 fcr2 fcr3 fcr4 fcr5 t19) frr sn (nC v1) := w_35.trans (by rw [hq]; rfl)
            subst w_35
            refine lv_iconst (v := -1) hx hb dX5_laws_50 (by decide +kernel) ?_
            refine lv_icmp_ne (tgt := 63) hx hb dX5_laws_51 (by decide +kernel) (fun c_45 => ?_) (fun c_45 => ?_)
            · skip
              refine lv_iinc (v := nI (t19 + 1)) (lv' := [zI 5 (nI (t19 + 1)), zI 4 bi, zI 3 (m_X5_refusalOf_A jg pb fql fqo frr sn v1), zR 0 h0, zI 1 (nI sn), zI 2 v1]) hx hb dX5_laws_63 hl (k := 0) rfl (nI_add t19 1) (by decide +kernel) rfl (fun ls hl => ?_)
              refine lv_goto (tgt := 19) hx hb dX5_laws_66 (by decide +kernel) ?_
              exact ih9_19 (t19 + 1) bi yt1_36 ysk_44 yt2_37 yt3_38 yt4_39 yt5_40 yt6_41 yt7_42 yt8_43 (nI jg) (nI pb) (nI t19) (by omega) (Eq.trans (Eq.symm ((congrArg (fun z9 => p_X5_laws_A_19 fql fso fmi fpa fki fmo fsz frd fer0 fcr0 fer1 fcr1 fer2 fcr2 fer3 fcr3 fer4 fcr4 fer5 fcr5 frr sn v1 (z9) t19 bi) (show tx - t19 = tx - (t19 + 1) + 1 by omega)).trans (by show p_X5_laws_A_19 fql fso fmi fpa fki fmo fsz frd fer0 fcr0 fer1 fcr1 fer2 fcr2 fer3 fcr3 fer4 fcr4 fer5 fcr5 frr sn v1 (tx - (t19 + 1) + 1) t19 bi = _; rw [p_X5_laws_A_19, if_neg c_45]))) R19) (by omega) _ _ hP hD hS ls hl
            · skip
              refine lv_iload hx hb dX5_laws_54 (lv_at hl 1 rfl) ?_
              refine lv_iconst (v := 1) hx hb dX5_laws_56 (by decide +kernel) ?_
              refine lv_iload hx hb dX5_laws_57 (lv_at hl 0 rfl) ?_
              refine lv_ishl hx hb dX5_laws_59 ?_
              refine lv_ior hx hb dX5_laws_60 ?_
              refine lv_istore (lv' := [zI 4 (bi ||| (1 <<< ((nI t19) &&& 31))), zI 5 (nI t19), zI 3 (m_X5_refusalOf_A jg pb fql fqo frr sn v1), zR 0 h0, zI 1 (nI sn), zI 2 v1]) hx hb dX5_laws_61 hl (by decide +kernel) rfl (fun ls hl => ?_)
              refine lv_iinc (v := nI (t19 + 1)) (lv' := [zI 5 (nI (t19 + 1)), zI 4 (bi ||| (1 <<< ((nI t19) &&& 31))), zI 3 (m_X5_refusalOf_A jg pb fql fqo frr sn v1), zR 0 h0, zI 1 (nI sn), zI 2 v1]) hx hb dX5_laws_63 hl (k := 1) rfl (nI_add t19 1) (by decide +kernel) rfl (fun ls hl => ?_)
              refine lv_goto (tgt := 19) hx hb dX5_laws_66 (by decide +kernel) ?_
              exact ih9_19 (t19 + 1) (bi ||| (1 <<< ((nI t19) &&& 31))) yt1_36 ysk_44 yt2_37 yt3_38 yt4_39 yt5_40 yt6_41 yt7_42 yt8_43 (nI jg) (nI pb) (nI t19) (by omega) (Eq.trans (Eq.symm ((congrArg (fun z9 => p_X5_laws_A_19 fql fso fmi fpa fki fmo fsz frd fer0 fcr0 fer1 fcr1 fer2 fcr2 fer3 fcr3 fer4 fcr4 fer5 fcr5 frr sn v1 (z9) t19 bi) (show tx - t19 = tx - (t19 + 1) + 1 by omega)).trans (by show p_X5_laws_A_19 fql fso fmi fpa fki fmo fsz frd fer0 fcr0 fer1 fcr1 fer2 fcr2 fer3 fcr3 fer4 fcr4 fer5 fcr5 frr sn v1 (tx - (t19 + 1) + 1) t19 bi = _; rw [p_X5_laws_A_19, if_pos c_45]))) R19) (by omega) _ _ hP hD hS ls hl
          · skip
            refine z_callp [0, 9, 10, 11, 12, 13, 14, 15, 16, 17, 18, 19, 20, 24, 30, 33, 34, 35, 36, 37, 38] (va_runV (As := [.int (nI sn), .int (nI (nC v1))]) (rest := []) ⟨hx, hb, hml, hown, hts⟩ (c_X5_firstOtherwise l G h0 tt rd nw th kp sh tu t1 t2 t3 t4 t5 t6 t7 t8 co en sk c3 e3 qn qo ql rr t19 tx him wr (nI jg) (nI pb) fc fe fn fer3 fql x19t1 fso fmi fpa fki fmo fsz frd fcr3 x19sk fqo frr sn (nC v1) pb H.size (by first | exact hsn | assumption | omega) (by first | exact hrw | assumption | omega) (by first | exact hql | assumption | omega) (by first | exact hj | assumption | omega) (hvl) (hpb) (⟨by omega, htx⟩) (by rw [hq]; exact hc3) (by rw [hq]; exact he3) (hw3 (by omega))) (cwV 2 hts gX5_laws_X5_firstOtherwise rfl rfl rfl (by decide +kernel) ⟨Nat.le_of_ble_eq_true rfl, Nat.le_of_ble_eq_true rfl⟩) ⟨gPre_blind, va_recv (q := (RX5, TX5, 8)) hK hP (ci := 5) (q0 := 0) rfl rfl, fun U hU hW => gPre_ofF [0, 9, 10, 11, 12, 13, 14, 15, 16, 17, 18, 19, 20, 24, 30, 33, 34, 35, 36, 37, 38] hU hW hK hP hD (by decide +kernel) rfl⟩ rfl rfl hl.1 rfl (lv_room (Nat.le_of_ble_eq_true rfl)) dX5_laws_47 ⟨Nat.le_of_ble_eq_true rfl, Nat.le_of_ble_eq_true rfl⟩) hS hD hA rfl (fun r_46 u t H locs ht hvm w_47 hB hz1 hk1 hFq hAq hS => ?_)
            obtain ⟨yt1_48, yt2_49, yt3_50, yt4_51, yt5_52, yt6_53, yt7_54, yt8_55, ysk_56⟩ := u
            obtain ⟨hP1, hK1, hD1⟩ := hB
            have w_47 : r_46 = m_X5_firstOtherwise fer3 fql fso fmi fpa fki fmo fsz frd fcr3 frr sn (nC v1) := w_47
            have hz9 : gPD G A [zo5 h0 tt rd nw th kp sh tu him, zo0 nw tt n1 n2 n3 n4 n5 n6 n7 n8 (nI jg) (nI pb) (nI lw), zi G n2 4 fso, zi G n3 4 fmi, zi G n4 4 fpa, zi G n5 6 fki, zi G n6 6 fmo, zi G n7 6 fsz, zi G n8 6 frd, zo0 th tt t1 t2 t3 t4 t5 t6 t7 t8 (nI jg) (nI pb) (nI t19), zi G t1 6 yt1_48, zi G t2 4 yt2_49, zi G t3 4 yt3_50, zi G t4 4 yt4_51, zi G t5 6 yt5_52, zi G t6 6 yt6_53, zi G t7 6 yt7_54, zi G t8 6 yt8_55, zo3 tt co en sk wr (nI tx), zr G co 6 fc, zr G en 6 fe, zi G c0 160 fcr0, zi G c1 160 fcr1, zi G c2 160 fcr2, zi G c3 160 fcr3, zi G c4 160 fcr4, zi G c5 160 fcr5, zi G e0 3 (nF fer0), zi G e1 3 (nF fer1), zi G e2 3 (nF fer2), zi G e3 3 (nF fer3), zi G e4 3 (nF fer4), zi G e5 3 (nF fer5), zi G sk 32 ysk_56, zo2 sh qn qo ql, zr G qn 4 fn, zi G qo 4 fqo, zi G ql 4 (nF fql), zi G rr 40 frr] H := zFill hP hD [0, 9, 10, 11, 12, 13, 14, 15, 16, 17, 18, 19, 20, 24, 30, 33, 34, 35, 36, 37, 38] [1, 0, 0, 0, 0, 0, 0, 0, 0, 2, 3, 4, 5, 6, 7, 8, 9, 10, 11, 12, 13, 0, 0, 0, 14, 0, 0, 0, 0, 0, 15, 0, 0, 16, 17, 18, 19, 20, 21] hAq hk1 hFq ht hP1 hD1 rfl (by decide +kernel)
            have hP := hz9.1
            have hD := hz9.2
            have w_47 : r_46 = m_X5_firstOtherwise (eAt fer0 fer1 fer2 fer3 fer4 fer5 t19) fql fso fmi fpa fki fmo fsz frd (cAt fcr0 fcr1 fcr2 fcr3 fcr4 fcr5 t19) frr sn (nC v1) := w_47.trans (by rw [hq]; rfl)
            subst w_47
            refine lv_iconst (v := -1) hx hb dX5_laws_50 (by decide +kernel) ?_
            refine lv_icmp_ne (tgt := 63) hx hb dX5_laws_51 (by decide +kernel) (fun c_57 => ?_) (fun c_57 => ?_)
            · skip
              refine lv_iinc (v := nI (t19 + 1)) (lv' := [zI 5 (nI (t19 + 1)), zI 4 bi, zI 3 (m_X5_refusalOf_A jg pb fql fqo frr sn v1), zR 0 h0, zI 1 (nI sn), zI 2 v1]) hx hb dX5_laws_63 hl (k := 0) rfl (nI_add t19 1) (by decide +kernel) rfl (fun ls hl => ?_)
              refine lv_goto (tgt := 19) hx hb dX5_laws_66 (by decide +kernel) ?_
              exact ih9_19 (t19 + 1) bi yt1_48 ysk_56 yt2_49 yt3_50 yt4_51 yt5_52 yt6_53 yt7_54 yt8_55 (nI jg) (nI pb) (nI t19) (by omega) (Eq.trans (Eq.symm ((congrArg (fun z9 => p_X5_laws_A_19 fql fso fmi fpa fki fmo fsz frd fer0 fcr0 fer1 fcr1 fer2 fcr2 fer3 fcr3 fer4 fcr4 fer5 fcr5 frr sn v1 (z9) t19 bi) (show tx - t19 = tx - (t19 + 1) + 1 by omega)).trans (by show p_X5_laws_A_19 fql fso fmi fpa fki fmo fsz frd fer0 fcr0 fer1 fcr1 fer2 fcr2 fer3 fcr3 fer4 fcr4 fer5 fcr5 frr sn v1 (tx - (t19 + 1) + 1) t19 bi = _; rw [p_X5_laws_A_19, if_neg c_57]))) R19) (by omega) _ _ hP hD hS ls hl
            · skip
              refine lv_iload hx hb dX5_laws_54 (lv_at hl 1 rfl) ?_
              refine lv_iconst (v := 1) hx hb dX5_laws_56 (by decide +kernel) ?_
              refine lv_iload hx hb dX5_laws_57 (lv_at hl 0 rfl) ?_
              refine lv_ishl hx hb dX5_laws_59 ?_
              refine lv_ior hx hb dX5_laws_60 ?_
              refine lv_istore (lv' := [zI 4 (bi ||| (1 <<< ((nI t19) &&& 31))), zI 5 (nI t19), zI 3 (m_X5_refusalOf_A jg pb fql fqo frr sn v1), zR 0 h0, zI 1 (nI sn), zI 2 v1]) hx hb dX5_laws_61 hl (by decide +kernel) rfl (fun ls hl => ?_)
              refine lv_iinc (v := nI (t19 + 1)) (lv' := [zI 5 (nI (t19 + 1)), zI 4 (bi ||| (1 <<< ((nI t19) &&& 31))), zI 3 (m_X5_refusalOf_A jg pb fql fqo frr sn v1), zR 0 h0, zI 1 (nI sn), zI 2 v1]) hx hb dX5_laws_63 hl (k := 1) rfl (nI_add t19 1) (by decide +kernel) rfl (fun ls hl => ?_)
              refine lv_goto (tgt := 19) hx hb dX5_laws_66 (by decide +kernel) ?_
              exact ih9_19 (t19 + 1) (bi ||| (1 <<< ((nI t19) &&& 31))) yt1_48 ysk_56 yt2_49 yt3_50 yt4_51 yt5_52 yt6_53 yt7_54 yt8_55 (nI jg) (nI pb) (nI t19) (by omega) (Eq.trans (Eq.symm ((congrArg (fun z9 => p_X5_laws_A_19 fql fso fmi fpa fki fmo fsz frd fer0 fcr0 fer1 fcr1 fer2 fcr2 fer3 fcr3 fer4 fcr4 fer5 fcr5 frr sn v1 (z9) t19 bi) (show tx - t19 = tx - (t19 + 1) + 1 by omega)).trans (by show p_X5_laws_A_19 fql fso fmi fpa fki fmo fsz frd fer0 fcr0 fer1 fcr1 fer2 fcr2 fer3 fcr3 fer4 fcr4 fer5 fcr5 frr sn v1 (tx - (t19 + 1) + 1) t19 bi = _; rw [p_X5_laws_A_19, if_pos c_57]))) R19) (by omega) _ _ hP hD hS ls hl
          · skip
            refine z_callp [0, 9, 10, 11, 12, 13, 14, 15, 16, 17, 18, 19, 20, 25, 31, 33, 34, 35, 36, 37, 38] (va_runV (As := [.int (nI sn), .int (nI (nC v1))]) (rest := []) ⟨hx, hb, hml, hown, hts⟩ (c_X5_firstOtherwise l G h0 tt rd nw th kp sh tu t1 t2 t3 t4 t5 t6 t7 t8 co en sk c4 e4 qn qo ql rr t19 tx him wr (nI jg) (nI pb) fc fe fn fer4 fql x19t1 fso fmi fpa fki fmo fsz frd fcr4 x19sk fqo frr sn (nC v1) pb H.size (by first | exact hsn | assumption | omega) (by first | exact hrw | assumption | omega) (by first | exact hql | assumption | omega) (by first | exact hj | assumption | omega) (hvl) (hpb) (⟨by omega, htx⟩) (by rw [hq]; exact hc4) (by rw [hq]; exact he4) (hw4 (by omega))) (cwV 2 hts gX5_laws_X5_firstOtherwise rfl rfl rfl (by decide +kernel) ⟨Nat.le_of_ble_eq_true rfl, Nat.le_of_ble_eq_true rfl⟩) ⟨gPre_blind, va_recv (q := (RX5, TX5, 8)) hK hP (ci := 5) (q0 := 0) rfl rfl, fun U hU hW => gPre_ofF [0, 9, 10, 11, 12, 13, 14, 15, 16, 17, 18, 19, 20, 25, 31, 33, 34, 35, 36, 37, 38] hU hW hK hP hD (by decide +kernel) rfl⟩ rfl rfl hl.1 rfl (lv_room (Nat.le_of_ble_eq_true rfl)) dX5_laws_47 ⟨Nat.le_of_ble_eq_true rfl, Nat.le_of_ble_eq_true rfl⟩) hS hD hA rfl (fun r_58 u t H locs ht hvm w_59 hB hz1 hk1 hFq hAq hS => ?_)
            obtain ⟨yt1_60, yt2_61, yt3_62, yt4_63, yt5_64, yt6_65, yt7_66, yt8_67, ysk_68⟩ := u
            obtain ⟨hP1, hK1, hD1⟩ := hB
            have w_59 : r_58 = m_X5_firstOtherwise fer4 fql fso fmi fpa fki fmo fsz frd fcr4 frr sn (nC v1) := w_59
            have hz9 : gPD G A [zo5 h0 tt rd nw th kp sh tu him, zo0 nw tt n1 n2 n3 n4 n5 n6 n7 n8 (nI jg) (nI pb) (nI lw), zi G n2 4 fso, zi G n3 4 fmi, zi G n4 4 fpa, zi G n5 6 fki, zi G n6 6 fmo, zi G n7 6 fsz, zi G n8 6 frd, zo0 th tt t1 t2 t3 t4 t5 t6 t7 t8 (nI jg) (nI pb) (nI t19), zi G t1 6 yt1_60, zi G t2 4 yt2_61, zi G t3 4 yt3_62, zi G t4 4 yt4_63, zi G t5 6 yt5_64, zi G t6 6 yt6_65, zi G t7 6 yt7_66, zi G t8 6 yt8_67, zo3 tt co en sk wr (nI tx), zr G co 6 fc, zr G en 6 fe, zi G c0 160 fcr0, zi G c1 160 fcr1, zi G c2 160 fcr2, zi G c3 160 fcr3, zi G c4 160 fcr4, zi G c5 160 fcr5, zi G e0 3 (nF fer0), zi G e1 3 (nF fer1), zi G e2 3 (nF fer2), zi G e3 3 (nF fer3), zi G e4 3 (nF fer4), zi G e5 3 (nF fer5), zi G sk 32 ysk_68, zo2 sh qn qo ql, zr G qn 4 fn, zi G qo 4 fqo, zi G ql 4 (nF fql), zi G rr 40 frr] H := zFill hP hD [0, 9, 10, 11, 12, 13, 14, 15, 16, 17, 18, 19, 20, 25, 31, 33, 34, 35, 36, 37, 38] [1, 0, 0, 0, 0, 0, 0, 0, 0, 2, 3, 4, 5, 6, 7, 8, 9, 10, 11, 12, 13, 0, 0, 0, 0, 14, 0, 0, 0, 0, 0, 15, 0, 16, 17, 18, 19, 20, 21] hAq hk1 hFq ht hP1 hD1 rfl (by decide +kernel)
            have hP := hz9.1
            have hD := hz9.2
            have w_59 : r_58 = m_X5_firstOtherwise (eAt fer0 fer1 fer2 fer3 fer4 fer5 t19) fql fso fmi fpa fki fmo fsz frd (cAt fcr0 fcr1 fcr2 fcr3 fcr4 fcr5 t19) frr sn (nC v1) := w_59.trans (by rw [hq]; rfl)
            subst w_59
            refine lv_iconst (v := -1) hx hb dX5_laws_50 (by decide +kernel) ?_
            refine lv_icmp_ne (tgt := 63) hx hb dX5_laws_51 (by decide +kernel) (fun c_69 => ?_) (fun c_69 => ?_)
            · skip
              refine lv_iinc (v := nI (t19 + 1)) (lv' := [zI 5 (nI (t19 + 1)), zI 4 bi, zI 3 (m_X5_refusalOf_A jg pb fql fqo frr sn v1), zR 0 h0, zI 1 (nI sn), zI 2 v1]) hx hb dX5_laws_63 hl (k := 0) rfl (nI_add t19 1) (by decide +kernel) rfl (fun ls hl => ?_)
              refine lv_goto (tgt := 19) hx hb dX5_laws_66 (by decide +kernel) ?_
              exact ih9_19 (t19 + 1) bi yt1_60 ysk_68 yt2_61 yt3_62 yt4_63 yt5_64 yt6_65 yt7_66 yt8_67 (nI jg) (nI pb) (nI t19) (by omega) (Eq.trans (Eq.symm ((congrArg (fun z9 => p_X5_laws_A_19 fql fso fmi fpa fki fmo fsz frd fer0 fcr0 fer1 fcr1 fer2 fcr2 fer3 fcr3 fer4 fcr4 fer5 fcr5 frr sn v1 (z9) t19 bi) (show tx - t19 = tx - (t19 + 1) + 1 by omega)).trans (by show p_X5_laws_A_19 fql fso fmi fpa fki fmo fsz frd fer0 fcr0 fer1 fcr1 fer2 fcr2 fer3 fcr3 fer4 fcr4 fer5 fcr5 frr sn v1 (tx - (t19 + 1) + 1) t19 bi = _; rw [p_X5_laws_A_19, if_neg c_69]))) R19) (by omega) _ _ hP hD hS ls hl
            · skip
              refine lv_iload hx hb dX5_laws_54 (lv_at hl 1 rfl) ?_
              refine lv_iconst (v := 1) hx hb dX5_laws_56 (by decide +kernel) ?_
              refine lv_iload hx hb dX5_laws_57 (lv_at hl 0 rfl) ?_
              refine lv_ishl hx hb dX5_laws_59 ?_
              refine lv_ior hx hb dX5_laws_60 ?_
              refine lv_istore (lv' := [zI 4 (bi ||| (1 <<< ((nI t19) &&& 31))), zI 5 (nI t19), zI 3 (m_X5_refusalOf_A jg pb fql fqo frr sn v1), zR 0 h0, zI 1 (nI sn), zI 2 v1]) hx hb dX5_laws_61 hl (by decide +kernel) rfl (fun ls hl => ?_)
              refine lv_iinc (v := nI (t19 + 1)) (lv' := [zI 5 (nI (t19 + 1)), zI 4 (bi ||| (1 <<< ((nI t19) &&& 31))), zI 3 (m_X5_refusalOf_A jg pb fql fqo frr sn v1), zR 0 h0, zI 1 (nI sn), zI 2 v1]) hx hb dX5_laws_63 hl (k := 1) rfl (nI_add t19 1) (by decide +kernel) rfl (fun ls hl => ?_)
              refine lv_goto (tgt := 19) hx hb dX5_laws_66 (by decide +kernel) ?_
              exact ih9_19 (t19 + 1) (bi ||| (1 <<< ((nI t19) &&& 31))) yt1_60 ysk_68 yt2_61 yt3_62 yt4_63 yt5_64 yt6_65 yt7_66 yt8_67 (nI jg) (nI pb) (nI t19) (by omega) (Eq.trans (Eq.symm ((congrArg (fun z9 => p_X5_laws_A_19 fql fso fmi fpa fki fmo fsz frd fer0 fcr0 fer1 fcr1 fer2 fcr2 fer3 fcr3 fer4 fcr4 fer5 fcr5 frr sn v1 (z9) t19 bi) (show tx - t19 = tx - (t19 + 1) + 1 by omega)).trans (by show p_X5_laws_A_19 fql fso fmi fpa fki fmo fsz frd fer0 fcr0 fer1 fcr1 fer2 fcr2 fer3 fcr3 fer4 fcr4 fer5 fcr5 frr sn v1 (tx - (t19 + 1) + 1) t19 bi = _; rw [p_X5_laws_A_19, if_pos c_69]))) R19) (by omega) _ _ hP hD hS ls hl
          · skip
            refine z_callp [0, 9, 10, 11, 12, 13, 14, 15, 16, 17, 18, 19, 20, 26, 32, 33, 34, 35, 36, 37, 38] (va_runV (As := [.int (nI sn), .int (nI (nC v1))]) (rest := []) ⟨hx, hb, hml, hown, hts⟩ (c_X5_firstOtherwise l G h0 tt rd nw th kp sh tu t1 t2 t3 t4 t5 t6 t7 t8 co en sk c5 e5 qn qo ql rr t19 tx him wr (nI jg) (nI pb) fc fe fn fer5 fql x19t1 fso fmi fpa fki fmo fsz frd fcr5 x19sk fqo frr sn (nC v1) pb H.size (by first | exact hsn | assumption | omega) (by first | exact hrw | assumption | omega) (by first | exact hql | assumption | omega) (by first | exact hj | assumption | omega) (hvl) (hpb) (⟨by omega, htx⟩) (by rw [hq]; exact hc5) (by rw [hq]; exact he5) (hw5 (by omega))) (cwV 2 hts gX5_laws_X5_firstOtherwise rfl rfl rfl (by decide +kernel) ⟨Nat.le_of_ble_eq_true rfl, Nat.le_of_ble_eq_true rfl⟩) ⟨gPre_blind, va_recv (q := (RX5, TX5, 8)) hK hP (ci := 5) (q0 := 0) rfl rfl, fun U hU hW => gPre_ofF [0, 9, 10, 11, 12, 13, 14, 15, 16, 17, 18, 19, 20, 26, 32, 33, 34, 35, 36, 37, 38] hU hW hK hP hD (by decide +kernel) rfl⟩ rfl rfl hl.1 rfl (lv_room (Nat.le_of_ble_eq_true rfl)) dX5_laws_47 ⟨Nat.le_of_ble_eq_true rfl, Nat.le_of_ble_eq_true rfl⟩) hS hD hA rfl (fun r_70 u t H locs ht hvm w_71 hB hz1 hk1 hFq hAq hS => ?_)
            obtain ⟨yt1_72, yt2_73, yt3_74, yt4_75, yt5_76, yt6_77, yt7_78, yt8_79, ysk_80⟩ := u
            obtain ⟨hP1, hK1, hD1⟩ := hB
            have w_71 : r_70 = m_X5_firstOtherwise fer5 fql fso fmi fpa fki fmo fsz frd fcr5 frr sn (nC v1) := w_71
            have hz9 : gPD G A [zo5 h0 tt rd nw th kp sh tu him, zo0 nw tt n1 n2 n3 n4 n5 n6 n7 n8 (nI jg) (nI pb) (nI lw), zi G n2 4 fso, zi G n3 4 fmi, zi G n4 4 fpa, zi G n5 6 fki, zi G n6 6 fmo, zi G n7 6 fsz, zi G n8 6 frd, zo0 th tt t1 t2 t3 t4 t5 t6 t7 t8 (nI jg) (nI pb) (nI t19), zi G t1 6 yt1_72, zi G t2 4 yt2_73, zi G t3 4 yt3_74, zi G t4 4 yt4_75, zi G t5 6 yt5_76, zi G t6 6 yt6_77, zi G t7 6 yt7_78, zi G t8 6 yt8_79, zo3 tt co en sk wr (nI tx), zr G co 6 fc, zr G en 6 fe, zi G c0 160 fcr0, zi G c1 160 fcr1, zi G c2 160 fcr2, zi G c3 160 fcr3, zi G c4 160 fcr4, zi G c5 160 fcr5, zi G e0 3 (nF fer0), zi G e1 3 (nF fer1), zi G e2 3 (nF fer2), zi G e3 3 (nF fer3), zi G e4 3 (nF fer4), zi G e5 3 (nF fer5), zi G sk 32 ysk_80, zo2 sh qn qo ql, zr G qn 4 fn, zi G qo 4 fqo, zi G ql 4 (nF fql), zi G rr 40 frr] H := zFill hP hD [0, 9, 10, 11, 12, 13, 14, 15, 16, 17, 18, 19, 20, 26, 32, 33, 34, 35, 36, 37, 38] [1, 0, 0, 0, 0, 0, 0, 0, 0, 2, 3, 4, 5, 6, 7, 8, 9, 10, 11, 12, 13, 0, 0, 0, 0, 0, 14, 0, 0, 0, 0, 0, 15, 16, 17, 18, 19, 20, 21] hAq hk1 hFq ht hP1 hD1 rfl (by decide +kernel)
            have hP := hz9.1
            have hD := hz9.2
            have w_71 : r_70 = m_X5_firstOtherwise (eAt fer0 fer1 fer2 fer3 fer4 fer5 t19) fql fso fmi fpa fki fmo fsz frd (cAt fcr0 fcr1 fcr2 fcr3 fcr4 fcr5 t19) frr sn (nC v1) := w_71.trans (by rw [hq]; rfl)
            subst w_71
            refine lv_iconst (v := -1) hx hb dX5_laws_50 (by decide +kernel) ?_
            refine lv_icmp_ne (tgt := 63) hx hb dX5_laws_51 (by decide +kernel) (fun c_81 => ?_) (fun c_81 => ?_)
            · skip
              refine lv_iinc (v := nI (t19 + 1)) (lv' := [zI 5 (nI (t19 + 1)), zI 4 bi, zI 3 (m_X5_refusalOf_A jg pb fql fqo frr sn v1), zR 0 h0, zI 1 (nI sn), zI 2 v1]) hx hb dX5_laws_63 hl (k := 0) rfl (nI_add t19 1) (by decide +kernel) rfl (fun ls hl => ?_)
              refine lv_goto (tgt := 19) hx hb dX5_laws_66 (by decide +kernel) ?_
              exact ih9_19 (t19 + 1) bi yt1_72 ysk_80 yt2_73 yt3_74 yt4_75 yt5_76 yt6_77 yt7_78 yt8_79 (nI jg) (nI pb) (nI t19) (by omega) (Eq.trans (Eq.symm ((congrArg (fun z9 => p_X5_laws_A_19 fql fso fmi fpa fki fmo fsz frd fer0 fcr0 fer1 fcr1 fer2 fcr2 fer3 fcr3 fer4 fcr4 fer5 fcr5 frr sn v1 (z9) t19 bi) (show tx - t19 = tx - (t19 + 1) + 1 by omega)).trans (by show p_X5_laws_A_19 fql fso fmi fpa fki fmo fsz frd fer0 fcr0 fer1 fcr1 fer2 fcr2 fer3 fcr3 fer4 fcr4 fer5 fcr5 frr sn v1 (tx - (t19 + 1) + 1) t19 bi = _; rw [p_X5_laws_A_19, if_neg c_81]))) R19) (by omega) _ _ hP hD hS ls hl
            · skip
              refine lv_iload hx hb dX5_laws_54 (lv_at hl 1 rfl) ?_
              refine lv_iconst (v := 1) hx hb dX5_laws_56 (by decide +kernel) ?_
              refine lv_iload hx hb dX5_laws_57 (lv_at hl 0 rfl) ?_
              refine lv_ishl hx hb dX5_laws_59 ?_
              refine lv_ior hx hb dX5_laws_60 ?_
              refine lv_istore (lv' := [zI 4 (bi ||| (1 <<< ((nI t19) &&& 31))), zI 5 (nI t19), zI 3 (m_X5_refusalOf_A jg pb fql fqo frr sn v1), zR 0 h0, zI 1 (nI sn), zI 2 v1]) hx hb dX5_laws_61 hl (by decide +kernel) rfl (fun ls hl => ?_)
              refine lv_iinc (v := nI (t19 + 1)) (lv' := [zI 5 (nI (t19 + 1)), zI 4 (bi ||| (1 <<< ((nI t19) &&& 31))), zI 3 (m_X5_refusalOf_A jg pb fql fqo frr sn v1), zR 0 h0, zI 1 (nI sn), zI 2 v1]) hx hb dX5_laws_63 hl (k := 1) rfl (nI_add t19 1) (by decide +kernel) rfl (fun ls hl => ?_)
              refine lv_goto (tgt := 19) hx hb dX5_laws_66 (by decide +kernel) ?_
              exact ih9_19 (t19 + 1) (bi ||| (1 <<< ((nI t19) &&& 31))) yt1_72 ysk_80 yt2_73 yt3_74 yt4_75 yt5_76 yt6_77 yt7_78 yt8_79 (nI jg) (nI pb) (nI t19) (by omega) (Eq.trans (Eq.symm ((congrArg (fun z9 => p_X5_laws_A_19 fql fso fmi fpa fki fmo fsz frd fer0 fcr0 fer1 fcr1 fer2 fcr2 fer3 fcr3 fer4 fcr4 fer5 fcr5 frr sn v1 (z9) t19 bi) (show tx - t19 = tx - (t19 + 1) + 1 by omega)).trans (by show p_X5_laws_A_19 fql fso fmi fpa fki fmo fsz frd fer0 fcr0 fer1 fcr1 fer2 fcr2 fer3 fcr3 fer4 fcr4 fer5 fcr5 frr sn v1 (tx - (t19 + 1) + 1) t19 bi = _; rw [p_X5_laws_A_19, if_pos c_81]))) R19) (by omega) _ _ hP hD hS ls hl
    exact loop_19 (tx - 0 + 1) 0 0 unm fsk uso umi upa uki umo usz urd tj tb tl (by omega) (rfl) (by omega) _ _ hP hD hS ls hl
  · skip
    refine lv_iload_n hx hb dX5_laws_11 rfl (lv_at hl 0 rfl) ?_
    have hpost : (fun (r : Int32) (u : Int32 × Int32 × Int32 × (Nat → Int32) × (Nat → Int32) × (Nat → Int32) × (Nat → Int32) × (Nat → Int32) × (Nat → Int32) × (Nat → Int32) × (Nat → Int32) × (Nat → Int32)) => match u with | (zj9, zb9, zl9, yt1, yt2, yt3, yt4, yt5, yt6, yt7, yt8, ysk) => r = m_X5_laws_A jg pb tx fql fso fmi fpa fki fmo fsz frd fer0 fcr0 fer1 fcr1 fer2 fcr2 fer3 fcr3 fer4 fcr4 fer5 fcr5 fqo frr sn v1) (m_X5_refusalOf_A jg pb fql fqo frr sn v1) (tj, tb, tl, unm, uso, umi, upa, uki, umo, usz, urd, fsk) := (show m_X5_laws_A jg pb tx fql fso fmi fpa fki fmo fsz frd fer0 fcr0 fer1 fcr1 fer2 fcr2 fer3 fcr3 fer4 fcr4 fer5 fcr5 fqo frr sn v1 = (m_X5_refusalOf_A jg pb fql fqo frr sn v1) from by unfold m_X5_laws_A; rw [if_neg c_3]).symm
    exact W.iret (v := (m_X5_refusalOf_A jg pb fql fqo frr sn v1)) hx hb hr (fun t ht hW => ⟨⟨(m_X5_refusalOf_A jg pb fql fqo frr sn v1), (tj, tb, tl, unm, uso, umi, upa, uki, umo, usz, urd, fsk), rfl, hpost, by rw [ht]; exact hP, va_K.moved hW.alike hK, hD⟩, hS.F ht⟩) hS.2.2 dX5_laws_12
abbrev q_X5_laws_B (G : gG) (E : gS) (h0 tt rd nw th kp sh tu qn qo ql : Nat) (him : Int32) (v0 : Int32) (v1 : Int32) (A : Nat → Prop) : Array Value → State → Outcome → State → Prop := va_Qi (fun (r : Int32) (u : Unit) => match u with | _ => r = -2) (fun (u : Unit) t => match u with | _ => va_P G.1 vwCl [zo5 h0 tt rd nw th kp sh tu him, zo2 sh qn qo ql] t.heap ∧ gK G t ∧ va_D A [zo5 h0 tt rd nw th kp sh tu him, zo2 sh qn qo ql]) A
set_option maxHeartbeats 4000000 in
set_option maxRecDepth 100000 in
theorem c_X5_laws_B (l : Launch) (G : gG) (E : gS) (h0 tt rd nw th kp sh tu qn qo ql : Nat) (him : Int32) (v0 : Int32) (v1 : Int32) (sz : Nat) (hno : ¬ (0 ≤ v0 ∧ v0 ≤ 3)) : Met l yX5_laws wsX5_laws ({ frames := 4, cells := 0, slots := 0, locals := 89 }) (gPreE G E [.ref h0, .int v0, .int v1] [zo5 h0 tt rd nw th kp sh tu him, zo2 sh qn qo ql] sz) (q_X5_laws_B G E h0 tt rd nw th kp sh tu qn qo ql him v0 v1 (va_A [zo5 h0 tt rd nw th kp sh tu him, zo2 sh qn qo ql] sz)) 0 0 (va_A [zo5 h0 tt rd nw th kp sh tu him, zo2 sh qn qo ql] sz) := by
  refine Met.ofW (cc := cX5_laws) (maxL := 6) (ret := (some .int)) (by decide +kernel) rfl ?_
  intro p e s m args below meth c s₁ B hml hv
  obtain ⟨rfl, hsz, hP, hK, hD0, hE⟩ := hv
  have hx := B.exec
  have hb := B.bytes
  have hr := B.returns
  have hts := atoms_spec (ws := wsX5_laws) B.pre
  have hown : s.vm.findClass RX5 = some m.cls := findClass_of_methodNamed B.named
  have hlocks := B.notSynchronized
  subst hsz
  have hD := hD0.self (sz := s.heap.size)
  generalize hAe : va_A [zo5 h0 tt rd nw th kp sh tu him, zo2 sh qn qo ql] s.heap.size = A at hD hE ⊢
  have hA : ∀ q : Nat, s.heap.size ≤ q → A q := fun q h => by rw [← hAe]; exact Or.inr h
  have hS : va_S A s.heap s.heap [] := va_S.rf
  have hz9 : gPD G A [zo5 h0 tt rd nw th kp sh tu him, zo2 sh qn qo ql] s.heap := ⟨hP, hD⟩
  have hP := hz9.1
  have hD := hz9.2
  have hl := lv_entry ([.ref h0, .int v0, .int v1]) (n := 6) (Nat.le_of_ble_eq_true rfl)
  rw [lg_entry_eq]
  generalize (lg_sl ([.ref h0, .int v0, .int v1]) ++ List.replicate (6 - (lg_sl ([.ref h0, .int v0, .int v1])).length) Slot.unset).toArray = ls at hl ⊢
  have hl : lv_has ls 6 [zR 0 h0, zI 1 v0, zI 2 v1] := hl
  refine lv_aload_n hx hb dX5_laws_0 rfl (lv_at hl 0 rfl) ?_
  refine lv_iload_n hx hb dX5_laws_1 rfl (lv_at hl 1 rfl) ?_
  refine lv_iload_n hx hb dX5_laws_2 rfl (lv_at hl 2 rfl) ?_
  refine z_calli [0, 1] (v := -2) (fun _ _ h => h) (va_runV (As := [.int v0, .int v1]) (rest := []) ⟨hx, hb, hml, hown, hts⟩ (c_X5_refusalOf_B l G E h0 tt rd nw th kp sh tu qn qo ql him v0 v1 s.heap.size (by first | exact hno | assumption | omega)) (cwV 2 hts gX5_laws_X5_refusalOf rfl rfl rfl (by decide +kernel) ⟨Nat.le_of_ble_eq_true rfl, Nat.le_of_ble_eq_true rfl⟩) ⟨gPreE_blind, va_recv (q := (RX5, TX5, 8)) hK hP (ci := 5) (q0 := 0) rfl rfl, fun U hU hW => gPreE_of hU hW hK hP hD hE hS (gFree2 hD hS hA [0, 1])⟩ rfl rfl hl.1 rfl (lv_room (Nat.le_of_ble_eq_true rfl)) dX5_laws_3 ⟨Nat.le_of_ble_eq_true rfl, Nat.le_of_ble_eq_true rfl⟩) hS hD hA rfl (fun u t H locs ht hvm hB hz1 hk1 hFq hAq hS => ?_)
  obtain ⟨hP1, hK1, hD1⟩ := hB
  have hP := zKeep hP hD [0, 1] hAq hk1 ht hP1 rfl
  refine lv_istore_n (lv' := [zI 3 (-2), zR 0 h0, zI 1 v0, zI 2 v1]) hx hb dX5_laws_6 rfl hl (by decide +kernel) rfl (fun ls hl => ?_)
  refine lv_iload_n hx hb dX5_laws_7 rfl (lv_at hl 0 rfl) ?_
  refine lv_if_eq (tgt := 13) hx hb dX5_laws_8 (by decide +kernel) (fun c_3 => ?_) (fun c_3 => ?_)
  · exact absurd c_3 (by decide +kernel)
  refine lv_iload_n hx hb dX5_laws_11 rfl (lv_at hl 0 rfl) ?_
  have hpost : (fun (r : Int32) (u : Unit) => match u with | _ => r = -2) (-2) () := rfl
  exact W.iret (v := (-2)) hx hb hr (fun t ht hW => ⟨⟨(-2), (), rfl, hpost, by rw [ht]; exact hP, va_K.moved hW.alike hK, hD⟩, hS.F ht⟩) hS.2.2 dX5_laws_12
noncomputable def p_X5_feed_72 (v1 : Int32) (v2 : Int32) (v3 : Int32) (v4 : Int32) (v5 : Int32) : Nat → Nat → (Nat → Int32) → Nat → Nat × (Nat → Int32) × Nat
  | 0, k72, y72b0, td72 => (k72, y72b0, td72)
  | q9 + 1, k72, y72b0, td72 => if (nI k72) = 0 then p_X5_feed_72 v1 v2 v3 v4 v5 q9 (k72 + 1) (m_X1_addg_b0 td72 y72b0 (nI (nC v1))) (m_X1_addg_h06 td72) else (if (nI k72) = 1 then p_X5_feed_72 v1 v2 v3 v4 v5 q9 (k72 + 1) (m_X1_addg_b0 td72 y72b0 (nI (nC v2))) (m_X1_addg_h06 td72) else (if (nI k72) = 2 then p_X5_feed_72 v1 v2 v3 v4 v5 q9 (k72 + 1) (m_X1_addg_b0 td72 y72b0 (nI (nC v3))) (m_X1_addg_h06 td72) else (if (nI k72) = 3 then p_X5_feed_72 v1 v2 v3 v4 v5 q9 (k72 + 1) (m_X1_addg_b0 td72 y72b0 (nI (nC v4))) (m_X1_addg_h06 td72) else p_X5_feed_72 v1 v2 v3 v4 v5 q9 (k72 + 1) (m_X1_addg_b0 td72 y72b0 (nI (nC v5))) (m_X1_addg_h06 td72))))
noncomputable def g_X5_feed_72 (td : Nat) (fb : Nat → Int32) (v0 : Int32) (v1 : Int32) (v2 : Int32) (v3 : Int32) (v4 : Int32) (v5 : Int32) : Nat × (Nat → Int32) × Nat := p_X5_feed_72 v1 v2 v3 v4 v5 (nC v0 - 0) 0 fb td
noncomputable def m_X5_feed (td : Nat) (fb : Nat → Int32) (v0 : Int32) (v1 : Int32) (v2 : Int32) (v3 : Int32) (v4 : Int32) (v5 : Int32) : Int32 := if v0 < 1 then -2 else (if 5 < (nI (nC v0)) then -2 else (if 0 ≤ v1 ∧ v1 ≤ 255 then (if 0 ≤ v2 ∧ v2 ≤ 255 then (if 0 ≤ v3 ∧ v3 ≤ 255 then (if 0 ≤ v4 ∧ v4 ≤ 255 then (if 0 ≤ v5 ∧ v5 ≤ 255 then (if (nI (td + (nC v0))) ≤ 160 then nI ((g_X5_feed_72 td fb v0 v1 v2 v3 v4 v5).2.2) else -4) else -2) else -2) else -2) else -2) else -2))
noncomputable def m_X5_feed_rd6 (td : Nat) (fb : Nat → Int32) (v0 : Int32) (v1 : Int32) (v2 : Int32) (v3 : Int32) (v4 : Int32) (v5 : Int32) : Nat := if v0 < 1 then td else (if 5 < (nI (nC v0)) then td else (if 0 ≤ v1 ∧ v1 ≤ 255 then (if 0 ≤ v2 ∧ v2 ≤ 255 then (if 0 ≤ v3 ∧ v3 ≤ 255 then (if 0 ≤ v4 ∧ v4 ≤ 255 then (if 0 ≤ v5 ∧ v5 ≤ 255 then (if (nI (td + (nC v0))) ≤ 160 then ((g_X5_feed_72 td fb v0 v1 v2 v3 v4 v5).2.2) else td) else td) else td) else td) else td) else td))
noncomputable def m_X5_feed_b0 (td : Nat) (fb : Nat → Int32) (v0 : Int32) (v1 : Int32) (v2 : Int32) (v3 : Int32) (v4 : Int32) (v5 : Int32) : Nat → Int32 := if v0 < 1 then fb else (if 5 < (nI (nC v0)) then fb else (if 0 ≤ v1 ∧ v1 ≤ 255 then (if 0 ≤ v2 ∧ v2 ≤ 255 then (if 0 ≤ v3 ∧ v3 ≤ 255 then (if 0 ≤ v4 ∧ v4 ≤ 255 then (if 0 ≤ v5 ∧ v5 ≤ 255 then (if (nI (td + (nC v0))) ≤ 160 then ((g_X5_feed_72 td fb v0 v1 v2 v3 v4 v5).2.1) else fb) else fb) else fb) else fb) else fb) else fb))
abbrev q_X5_feed (G : gG) (h0 tt rd nw th kp sh tu b0 : Nat) (td : Nat) (him : Int32) (x2 : Int32) (x3 : Int32) (x4 : Int32) (x5 : Int32) (fb : Nat → Int32) (v0 : Int32) (v1 : Int32) (v2 : Int32) (v3 : Int32) (v4 : Int32) (v5 : Int32) (A : Nat → Prop) : Array Value → State → Outcome → State → Prop := va_Qi (fun (r : Int32) (u : Unit) => match u with | _ => r = m_X5_feed td fb v0 v1 v2 v3 v4 v5) (fun (u : Unit) t => match u with | _ => va_P G.1 vwCl [zo5 h0 tt rd nw th kp sh tu him, zo1 rd tt b0 x2 x3 x4 x5 (nI (m_X5_feed_rd6 td fb v0 v1 v2 v3 v4 v5)), zi G b0 160 (m_X5_feed_b0 td fb v0 v1 v2 v3 v4 v5)] t.heap ∧ gK G t ∧ va_D A [zo5 h0 tt rd nw th kp sh tu him, zo1 rd tt b0 x2 x3 x4 x5 (nI (m_X5_feed_rd6 td fb v0 v1 v2 v3 v4 v5)), zi G b0 160 (m_X5_feed_b0 td fb v0 v1 v2 v3 v4 v5)]) A
set_option maxHeartbeats 4000000 in
set_option maxRecDepth 100000 in
theorem c_X5_feed (l : Launch) (G : gG) (h0 tt rd nw th kp sh tu b0 : Nat) (td : Nat) (him : Int32) (x2 : Int32) (x3 : Int32) (x4 : Int32) (x5 : Int32) (fb : Nat → Int32) (v0 : Int32) (v1 : Int32) (v2 : Int32) (v3 : Int32) (v4 : Int32) (v5 : Int32) (sz : Nat) (htd : td ≤ 160) : Met l yX5_feed wsX5_feed ({ frames := 2, cells := 0, slots := 0, locals := 41 }) (gPre G [.ref h0, .int v0, .int v1, .int v2, .int v3, .int v4, .int v5] [zo5 h0 tt rd nw th kp sh tu him, zo1 rd tt b0 x2 x3 x4 x5 (nI td), zi G b0 160 fb] sz) (q_X5_feed G h0 tt rd nw th kp sh tu b0 td him x2 x3 x4 x5 fb v0 v1 v2 v3 v4 v5 (va_A [zo5 h0 tt rd nw th kp sh tu him, zo1 rd tt b0 x2 x3 x4 x5 (nI td), zi G b0 160 fb] sz)) 0 0 (va_A [zo5 h0 tt rd nw th kp sh tu him, zo1 rd tt b0 x2 x3 x4 x5 (nI td), zi G b0 160 fb] sz) := by
  refine Met.ofW (cc := cX5_feed) (maxL := 8) (ret := (some .int)) (by decide +kernel) rfl ?_
  intro p e s m args below meth c s₁ B hml hv
  obtain ⟨rfl, hsz, hP, hK, hD0⟩ := hv
  have hx := B.exec
  have hb := B.bytes
  have hr := B.returns
  have hts := atoms_spec (ws := wsX5_feed) B.pre
  have hown : s.vm.findClass RX5 = some m.cls := findClass_of_methodNamed B.named
  have hlocks := B.notSynchronized
  subst hsz
  have hD := hD0.self (sz := s.heap.size)
  generalize hAe : va_A [zo5 h0 tt rd nw th kp sh tu him, zo1 rd tt b0 x2 x3 x4 x5 (nI td), zi G b0 160 fb] s.heap.size = A at hD ⊢
  have hA : ∀ q : Nat, s.heap.size ≤ q → A q := fun q h => by rw [← hAe]; exact Or.inr h
  have hS : va_S A s.heap s.heap [] := va_S.rf
  have hz9 : gPD G A [zo5 h0 tt rd nw th kp sh tu him, zo1 rd tt b0 x2 x3 x4 x5 (nI td), zi G b0 160 fb] s.heap := ⟨hP, hD⟩
  have hP := hz9.1
  have hD := hz9.2
  have hl := lv_entry ([.ref h0, .int v0, .int v1, .int v2, .int v3, .int v4, .int v5]) (n := 8) (Nat.le_of_ble_eq_true rfl)
  rw [lg_entry_eq]
  generalize (lg_sl ([.ref h0, .int v0, .int v1, .int v2, .int v3, .int v4, .int v5]) ++ List.replicate (8 - (lg_sl ([.ref h0, .int v0, .int v1, .int v2, .int v3, .int v4, .int v5])).length) Slot.unset).toArray = ls at hl ⊢
  have hl : lv_has ls 8 [zR 0 h0, zI 1 v0, zI 2 v1, zI 3 v2, zI 4 v3, zI 5 v4, zI 6 v5] := hl
  have kf21 := hts (.fieldLink RX5 21 "PebbleInShoe" "tape" "LPebbleInShoe$Reader;") (by decide +kernel)
  have hiX5 := (by decide +kernel : ∀ w ∈ wsX50, w ∈ wsX5_feed)
  have kf84 := hts (.fieldLink RX5 84 "PebbleInShoe$Reader" "length" "I") (by decide +kernel)
  have hiX1 := (by decide +kernel : ∀ w ∈ wsX10, w ∈ wsX5_feed)
  refine lv_iload_n hx hb dX5_feed_0 rfl (lv_at hl 1 rfl) ?_
  refine lv_iconst (v := 1) hx hb dX5_feed_1 (by decide +kernel) ?_
  refine lv_icmp_lt (tgt := 48) hx hb dX5_feed_2 (by decide +kernel) (fun c_1 => ?_) (fun c_1 => ?_)
  · skip
    refine lv_bipush (v := -2) hx hb dX5_feed_48 (by decide +kernel) ?_
    have q_5 : m_X5_feed_rd6 td fb v0 v1 v2 v3 v4 v5 = td := by unfold m_X5_feed_rd6; rw [if_pos c_1]
    have q_6 : m_X5_feed_b0 td fb v0 v1 v2 v3 v4 v5 = fb := by unfold m_X5_feed_b0; rw [if_pos c_1]
    have hz9 : gPD G A [zo5 h0 tt rd nw th kp sh tu him, zo1 rd tt b0 x2 x3 x4 x5 (nI (m_X5_feed_rd6 td fb v0 v1 v2 v3 v4 v5)), zi G b0 160 (m_X5_feed_b0 td fb v0 v1 v2 v3 v4 v5)] s.heap := ⟨by rw [q_5, q_6]; exact hP, by rw [q_5, q_6]; exact hD⟩
    have hP9 := hz9.1
    have hD9 := hz9.2
    have hpost : (fun (r : Int32) (u : Unit) => match u with | _ => r = m_X5_feed td fb v0 v1 v2 v3 v4 v5) (-2) () := (show m_X5_feed td fb v0 v1 v2 v3 v4 v5 = (-2) from by unfold m_X5_feed; rw [if_pos c_1]).symm
    exact W.iret (v := (-2)) hx hb hr (fun t ht hW => ⟨⟨(-2), (), rfl, hpost, by rw [ht]; exact hP9, va_K.moved hW.alike hK, hD9⟩, hS.F ht⟩) hS.2.2 dX5_feed_50
  · skip
    have hk_3 : 1 ≤ nC v0 := nC_1n (Int32.not_lt.mp c_1)
    have hv_2 : v0 = nI (nC v0) := nC_eq (nC_1 (Int32.not_lt.mp c_1))
    have hk_4 : nC v0 < 2 ^ 31 := nC_31 _
    refine lv_iload_n hx hb dX5_feed_5 rfl (lv_at hl 1 rfl) ?_
    refine g_topi (y := nI (nC v0)) hv_2 ?_
    refine lv_iconst (v := 5) hx hb dX5_feed_6 (by decide +kernel) ?_
    refine lv_icmp_gt (tgt := 48) hx hb dX5_feed_7 (by decide +kernel) (fun c_8 => ?_) (fun c_8 => ?_)
    · skip
      have c_8N : 5 < (nC v0) := nI_lt1 (a := 5) (b := (nC v0)) (by omega) (by omega) c_8
      refine lv_bipush (v := -2) hx hb dX5_feed_48 (by decide +kernel) ?_
      have q_9 : m_X5_feed_rd6 td fb v0 v1 v2 v3 v4 v5 = td := by unfold m_X5_feed_rd6; rw [if_neg c_1, if_pos c_8]
      have q_10 : m_X5_feed_b0 td fb v0 v1 v2 v3 v4 v5 = fb := by unfold m_X5_feed_b0; rw [if_neg c_1, if_pos c_8]
      have hz9 : gPD G A [zo5 h0 tt rd nw th kp sh tu him, zo1 rd tt b0 x2 x3 x4 x5 (nI (m_X5_feed_rd6 td fb v0 v1 v2 v3 v4 v5)), zi G b0 160 (m_X5_feed_b0 td fb v0 v1 v2 v3 v4 v5)] s.heap := ⟨by rw [q_9, q_10]; exact hP, by rw [q_9, q_10]; exact hD⟩
      have hP9 := hz9.1
      have hD9 := hz9.2
      have hpost : (fun (r : Int32) (u : Unit) => match u with | _ => r = m_X5_feed td fb v0 v1 v2 v3 v4 v5) (-2) () := (show m_X5_feed td fb v0 v1 v2 v3 v4 v5 = (-2) from by unfold m_X5_feed; rw [if_neg c_1, if_pos c_8]).symm
      exact W.iret (v := (-2)) hx hb hr (fun t ht hW => ⟨⟨(-2), (), rfl, hpost, by rw [ht]; exact hP9, va_K.moved hW.alike hK, hD9⟩, hS.F ht⟩) hS.2.2 dX5_feed_50
    · skip
      have c_8N : (nC v0) ≤ 5 := nI_lt0 (a := 5) (b := (nC v0)) (by omega) (by omega) c_8
      refine lv_iload_n hx hb dX5_feed_10 rfl (lv_at hl 2 rfl) ?_
      refine z_calli [] (v := bz (decide (0 ≤ v1 ∧ v1 ≤ 255))) (fun _ _ h => h) (va_runS (As := [.int v1]) (rest := []) ⟨hx, hb, hml, hown, hts⟩ (c_X5_isByte_g l G v1 s.heap.size) (va_cwS 1 hts gX5_feed_X5_isByte rfl rfl rfl (by decide +kernel) ⟨Nat.le_of_ble_eq_true rfl, Nat.le_of_ble_eq_true rfl⟩) ⟨gPre_blind, fun U hU hW => gPre_ofF [] hU hW hK hP hD (by decide +kernel) rfl⟩ rfl rfl hl.1 rfl (lv_room (Nat.le_of_ble_eq_true rfl)) dX5_feed_11 ⟨Nat.le_of_ble_eq_true rfl, Nat.le_of_ble_eq_true rfl⟩) hS hD hA rfl (fun u t H locs ht hvm hB hz1 hk1 hFq hAq hS => ?_)
      obtain ⟨hP1, hK1, hD1⟩ := hB
      have hP := zKeep hP hD [] hAq hk1 ht hP1 rfl
      refine lv_if_eq (tgt := 48) hx hb dX5_feed_14 (by decide +kernel) (fun c_13 => ?_) (fun c_13 => ?_)
      · skip
        have n_15 : ¬ (0 ≤ v1 ∧ v1 ≤ 255) := of_decide_eq_false (bz_eq rfl c_13)
        refine lv_bipush (v := -2) hx hb dX5_feed_48 (by decide +kernel) ?_
        have q_18 : m_X5_feed_rd6 td fb v0 v1 v2 v3 v4 v5 = td := by unfold m_X5_feed_rd6; rw [if_neg c_1, if_neg c_8, if_neg n_15]
        have q_19 : m_X5_feed_b0 td fb v0 v1 v2 v3 v4 v5 = fb := by unfold m_X5_feed_b0; rw [if_neg c_1, if_neg c_8, if_neg n_15]
        have hz9 : gPD G A [zo5 h0 tt rd nw th kp sh tu him, zo1 rd tt b0 x2 x3 x4 x5 (nI (m_X5_feed_rd6 td fb v0 v1 v2 v3 v4 v5)), zi G b0 160 (m_X5_feed_b0 td fb v0 v1 v2 v3 v4 v5)] H := ⟨by rw [q_18, q_19]; exact hP, by rw [q_18, q_19]; exact hD⟩
        have hP9 := hz9.1
        have hD9 := hz9.2
        have hpost : (fun (r : Int32) (u : Unit) => match u with | _ => r = m_X5_feed td fb v0 v1 v2 v3 v4 v5) (-2) () := (show m_X5_feed td fb v0 v1 v2 v3 v4 v5 = (-2) from by unfold m_X5_feed; rw [if_neg c_1, if_neg c_8, if_neg n_15]).symm
        exact W.iret (v := (-2)) hx hb hr (fun t ht hW => ⟨⟨(-2), (), rfl, hpost, by rw [ht]; exact hP9, va_K.moved hW.alike hK, hD9⟩, hS.F ht⟩) hS.2.2 dX5_feed_50
      · skip
        have p_14 : 0 ≤ v1 ∧ v1 ≤ 255 := of_decide_eq_true (bz_ne rfl c_13)
        have hv_16 : v1 = nI (nC v1) := nC_eq p_14.1
        have hk_17 : nC v1 ≤ 255 := nC_le (n := 255) (by omega) p_14
        refine lv_iload_n hx hb dX5_feed_17 rfl (lv_at hl 3 rfl) ?_
        refine z_calli [] (v := bz (decide (0 ≤ v2 ∧ v2 ≤ 255))) (fun _ _ h => h) (va_runS (As := [.int v2]) (rest := []) ⟨hx, hb, hml, hown, hts⟩ (c_X5_isByte_g l G v2 H.size) (va_cwS 1 hts gX5_feed_X5_isByte rfl rfl rfl (by decide +kernel) ⟨Nat.le_of_ble_eq_true rfl, Nat.le_of_ble_eq_true rfl⟩) ⟨gPre_blind, fun U hU hW => gPre_ofF [] hU hW hK hP hD (by decide +kernel) rfl⟩ rfl rfl hl.1 rfl (lv_room (Nat.le_of_ble_eq_true rfl)) dX5_feed_18 ⟨Nat.le_of_ble_eq_true rfl, Nat.le_of_ble_eq_true rfl⟩) hS hD hA rfl (fun u t H locs ht hvm hB hz1 hk1 hFq hAq hS => ?_)
        obtain ⟨hP1, hK1, hD1⟩ := hB
        have hP := zKeep hP hD [] hAq hk1 ht hP1 rfl
        refine lv_if_eq (tgt := 48) hx hb dX5_feed_21 (by decide +kernel) (fun c_22 => ?_) (fun c_22 => ?_)
        · skip
          have n_24 : ¬ (0 ≤ v2 ∧ v2 ≤ 255) := of_decide_eq_false (bz_eq rfl c_22)
          refine lv_bipush (v := -2) hx hb dX5_feed_48 (by decide +kernel) ?_
          have q_27 : m_X5_feed_rd6 td fb v0 v1 v2 v3 v4 v5 = td := by unfold m_X5_feed_rd6; rw [if_neg c_1, if_neg c_8, if_pos p_14, if_neg n_24]
          have q_28 : m_X5_feed_b0 td fb v0 v1 v2 v3 v4 v5 = fb := by unfold m_X5_feed_b0; rw [if_neg c_1, if_neg c_8, if_pos p_14, if_neg n_24]
          have hz9 : gPD G A [zo5 h0 tt rd nw th kp sh tu him, zo1 rd tt b0 x2 x3 x4 x5 (nI (m_X5_feed_rd6 td fb v0 v1 v2 v3 v4 v5)), zi G b0 160 (m_X5_feed_b0 td fb v0 v1 v2 v3 v4 v5)] H := ⟨by rw [q_27, q_28]; exact hP, by rw [q_27, q_28]; exact hD⟩
          have hP9 := hz9.1
          have hD9 := hz9.2
          have hpost : (fun (r : Int32) (u : Unit) => match u with | _ => r = m_X5_feed td fb v0 v1 v2 v3 v4 v5) (-2) () := (show m_X5_feed td fb v0 v1 v2 v3 v4 v5 = (-2) from by unfold m_X5_feed; rw [if_neg c_1, if_neg c_8, if_pos p_14, if_neg n_24]).symm
          exact W.iret (v := (-2)) hx hb hr (fun t ht hW => ⟨⟨(-2), (), rfl, hpost, by rw [ht]; exact hP9, va_K.moved hW.alike hK, hD9⟩, hS.F ht⟩) hS.2.2 dX5_feed_50
        · skip
          have p_23 : 0 ≤ v2 ∧ v2 ≤ 255 := of_decide_eq_true (bz_ne rfl c_22)
          have hv_25 : v2 = nI (nC v2) := nC_eq p_23.1
          have hk_26 : nC v2 ≤ 255 := nC_le (n := 255) (by omega) p_23
          refine lv_iload hx hb dX5_feed_24 (lv_at hl 4 rfl) ?_
          refine z_calli [] (v := bz (decide (0 ≤ v3 ∧ v3 ≤ 255))) (fun _ _ h => h) (va_runS (As := [.int v3]) (rest := []) ⟨hx, hb, hml, hown, hts⟩ (c_X5_isByte_g l G v3 H.size) (va_cwS 1 hts gX5_feed_X5_isByte rfl rfl rfl (by decide +kernel) ⟨Nat.le_of_ble_eq_true rfl, Nat.le_of_ble_eq_true rfl⟩) ⟨gPre_blind, fun U hU hW => gPre_ofF [] hU hW hK hP hD (by decide +kernel) rfl⟩ rfl rfl hl.1 rfl (lv_room (Nat.le_of_ble_eq_true rfl)) dX5_feed_26 ⟨Nat.le_of_ble_eq_true rfl, Nat.le_of_ble_eq_true rfl⟩) hS hD hA rfl (fun u t H locs ht hvm hB hz1 hk1 hFq hAq hS => ?_)
          obtain ⟨hP1, hK1, hD1⟩ := hB
          have hP := zKeep hP hD [] hAq hk1 ht hP1 rfl
          refine lv_if_eq (tgt := 48) hx hb dX5_feed_29 (by decide +kernel) (fun c_31 => ?_) (fun c_31 => ?_)
          · skip
            have n_33 : ¬ (0 ≤ v3 ∧ v3 ≤ 255) := of_decide_eq_false (bz_eq rfl c_31)
            refine lv_bipush (v := -2) hx hb dX5_feed_48 (by decide +kernel) ?_
            have q_36 : m_X5_feed_rd6 td fb v0 v1 v2 v3 v4 v5 = td := by unfold m_X5_feed_rd6; rw [if_neg c_1, if_neg c_8, if_pos p_14, if_pos p_23, if_neg n_33]
            have q_37 : m_X5_feed_b0 td fb v0 v1 v2 v3 v4 v5 = fb := by unfold m_X5_feed_b0; rw [if_neg c_1, if_neg c_8, if_pos p_14, if_pos p_23, if_neg n_33]
            have hz9 : gPD G A [zo5 h0 tt rd nw th kp sh tu him, zo1 rd tt b0 x2 x3 x4 x5 (nI (m_X5_feed_rd6 td fb v0 v1 v2 v3 v4 v5)), zi G b0 160 (m_X5_feed_b0 td fb v0 v1 v2 v3 v4 v5)] H := ⟨by rw [q_36, q_37]; exact hP, by rw [q_36, q_37]; exact hD⟩
            have hP9 := hz9.1
            have hD9 := hz9.2
            have hpost : (fun (r : Int32) (u : Unit) => match u with | _ => r = m_X5_feed td fb v0 v1 v2 v3 v4 v5) (-2) () := (show m_X5_feed td fb v0 v1 v2 v3 v4 v5 = (-2) from by unfold m_X5_feed; rw [if_neg c_1, if_neg c_8, if_pos p_14, if_pos p_23, if_neg n_33]).symm
            exact W.iret (v := (-2)) hx hb hr (fun t ht hW => ⟨⟨(-2), (), rfl, hpost, by rw [ht]; exact hP9, va_K.moved hW.alike hK, hD9⟩, hS.F ht⟩) hS.2.2 dX5_feed_50
          · skip
            have p_32 : 0 ≤ v3 ∧ v3 ≤ 255 := of_decide_eq_true (bz_ne rfl c_31)
            have hv_34 : v3 = nI (nC v3) := nC_eq p_32.1
            have hk_35 : nC v3 ≤ 255 := nC_le (n := 255) (by omega) p_32
            refine lv_iload hx hb dX5_feed_32 (lv_at hl 5 rfl) ?_
            refine z_calli [] (v := bz (decide (0 ≤ v4 ∧ v4 ≤ 255))) (fun _ _ h => h) (va_runS (As := [.int v4]) (rest := []) ⟨hx, hb, hml, hown, hts⟩ (c_X5_isByte_g l G v4 H.size) (va_cwS 1 hts gX5_feed_X5_isByte rfl rfl rfl (by decide +kernel) ⟨Nat.le_of_ble_eq_true rfl, Nat.le_of_ble_eq_true rfl⟩) ⟨gPre_blind, fun U hU hW => gPre_ofF [] hU hW hK hP hD (by decide +kernel) rfl⟩ rfl rfl hl.1 rfl (lv_room (Nat.le_of_ble_eq_true rfl)) dX5_feed_34 ⟨Nat.le_of_ble_eq_true rfl, Nat.le_of_ble_eq_true rfl⟩) hS hD hA rfl (fun u t H locs ht hvm hB hz1 hk1 hFq hAq hS => ?_)
            obtain ⟨hP1, hK1, hD1⟩ := hB
            have hP := zKeep hP hD [] hAq hk1 ht hP1 rfl
            refine lv_if_eq (tgt := 48) hx hb dX5_feed_37 (by decide +kernel) (fun c_40 => ?_) (fun c_40 => ?_)
            · skip
              have n_42 : ¬ (0 ≤ v4 ∧ v4 ≤ 255) := of_decide_eq_false (bz_eq rfl c_40)
              refine lv_bipush (v := -2) hx hb dX5_feed_48 (by decide +kernel) ?_
              have q_45 : m_X5_feed_rd6 td fb v0 v1 v2 v3 v4 v5 = td := by unfold m_X5_feed_rd6; rw [if_neg c_1, if_neg c_8, if_pos p_14, if_pos p_23, if_pos p_32, if_neg n_42]
              have q_46 : m_X5_feed_b0 td fb v0 v1 v2 v3 v4 v5 = fb := by unfold m_X5_feed_b0; rw [if_neg c_1, if_neg c_8, if_pos p_14, if_pos p_23, if_pos p_32, if_neg n_42]
              have hz9 : gPD G A [zo5 h0 tt rd nw th kp sh tu him, zo1 rd tt b0 x2 x3 x4 x5 (nI (m_X5_feed_rd6 td fb v0 v1 v2 v3 v4 v5)), zi G b0 160 (m_X5_feed_b0 td fb v0 v1 v2 v3 v4 v5)] H := ⟨by rw [q_45, q_46]; exact hP, by rw [q_45, q_46]; exact hD⟩
              have hP9 := hz9.1
              have hD9 := hz9.2
              have hpost : (fun (r : Int32) (u : Unit) => match u with | _ => r = m_X5_feed td fb v0 v1 v2 v3 v4 v5) (-2) () := (show m_X5_feed td fb v0 v1 v2 v3 v4 v5 = (-2) from by unfold m_X5_feed; rw [if_neg c_1, if_neg c_8, if_pos p_14, if_pos p_23, if_pos p_32, if_neg n_42]).symm
              exact W.iret (v := (-2)) hx hb hr (fun t ht hW => ⟨⟨(-2), (), rfl, hpost, by rw [ht]; exact hP9, va_K.moved hW.alike hK, hD9⟩, hS.F ht⟩) hS.2.2 dX5_feed_50
            · skip
              have p_41 : 0 ≤ v4 ∧ v4 ≤ 255 := of_decide_eq_true (bz_ne rfl c_40)
              have hv_43 : v4 = nI (nC v4) := nC_eq p_41.1
              have hk_44 : nC v4 ≤ 255 := nC_le (n := 255) (by omega) p_41
              refine lv_iload hx hb dX5_feed_40 (lv_at hl 6 rfl) ?_
              refine z_calli [] (v := bz (decide (0 ≤ v5 ∧ v5 ≤ 255))) (fun _ _ h => h) (va_runS (As := [.int v5]) (rest := []) ⟨hx, hb, hml, hown, hts⟩ (c_X5_isByte_g l G v5 H.size) (va_cwS 1 hts gX5_feed_X5_isByte rfl rfl rfl (by decide +kernel) ⟨Nat.le_of_ble_eq_true rfl, Nat.le_of_ble_eq_true rfl⟩) ⟨gPre_blind, fun U hU hW => gPre_ofF [] hU hW hK hP hD (by decide +kernel) rfl⟩ rfl rfl hl.1 rfl (lv_room (Nat.le_of_ble_eq_true rfl)) dX5_feed_42 ⟨Nat.le_of_ble_eq_true rfl, Nat.le_of_ble_eq_true rfl⟩) hS hD hA rfl (fun u t H locs ht hvm hB hz1 hk1 hFq hAq hS => ?_)
              obtain ⟨hP1, hK1, hD1⟩ := hB
              have hP := zKeep hP hD [] hAq hk1 ht hP1 rfl
              refine lv_if_ne (tgt := 51) hx hb dX5_feed_45 (by decide +kernel) (fun c_49 => ?_) (fun c_49 => ?_)
              · skip
                have p_50 : 0 ≤ v5 ∧ v5 ≤ 255 := of_decide_eq_true (bz_ne rfl c_49)
                have hv_52 : v5 = nI (nC v5) := nC_eq p_50.1
                have hk_53 : nC v5 ≤ 255 := nC_le (n := 255) (by omega) p_50
                refine g_aget (D := G.1) (ci := 5) (v := .ref rd) (C := RX5) (T := TX5) (N := 8) hx hb dX5_feed_51 rfl (lv_at hl 0 rfl) hts hiX5 hown hK hP 0 rfl rfl 1 (by decide +kernel) kf21 (fun _ h9 => h9) rfl dX5_feed_52 ?_
                refine va_get (D := G.1) (ci := 1) (v := .int (nI td)) (C := RX1) (T := TX1) (N := 7) hx hb hts hiX1 hown hK hP 1 rfl rfl 6 (by decide +kernel) kf84 (fun _ h9 => h9) rfl dX5_feed_55 ?_
                refine lv_iload_n hx hb dX5_feed_58 rfl (lv_at hl 1 rfl) ?_
                refine g_topi (y := nI (nC v0)) hv_2 ?_
                refine lv_iadd hx hb dX5_feed_59 ?_
                refine g_topi (y := nI (td + (nC v0))) (nI_add td (nC v0)) ?_
                refine lv_sipush (v := 160) hx hb dX5_feed_60 (by decide +kernel) ?_
                refine lv_icmp_le (tgt := 69) hx hb dX5_feed_63 (by decide +kernel) (fun c_56 => ?_) (fun c_56 => ?_)
                · skip
                  have c_56N : (td + (nC v0)) ≤ 160 := nI_le1 (a := (td + (nC v0))) (b := 160) (by omega) (by omega) c_56
                  refine lv_iconst (v := 0) hx hb dX5_feed_69 (by decide +kernel) ?_
                  refine lv_istore (lv' := [zI 7 0, zR 0 h0, zI 1 v0, zI 2 v1, zI 3 v2, zI 4 v3, zI 5 v4, zI 6 v5]) hx hb dX5_feed_70 hl (by decide +kernel) rfl (fun ls hl => ?_)
                  have loop_72 : ∀ (n9 : Nat) (k72 : Nat) (y72b0 : Nat → Int32) (td72 : Nat), (k72 ≤ nC v0) → (p_X5_feed_72 v1 v2 v3 v4 v5 (nC v0 - k72) k72 y72b0 td72 = (g_X5_feed_72 td fb v0 v1 v2 v3 v4 v5)) → (td72 = td + k72) → (nC v0 - k72) < n9 → ∀ (H : Heap) (locs : List Loc), va_P G.1 vwCl [zo5 h0 tt rd nw th kp sh tu him, zo1 rd tt b0 x2 x3 x4 x5 (nI td72), zi G b0 160 y72b0] H → va_D A [zo5 h0 tt rd nw th kp sh tu him, zo1 rd tt b0 x2 x3 x4 x5 (nI td72), zi G b0 160 y72b0] → va_S A s.heap H locs → ∀ ls : Array Slot, lv_has ls 8 [zI 7 (nI k72), zR 0 h0, zI 1 v0, zI 2 v1, zI 3 v2, zI 4 v3, zI 5 v4, zI 6 v5] → W p l e (headSpec wsX5_feed ({ frames := 2, cells := 0, slots := 0, locals := 41 })).room s m ([.ref h0, .int v0, .int v1, .int v2, .int v3, .int v4, .int v5] : List Value).toArray below meth c H locs 0 0 (MQ below (q_X5_feed G h0 tt rd nw th kp sh tu b0 td him x2 x3 x4 x5 fb v0 v1 v2 v3 v4 v5 A) ([.ref h0, .int v0, .int v1, .int v2, .int v3, .int v4, .int v5] : List Value).toArray s 0 0 A) (F0 m 72 ls []) := by
                    intro n9
                    induction n9 with
                    | zero => intro k72 y72b0 td72 hk72 R72 htd72 hm9_72; exact absurd hm9_72 (Nat.not_lt_zero _)
                    | succ n9 ih9_72 =>
                      intro k72 y72b0 td72 hk72 R72 htd72 hm9_72 H locs hP hD hS ls hl
                      refine lv_iload hx hb dX5_feed_72 (lv_at hl 0 rfl) ?_
                      refine lv_iload_n hx hb dX5_feed_74 rfl (lv_at hl 2 rfl) ?_
                      refine g_topi (y := nI (nC v0)) hv_2 ?_
                      refine lv_icmp_ge (tgt := 134) hx hb dX5_feed_75 (by decide +kernel) (fun c_58 => ?_) (fun c_58 => ?_)
                      · skip
                        have c_58N : (nC v0) ≤ k72 := nI_le1 (a := (nC v0)) (b := k72) (by omega) (by omega) c_58
                        have hF72 : (g_X5_feed_72 td fb v0 v1 v2 v3 v4 v5) = (k72, y72b0, td72) := by rw [← R72, show nC v0 - k72 = 0 by omega]; rfl
                        have hE72_0 : k72 = ((g_X5_feed_72 td fb v0 v1 v2 v3 v4 v5).1) := by rw [hF72]
                        have hE72_1 : y72b0 = ((g_X5_feed_72 td fb v0 v1 v2 v3 v4 v5).2.1) := by rw [hF72]
                        have hE72_2 : td72 = ((g_X5_feed_72 td fb v0 v1 v2 v3 v4 v5).2.2) := by rw [hF72]
                        clear hF72 R72
                        subst hE72_0
                        subst hE72_1
                        subst hE72_2
                        refine g_aget (D := G.1) (ci := 5) (v := .ref rd) (C := RX5) (T := TX5) (N := 8) hx hb dX5_feed_134 rfl (lv_at hl 1 rfl) hts hiX5 hown hK hP 0 rfl rfl 1 (by decide +kernel) kf21 (fun _ h9 => h9) rfl dX5_feed_135 ?_
                        refine va_get (D := G.1) (ci := 1) (v := .int (nI ((g_X5_feed_72 td fb v0 v1 v2 v3 v4 v5).2.2))) (C := RX1) (T := TX1) (N := 7) hx hb hts hiX1 hown hK hP 1 rfl rfl 6 (by decide +kernel) kf84 (fun _ h9 => h9) rfl dX5_feed_138 ?_
                        have q_59 : m_X5_feed_rd6 td fb v0 v1 v2 v3 v4 v5 = (g_X5_feed_72 td fb v0 v1 v2 v3 v4 v5).2.2 := by unfold m_X5_feed_rd6; rw [if_neg c_1, if_neg c_8, if_pos p_14, if_pos p_23, if_pos p_32, if_pos p_41, if_pos p_50, if_pos c_56]
                        have q_60 : m_X5_feed_b0 td fb v0 v1 v2 v3 v4 v5 = ((g_X5_feed_72 td fb v0 v1 v2 v3 v4 v5).2.1) := by unfold m_X5_feed_b0; rw [if_neg c_1, if_neg c_8, if_pos p_14, if_pos p_23, if_pos p_32, if_pos p_41, if_pos p_50, if_pos c_56]
                        have hz9 : gPD G A [zo5 h0 tt rd nw th kp sh tu him, zo1 rd tt b0 x2 x3 x4 x5 (nI (m_X5_feed_rd6 td fb v0 v1 v2 v3 v4 v5)), zi G b0 160 (m_X5_feed_b0 td fb v0 v1 v2 v3 v4 v5)] H := ⟨by rw [q_59, q_60]; exact hP, by rw [q_59, q_60]; exact hD⟩
                        have hP9 := hz9.1
                        have hD9 := hz9.2
                        have hpost : (fun (r : Int32) (u : Unit) => match u with | _ => r = m_X5_feed td fb v0 v1 v2 v3 v4 v5) (nI ((g_X5_feed_72 td fb v0 v1 v2 v3 v4 v5).2.2)) () := (show m_X5_feed td fb v0 v1 v2 v3 v4 v5 = (nI ((g_X5_feed_72 td fb v0 v1 v2 v3 v4 v5).2.2)) from by unfold m_X5_feed; rw [if_neg c_1, if_neg c_8, if_pos p_14, if_pos p_23, if_pos p_32, if_pos p_41, if_pos p_50, if_pos c_56]).symm
                        exact W.iret (v := (nI ((g_X5_feed_72 td fb v0 v1 v2 v3 v4 v5).2.2))) hx hb hr (fun t ht hW => ⟨⟨(nI ((g_X5_feed_72 td fb v0 v1 v2 v3 v4 v5).2.2)), (), rfl, hpost, by rw [ht]; exact hP9, va_K.moved hW.alike hK, hD9⟩, hS.F ht⟩) hS.2.2 dX5_feed_141
                      · skip
                        have c_58N : k72 < (nC v0) := nI_le0 (a := (nC v0)) (b := k72) (by omega) (by omega) c_58
                        refine g_aget (D := G.1) (ci := 5) (v := .ref rd) (C := RX5) (T := TX5) (N := 8) hx hb dX5_feed_78 rfl (lv_at hl 1 rfl) hts hiX5 hown hK hP 0 rfl rfl 1 (by decide +kernel) kf21 (fun _ h9 => h9) rfl dX5_feed_79 ?_
                        refine lv_iload hx hb dX5_feed_82 (lv_at hl 0 rfl) ?_
                        refine lv_if_ne (tgt := 91) hx hb dX5_feed_84 (by decide +kernel) (fun c_61 => ?_) (fun c_61 => ?_)
                        · skip
                          have c_61N : ¬ k72 = 0 := nI_eq0 (a := k72) (b := 0) (by omega) (by omega) c_61
                          refine lv_iload hx hb dX5_feed_91 (lv_at hl 0 rfl) ?_
                          refine lv_iconst (v := 1) hx hb dX5_feed_93 (by decide +kernel) ?_
                          refine lv_icmp_ne (tgt := 101) hx hb dX5_feed_94 (by decide +kernel) (fun c_62 => ?_) (fun c_62 => ?_)
                          · skip
                            have c_62N : ¬ k72 = 1 := nI_eq0 (a := k72) (b := 1) (by omega) (by omega) c_62
                            refine lv_iload hx hb dX5_feed_101 (lv_at hl 0 rfl) ?_
                            refine lv_iconst (v := 2) hx hb dX5_feed_103 (by decide +kernel) ?_
                            refine lv_icmp_ne (tgt := 112) hx hb dX5_feed_104 (by decide +kernel) (fun c_63 => ?_) (fun c_63 => ?_)
                            · skip
                              have c_63N : ¬ k72 = 2 := nI_eq0 (a := k72) (b := 2) (by omega) (by omega) c_63
                              refine lv_iload hx hb dX5_feed_112 (lv_at hl 0 rfl) ?_
                              refine lv_iconst (v := 3) hx hb dX5_feed_114 (by decide +kernel) ?_
                              refine lv_icmp_ne (tgt := 123) hx hb dX5_feed_115 (by decide +kernel) (fun c_64 => ?_) (fun c_64 => ?_)
                              · skip
                                have c_64N : ¬ k72 = 3 := nI_eq0 (a := k72) (b := 3) (by omega) (by omega) c_64
                                refine lv_iload hx hb dX5_feed_123 (lv_at hl 7 rfl) ?_
                                refine g_topi (y := nI (nC v5)) hv_52 ?_
                                refine z_callv [1, 2] (va_runV (As := [.int (nI (nC v5))]) (rest := []) ⟨hx, hb, hml, hown, hts⟩ (c_X1_addg l G rd tt b0 td72 x2 x3 x4 x5 y72b0 (nI (nC v5)) H.size (by first | exact htd | assumption | omega)) (cwV 1 hts gX5_feed_X1_add rfl rfl rfl (by decide +kernel) ⟨Nat.le_of_ble_eq_true rfl, Nat.le_of_ble_eq_true rfl⟩) ⟨gPre_blind, va_recv (q := (RX1, TX1, 7)) hK hP (ci := 1) (q0 := 1) rfl rfl, fun U hU hW => gPre_ofF [1, 2] hU hW hK hP hD (by decide +kernel) rfl⟩ rfl rfl hl.1 rfl (lv_room (Nat.le_of_ble_eq_true rfl)) dX5_feed_125 ⟨Nat.le_of_ble_eq_true rfl, Nat.le_of_ble_eq_true rfl⟩) hS hD hA rfl (fun u t H locs ht hvm w_67 hB hz1 hk1 hFq hAq hS => ?_)
                                obtain ⟨hP1, hK1, hD1⟩ := hB
                                have hz9 : gPD G A [zo5 h0 tt rd nw th kp sh tu him, zo1 rd tt b0 x2 x3 x4 x5 (nI (m_X1_addg_h06 td72)), zi G b0 160 (m_X1_addg_b0 td72 y72b0 (nI (nC v5)))] H := zFill hP hD [1, 2] [0, 1, 2] hAq hk1 hFq ht hP1 hD1 rfl (by decide +kernel)
                                have hP := hz9.1
                                have hD := hz9.2
                                refine lv_iinc (v := nI (k72 + 1)) (lv' := [zI 7 (nI (k72 + 1)), zR 0 h0, zI 1 v0, zI 2 v1, zI 3 v2, zI 4 v3, zI 5 v4, zI 6 v5]) hx hb dX5_feed_128 hl (k := 0) rfl (nI_add k72 1) (by decide +kernel) rfl (fun ls hl => ?_)
                                refine lv_goto (tgt := 72) hx hb dX5_feed_131 (by decide +kernel) ?_
                                exact ih9_72 (k72 + 1) (m_X1_addg_b0 td72 y72b0 (nI (nC v5))) (m_X1_addg_h06 td72) (by omega) (Eq.trans (Eq.symm ((congrArg (fun z9 => p_X5_feed_72 v1 v2 v3 v4 v5 (z9) k72 y72b0 td72) (show nC v0 - k72 = nC v0 - (k72 + 1) + 1 by omega)).trans (by show p_X5_feed_72 v1 v2 v3 v4 v5 (nC v0 - (k72 + 1) + 1) k72 y72b0 td72 = _; rw [p_X5_feed_72, if_neg c_61, if_neg c_62, if_neg c_63, if_neg c_64]))) R72) (by rw [X1_add_len (by omega)]; omega) (by omega) _ _ hP hD hS ls hl
                              · skip
                                have c_64N : k72 = 3 := nI_eq1 (a := k72) (b := 3) (by omega) (by omega) c_64
                                refine lv_iload hx hb dX5_feed_118 (lv_at hl 6 rfl) ?_
                                refine g_topi (y := nI (nC v4)) hv_43 ?_
                                refine lv_goto (tgt := 125) hx hb dX5_feed_120 (by decide +kernel) ?_
                                refine z_callv [1, 2] (va_runV (As := [.int (nI (nC v4))]) (rest := []) ⟨hx, hb, hml, hown, hts⟩ (c_X1_addg l G rd tt b0 td72 x2 x3 x4 x5 y72b0 (nI (nC v4)) H.size (by first | exact htd | assumption | omega)) (cwV 1 hts gX5_feed_X1_add rfl rfl rfl (by decide +kernel) ⟨Nat.le_of_ble_eq_true rfl, Nat.le_of_ble_eq_true rfl⟩) ⟨gPre_blind, va_recv (q := (RX1, TX1, 7)) hK hP (ci := 1) (q0 := 1) rfl rfl, fun U hU hW => gPre_ofF [1, 2] hU hW hK hP hD (by decide +kernel) rfl⟩ rfl rfl hl.1 rfl (lv_room (Nat.le_of_ble_eq_true rfl)) dX5_feed_125 ⟨Nat.le_of_ble_eq_true rfl, Nat.le_of_ble_eq_true rfl⟩) hS hD hA rfl (fun u t H locs ht hvm w_70 hB hz1 hk1 hFq hAq hS => ?_)
                                obtain ⟨hP1, hK1, hD1⟩ := hB
                                have hz9 : gPD G A [zo5 h0 tt rd nw th kp sh tu him, zo1 rd tt b0 x2 x3 x4 x5 (nI (m_X1_addg_h06 td72)), zi G b0 160 (m_X1_addg_b0 td72 y72b0 (nI (nC v4)))] H := zFill hP hD [1, 2] [0, 1, 2] hAq hk1 hFq ht hP1 hD1 rfl (by decide +kernel)
                                have hP := hz9.1
                                have hD := hz9.2
                                refine lv_iinc (v := nI (k72 + 1)) (lv' := [zI 7 (nI (k72 + 1)), zR 0 h0, zI 1 v0, zI 2 v1, zI 3 v2, zI 4 v3, zI 5 v4, zI 6 v5]) hx hb dX5_feed_128 hl (k := 0) rfl (nI_add k72 1) (by decide +kernel) rfl (fun ls hl => ?_)
                                refine lv_goto (tgt := 72) hx hb dX5_feed_131 (by decide +kernel) ?_
                                exact ih9_72 (k72 + 1) (m_X1_addg_b0 td72 y72b0 (nI (nC v4))) (m_X1_addg_h06 td72) (by omega) (Eq.trans (Eq.symm ((congrArg (fun z9 => p_X5_feed_72 v1 v2 v3 v4 v5 (z9) k72 y72b0 td72) (show nC v0 - k72 = nC v0 - (k72 + 1) + 1 by omega)).trans (by show p_X5_feed_72 v1 v2 v3 v4 v5 (nC v0 - (k72 + 1) + 1) k72 y72b0 td72 = _; rw [p_X5_feed_72, if_neg c_61, if_neg c_62, if_neg c_63, if_pos c_64]))) R72) (by rw [X1_add_len (by omega)]; omega) (by omega) _ _ hP hD hS ls hl
                            · skip
                              have c_63N : k72 = 2 := nI_eq1 (a := k72) (b := 2) (by omega) (by omega) c_63
                              refine lv_iload hx hb dX5_feed_107 (lv_at hl 5 rfl) ?_
                              refine g_topi (y := nI (nC v3)) hv_34 ?_
                              refine lv_goto (tgt := 125) hx hb dX5_feed_109 (by decide +kernel) ?_
                              refine z_callv [1, 2] (va_runV (As := [.int (nI (nC v3))]) (rest := []) ⟨hx, hb, hml, hown, hts⟩ (c_X1_addg l G rd tt b0 td72 x2 x3 x4 x5 y72b0 (nI (nC v3)) H.size (by first | exact htd | assumption | omega)) (cwV 1 hts gX5_feed_X1_add rfl rfl rfl (by decide +kernel) ⟨Nat.le_of_ble_eq_true rfl, Nat.le_of_ble_eq_true rfl⟩) ⟨gPre_blind, va_recv (q := (RX1, TX1, 7)) hK hP (ci := 1) (q0 := 1) rfl rfl, fun U hU hW => gPre_ofF [1, 2] hU hW hK hP hD (by decide +kernel) rfl⟩ rfl rfl hl.1 rfl (lv_room (Nat.le_of_ble_eq_true rfl)) dX5_feed_125 ⟨Nat.le_of_ble_eq_true rfl, Nat.le_of_ble_eq_true rfl⟩) hS hD hA rfl (fun u t H locs ht hvm w_73 hB hz1 hk1 hFq hAq hS => ?_)
                              obtain ⟨hP1, hK1, hD1⟩ := hB
                              have hz9 : gPD G A [zo5 h0 tt rd nw th kp sh tu him, zo1 rd tt b0 x2 x3 x4 x5 (nI (m_X1_addg_h06 td72)), zi G b0 160 (m_X1_addg_b0 td72 y72b0 (nI (nC v3)))] H := zFill hP hD [1, 2] [0, 1, 2] hAq hk1 hFq ht hP1 hD1 rfl (by decide +kernel)
                              have hP := hz9.1
                              have hD := hz9.2
                              refine lv_iinc (v := nI (k72 + 1)) (lv' := [zI 7 (nI (k72 + 1)), zR 0 h0, zI 1 v0, zI 2 v1, zI 3 v2, zI 4 v3, zI 5 v4, zI 6 v5]) hx hb dX5_feed_128 hl (k := 0) rfl (nI_add k72 1) (by decide +kernel) rfl (fun ls hl => ?_)
                              refine lv_goto (tgt := 72) hx hb dX5_feed_131 (by decide +kernel) ?_
                              exact ih9_72 (k72 + 1) (m_X1_addg_b0 td72 y72b0 (nI (nC v3))) (m_X1_addg_h06 td72) (by omega) (Eq.trans (Eq.symm ((congrArg (fun z9 => p_X5_feed_72 v1 v2 v3 v4 v5 (z9) k72 y72b0 td72) (show nC v0 - k72 = nC v0 - (k72 + 1) + 1 by omega)).trans (by show p_X5_feed_72 v1 v2 v3 v4 v5 (nC v0 - (k72 + 1) + 1) k72 y72b0 td72 = _; rw [p_X5_feed_72, if_neg c_61, if_neg c_62, if_pos c_63]))) R72) (by rw [X1_add_len (by omega)]; omega) (by omega) _ _ hP hD hS ls hl
                          · skip
                            have c_62N : k72 = 1 := nI_eq1 (a := k72) (b := 1) (by omega) (by omega) c_62
                            refine lv_iload_n hx hb dX5_feed_97 rfl (lv_at hl 4 rfl) ?_
                            refine g_topi (y := nI (nC v2)) hv_25 ?_
                            refine lv_goto (tgt := 125) hx hb dX5_feed_98 (by decide +kernel) ?_
                            refine z_callv [1, 2] (va_runV (As := [.int (nI (nC v2))]) (rest := []) ⟨hx, hb, hml, hown, hts⟩ (c_X1_addg l G rd tt b0 td72 x2 x3 x4 x5 y72b0 (nI (nC v2)) H.size (by first | exact htd | assumption | omega)) (cwV 1 hts gX5_feed_X1_add rfl rfl rfl (by decide +kernel) ⟨Nat.le_of_ble_eq_true rfl, Nat.le_of_ble_eq_true rfl⟩) ⟨gPre_blind, va_recv (q := (RX1, TX1, 7)) hK hP (ci := 1) (q0 := 1) rfl rfl, fun U hU hW => gPre_ofF [1, 2] hU hW hK hP hD (by decide +kernel) rfl⟩ rfl rfl hl.1 rfl (lv_room (Nat.le_of_ble_eq_true rfl)) dX5_feed_125 ⟨Nat.le_of_ble_eq_true rfl, Nat.le_of_ble_eq_true rfl⟩) hS hD hA rfl (fun u t H locs ht hvm w_76 hB hz1 hk1 hFq hAq hS => ?_)
                            obtain ⟨hP1, hK1, hD1⟩ := hB
                            have hz9 : gPD G A [zo5 h0 tt rd nw th kp sh tu him, zo1 rd tt b0 x2 x3 x4 x5 (nI (m_X1_addg_h06 td72)), zi G b0 160 (m_X1_addg_b0 td72 y72b0 (nI (nC v2)))] H := zFill hP hD [1, 2] [0, 1, 2] hAq hk1 hFq ht hP1 hD1 rfl (by decide +kernel)
                            have hP := hz9.1
                            have hD := hz9.2
                            refine lv_iinc (v := nI (k72 + 1)) (lv' := [zI 7 (nI (k72 + 1)), zR 0 h0, zI 1 v0, zI 2 v1, zI 3 v2, zI 4 v3, zI 5 v4, zI 6 v5]) hx hb dX5_feed_128 hl (k := 0) rfl (nI_add k72 1) (by decide +kernel) rfl (fun ls hl => ?_)
                            refine lv_goto (tgt := 72) hx hb dX5_feed_131 (by decide +kernel) ?_
                            exact ih9_72 (k72 + 1) (m_X1_addg_b0 td72 y72b0 (nI (nC v2))) (m_X1_addg_h06 td72) (by omega) (Eq.trans (Eq.symm ((congrArg (fun z9 => p_X5_feed_72 v1 v2 v3 v4 v5 (z9) k72 y72b0 td72) (show nC v0 - k72 = nC v0 - (k72 + 1) + 1 by omega)).trans (by show p_X5_feed_72 v1 v2 v3 v4 v5 (nC v0 - (k72 + 1) + 1) k72 y72b0 td72 = _; rw [p_X5_feed_72, if_neg c_61, if_pos c_62]))) R72) (by rw [X1_add_len (by omega)]; omega) (by omega) _ _ hP hD hS ls hl
                        · skip
                          have c_61N : k72 = 0 := nI_eq1 (a := k72) (b := 0) (by omega) (by omega) c_61
                          refine lv_iload_n hx hb dX5_feed_87 rfl (lv_at hl 3 rfl) ?_
                          refine g_topi (y := nI (nC v1)) hv_16 ?_
                          refine lv_goto (tgt := 125) hx hb dX5_feed_88 (by decide +kernel) ?_
                          refine z_callv [1, 2] (va_runV (As := [.int (nI (nC v1))]) (rest := []) ⟨hx, hb, hml, hown, hts⟩ (c_X1_addg l G rd tt b0 td72 x2 x3 x4 x5 y72b0 (nI (nC v1)) H.size (by first | exact htd | assumption | omega)) (cwV 1 hts gX5_feed_X1_add rfl rfl rfl (by decide +kernel) ⟨Nat.le_of_ble_eq_true rfl, Nat.le_of_ble_eq_true rfl⟩) ⟨gPre_blind, va_recv (q := (RX1, TX1, 7)) hK hP (ci := 1) (q0 := 1) rfl rfl, fun U hU hW => gPre_ofF [1, 2] hU hW hK hP hD (by decide +kernel) rfl⟩ rfl rfl hl.1 rfl (lv_room (Nat.le_of_ble_eq_true rfl)) dX5_feed_125 ⟨Nat.le_of_ble_eq_true rfl, Nat.le_of_ble_eq_true rfl⟩) hS hD hA rfl (fun u t H locs ht hvm w_79 hB hz1 hk1 hFq hAq hS => ?_)
                          obtain ⟨hP1, hK1, hD1⟩ := hB
                          have hz9 : gPD G A [zo5 h0 tt rd nw th kp sh tu him, zo1 rd tt b0 x2 x3 x4 x5 (nI (m_X1_addg_h06 td72)), zi G b0 160 (m_X1_addg_b0 td72 y72b0 (nI (nC v1)))] H := zFill hP hD [1, 2] [0, 1, 2] hAq hk1 hFq ht hP1 hD1 rfl (by decide +kernel)
                          have hP := hz9.1
                          have hD := hz9.2
                          refine lv_iinc (v := nI (k72 + 1)) (lv' := [zI 7 (nI (k72 + 1)), zR 0 h0, zI 1 v0, zI 2 v1, zI 3 v2, zI 4 v3, zI 5 v4, zI 6 v5]) hx hb dX5_feed_128 hl (k := 0) rfl (nI_add k72 1) (by decide +kernel) rfl (fun ls hl => ?_)
                          refine lv_goto (tgt := 72) hx hb dX5_feed_131 (by decide +kernel) ?_
                          exact ih9_72 (k72 + 1) (m_X1_addg_b0 td72 y72b0 (nI (nC v1))) (m_X1_addg_h06 td72) (by omega) (Eq.trans (Eq.symm ((congrArg (fun z9 => p_X5_feed_72 v1 v2 v3 v4 v5 (z9) k72 y72b0 td72) (show nC v0 - k72 = nC v0 - (k72 + 1) + 1 by omega)).trans (by show p_X5_feed_72 v1 v2 v3 v4 v5 (nC v0 - (k72 + 1) + 1) k72 y72b0 td72 = _; rw [p_X5_feed_72, if_pos c_61]))) R72) (by rw [X1_add_len (by omega)]; omega) (by omega) _ _ hP hD hS ls hl
                  exact loop_72 (nC v0 - 0 + 1) 0 fb td (by omega) (rfl) (rfl) (by omega) _ _ hP hD hS ls hl
                · skip
                  have c_56N : 160 < (td + (nC v0)) := nI_le0 (a := (td + (nC v0))) (b := 160) (by omega) (by omega) c_56
                  refine lv_bipush (v := -4) hx hb dX5_feed_66 (by decide +kernel) ?_
                  have q_80 : m_X5_feed_rd6 td fb v0 v1 v2 v3 v4 v5 = td := by unfold m_X5_feed_rd6; rw [if_neg c_1, if_neg c_8, if_pos p_14, if_pos p_23, if_pos p_32, if_pos p_41, if_pos p_50, if_neg c_56]
                  have q_81 : m_X5_feed_b0 td fb v0 v1 v2 v3 v4 v5 = fb := by unfold m_X5_feed_b0; rw [if_neg c_1, if_neg c_8, if_pos p_14, if_pos p_23, if_pos p_32, if_pos p_41, if_pos p_50, if_neg c_56]
                  have hz9 : gPD G A [zo5 h0 tt rd nw th kp sh tu him, zo1 rd tt b0 x2 x3 x4 x5 (nI (m_X5_feed_rd6 td fb v0 v1 v2 v3 v4 v5)), zi G b0 160 (m_X5_feed_b0 td fb v0 v1 v2 v3 v4 v5)] H := ⟨by rw [q_80, q_81]; exact hP, by rw [q_80, q_81]; exact hD⟩
                  have hP9 := hz9.1
                  have hD9 := hz9.2
                  have hpost : (fun (r : Int32) (u : Unit) => match u with | _ => r = m_X5_feed td fb v0 v1 v2 v3 v4 v5) (-4) () := (show m_X5_feed td fb v0 v1 v2 v3 v4 v5 = (-4) from by unfold m_X5_feed; rw [if_neg c_1, if_neg c_8, if_pos p_14, if_pos p_23, if_pos p_32, if_pos p_41, if_pos p_50, if_neg c_56]).symm
                  exact W.iret (v := (-4)) hx hb hr (fun t ht hW => ⟨⟨(-4), (), rfl, hpost, by rw [ht]; exact hP9, va_K.moved hW.alike hK, hD9⟩, hS.F ht⟩) hS.2.2 dX5_feed_68
              · skip
                have n_51 : ¬ (0 ≤ v5 ∧ v5 ≤ 255) := of_decide_eq_false (bz_eq rfl c_49)
                refine lv_bipush (v := -2) hx hb dX5_feed_48 (by decide +kernel) ?_
                have q_82 : m_X5_feed_rd6 td fb v0 v1 v2 v3 v4 v5 = td := by unfold m_X5_feed_rd6; rw [if_neg c_1, if_neg c_8, if_pos p_14, if_pos p_23, if_pos p_32, if_pos p_41, if_neg n_51]
                have q_83 : m_X5_feed_b0 td fb v0 v1 v2 v3 v4 v5 = fb := by unfold m_X5_feed_b0; rw [if_neg c_1, if_neg c_8, if_pos p_14, if_pos p_23, if_pos p_32, if_pos p_41, if_neg n_51]
                have hz9 : gPD G A [zo5 h0 tt rd nw th kp sh tu him, zo1 rd tt b0 x2 x3 x4 x5 (nI (m_X5_feed_rd6 td fb v0 v1 v2 v3 v4 v5)), zi G b0 160 (m_X5_feed_b0 td fb v0 v1 v2 v3 v4 v5)] H := ⟨by rw [q_82, q_83]; exact hP, by rw [q_82, q_83]; exact hD⟩
                have hP9 := hz9.1
                have hD9 := hz9.2
                have hpost : (fun (r : Int32) (u : Unit) => match u with | _ => r = m_X5_feed td fb v0 v1 v2 v3 v4 v5) (-2) () := (show m_X5_feed td fb v0 v1 v2 v3 v4 v5 = (-2) from by unfold m_X5_feed; rw [if_neg c_1, if_neg c_8, if_pos p_14, if_pos p_23, if_pos p_32, if_pos p_41, if_neg n_51]).symm
                exact W.iret (v := (-2)) hx hb hr (fun t ht hW => ⟨⟨(-2), (), rfl, hpost, by rw [ht]; exact hP9, va_K.moved hW.alike hK, hD9⟩, hS.F ht⟩) hS.2.2 dX5_feed_50
