set_option maxHeartbeats 4000000 in
set_option maxRecDepth 100000 in
theorem lc_pebblesBy_A {p : Program} {l : Launch} {e : Env} {s : State} {m : MethodId} {below : List Frame} {meth : Method} {c : Code} {b L : Nat} {xs : Nat → Int32} {G : gG} {E : gS} {A : Nat → Prop} (C0 : lw_At p s m meth c b L xs) (hE : gE E A s s.heap) (hK : gK G s) (hAe : A = fun q => s.heap.size ≤ q) {xo tt rd nw th kp sh tu b0 co en sk c0 c1 c2 c3 c4 c5 e0 e1 e2 e3 e4 e5 n1 n2 n3 n4 n5 n6 n7 n8 t1 t2 t3 t4 t5 t6 t7 t8 k1 k2 k3 k4 k5 k6 k7 k8 qn qo ql r0 r1 r2 r3 tw tr w0 w1 w2 w3 w4 w5 mo Akd Amo Ast Aro Atp Acd Asr Air Aih Ass Asq Ace Alw Awo Ahe Ask Ana Akp Agb Ago Afa Aga Avo : Nat} {fc fe fn fw : Nat → Option Nat} {tx : Nat} {fcr0 fcr1 fcr2 fcr3 fcr4 fcr5 : Nat → Int32} {fer0 fer1 fer2 fer3 fer4 fer5 : Nat → Nat} {him x2 x3 x4 x5 : Int32} {td : Nat} {fb : Nat → Int32} {wr : Int32} {fsk : Nat → Int32} {jg pb lw : Nat} {fnm fso fmi fpa fki fmo fsz frd : Nat → Int32} {tj tb tl : Int32} {unm uso umi upa uki umo usz urd : Nat → Int32} {kj kb kl : Nat} {gnm gso gmi gpa gki gmo gsz grd fs0 fs1 fs2 fs3 fqo : Nat → Int32} {fql : Nat → Nat} {fw0 fw1 fw2 fw3 fw4 fw5 ftr : Nat → Int32} {Npb Njg Ntd Ntx Nru : Nat} {Zhi Z19 Z20 Z21 Z22 Z25 Z26 Z27 Z31 Z32 Z33 Z34 Z39 Z40 : Int32} {Fkd Fmo Fst Fro Ftp Fcd : Nat → Int32} {Fsr : Nat → Nat} {Fir Fih Fss : Nat → Int32} {Fsq : Nat → Nat} {Fce Flw Fwo Fhe Fsk Fna Fkp Fgb Fgo Ffa Fga Fvo : Nat → Int32} {sn : Nat} {v2 v3 v4 v5 v6 : Int32} {i7 : Nat} (hi : 7 * i7 + 7 ≤ L) (hL : L ≤ 3584) (hv1 : (nI sn) = xs (7 * i7 + 1)) (hv2 : v2 = xs (7 * i7 + 2)) (hv3 : v3 = xs (7 * i7 + 3)) (hv4 : v4 = xs (7 * i7 + 4)) (hv5 : v5 = xs (7 * i7 + 5)) (hv6 : v6 = xs (7 * i7 + 6)) (hsn : sn < 4) (hrw : fn sn = some r0) (K : LawV p l e s m below meth c b G A xo tt rd nw th kp sh tu b0 co en sk c0 c1 c2 c3 c4 c5 e0 e1 e2 e3 e4 e5 n1 n2 n3 n4 n5 n6 n7 n8 t1 t2 t3 t4 t5 t6 t7 t8 k1 k2 k3 k4 k5 k6 k7 k8 qn qo ql r0 r1 r2 r3 tw tr w0 w1 w2 w3 w4 w5 mo Akd Amo Ast Aro Atp Acd Asr Air Aih Ass Asq Ace Alw Awo Ahe Ask Ana Akp Agb Ago Afa Aga Avo fc fe fn fw tx fcr0 fcr1 fcr2 fcr3 fcr4 fcr5 fer0 fer1 fer2 fer3 fer4 fer5 (i7 + 1)) (hFX : FXP jg pb lw kj kb kl tx td him fql) (hFM : FMP Npb Njg Ntd Ntx Nru Zhi Fcd Fsr Fsq Fir Fih) (hRL : RLP False fn r0 r1 r2 r3 jg pb kj kb him fs0 fs1 fs2 fs3 fqo fql Npb Njg Zhi Fss Fsq Fce Fih) (hRQ : RQP fc c0 c1 c2 c3 c4 c5 fcr0 fcr1 fcr2 fcr3 fcr4 fcr5 fer0 fer1 fer2 fer3 fer4 fer5 pb lw tx td kb kl him fb fso fmi fpa fki fmo fsz frd gso gmi gpa gki gmo gsz grd Nru Ntx Ntd Fkd Fmo Fst Fro Ftp Fcd Fsr Fir Fih Fwo) {H : Heap} {locs : List Loc} (hP : va_P G.1 vwCl (WLd G xo tt rd nw th kp sh tu b0 co en sk c0 c1 c2 c3 c4 c5 e0 e1 e2 e3 e4 e5 n1 n2 n3 n4 n5 n6 n7 n8 t1 t2 t3 t4 t5 t6 t7 t8 k1 k2 k3 k4 k5 k6 k7 k8 qn qo ql r0 r1 r2 r3 tw tr w0 w1 w2 w3 w4 w5 mo Akd Amo Ast Aro Atp Acd Asr Air Aih Ass Asq Ace Alw Awo Ahe Ask Ana Akp Agb Ago Afa Aga Avo fc fe fn fw tx fcr0 fcr1 fcr2 fcr3 fcr4 fcr5 fer0 fer1 fer2 fer3 fer4 fer5 him x2 x3 x4 x5 td fb wr fsk jg pb lw fnm fso fmi fpa fki fmo fsz frd tj tb tl unm uso umi upa uki umo usz urd kj kb kl gnm gso gmi gpa gki gmo gsz grd fs0 fs1 fs2 fs3 fqo fql fw0 fw1 fw2 fw3 fw4 fw5 ftr Npb Njg Ntd Ntx Nru Zhi Z19 Z20 Z21 Z22 Z25 Z26 Z27 Z31 Z32 Z33 Z34 Z39 Z40 Fkd Fmo Fst Fro Ftp Fcd Fsr Fir Fih Fss Fsq Fce Flw Fwo Fhe Fsk Fna Fkp Fgb Fgo Ffa Fga Fvo) H) (hD : va_D A (WLd G xo tt rd nw th kp sh tu b0 co en sk c0 c1 c2 c3 c4 c5 e0 e1 e2 e3 e4 e5 n1 n2 n3 n4 n5 n6 n7 n8 t1 t2 t3 t4 t5 t6 t7 t8 k1 k2 k3 k4 k5 k6 k7 k8 qn qo ql r0 r1 r2 r3 tw tr w0 w1 w2 w3 w4 w5 mo Akd Amo Ast Aro Atp Acd Asr Air Aih Ass Asq Ace Alw Awo Ahe Ask Ana Akp Agb Ago Afa Aga Avo fc fe fn fw tx fcr0 fcr1 fcr2 fcr3 fcr4 fcr5 fer0 fer1 fer2 fer3 fer4 fer5 him x2 x3 x4 x5 td fb wr fsk jg pb lw fnm fso fmi fpa fki fmo fsz frd tj tb tl unm uso umi upa uki umo usz urd kj kb kl gnm gso gmi gpa gki gmo gsz grd fs0 fs1 fs2 fs3 fqo fql fw0 fw1 fw2 fw3 fw4 fw5 ftr Npb Njg Ntd Ntx Nru Zhi Z19 Z20 Z21 Z22 Z25 Z26 Z27 Z31 Z32 Z33 Z34 Z39 Z40 Fkd Fmo Fst Fro Ftp Fcd Fsr Fir Fih Fss Fsq Fce Flw Fwo Fhe Fsk Fna Fkp Fgb Fgo Ffa Fga Fvo)) (hS : va_S A s.heap H locs) {ls : Array Slot} (hl : lv_has ls 4 [zI 3 (nI (7 * i7)), zR 2 mo, zR 1 xo, zR 0 b]) : W p l e room_1 s m #[Value.ref b] below meth c H locs 87 4128 (lw_Z below #[Value.ref b] s) (F0 m 1528 ls []) := by
  obtain ⟨hx, hb, hret, hml, hown, hts0, hX, hbl, hlocks, hgv⟩ := id C0
  have hts : ∀ w ∈ wsL_law, w.before #[Value.ref b] s = true := fun w h => hts0 w (wsL_law_in w h)
  have hown : s.vm.findClass RL = some m.cls := hown
  have hA : ∀ q : Nat, s.heap.size ≤ q → A q := fun q h => by rw [hAe]; exact h
  have hbA : ¬ A b := by rw [hAe]; exact Nat.not_le.mpr hbl
  obtain ⟨⟨hjg, hpb, hlw, htx, htd⟩, hkk, hql⟩ := id hFX
  obtain ⟨⟨hNpb, hNjg, hNru, hNtx, hNtd⟩, hwa, hsq, hIM⟩ := id hFM
  have hz9 : gPD G A [zo5 xo tt rd nw th kp sh tu him, zo1 rd tt b0 x2 x3 x4 x5 (nI td), zi G b0 160 fb, zo3 tt co en sk wr (nI tx), zr G co 6 fc, zi G c0 160 fcr0, zi G c1 160 fcr1, zi G c2 160 fcr2, zi G c3 160 fcr3, zi G c4 160 fcr4, zi G c5 160 fcr5, zr G en 6 fe, zi G e0 3 (nF fer0), zi G e1 3 (nF fer1), zi G e2 3 (nF fer2), zi G e3 3 (nF fer3), zi G e4 3 (nF fer4), zi G e5 3 (nF fer5), zi G sk 32 fsk, zo0 nw tt n1 n2 n3 n4 n5 n6 n7 n8 (nI jg) (nI pb) (nI lw), zi G n1 6 fnm, zi G n2 4 fso, zi G n3 4 fmi, zi G n4 4 fpa, zi G n5 6 fki, zi G n6 6 fmo, zi G n7 6 fsz, zi G n8 6 frd, zo0 th tt t1 t2 t3 t4 t5 t6 t7 t8 tj tb tl, zi G t1 6 unm, zi G t2 4 uso, zi G t3 4 umi, zi G t4 4 upa, zi G t5 6 uki, zi G t6 6 umo, zi G t7 6 usz, zi G t8 6 urd, zo0 kp tt k1 k2 k3 k4 k5 k6 k7 k8 (nI kj) (nI kb) (nI kl), zi G k1 6 gnm, zi G k2 4 gso, zi G k3 4 gmi, zi G k4 4 gpa, zi G k5 6 gki, zi G k6 6 gmo, zi G k7 6 gsz, zi G k8 6 grd, zo2 sh qn qo ql, zr G qn 4 fn, zi G r0 40 fs0, zi G r1 40 fs1, zi G r2 40 fs2, zi G r3 40 fs3, zi G qo 4 fqo, zi G ql 4 (nF fql), zo4 tu tw tr, zr G tw 6 fw, zi G w0 6 fw0, zi G w1 6 fw1, zi G w2 6 fw2, zi G w3 6 fw3, zi G w4 6 fw4, zi G w5 6 fw5, zi G tr 64 ftr, zo6 mo (nI Npb) Akd Amo Ast (nI Njg) Aro Atp (nI Ntd) Acd Asr (nI Ntx) (nI Nru) Zhi Air Aih Ass Asq Ace Alw Z19 Z20 Z21 Z22 Awo Ahe Z25 Z26 Z27 Ask Ana Akp Z31 Z32 Z33 Z34 Agb Ago Afa Aga Z39 Z40 Avo, zi G Akd 6 Fkd, zi G Amo 6 Fmo, zi G Ast 12 Fst, zi G Aro 12 Fro, zi G Atp 160 Ftp, zi G Acd 1200 Fcd, zi G Asr 24 (nF Fsr), zi G Air 24 Fir, zi G Aih 3 Fih, zi G Ass 4 Fss, zi G Asq 4 (nF Fsq), zi G Ace 160 Fce, zi G Alw 40 Flw, zi G Awo 96 Fwo, zi G Ahe 200 Fhe, zi G Ask 200 Fsk, zi G Ana 6 Fna, zi G Akp 24 Fkp, zb G Agb 61 Fgb, zb G Ago 61 Fgo, zi G Afa 36 Ffa, zi G Aga 36 Fga, zi G Avo 64 Fvo] H := ⟨hP, hD⟩
  have hP := hz9.1
  have hD := hz9.2
  refine lv_aload_n hx hb dL_law_1528 rfl (lv_at hl 2 rfl) ?_
  refine lv_aload_n hx hb dL_law_1529 rfl (lv_at hl 3 rfl) ?_
  refine lv_iload_n hx hb dL_law_1530 rfl (lv_at hl 0 rfl) ?_
  refine lv_iconst (v := 1) hx hb dL_law_1531 (by decide +kernel) ?_
  refine lv_iadd hx hb dL_law_1532 ?_
  refine lv_topi (fun v_1 ev_1 => ?_)
  have ev_1 : v_1 = nI ((7 * i7) + 1) := ev_1.trans (nI_add (7 * i7) 1)
  subst ev_1
  refine va_sld hx hb hX hbl hbA hS (i := nI ((7 * i7) + 1)) (vp_in_nI (by omega) (by omega)) dL_law_1533 ?_
  refine lv_topi (fun v_2 ev_2 => ?_)
  have ev_2 : (nI sn) = v_2 := (ev_2.trans (by rw [nI_clamp (by omega)]; exact hv1.symm)).symm
  subst ev_2
  refine lv_aload_n hx hb dL_law_1534 rfl (lv_at hl 3 rfl) ?_
  refine lv_iload_n hx hb dL_law_1535 rfl (lv_at hl 0 rfl) ?_
  refine lv_iconst (v := 2) hx hb dL_law_1536 (by decide +kernel) ?_
  refine lv_iadd hx hb dL_law_1537 ?_
  refine lv_topi (fun v_3 ev_3 => ?_)
  have ev_3 : v_3 = nI ((7 * i7) + 2) := ev_3.trans (nI_add (7 * i7) 2)
  subst ev_3
  refine va_sld hx hb hX hbl hbA hS (i := nI ((7 * i7) + 2)) (vp_in_nI (by omega) (by omega)) dL_law_1538 ?_
  refine lv_topi (fun v_4 ev_4 => ?_)
  have ev_4 : v2 = v_4 := (ev_4.trans (by rw [nI_clamp (by omega)]; exact hv2.symm)).symm
  subst ev_4
  refine lv_aload_n hx hb dL_law_1539 rfl (lv_at hl 3 rfl) ?_
  refine lv_iload_n hx hb dL_law_1540 rfl (lv_at hl 0 rfl) ?_
  refine lv_iconst (v := 3) hx hb dL_law_1541 (by decide +kernel) ?_
  refine lv_iadd hx hb dL_law_1542 ?_
  refine lv_topi (fun v_5 ev_5 => ?_)
  have ev_5 : v_5 = nI ((7 * i7) + 3) := ev_5.trans (nI_add (7 * i7) 3)
  subst ev_5
  refine va_sld hx hb hX hbl hbA hS (i := nI ((7 * i7) + 3)) (vp_in_nI (by omega) (by omega)) dL_law_1543 ?_
  refine lv_topi (fun v_6 ev_6 => ?_)
  have ev_6 : v3 = v_6 := (ev_6.trans (by rw [nI_clamp (by omega)]; exact hv3.symm)).symm
  subst ev_6
  refine lv_aload_n hx hb dL_law_1544 rfl (lv_at hl 3 rfl) ?_
  refine lv_iload_n hx hb dL_law_1545 rfl (lv_at hl 0 rfl) ?_
  refine lv_iconst (v := 4) hx hb dL_law_1546 (by decide +kernel) ?_
  refine lv_iadd hx hb dL_law_1547 ?_
  refine lv_topi (fun v_7 ev_7 => ?_)
  have ev_7 : v_7 = nI ((7 * i7) + 4) := ev_7.trans (nI_add (7 * i7) 4)
  subst ev_7
  refine va_sld hx hb hX hbl hbA hS (i := nI ((7 * i7) + 4)) (vp_in_nI (by omega) (by omega)) dL_law_1548 ?_
  refine lv_topi (fun v_8 ev_8 => ?_)
  have ev_8 : v4 = v_8 := (ev_8.trans (by rw [nI_clamp (by omega)]; exact hv4.symm)).symm
  subst ev_8
  have hz9 : gPD G A [zo5 xo tt rd nw th kp sh tu him, zo0 nw tt n1 n2 n3 n4 n5 n6 n7 n8 (nI jg) (nI pb) (nI lw), zi G n5 6 fki, zi G n6 6 fmo, zi G n7 6 fsz, zi G n8 6 frd, zo2 sh qn qo ql, zr G qn 4 fn, zi G qo 4 fqo, zi G ql 4 (nF fql), zi G r0 40 fs0] H := ⟨hP.sub [0, 19, 24, 25, 26, 27, 46, 47, 52, 53, 48] rfl, hD.sub [0, 19, 24, 25, 26, 27, 46, 47, 52, 53, 48] (by decide +kernel) rfl⟩
  have hPc := hz9.1
  have hDc := hz9.2
  have hFc := gFree hPc hD hS hA [0, 19, 24, 25, 26, 27, 46, 47, 52, 53, 48] rfl
  refine va_calli (va_runV (As := [.int (nI sn), .int v2, .int v3, .int v4]) (rest := []) ⟨hx, hb, hml, hown, hts⟩ (c_X5_pebblesBy_A l G E xo tt rd nw th kp sh tu n1 n2 n3 n4 n5 n6 n7 n8 qn qo ql r0 jg pb lw him fn fql fki fmo fsz frd fqo fs0 sn v2 v3 v4 H.size (by first | exact hsn | assumption | omega) (by first | exact hrw | assumption | omega) (by first | exact hql | assumption | omega) (by first | exact hjg | assumption | omega) (by first | exact hpb | assumption | omega)) (cwV 4 hts gL_law_X5_pebblesBy rfl rfl rfl (by decide +kernel) ⟨Nat.le_of_ble_eq_true rfl, Nat.le_of_ble_eq_true rfl⟩) ⟨gPreE_blind, va_recv hK hPc (ci := 5) (q0 := 0) rfl rfl, fun U hU hW => gPreE_of hU hW hK hPc hDc hE hS hFc⟩ rfl rfl hl.1 rfl (lv_room (Nat.le_of_ble_eq_true rfl)) dL_law_1549 ⟨Nat.le_of_ble_eq_true rfl, Nat.le_of_ble_eq_true rfl⟩) hS (fun q _ h => hFc q h) hFc (fun r_9 u t H locs ht hvm w_10 hB hz1 hk1 hS => ?_)
  obtain ⟨hP1, hK1, hD1⟩ := hB
  rw [ht] at hP1
  have hz9 : gPD G (va_A _ _) [zo5 xo tt rd nw th kp sh tu him, zo0 nw tt n1 n2 n3 n4 n5 n6 n7 n8 (nI jg) (nI (m_X5_pebblesBy_A_nw10 pb fql fki fmo fsz frd fqo fs0 sn v2 v3 v4)) (nI lw), zi G n5 6 (m_X5_pebblesBy_A_n5 pb fql fki fmo fsz frd fqo fs0 sn v2 v3 v4), zi G n6 6 (m_X5_pebblesBy_A_n6 pb fql fki fmo fsz frd fqo fs0 sn v2 v3 v4), zi G n7 6 (m_X5_pebblesBy_A_n7 pb fql fki fmo fsz frd fqo fs0 sn v2 v3 v4), zi G n8 6 (m_X5_pebblesBy_A_n8 pb fql fki fmo fsz frd fqo fs0 sn v2 v3 v4), zo2 sh qn qo ql, zr G qn 4 fn, zi G qo 4 fqo, zi G ql 4 (nF fql), zi G r0 40 fs0] H := ⟨hP1, hD1⟩
  have hP1 := hz9.1
  have hD1 := hz9.2
  have w_10 : r_9 = m_X5_pebblesBy_A pb fql fki fmo fsz frd fqo fs0 sn v2 v3 v4 := w_10
  have hz9 : gPD G A [zo1 rd tt b0 x2 x3 x4 x5 (nI td), zi G b0 160 fb, zo3 tt co en sk wr (nI tx), zr G co 6 fc, zi G c0 160 fcr0, zi G c1 160 fcr1, zi G c2 160 fcr2, zi G c3 160 fcr3, zi G c4 160 fcr4, zi G c5 160 fcr5, zr G en 6 fe, zi G e0 3 (nF fer0), zi G e1 3 (nF fer1), zi G e2 3 (nF fer2), zi G e3 3 (nF fer3), zi G e4 3 (nF fer4), zi G e5 3 (nF fer5), zi G sk 32 fsk, zi G n1 6 fnm, zi G n2 4 fso, zi G n3 4 fmi, zi G n4 4 fpa, zo0 th tt t1 t2 t3 t4 t5 t6 t7 t8 tj tb tl, zi G t1 6 unm, zi G t2 4 uso, zi G t3 4 umi, zi G t4 4 upa, zi G t5 6 uki, zi G t6 6 umo, zi G t7 6 usz, zi G t8 6 urd, zo0 kp tt k1 k2 k3 k4 k5 k6 k7 k8 (nI kj) (nI kb) (nI kl), zi G k1 6 gnm, zi G k2 4 gso, zi G k3 4 gmi, zi G k4 4 gpa, zi G k5 6 gki, zi G k6 6 gmo, zi G k7 6 gsz, zi G k8 6 grd, zi G r1 40 fs1, zi G r2 40 fs2, zi G r3 40 fs3, zo4 tu tw tr, zr G tw 6 fw, zi G w0 6 fw0, zi G w1 6 fw1, zi G w2 6 fw2, zi G w3 6 fw3, zi G w4 6 fw4, zi G w5 6 fw5, zi G tr 64 ftr, zo6 mo (nI Npb) Akd Amo Ast (nI Njg) Aro Atp (nI Ntd) Acd Asr (nI Ntx) (nI Nru) Zhi Air Aih Ass Asq Ace Alw Z19 Z20 Z21 Z22 Awo Ahe Z25 Z26 Z27 Ask Ana Akp Z31 Z32 Z33 Z34 Agb Ago Afa Aga Z39 Z40 Avo, zi G Akd 6 Fkd, zi G Amo 6 Fmo, zi G Ast 12 Fst, zi G Aro 12 Fro, zi G Atp 160 Ftp, zi G Acd 1200 Fcd, zi G Asr 24 (nF Fsr), zi G Air 24 Fir, zi G Aih 3 Fih, zi G Ass 4 Fss, zi G Asq 4 (nF Fsq), zi G Ace 160 Fce, zi G Alw 40 Flw, zi G Awo 96 Fwo, zi G Ahe 200 Fhe, zi G Ask 200 Fsk, zi G Ana 6 Fna, zi G Akp 24 Fkp, zb G Agb 61 Fgb, zb G Ago 61 Fgo, zi G Afa 36 Ffa, zi G Aga 36 Fga, zi G Avo 64 Fvo, zo5 xo tt rd nw th kp sh tu him, zo0 nw tt n1 n2 n3 n4 n5 n6 n7 n8 (nI jg) (nI (m_X5_pebblesBy_A_nw10 pb fql fki fmo fsz frd fqo fs0 sn v2 v3 v4)) (nI lw), zi G n5 6 (m_X5_pebblesBy_A_n5 pb fql fki fmo fsz frd fqo fs0 sn v2 v3 v4), zi G n6 6 (m_X5_pebblesBy_A_n6 pb fql fki fmo fsz frd fqo fs0 sn v2 v3 v4), zi G n7 6 (m_X5_pebblesBy_A_n7 pb fql fki fmo fsz frd fqo fs0 sn v2 v3 v4), zi G n8 6 (m_X5_pebblesBy_A_n8 pb fql fki fmo fsz frd fqo fs0 sn v2 v3 v4), zo2 sh qn qo ql, zr G qn 4 fn, zi G qo 4 fqo, zi G ql 4 (nF fql), zi G r0 40 fs0] H := gJoin hP hD hk1 hFc hP1 hD1 [0, 19, 24, 25, 26, 27, 46, 47, 52, 53, 48] [1, 2, 3, 4, 5, 6, 7, 8, 9, 10, 11, 12, 13, 14, 15, 16, 17, 18, 20, 21, 22, 23, 28, 29, 30, 31, 32, 33, 34, 35, 36, 37, 38, 39, 40, 41, 42, 43, 44, 45, 49, 50, 51, 54, 55, 56, 57, 58, 59, 60, 61, 62, 63, 64, 65, 66, 67, 68, 69, 70, 71, 72, 73, 74, 75, 76, 77, 78, 79, 80, 81, 82, 83, 84, 85, 86] rfl rfl rfl (by decide +kernel) (by decide +kernel)
  have hP := hz9.1
  have hD := hz9.2
  subst w_10
  refine lv_pop hx hb dL_law_1552 rfl ?_
  refine lv_aload_n hx hb dL_law_1553 rfl (lv_at hl 1 rfl) ?_
  refine lv_aload_n hx hb dL_law_1554 rfl (lv_at hl 3 rfl) ?_
  refine lv_iload_n hx hb dL_law_1555 rfl (lv_at hl 0 rfl) ?_
  refine lv_iconst (v := 1) hx hb dL_law_1556 (by decide +kernel) ?_
  refine lv_iadd hx hb dL_law_1557 ?_
  refine lv_topi (fun v_11 ev_11 => ?_)
  have ev_11 : v_11 = nI ((7 * i7) + 1) := ev_11.trans (nI_add (7 * i7) 1)
  subst ev_11
  refine va_sld hx hb hX hbl hbA hS (i := nI ((7 * i7) + 1)) (vp_in_nI (by omega) (by omega)) dL_law_1558 ?_
  refine lv_topi (fun v_12 ev_12 => ?_)
  have ev_12 : (nI sn) = v_12 := (ev_12.trans (by rw [nI_clamp (by omega)]; exact hv1.symm)).symm
  subst ev_12
  refine lv_aload_n hx hb dL_law_1559 rfl (lv_at hl 3 rfl) ?_
  refine lv_iload_n hx hb dL_law_1560 rfl (lv_at hl 0 rfl) ?_
  refine lv_iconst (v := 2) hx hb dL_law_1561 (by decide +kernel) ?_
  refine lv_iadd hx hb dL_law_1562 ?_
  refine lv_topi (fun v_13 ev_13 => ?_)
  have ev_13 : v_13 = nI ((7 * i7) + 2) := ev_13.trans (nI_add (7 * i7) 2)
  subst ev_13
  refine va_sld hx hb hX hbl hbA hS (i := nI ((7 * i7) + 2)) (vp_in_nI (by omega) (by omega)) dL_law_1563 ?_
  refine lv_topi (fun v_14 ev_14 => ?_)
  have ev_14 : v2 = v_14 := (ev_14.trans (by rw [nI_clamp (by omega)]; exact hv2.symm)).symm
  subst ev_14
  refine lv_aload_n hx hb dL_law_1564 rfl (lv_at hl 3 rfl) ?_
  refine lv_iload_n hx hb dL_law_1565 rfl (lv_at hl 0 rfl) ?_
  refine lv_iconst (v := 3) hx hb dL_law_1566 (by decide +kernel) ?_
  refine lv_iadd hx hb dL_law_1567 ?_
  refine lv_topi (fun v_15 ev_15 => ?_)
  have ev_15 : v_15 = nI ((7 * i7) + 3) := ev_15.trans (nI_add (7 * i7) 3)
  subst ev_15
  refine va_sld hx hb hX hbl hbA hS (i := nI ((7 * i7) + 3)) (vp_in_nI (by omega) (by omega)) dL_law_1568 ?_
  refine lv_topi (fun v_16 ev_16 => ?_)
  have ev_16 : v3 = v_16 := (ev_16.trans (by rw [nI_clamp (by omega)]; exact hv3.symm)).symm
  subst ev_16
  refine lv_aload_n hx hb dL_law_1569 rfl (lv_at hl 3 rfl) ?_
  refine lv_iload_n hx hb dL_law_1570 rfl (lv_at hl 0 rfl) ?_
  refine lv_iconst (v := 4) hx hb dL_law_1571 (by decide +kernel) ?_
  refine lv_iadd hx hb dL_law_1572 ?_
  refine lv_topi (fun v_17 ev_17 => ?_)
  have ev_17 : v_17 = nI ((7 * i7) + 4) := ev_17.trans (nI_add (7 * i7) 4)
  subst ev_17
  refine va_sld hx hb hX hbl hbA hS (i := nI ((7 * i7) + 4)) (vp_in_nI (by omega) (by omega)) dL_law_1573 ?_
  refine lv_topi (fun v_18 ev_18 => ?_)
  have ev_18 : v4 = v_18 := (ev_18.trans (by rw [nI_clamp (by omega)]; exact hv4.symm)).symm
  subst ev_18
  have hz9 : gPD G A [zo6 mo (nI Npb) Akd Amo Ast (nI Njg) Aro Atp (nI Ntd) Acd Asr (nI Ntx) (nI Nru) Zhi Air Aih Ass Asq Ace Alw Z19 Z20 Z21 Z22 Awo Ahe Z25 Z26 Z27 Ask Ana Akp Z31 Z32 Z33 Z34 Agb Ago Afa Aga Z39 Z40 Avo, zi G Ass 4 Fss, zi G Asq 4 (nF Fsq), zi G Ace 160 Fce, zi G Akd 6 Fkd, zi G Amo 6 Fmo, zi G Ast 12 Fst] H := ⟨hP.sub [52, 62, 63, 64, 53, 54, 55] rfl, hD.sub [52, 62, 63, 64, 53, 54, 55] (by decide +kernel) rfl⟩
  have hPc := hz9.1
  have hDc := hz9.2
  have hFc := gFree hPc hD hS hA [52, 62, 63, 64, 53, 54, 55] rfl
  refine va_calli (va_runV (As := [.int (nI sn), .int v2, .int v3, .int v4]) (rest := []) ⟨hx, hb, hml, hown, hts⟩ (c_X6_pebblesBy l G mo Akd Amo Ast Aro Atp Acd Asr Air Aih Ass Asq Ace Alw Awo Ahe Ask Ana Akp Agb Ago Afa Aga Avo Npb Njg Ntd Ntx Nru Zhi Z19 Z20 Z21 Z22 Z25 Z26 Z27 Z31 Z32 Z33 Z34 Z39 Z40 Fss Fsq Fce Fkd Fmo Fst (nI sn) v2 v3 v4 H.size (by first | exact hsq | assumption | omega) (by first | exact hpb | assumption | omega) (by first | exact hjg | assumption | omega) (by first | exact htx | assumption | omega) (by first | exact hru | assumption | omega)) (cwV 4 hts gL_law_X6_pebblesBy rfl rfl rfl (by decide +kernel) ⟨Nat.le_of_ble_eq_true rfl, Nat.le_of_ble_eq_true rfl⟩) ⟨gPre_blind, va_recv hK hPc (ci := 6) (q0 := 0) rfl rfl, fun U hU hW => gPre_of hU hW hK hPc hDc⟩ rfl rfl hl.1 rfl (lv_room (Nat.le_of_ble_eq_true rfl)) dL_law_1574 ⟨Nat.le_of_ble_eq_true rfl, Nat.le_of_ble_eq_true rfl⟩) hS (fun q _ h => hFc q h) hFc (fun r_19 u t H locs ht hvm w_20 hB hz1 hk1 hS => ?_)
  obtain ⟨hP1, hK1, hD1⟩ := hB
  rw [ht] at hP1
  have hz9 : gPD G (va_A _ _) [zo6 mo (nI (m_X6_pebblesBy_h00 Npb Fss Fsq Fce Fkd Fmo Fst (nI sn) v2 v3 v4)) Akd Amo Ast (nI Njg) Aro Atp (nI Ntd) Acd Asr (nI Ntx) (nI Nru) Zhi Air Aih Ass Asq Ace Alw Z19 Z20 Z21 Z22 Awo Ahe Z25 Z26 Z27 Ask Ana Akp Z31 Z32 Z33 Z34 Agb Ago Afa Aga Z39 Z40 Avo, zi G Ass 4 Fss, zi G Asq 4 (nF Fsq), zi G Ace 160 Fce, zi G Akd 6 (m_X6_pebblesBy_kd Npb Fss Fsq Fce Fkd Fmo Fst (nI sn) v2 v3 v4), zi G Amo 6 (m_X6_pebblesBy_mo Npb Fss Fsq Fce Fkd Fmo Fst (nI sn) v2 v3 v4), zi G Ast 12 (m_X6_pebblesBy_st Npb Fss Fsq Fce Fkd Fmo Fst (nI sn) v2 v3 v4)] H := ⟨hP1, hD1⟩
  have hP1 := hz9.1
  have hD1 := hz9.2
  have w_20 : r_19 = m_X6_pebblesBy Npb Fss Fsq Fce Fkd Fmo Fst (nI sn) v2 v3 v4 := w_20
  have hz9 : gPD G A [zo1 rd tt b0 x2 x3 x4 x5 (nI td), zi G b0 160 fb, zo3 tt co en sk wr (nI tx), zr G co 6 fc, zi G c0 160 fcr0, zi G c1 160 fcr1, zi G c2 160 fcr2, zi G c3 160 fcr3, zi G c4 160 fcr4, zi G c5 160 fcr5, zr G en 6 fe, zi G e0 3 (nF fer0), zi G e1 3 (nF fer1), zi G e2 3 (nF fer2), zi G e3 3 (nF fer3), zi G e4 3 (nF fer4), zi G e5 3 (nF fer5), zi G sk 32 fsk, zi G n1 6 fnm, zi G n2 4 fso, zi G n3 4 fmi, zi G n4 4 fpa, zo0 th tt t1 t2 t3 t4 t5 t6 t7 t8 tj tb tl, zi G t1 6 unm, zi G t2 4 uso, zi G t3 4 umi, zi G t4 4 upa, zi G t5 6 uki, zi G t6 6 umo, zi G t7 6 usz, zi G t8 6 urd, zo0 kp tt k1 k2 k3 k4 k5 k6 k7 k8 (nI kj) (nI kb) (nI kl), zi G k1 6 gnm, zi G k2 4 gso, zi G k3 4 gmi, zi G k4 4 gpa, zi G k5 6 gki, zi G k6 6 gmo, zi G k7 6 gsz, zi G k8 6 grd, zi G r1 40 fs1, zi G r2 40 fs2, zi G r3 40 fs3, zo4 tu tw tr, zr G tw 6 fw, zi G w0 6 fw0, zi G w1 6 fw1, zi G w2 6 fw2, zi G w3 6 fw3, zi G w4 6 fw4, zi G w5 6 fw5, zi G tr 64 ftr, zi G Aro 12 Fro, zi G Atp 160 Ftp, zi G Acd 1200 Fcd, zi G Asr 24 (nF Fsr), zi G Air 24 Fir, zi G Aih 3 Fih, zi G Alw 40 Flw, zi G Awo 96 Fwo, zi G Ahe 200 Fhe, zi G Ask 200 Fsk, zi G Ana 6 Fna, zi G Akp 24 Fkp, zb G Agb 61 Fgb, zb G Ago 61 Fgo, zi G Afa 36 Ffa, zi G Aga 36 Fga, zi G Avo 64 Fvo, zo5 xo tt rd nw th kp sh tu him, zo0 nw tt n1 n2 n3 n4 n5 n6 n7 n8 (nI jg) (nI (m_X5_pebblesBy_A_nw10 pb fql fki fmo fsz frd fqo fs0 sn v2 v3 v4)) (nI lw), zi G n5 6 (m_X5_pebblesBy_A_n5 pb fql fki fmo fsz frd fqo fs0 sn v2 v3 v4), zi G n6 6 (m_X5_pebblesBy_A_n6 pb fql fki fmo fsz frd fqo fs0 sn v2 v3 v4), zi G n7 6 (m_X5_pebblesBy_A_n7 pb fql fki fmo fsz frd fqo fs0 sn v2 v3 v4), zi G n8 6 (m_X5_pebblesBy_A_n8 pb fql fki fmo fsz frd fqo fs0 sn v2 v3 v4), zo2 sh qn qo ql, zr G qn 4 fn, zi G qo 4 fqo, zi G ql 4 (nF fql), zi G r0 40 fs0, zo6 mo (nI (m_X6_pebblesBy_h00 Npb Fss Fsq Fce Fkd Fmo Fst (nI sn) v2 v3 v4)) Akd Amo Ast (nI Njg) Aro Atp (nI Ntd) Acd Asr (nI Ntx) (nI Nru) Zhi Air Aih Ass Asq Ace Alw Z19 Z20 Z21 Z22 Awo Ahe Z25 Z26 Z27 Ask Ana Akp Z31 Z32 Z33 Z34 Agb Ago Afa Aga Z39 Z40 Avo, zi G Ass 4 Fss, zi G Asq 4 (nF Fsq), zi G Ace 160 Fce, zi G Akd 6 (m_X6_pebblesBy_kd Npb Fss Fsq Fce Fkd Fmo Fst (nI sn) v2 v3 v4), zi G Amo 6 (m_X6_pebblesBy_mo Npb Fss Fsq Fce Fkd Fmo Fst (nI sn) v2 v3 v4), zi G Ast 12 (m_X6_pebblesBy_st Npb Fss Fsq Fce Fkd Fmo Fst (nI sn) v2 v3 v4)] H := gJoin hP hD hk1 hFc hP1 hD1 [52, 62, 63, 64, 53, 54, 55] [0, 1, 2, 3, 4, 5, 6, 7, 8, 9, 10, 11, 12, 13, 14, 15, 16, 17, 18, 19, 20, 21, 22, 23, 24, 25, 26, 27, 28, 29, 30, 31, 32, 33, 34, 35, 36, 37, 38, 39, 40, 41, 42, 43, 44, 45, 46, 47, 48, 49, 50, 51, 56, 57, 58, 59, 60, 61, 65, 66, 67, 68, 69, 70, 71, 72, 73, 74, 75, 76, 77, 78, 79, 80, 81, 82, 83, 84, 85, 86] rfl rfl rfl (by decide +kernel) (by decide +kernel)
  have hP := hz9.1
  have hD := hz9.2
  subst w_20
  refine lv_pop hx hb dL_law_1577 rfl ?_
  refine lv_goto (tgt := 1614) hx hb dL_law_1578 (by decide +kernel) ?_
  refine lv_iinc (v := nI (7 * (i7 + 1))) (lv' := [zI 3 (nI (7 * (i7 + 1))), zR 2 mo, zR 1 xo, zR 0 b]) hx hb dL_law_1614 hl (k := 0) rfl (by show nI (7 * i7) + 7 = nI (7 * (i7 + 1)); exact nI_add (7 * i7) 7) (by decide +kernel) rfl (fun ls hl => ?_)
  refine lv_goto (tgt := 18) hx hb dL_law_1617 (by decide +kernel) ?_
  exact K him x2 x3 x4 x5 td fb wr fsk jg (m_X5_pebblesBy_A_nw10 pb fql fki fmo fsz frd fqo fs0 sn v2 v3 v4) lw fnm fso fmi fpa (m_X5_pebblesBy_A_n5 pb fql fki fmo fsz frd fqo fs0 sn v2 v3 v4) (m_X5_pebblesBy_A_n6 pb fql fki fmo fsz frd fqo fs0 sn v2 v3 v4) (m_X5_pebblesBy_A_n7 pb fql fki fmo fsz frd fqo fs0 sn v2 v3 v4) (m_X5_pebblesBy_A_n8 pb fql fki fmo fsz frd fqo fs0 sn v2 v3 v4) tj tb tl unm uso umi upa uki umo usz urd kj kb kl gnm gso gmi gpa gki gmo gsz grd fs0 fs1 fs2 fs3 fqo fql fw0 fw1 fw2 fw3 fw4 fw5 ftr (m_X6_pebblesBy_h00 Npb Fss Fsq Fce Fkd Fmo Fst (nI sn) v2 v3 v4) Njg Ntd Ntx Nru Zhi Z19 Z20 Z21 Z22 Z25 Z26 Z27 Z31 Z32 Z33 Z34 Z39 Z40 (m_X6_pebblesBy_kd Npb Fss Fsq Fce Fkd Fmo Fst (nI sn) v2 v3 v4) (m_X6_pebblesBy_mo Npb Fss Fsq Fce Fkd Fmo Fst (nI sn) v2 v3 v4) (m_X6_pebblesBy_st Npb Fss Fsq Fce Fkd Fmo Fst (nI sn) v2 v3 v4) Fro Ftp Fcd Fsr Fir Fih Fss Fsq Fce Flw Fwo Fhe Fsk Fna Fkp Fgb Fgo Ffa Fga Fvo (fx_pebblesBy hFX) (fm_pebblesBy hFM) (rl_pebblesBy hpb hsn hrw hql hRL) (rq_pebblesBy hpb hRL.1.2.1 hsn hRL.2.2.1 hql (rowE hRL.2.2.2.1 hsn hrw) hRQ) H _ ls (hP.sub [69, 0, 1, 2, 3, 4, 5, 6, 7, 8, 9, 10, 11, 12, 13, 14, 15, 16, 17, 70, 18, 19, 20, 21, 71, 72, 73, 74, 22, 23, 24, 25, 26, 27, 28, 29, 30, 31, 32, 33, 34, 35, 36, 37, 38, 39, 75, 76, 79, 40, 41, 42, 77, 78, 43, 44, 45, 46, 47, 48, 49, 50, 51, 80, 84, 85, 86, 52, 53, 54, 55, 56, 57, 81, 82, 83, 58, 59, 60, 61, 62, 63, 64, 65, 66, 67, 68] rfl) (hD.sub [69, 0, 1, 2, 3, 4, 5, 6, 7, 8, 9, 10, 11, 12, 13, 14, 15, 16, 17, 70, 18, 19, 20, 21, 71, 72, 73, 74, 22, 23, 24, 25, 26, 27, 28, 29, 30, 31, 32, 33, 34, 35, 36, 37, 38, 39, 75, 76, 79, 40, 41, 42, 77, 78, 43, 44, 45, 46, 47, 48, 49, 50, 51, 80, 84, 85, 86, 52, 53, 54, 55, 56, 57, 81, 82, 83, 58, 59, 60, 61, 62, 63, 64, 65, 66, 67, 68] (by decide +kernel) rfl) hS (lv_sub hl [0, 1, 2, 3] rfl)
set_option maxHeartbeats 4000000 in
set_option maxRecDepth 100000 in
theorem lc_pebblesBy_B {p : Program} {l : Launch} {e : Env} {s : State} {m : MethodId} {below : List Frame} {meth : Method} {c : Code} {b L : Nat} {xs : Nat → Int32} {G : gG} {E : gS} {A : Nat → Prop} (C0 : lw_At p s m meth c b L xs) (hE : gE E A s s.heap) (hK : gK G s) (hAe : A = fun q => s.heap.size ≤ q) {xo tt rd nw th kp sh tu b0 co en sk c0 c1 c2 c3 c4 c5 e0 e1 e2 e3 e4 e5 n1 n2 n3 n4 n5 n6 n7 n8 t1 t2 t3 t4 t5 t6 t7 t8 k1 k2 k3 k4 k5 k6 k7 k8 qn qo ql r0 r1 r2 r3 tw tr w0 w1 w2 w3 w4 w5 mo Akd Amo Ast Aro Atp Acd Asr Air Aih Ass Asq Ace Alw Awo Ahe Ask Ana Akp Agb Ago Afa Aga Avo : Nat} {fc fe fn fw : Nat → Option Nat} {tx : Nat} {fcr0 fcr1 fcr2 fcr3 fcr4 fcr5 : Nat → Int32} {fer0 fer1 fer2 fer3 fer4 fer5 : Nat → Nat} {him x2 x3 x4 x5 : Int32} {td : Nat} {fb : Nat → Int32} {wr : Int32} {fsk : Nat → Int32} {jg pb lw : Nat} {fnm fso fmi fpa fki fmo fsz frd : Nat → Int32} {tj tb tl : Int32} {unm uso umi upa uki umo usz urd : Nat → Int32} {kj kb kl : Nat} {gnm gso gmi gpa gki gmo gsz grd fs0 fs1 fs2 fs3 fqo : Nat → Int32} {fql : Nat → Nat} {fw0 fw1 fw2 fw3 fw4 fw5 ftr : Nat → Int32} {Npb Njg Ntd Ntx Nru : Nat} {Zhi Z19 Z20 Z21 Z22 Z25 Z26 Z27 Z31 Z32 Z33 Z34 Z39 Z40 : Int32} {Fkd Fmo Fst Fro Ftp Fcd : Nat → Int32} {Fsr : Nat → Nat} {Fir Fih Fss : Nat → Int32} {Fsq : Nat → Nat} {Fce Flw Fwo Fhe Fsk Fna Fkp Fgb Fgo Ffa Fga Fvo : Nat → Int32}  {v1 v2 v3 v4 v5 v6 : Int32} {i7 : Nat} (hi : 7 * i7 + 7 ≤ L) (hL : L ≤ 3584) (hv1 : v1 = xs (7 * i7 + 1)) (hv2 : v2 = xs (7 * i7 + 2)) (hv3 : v3 = xs (7 * i7 + 3)) (hv4 : v4 = xs (7 * i7 + 4)) (hv5 : v5 = xs (7 * i7 + 5)) (hv6 : v6 = xs (7 * i7 + 6)) (hno : ¬ (0 ≤ v1 ∧ v1 ≤ 3)) (K : LawV p l e s m below meth c b G A xo tt rd nw th kp sh tu b0 co en sk c0 c1 c2 c3 c4 c5 e0 e1 e2 e3 e4 e5 n1 n2 n3 n4 n5 n6 n7 n8 t1 t2 t3 t4 t5 t6 t7 t8 k1 k2 k3 k4 k5 k6 k7 k8 qn qo ql r0 r1 r2 r3 tw tr w0 w1 w2 w3 w4 w5 mo Akd Amo Ast Aro Atp Acd Asr Air Aih Ass Asq Ace Alw Awo Ahe Ask Ana Akp Agb Ago Afa Aga Avo fc fe fn fw tx fcr0 fcr1 fcr2 fcr3 fcr4 fcr5 fer0 fer1 fer2 fer3 fer4 fer5 (i7 + 1)) (hFX : FXP jg pb lw kj kb kl tx td him fql) (hFM : FMP Npb Njg Ntd Ntx Nru Zhi Fcd Fsr Fsq Fir Fih) (hRL : RLP False fn r0 r1 r2 r3 jg pb kj kb him fs0 fs1 fs2 fs3 fqo fql Npb Njg Zhi Fss Fsq Fce Fih) (hRQ : RQP fc c0 c1 c2 c3 c4 c5 fcr0 fcr1 fcr2 fcr3 fcr4 fcr5 fer0 fer1 fer2 fer3 fer4 fer5 pb lw tx td kb kl him fb fso fmi fpa fki fmo fsz frd gso gmi gpa gki gmo gsz grd Nru Ntx Ntd Fkd Fmo Fst Fro Ftp Fcd Fsr Fir Fih Fwo) {H : Heap} {locs : List Loc} (hP : va_P G.1 vwCl (WLd G xo tt rd nw th kp sh tu b0 co en sk c0 c1 c2 c3 c4 c5 e0 e1 e2 e3 e4 e5 n1 n2 n3 n4 n5 n6 n7 n8 t1 t2 t3 t4 t5 t6 t7 t8 k1 k2 k3 k4 k5 k6 k7 k8 qn qo ql r0 r1 r2 r3 tw tr w0 w1 w2 w3 w4 w5 mo Akd Amo Ast Aro Atp Acd Asr Air Aih Ass Asq Ace Alw Awo Ahe Ask Ana Akp Agb Ago Afa Aga Avo fc fe fn fw tx fcr0 fcr1 fcr2 fcr3 fcr4 fcr5 fer0 fer1 fer2 fer3 fer4 fer5 him x2 x3 x4 x5 td fb wr fsk jg pb lw fnm fso fmi fpa fki fmo fsz frd tj tb tl unm uso umi upa uki umo usz urd kj kb kl gnm gso gmi gpa gki gmo gsz grd fs0 fs1 fs2 fs3 fqo fql fw0 fw1 fw2 fw3 fw4 fw5 ftr Npb Njg Ntd Ntx Nru Zhi Z19 Z20 Z21 Z22 Z25 Z26 Z27 Z31 Z32 Z33 Z34 Z39 Z40 Fkd Fmo Fst Fro Ftp Fcd Fsr Fir Fih Fss Fsq Fce Flw Fwo Fhe Fsk Fna Fkp Fgb Fgo Ffa Fga Fvo) H) (hD : va_D A (WLd G xo tt rd nw th kp sh tu b0 co en sk c0 c1 c2 c3 c4 c5 e0 e1 e2 e3 e4 e5 n1 n2 n3 n4 n5 n6 n7 n8 t1 t2 t3 t4 t5 t6 t7 t8 k1 k2 k3 k4 k5 k6 k7 k8 qn qo ql r0 r1 r2 r3 tw tr w0 w1 w2 w3 w4 w5 mo Akd Amo Ast Aro Atp Acd Asr Air Aih Ass Asq Ace Alw Awo Ahe Ask Ana Akp Agb Ago Afa Aga Avo fc fe fn fw tx fcr0 fcr1 fcr2 fcr3 fcr4 fcr5 fer0 fer1 fer2 fer3 fer4 fer5 him x2 x3 x4 x5 td fb wr fsk jg pb lw fnm fso fmi fpa fki fmo fsz frd tj tb tl unm uso umi upa uki umo usz urd kj kb kl gnm gso gmi gpa gki gmo gsz grd fs0 fs1 fs2 fs3 fqo fql fw0 fw1 fw2 fw3 fw4 fw5 ftr Npb Njg Ntd Ntx Nru Zhi Z19 Z20 Z21 Z22 Z25 Z26 Z27 Z31 Z32 Z33 Z34 Z39 Z40 Fkd Fmo Fst Fro Ftp Fcd Fsr Fir Fih Fss Fsq Fce Flw Fwo Fhe Fsk Fna Fkp Fgb Fgo Ffa Fga Fvo)) (hS : va_S A s.heap H locs) {ls : Array Slot} (hl : lv_has ls 4 [zI 3 (nI (7 * i7)), zR 2 mo, zR 1 xo, zR 0 b]) : W p l e room_1 s m #[Value.ref b] below meth c H locs 87 4128 (lw_Z below #[Value.ref b] s) (F0 m 1528 ls []) := by
  obtain ⟨hx, hb, hret, hml, hown, hts0, hX, hbl, hlocks, hgv⟩ := id C0
  have hts : ∀ w ∈ wsL_law, w.before #[Value.ref b] s = true := fun w h => hts0 w (wsL_law_in w h)
  have hown : s.vm.findClass RL = some m.cls := hown
  have hA : ∀ q : Nat, s.heap.size ≤ q → A q := fun q h => by rw [hAe]; exact h
  have hbA : ¬ A b := by rw [hAe]; exact Nat.not_le.mpr hbl
  obtain ⟨⟨hjg, hpb, hlw, htx, htd⟩, hkk, hql⟩ := id hFX
  obtain ⟨⟨hNpb, hNjg, hNru, hNtx, hNtd⟩, hwa, hsq, hIM⟩ := id hFM
  have hz9 : gPD G A [zo5 xo tt rd nw th kp sh tu him, zo1 rd tt b0 x2 x3 x4 x5 (nI td), zi G b0 160 fb, zo3 tt co en sk wr (nI tx), zr G co 6 fc, zi G c0 160 fcr0, zi G c1 160 fcr1, zi G c2 160 fcr2, zi G c3 160 fcr3, zi G c4 160 fcr4, zi G c5 160 fcr5, zr G en 6 fe, zi G e0 3 (nF fer0), zi G e1 3 (nF fer1), zi G e2 3 (nF fer2), zi G e3 3 (nF fer3), zi G e4 3 (nF fer4), zi G e5 3 (nF fer5), zi G sk 32 fsk, zo0 nw tt n1 n2 n3 n4 n5 n6 n7 n8 (nI jg) (nI pb) (nI lw), zi G n1 6 fnm, zi G n2 4 fso, zi G n3 4 fmi, zi G n4 4 fpa, zi G n5 6 fki, zi G n6 6 fmo, zi G n7 6 fsz, zi G n8 6 frd, zo0 th tt t1 t2 t3 t4 t5 t6 t7 t8 tj tb tl, zi G t1 6 unm, zi G t2 4 uso, zi G t3 4 umi, zi G t4 4 upa, zi G t5 6 uki, zi G t6 6 umo, zi G t7 6 usz, zi G t8 6 urd, zo0 kp tt k1 k2 k3 k4 k5 k6 k7 k8 (nI kj) (nI kb) (nI kl), zi G k1 6 gnm, zi G k2 4 gso, zi G k3 4 gmi, zi G k4 4 gpa, zi G k5 6 gki, zi G k6 6 gmo, zi G k7 6 gsz, zi G k8 6 grd, zo2 sh qn qo ql, zr G qn 4 fn, zi G r0 40 fs0, zi G r1 40 fs1, zi G r2 40 fs2, zi G r3 40 fs3, zi G qo 4 fqo, zi G ql 4 (nF fql), zo4 tu tw tr, zr G tw 6 fw, zi G w0 6 fw0, zi G w1 6 fw1, zi G w2 6 fw2, zi G w3 6 fw3, zi G w4 6 fw4, zi G w5 6 fw5, zi G tr 64 ftr, zo6 mo (nI Npb) Akd Amo Ast (nI Njg) Aro Atp (nI Ntd) Acd Asr (nI Ntx) (nI Nru) Zhi Air Aih Ass Asq Ace Alw Z19 Z20 Z21 Z22 Awo Ahe Z25 Z26 Z27 Ask Ana Akp Z31 Z32 Z33 Z34 Agb Ago Afa Aga Z39 Z40 Avo, zi G Akd 6 Fkd, zi G Amo 6 Fmo, zi G Ast 12 Fst, zi G Aro 12 Fro, zi G Atp 160 Ftp, zi G Acd 1200 Fcd, zi G Asr 24 (nF Fsr), zi G Air 24 Fir, zi G Aih 3 Fih, zi G Ass 4 Fss, zi G Asq 4 (nF Fsq), zi G Ace 160 Fce, zi G Alw 40 Flw, zi G Awo 96 Fwo, zi G Ahe 200 Fhe, zi G Ask 200 Fsk, zi G Ana 6 Fna, zi G Akp 24 Fkp, zb G Agb 61 Fgb, zb G Ago 61 Fgo, zi G Afa 36 Ffa, zi G Aga 36 Fga, zi G Avo 64 Fvo] H := ⟨hP, hD⟩
  have hP := hz9.1
  have hD := hz9.2
  refine lv_aload_n hx hb dL_law_1528 rfl (lv_at hl 2 rfl) ?_
  refine lv_aload_n hx hb dL_law_1529 rfl (lv_at hl 3 rfl) ?_
  refine lv_iload_n hx hb dL_law_1530 rfl (lv_at hl 0 rfl) ?_
  refine lv_iconst (v := 1) hx hb dL_law_1531 (by decide +kernel) ?_
  refine lv_iadd hx hb dL_law_1532 ?_
  refine lv_topi (fun v_1 ev_1 => ?_)
  have ev_1 : v_1 = nI ((7 * i7) + 1) := ev_1.trans (nI_add (7 * i7) 1)
  subst ev_1
  refine va_sld hx hb hX hbl hbA hS (i := nI ((7 * i7) + 1)) (vp_in_nI (by omega) (by omega)) dL_law_1533 ?_
  refine lv_topi (fun v_2 ev_2 => ?_)
  have ev_2 : v1 = v_2 := (ev_2.trans (by rw [nI_clamp (by omega)]; exact hv1.symm)).symm
  subst ev_2
  refine lv_aload_n hx hb dL_law_1534 rfl (lv_at hl 3 rfl) ?_
  refine lv_iload_n hx hb dL_law_1535 rfl (lv_at hl 0 rfl) ?_
  refine lv_iconst (v := 2) hx hb dL_law_1536 (by decide +kernel) ?_
  refine lv_iadd hx hb dL_law_1537 ?_
  refine lv_topi (fun v_3 ev_3 => ?_)
  have ev_3 : v_3 = nI ((7 * i7) + 2) := ev_3.trans (nI_add (7 * i7) 2)
  subst ev_3
  refine va_sld hx hb hX hbl hbA hS (i := nI ((7 * i7) + 2)) (vp_in_nI (by omega) (by omega)) dL_law_1538 ?_
  refine lv_topi (fun v_4 ev_4 => ?_)
  have ev_4 : v2 = v_4 := (ev_4.trans (by rw [nI_clamp (by omega)]; exact hv2.symm)).symm
  subst ev_4
  refine lv_aload_n hx hb dL_law_1539 rfl (lv_at hl 3 rfl) ?_
  refine lv_iload_n hx hb dL_law_1540 rfl (lv_at hl 0 rfl) ?_
  refine lv_iconst (v := 3) hx hb dL_law_1541 (by decide +kernel) ?_
  refine lv_iadd hx hb dL_law_1542 ?_
  refine lv_topi (fun v_5 ev_5 => ?_)
  have ev_5 : v_5 = nI ((7 * i7) + 3) := ev_5.trans (nI_add (7 * i7) 3)
  subst ev_5
  refine va_sld hx hb hX hbl hbA hS (i := nI ((7 * i7) + 3)) (vp_in_nI (by omega) (by omega)) dL_law_1543 ?_
  refine lv_topi (fun v_6 ev_6 => ?_)
  have ev_6 : v3 = v_6 := (ev_6.trans (by rw [nI_clamp (by omega)]; exact hv3.symm)).symm
  subst ev_6
  refine lv_aload_n hx hb dL_law_1544 rfl (lv_at hl 3 rfl) ?_
  refine lv_iload_n hx hb dL_law_1545 rfl (lv_at hl 0 rfl) ?_
  refine lv_iconst (v := 4) hx hb dL_law_1546 (by decide +kernel) ?_
  refine lv_iadd hx hb dL_law_1547 ?_
  refine lv_topi (fun v_7 ev_7 => ?_)
  have ev_7 : v_7 = nI ((7 * i7) + 4) := ev_7.trans (nI_add (7 * i7) 4)
  subst ev_7
  refine va_sld hx hb hX hbl hbA hS (i := nI ((7 * i7) + 4)) (vp_in_nI (by omega) (by omega)) dL_law_1548 ?_
  refine lv_topi (fun v_8 ev_8 => ?_)
  have ev_8 : v4 = v_8 := (ev_8.trans (by rw [nI_clamp (by omega)]; exact hv4.symm)).symm
  subst ev_8
  have hz9 : gPD G A [zo5 xo tt rd nw th kp sh tu him, zo2 sh qn qo ql] H := ⟨hP.sub [0, 46] rfl, hD.sub [0, 46] (by decide +kernel) rfl⟩
  have hPc := hz9.1
  have hDc := hz9.2
  have hFc := gFree hPc hD hS hA [0, 46] rfl
  refine va_calli (va_runV (As := [.int v1, .int v2, .int v3, .int v4]) (rest := []) ⟨hx, hb, hml, hown, hts⟩ (c_X5_pebblesBy_B l G E xo tt rd nw th kp sh tu qn qo ql him v1 v2 v3 v4 H.size (by first | exact hno | assumption | omega)) (cwV 4 hts gL_law_X5_pebblesBy rfl rfl rfl (by decide +kernel) ⟨Nat.le_of_ble_eq_true rfl, Nat.le_of_ble_eq_true rfl⟩) ⟨gPreE_blind, va_recv hK hPc (ci := 5) (q0 := 0) rfl rfl, fun U hU hW => gPreE_of hU hW hK hPc hDc hE hS hFc⟩ rfl rfl hl.1 rfl (lv_room (Nat.le_of_ble_eq_true rfl)) dL_law_1549 ⟨Nat.le_of_ble_eq_true rfl, Nat.le_of_ble_eq_true rfl⟩) hS (fun q _ h => hFc q h) hFc (fun r_9 u t H locs ht hvm w_10 hB hz1 hk1 hS => ?_)
  obtain ⟨hP1, hK1, hD1⟩ := hB
  rw [ht] at hP1
  have hz9 : gPD G (va_A _ _) [zo5 xo tt rd nw th kp sh tu him, zo2 sh qn qo ql] H := ⟨hP1, hD1⟩
  have hP1 := hz9.1
  have hD1 := hz9.2
  have w_10 : r_9 = -2 := w_10
  have hz9 : gPD G A [zo1 rd tt b0 x2 x3 x4 x5 (nI td), zi G b0 160 fb, zo3 tt co en sk wr (nI tx), zr G co 6 fc, zi G c0 160 fcr0, zi G c1 160 fcr1, zi G c2 160 fcr2, zi G c3 160 fcr3, zi G c4 160 fcr4, zi G c5 160 fcr5, zr G en 6 fe, zi G e0 3 (nF fer0), zi G e1 3 (nF fer1), zi G e2 3 (nF fer2), zi G e3 3 (nF fer3), zi G e4 3 (nF fer4), zi G e5 3 (nF fer5), zi G sk 32 fsk, zo0 nw tt n1 n2 n3 n4 n5 n6 n7 n8 (nI jg) (nI pb) (nI lw), zi G n1 6 fnm, zi G n2 4 fso, zi G n3 4 fmi, zi G n4 4 fpa, zi G n5 6 fki, zi G n6 6 fmo, zi G n7 6 fsz, zi G n8 6 frd, zo0 th tt t1 t2 t3 t4 t5 t6 t7 t8 tj tb tl, zi G t1 6 unm, zi G t2 4 uso, zi G t3 4 umi, zi G t4 4 upa, zi G t5 6 uki, zi G t6 6 umo, zi G t7 6 usz, zi G t8 6 urd, zo0 kp tt k1 k2 k3 k4 k5 k6 k7 k8 (nI kj) (nI kb) (nI kl), zi G k1 6 gnm, zi G k2 4 gso, zi G k3 4 gmi, zi G k4 4 gpa, zi G k5 6 gki, zi G k6 6 gmo, zi G k7 6 gsz, zi G k8 6 grd, zr G qn 4 fn, zi G r0 40 fs0, zi G r1 40 fs1, zi G r2 40 fs2, zi G r3 40 fs3, zi G qo 4 fqo, zi G ql 4 (nF fql), zo4 tu tw tr, zr G tw 6 fw, zi G w0 6 fw0, zi G w1 6 fw1, zi G w2 6 fw2, zi G w3 6 fw3, zi G w4 6 fw4, zi G w5 6 fw5, zi G tr 64 ftr, zo6 mo (nI Npb) Akd Amo Ast (nI Njg) Aro Atp (nI Ntd) Acd Asr (nI Ntx) (nI Nru) Zhi Air Aih Ass Asq Ace Alw Z19 Z20 Z21 Z22 Awo Ahe Z25 Z26 Z27 Ask Ana Akp Z31 Z32 Z33 Z34 Agb Ago Afa Aga Z39 Z40 Avo, zi G Akd 6 Fkd, zi G Amo 6 Fmo, zi G Ast 12 Fst, zi G Aro 12 Fro, zi G Atp 160 Ftp, zi G Acd 1200 Fcd, zi G Asr 24 (nF Fsr), zi G Air 24 Fir, zi G Aih 3 Fih, zi G Ass 4 Fss, zi G Asq 4 (nF Fsq), zi G Ace 160 Fce, zi G Alw 40 Flw, zi G Awo 96 Fwo, zi G Ahe 200 Fhe, zi G Ask 200 Fsk, zi G Ana 6 Fna, zi G Akp 24 Fkp, zb G Agb 61 Fgb, zb G Ago 61 Fgo, zi G Afa 36 Ffa, zi G Aga 36 Fga, zi G Avo 64 Fvo, zo5 xo tt rd nw th kp sh tu him, zo2 sh qn qo ql] H := gJoin hP hD hk1 hFc hP1 hD1 [0, 46] [1, 2, 3, 4, 5, 6, 7, 8, 9, 10, 11, 12, 13, 14, 15, 16, 17, 18, 19, 20, 21, 22, 23, 24, 25, 26, 27, 28, 29, 30, 31, 32, 33, 34, 35, 36, 37, 38, 39, 40, 41, 42, 43, 44, 45, 47, 48, 49, 50, 51, 52, 53, 54, 55, 56, 57, 58, 59, 60, 61, 62, 63, 64, 65, 66, 67, 68, 69, 70, 71, 72, 73, 74, 75, 76, 77, 78, 79, 80, 81, 82, 83, 84, 85, 86] rfl rfl rfl (by decide +kernel) (by decide +kernel)
  have hP := hz9.1
  have hD := hz9.2
  subst w_10
  refine lv_pop hx hb dL_law_1552 rfl ?_
  refine lv_aload_n hx hb dL_law_1553 rfl (lv_at hl 1 rfl) ?_
  refine lv_aload_n hx hb dL_law_1554 rfl (lv_at hl 3 rfl) ?_
  refine lv_iload_n hx hb dL_law_1555 rfl (lv_at hl 0 rfl) ?_
  refine lv_iconst (v := 1) hx hb dL_law_1556 (by decide +kernel) ?_
  refine lv_iadd hx hb dL_law_1557 ?_
  refine lv_topi (fun v_11 ev_11 => ?_)
  have ev_11 : v_11 = nI ((7 * i7) + 1) := ev_11.trans (nI_add (7 * i7) 1)
  subst ev_11
  refine va_sld hx hb hX hbl hbA hS (i := nI ((7 * i7) + 1)) (vp_in_nI (by omega) (by omega)) dL_law_1558 ?_
  refine lv_topi (fun v_12 ev_12 => ?_)
  have ev_12 : v1 = v_12 := (ev_12.trans (by rw [nI_clamp (by omega)]; exact hv1.symm)).symm
  subst ev_12
  refine lv_aload_n hx hb dL_law_1559 rfl (lv_at hl 3 rfl) ?_
  refine lv_iload_n hx hb dL_law_1560 rfl (lv_at hl 0 rfl) ?_
  refine lv_iconst (v := 2) hx hb dL_law_1561 (by decide +kernel) ?_
  refine lv_iadd hx hb dL_law_1562 ?_
  refine lv_topi (fun v_13 ev_13 => ?_)
  have ev_13 : v_13 = nI ((7 * i7) + 2) := ev_13.trans (nI_add (7 * i7) 2)
  subst ev_13
  refine va_sld hx hb hX hbl hbA hS (i := nI ((7 * i7) + 2)) (vp_in_nI (by omega) (by omega)) dL_law_1563 ?_
  refine lv_topi (fun v_14 ev_14 => ?_)
  have ev_14 : v2 = v_14 := (ev_14.trans (by rw [nI_clamp (by omega)]; exact hv2.symm)).symm
  subst ev_14
  refine lv_aload_n hx hb dL_law_1564 rfl (lv_at hl 3 rfl) ?_
  refine lv_iload_n hx hb dL_law_1565 rfl (lv_at hl 0 rfl) ?_
  refine lv_iconst (v := 3) hx hb dL_law_1566 (by decide +kernel) ?_
  refine lv_iadd hx hb dL_law_1567 ?_
  refine lv_topi (fun v_15 ev_15 => ?_)
  have ev_15 : v_15 = nI ((7 * i7) + 3) := ev_15.trans (nI_add (7 * i7) 3)
  subst ev_15
  refine va_sld hx hb hX hbl hbA hS (i := nI ((7 * i7) + 3)) (vp_in_nI (by omega) (by omega)) dL_law_1568 ?_
  refine lv_topi (fun v_16 ev_16 => ?_)
  have ev_16 : v3 = v_16 := (ev_16.trans (by rw [nI_clamp (by omega)]; exact hv3.symm)).symm
  subst ev_16
  refine lv_aload_n hx hb dL_law_1569 rfl (lv_at hl 3 rfl) ?_
  refine lv_iload_n hx hb dL_law_1570 rfl (lv_at hl 0 rfl) ?_
  refine lv_iconst (v := 4) hx hb dL_law_1571 (by decide +kernel) ?_
  refine lv_iadd hx hb dL_law_1572 ?_
  refine lv_topi (fun v_17 ev_17 => ?_)
  have ev_17 : v_17 = nI ((7 * i7) + 4) := ev_17.trans (nI_add (7 * i7) 4)
  subst ev_17
  refine va_sld hx hb hX hbl hbA hS (i := nI ((7 * i7) + 4)) (vp_in_nI (by omega) (by omega)) dL_law_1573 ?_
  refine lv_topi (fun v_18 ev_18 => ?_)
  have ev_18 : v4 = v_18 := (ev_18.trans (by rw [nI_clamp (by omega)]; exact hv4.symm)).symm
  subst ev_18
  have hz9 : gPD G A [zo6 mo (nI Npb) Akd Amo Ast (nI Njg) Aro Atp (nI Ntd) Acd Asr (nI Ntx) (nI Nru) Zhi Air Aih Ass Asq Ace Alw Z19 Z20 Z21 Z22 Awo Ahe Z25 Z26 Z27 Ask Ana Akp Z31 Z32 Z33 Z34 Agb Ago Afa Aga Z39 Z40 Avo, zi G Ass 4 Fss, zi G Asq 4 (nF Fsq), zi G Ace 160 Fce, zi G Akd 6 Fkd, zi G Amo 6 Fmo, zi G Ast 12 Fst] H := ⟨hP.sub [61, 71, 72, 73, 62, 63, 64] rfl, hD.sub [61, 71, 72, 73, 62, 63, 64] (by decide +kernel) rfl⟩
  have hPc := hz9.1
  have hDc := hz9.2
  have hFc := gFree hPc hD hS hA [61, 71, 72, 73, 62, 63, 64] rfl
  refine va_calli (va_runV (As := [.int v1, .int v2, .int v3, .int v4]) (rest := []) ⟨hx, hb, hml, hown, hts⟩ (c_X6_pebblesBy l G mo Akd Amo Ast Aro Atp Acd Asr Air Aih Ass Asq Ace Alw Awo Ahe Ask Ana Akp Agb Ago Afa Aga Avo Npb Njg Ntd Ntx Nru Zhi Z19 Z20 Z21 Z22 Z25 Z26 Z27 Z31 Z32 Z33 Z34 Z39 Z40 Fss Fsq Fce Fkd Fmo Fst v1 v2 v3 v4 H.size (by first | exact hsq | assumption | omega) (by first | exact hpb | assumption | omega) (by first | exact hjg | assumption | omega) (by first | exact htx | assumption | omega) (by first | exact hru | assumption | omega)) (cwV 4 hts gL_law_X6_pebblesBy rfl rfl rfl (by decide +kernel) ⟨Nat.le_of_ble_eq_true rfl, Nat.le_of_ble_eq_true rfl⟩) ⟨gPre_blind, va_recv hK hPc (ci := 6) (q0 := 0) rfl rfl, fun U hU hW => gPre_of hU hW hK hPc hDc⟩ rfl rfl hl.1 rfl (lv_room (Nat.le_of_ble_eq_true rfl)) dL_law_1574 ⟨Nat.le_of_ble_eq_true rfl, Nat.le_of_ble_eq_true rfl⟩) hS (fun q _ h => hFc q h) hFc (fun r_19 u t H locs ht hvm w_20 hB hz1 hk1 hS => ?_)
  obtain ⟨hP1, hK1, hD1⟩ := hB
  rw [ht] at hP1
  have hz9 : gPD G (va_A _ _) [zo6 mo (nI (m_X6_pebblesBy_h00 Npb Fss Fsq Fce Fkd Fmo Fst v1 v2 v3 v4)) Akd Amo Ast (nI Njg) Aro Atp (nI Ntd) Acd Asr (nI Ntx) (nI Nru) Zhi Air Aih Ass Asq Ace Alw Z19 Z20 Z21 Z22 Awo Ahe Z25 Z26 Z27 Ask Ana Akp Z31 Z32 Z33 Z34 Agb Ago Afa Aga Z39 Z40 Avo, zi G Ass 4 Fss, zi G Asq 4 (nF Fsq), zi G Ace 160 Fce, zi G Akd 6 (m_X6_pebblesBy_kd Npb Fss Fsq Fce Fkd Fmo Fst v1 v2 v3 v4), zi G Amo 6 (m_X6_pebblesBy_mo Npb Fss Fsq Fce Fkd Fmo Fst v1 v2 v3 v4), zi G Ast 12 (m_X6_pebblesBy_st Npb Fss Fsq Fce Fkd Fmo Fst v1 v2 v3 v4)] H := ⟨hP1, hD1⟩
  have hP1 := hz9.1
  have hD1 := hz9.2
  have w_20 : r_19 = m_X6_pebblesBy Npb Fss Fsq Fce Fkd Fmo Fst v1 v2 v3 v4 := w_20
  have hz9 : gPD G A [zo1 rd tt b0 x2 x3 x4 x5 (nI td), zi G b0 160 fb, zo3 tt co en sk wr (nI tx), zr G co 6 fc, zi G c0 160 fcr0, zi G c1 160 fcr1, zi G c2 160 fcr2, zi G c3 160 fcr3, zi G c4 160 fcr4, zi G c5 160 fcr5, zr G en 6 fe, zi G e0 3 (nF fer0), zi G e1 3 (nF fer1), zi G e2 3 (nF fer2), zi G e3 3 (nF fer3), zi G e4 3 (nF fer4), zi G e5 3 (nF fer5), zi G sk 32 fsk, zo0 nw tt n1 n2 n3 n4 n5 n6 n7 n8 (nI jg) (nI pb) (nI lw), zi G n1 6 fnm, zi G n2 4 fso, zi G n3 4 fmi, zi G n4 4 fpa, zi G n5 6 fki, zi G n6 6 fmo, zi G n7 6 fsz, zi G n8 6 frd, zo0 th tt t1 t2 t3 t4 t5 t6 t7 t8 tj tb tl, zi G t1 6 unm, zi G t2 4 uso, zi G t3 4 umi, zi G t4 4 upa, zi G t5 6 uki, zi G t6 6 umo, zi G t7 6 usz, zi G t8 6 urd, zo0 kp tt k1 k2 k3 k4 k5 k6 k7 k8 (nI kj) (nI kb) (nI kl), zi G k1 6 gnm, zi G k2 4 gso, zi G k3 4 gmi, zi G k4 4 gpa, zi G k5 6 gki, zi G k6 6 gmo, zi G k7 6 gsz, zi G k8 6 grd, zr G qn 4 fn, zi G r0 40 fs0, zi G r1 40 fs1, zi G r2 40 fs2, zi G r3 40 fs3, zi G qo 4 fqo, zi G ql 4 (nF fql), zo4 tu tw tr, zr G tw 6 fw, zi G w0 6 fw0, zi G w1 6 fw1, zi G w2 6 fw2, zi G w3 6 fw3, zi G w4 6 fw4, zi G w5 6 fw5, zi G tr 64 ftr, zi G Aro 12 Fro, zi G Atp 160 Ftp, zi G Acd 1200 Fcd, zi G Asr 24 (nF Fsr), zi G Air 24 Fir, zi G Aih 3 Fih, zi G Alw 40 Flw, zi G Awo 96 Fwo, zi G Ahe 200 Fhe, zi G Ask 200 Fsk, zi G Ana 6 Fna, zi G Akp 24 Fkp, zb G Agb 61 Fgb, zb G Ago 61 Fgo, zi G Afa 36 Ffa, zi G Aga 36 Fga, zi G Avo 64 Fvo, zo5 xo tt rd nw th kp sh tu him, zo2 sh qn qo ql, zo6 mo (nI (m_X6_pebblesBy_h00 Npb Fss Fsq Fce Fkd Fmo Fst v1 v2 v3 v4)) Akd Amo Ast (nI Njg) Aro Atp (nI Ntd) Acd Asr (nI Ntx) (nI Nru) Zhi Air Aih Ass Asq Ace Alw Z19 Z20 Z21 Z22 Awo Ahe Z25 Z26 Z27 Ask Ana Akp Z31 Z32 Z33 Z34 Agb Ago Afa Aga Z39 Z40 Avo, zi G Ass 4 Fss, zi G Asq 4 (nF Fsq), zi G Ace 160 Fce, zi G Akd 6 (m_X6_pebblesBy_kd Npb Fss Fsq Fce Fkd Fmo Fst v1 v2 v3 v4), zi G Amo 6 (m_X6_pebblesBy_mo Npb Fss Fsq Fce Fkd Fmo Fst v1 v2 v3 v4), zi G Ast 12 (m_X6_pebblesBy_st Npb Fss Fsq Fce Fkd Fmo Fst v1 v2 v3 v4)] H := gJoin hP hD hk1 hFc hP1 hD1 [61, 71, 72, 73, 62, 63, 64] [0, 1, 2, 3, 4, 5, 6, 7, 8, 9, 10, 11, 12, 13, 14, 15, 16, 17, 18, 19, 20, 21, 22, 23, 24, 25, 26, 27, 28, 29, 30, 31, 32, 33, 34, 35, 36, 37, 38, 39, 40, 41, 42, 43, 44, 45, 46, 47, 48, 49, 50, 51, 52, 53, 54, 55, 56, 57, 58, 59, 60, 65, 66, 67, 68, 69, 70, 74, 75, 76, 77, 78, 79, 80, 81, 82, 83, 84, 85, 86] rfl rfl rfl (by decide +kernel) (by decide +kernel)
  have hP := hz9.1
  have hD := hz9.2
  subst w_20
  refine lv_pop hx hb dL_law_1577 rfl ?_
  refine lv_goto (tgt := 1614) hx hb dL_law_1578 (by decide +kernel) ?_
  refine lv_iinc (v := nI (7 * (i7 + 1))) (lv' := [zI 3 (nI (7 * (i7 + 1))), zR 2 mo, zR 1 xo, zR 0 b]) hx hb dL_law_1614 hl (k := 0) rfl (by show nI (7 * i7) + 7 = nI (7 * (i7 + 1)); exact nI_add (7 * i7) 7) (by decide +kernel) rfl (fun ls hl => ?_)
  refine lv_goto (tgt := 18) hx hb dL_law_1617 (by decide +kernel) ?_
  exact K him x2 x3 x4 x5 td fb wr fsk jg pb lw fnm fso fmi fpa fki fmo fsz frd tj tb tl unm uso umi upa uki umo usz urd kj kb kl gnm gso gmi gpa gki gmo gsz grd fs0 fs1 fs2 fs3 fqo fql fw0 fw1 fw2 fw3 fw4 fw5 ftr (m_X6_pebblesBy_h00 Npb Fss Fsq Fce Fkd Fmo Fst v1 v2 v3 v4) Njg Ntd Ntx Nru Zhi Z19 Z20 Z21 Z22 Z25 Z26 Z27 Z31 Z32 Z33 Z34 Z39 Z40 (m_X6_pebblesBy_kd Npb Fss Fsq Fce Fkd Fmo Fst v1 v2 v3 v4) (m_X6_pebblesBy_mo Npb Fss Fsq Fce Fkd Fmo Fst v1 v2 v3 v4) (m_X6_pebblesBy_st Npb Fss Fsq Fce Fkd Fmo Fst v1 v2 v3 v4) Fro Ftp Fcd Fsr Fir Fih Fss Fsq Fce Flw Fwo Fhe Fsk Fna Fkp Fgb Fgo Ffa Fga Fvo hFX (fm_pebblesBy hFM) (rl_pebblesBy_B hno hRL) (rq_pebblesBy_B hno hRQ) H _ ls (hP.sub [78, 0, 1, 2, 3, 4, 5, 6, 7, 8, 9, 10, 11, 12, 13, 14, 15, 16, 17, 18, 19, 20, 21, 22, 23, 24, 25, 26, 27, 28, 29, 30, 31, 32, 33, 34, 35, 36, 37, 38, 39, 40, 41, 42, 43, 44, 79, 45, 46, 47, 48, 49, 50, 51, 52, 53, 54, 55, 56, 57, 58, 59, 60, 80, 84, 85, 86, 61, 62, 63, 64, 65, 66, 81, 82, 83, 67, 68, 69, 70, 71, 72, 73, 74, 75, 76, 77] rfl) (hD.sub [78, 0, 1, 2, 3, 4, 5, 6, 7, 8, 9, 10, 11, 12, 13, 14, 15, 16, 17, 18, 19, 20, 21, 22, 23, 24, 25, 26, 27, 28, 29, 30, 31, 32, 33, 34, 35, 36, 37, 38, 39, 40, 41, 42, 43, 44, 79, 45, 46, 47, 48, 49, 50, 51, 52, 53, 54, 55, 56, 57, 58, 59, 60, 80, 84, 85, 86, 61, 62, 63, 64, 65, 66, 81, 82, 83, 67, 68, 69, 70, 71, 72, 73, 74, 75, 76, 77] (by decide +kernel) rfl) hS (lv_sub hl [0, 1, 2, 3] rfl)
set_option maxHeartbeats 4000000 in
set_option maxRecDepth 100000 in
theorem lc_taken {p : Program} {l : Launch} {e : Env} {s : State} {m : MethodId} {below : List Frame} {meth : Method} {c : Code} {b L : Nat} {xs : Nat → Int32} {G : gG} {E : gS} {A : Nat → Prop} (C0 : lw_At p s m meth c b L xs) (hE : gE E A s s.heap) (hK : gK G s) (hAe : A = fun q => s.heap.size ≤ q) {xo tt rd nw th kp sh tu b0 co en sk c0 c1 c2 c3 c4 c5 e0 e1 e2 e3 e4 e5 n1 n2 n3 n4 n5 n6 n7 n8 t1 t2 t3 t4 t5 t6 t7 t8 k1 k2 k3 k4 k5 k6 k7 k8 qn qo ql r0 r1 r2 r3 tw tr w0 w1 w2 w3 w4 w5 mo Akd Amo Ast Aro Atp Acd Asr Air Aih Ass Asq Ace Alw Awo Ahe Ask Ana Akp Agb Ago Afa Aga Avo : Nat} {fc fe fn fw : Nat → Option Nat} {tx : Nat} {fcr0 fcr1 fcr2 fcr3 fcr4 fcr5 : Nat → Int32} {fer0 fer1 fer2 fer3 fer4 fer5 : Nat → Nat} {him x2 x3 x4 x5 : Int32} {td : Nat} {fb : Nat → Int32} {wr : Int32} {fsk : Nat → Int32} {jg pb lw : Nat} {fnm fso fmi fpa fki fmo fsz frd : Nat → Int32} {tj tb tl : Int32} {unm uso umi upa uki umo usz urd : Nat → Int32} {kj kb kl : Nat} {gnm gso gmi gpa gki gmo gsz grd fs0 fs1 fs2 fs3 fqo : Nat → Int32} {fql : Nat → Nat} {fw0 fw1 fw2 fw3 fw4 fw5 ftr : Nat → Int32} {Npb Njg Ntd Ntx Nru : Nat} {Zhi Z19 Z20 Z21 Z22 Z25 Z26 Z27 Z31 Z32 Z33 Z34 Z39 Z40 : Int32} {Fkd Fmo Fst Fro Ftp Fcd : Nat → Int32} {Fsr : Nat → Nat} {Fir Fih Fss : Nat → Int32} {Fsq : Nat → Nat} {Fce Flw Fwo Fhe Fsk Fna Fkp Fgb Fgo Ffa Fga Fvo : Nat → Int32}  {v1 v2 v3 v4 v5 v6 : Int32} {i7 : Nat} (hi : 7 * i7 + 7 ≤ L) (hL : L ≤ 3584) (hv1 : v1 = xs (7 * i7 + 1)) (hv2 : v2 = xs (7 * i7 + 2)) (hv3 : v3 = xs (7 * i7 + 3)) (hv4 : v4 = xs (7 * i7 + 4)) (hv5 : v5 = xs (7 * i7 + 5)) (hv6 : v6 = xs (7 * i7 + 6))  (K : LawV p l e s m below meth c b G A xo tt rd nw th kp sh tu b0 co en sk c0 c1 c2 c3 c4 c5 e0 e1 e2 e3 e4 e5 n1 n2 n3 n4 n5 n6 n7 n8 t1 t2 t3 t4 t5 t6 t7 t8 k1 k2 k3 k4 k5 k6 k7 k8 qn qo ql r0 r1 r2 r3 tw tr w0 w1 w2 w3 w4 w5 mo Akd Amo Ast Aro Atp Acd Asr Air Aih Ass Asq Ace Alw Awo Ahe Ask Ana Akp Agb Ago Afa Aga Avo fc fe fn fw tx fcr0 fcr1 fcr2 fcr3 fcr4 fcr5 fer0 fer1 fer2 fer3 fer4 fer5 (i7 + 1)) (hFX : FXP jg pb lw kj kb kl tx td him fql) (hFM : FMP Npb Njg Ntd Ntx Nru Zhi Fcd Fsr Fsq Fir Fih) (hRL : RLP False fn r0 r1 r2 r3 jg pb kj kb him fs0 fs1 fs2 fs3 fqo fql Npb Njg Zhi Fss Fsq Fce Fih) (hRQ : RQP fc c0 c1 c2 c3 c4 c5 fcr0 fcr1 fcr2 fcr3 fcr4 fcr5 fer0 fer1 fer2 fer3 fer4 fer5 pb lw tx td kb kl him fb fso fmi fpa fki fmo fsz frd gso gmi gpa gki gmo gsz grd Nru Ntx Ntd Fkd Fmo Fst Fro Ftp Fcd Fsr Fir Fih Fwo) {H : Heap} {locs : List Loc} (hP : va_P G.1 vwCl (WLd G xo tt rd nw th kp sh tu b0 co en sk c0 c1 c2 c3 c4 c5 e0 e1 e2 e3 e4 e5 n1 n2 n3 n4 n5 n6 n7 n8 t1 t2 t3 t4 t5 t6 t7 t8 k1 k2 k3 k4 k5 k6 k7 k8 qn qo ql r0 r1 r2 r3 tw tr w0 w1 w2 w3 w4 w5 mo Akd Amo Ast Aro Atp Acd Asr Air Aih Ass Asq Ace Alw Awo Ahe Ask Ana Akp Agb Ago Afa Aga Avo fc fe fn fw tx fcr0 fcr1 fcr2 fcr3 fcr4 fcr5 fer0 fer1 fer2 fer3 fer4 fer5 him x2 x3 x4 x5 td fb wr fsk jg pb lw fnm fso fmi fpa fki fmo fsz frd tj tb tl unm uso umi upa uki umo usz urd kj kb kl gnm gso gmi gpa gki gmo gsz grd fs0 fs1 fs2 fs3 fqo fql fw0 fw1 fw2 fw3 fw4 fw5 ftr Npb Njg Ntd Ntx Nru Zhi Z19 Z20 Z21 Z22 Z25 Z26 Z27 Z31 Z32 Z33 Z34 Z39 Z40 Fkd Fmo Fst Fro Ftp Fcd Fsr Fir Fih Fss Fsq Fce Flw Fwo Fhe Fsk Fna Fkp Fgb Fgo Ffa Fga Fvo) H) (hD : va_D A (WLd G xo tt rd nw th kp sh tu b0 co en sk c0 c1 c2 c3 c4 c5 e0 e1 e2 e3 e4 e5 n1 n2 n3 n4 n5 n6 n7 n8 t1 t2 t3 t4 t5 t6 t7 t8 k1 k2 k3 k4 k5 k6 k7 k8 qn qo ql r0 r1 r2 r3 tw tr w0 w1 w2 w3 w4 w5 mo Akd Amo Ast Aro Atp Acd Asr Air Aih Ass Asq Ace Alw Awo Ahe Ask Ana Akp Agb Ago Afa Aga Avo fc fe fn fw tx fcr0 fcr1 fcr2 fcr3 fcr4 fcr5 fer0 fer1 fer2 fer3 fer4 fer5 him x2 x3 x4 x5 td fb wr fsk jg pb lw fnm fso fmi fpa fki fmo fsz frd tj tb tl unm uso umi upa uki umo usz urd kj kb kl gnm gso gmi gpa gki gmo gsz grd fs0 fs1 fs2 fs3 fqo fql fw0 fw1 fw2 fw3 fw4 fw5 ftr Npb Njg Ntd Ntx Nru Zhi Z19 Z20 Z21 Z22 Z25 Z26 Z27 Z31 Z32 Z33 Z34 Z39 Z40 Fkd Fmo Fst Fro Ftp Fcd Fsr Fir Fih Fss Fsq Fce Flw Fwo Fhe Fsk Fna Fkp Fgb Fgo Ffa Fga Fvo)) (hS : va_S A s.heap H locs) {ls : Array Slot} (hl : lv_has ls 4 [zI 3 (nI (7 * i7)), zR 2 mo, zR 1 xo, zR 0 b]) : W p l e room_1 s m #[Value.ref b] below meth c H locs 87 4128 (lw_Z below #[Value.ref b] s) (F0 m 1581 ls []) := by
  obtain ⟨hx, hb, hret, hml, hown, hts0, hX, hbl, hlocks, hgv⟩ := id C0
  have hts : ∀ w ∈ wsL_law, w.before #[Value.ref b] s = true := fun w h => hts0 w (wsL_law_in w h)
  have hown : s.vm.findClass RL = some m.cls := hown
  have hA : ∀ q : Nat, s.heap.size ≤ q → A q := fun q h => by rw [hAe]; exact h
  have hbA : ¬ A b := by rw [hAe]; exact Nat.not_le.mpr hbl
  obtain ⟨⟨hjg, hpb, hlw, htx, htd⟩, hkk, hql⟩ := id hFX
  obtain ⟨⟨hNpb, hNjg, hNru, hNtx, hNtd⟩, hwa, hsq, hIM⟩ := id hFM
  have hz9 : gPD G A [zo5 xo tt rd nw th kp sh tu him, zo1 rd tt b0 x2 x3 x4 x5 (nI td), zi G b0 160 fb, zo3 tt co en sk wr (nI tx), zr G co 6 fc, zi G c0 160 fcr0, zi G c1 160 fcr1, zi G c2 160 fcr2, zi G c3 160 fcr3, zi G c4 160 fcr4, zi G c5 160 fcr5, zr G en 6 fe, zi G e0 3 (nF fer0), zi G e1 3 (nF fer1), zi G e2 3 (nF fer2), zi G e3 3 (nF fer3), zi G e4 3 (nF fer4), zi G e5 3 (nF fer5), zi G sk 32 fsk, zo0 nw tt n1 n2 n3 n4 n5 n6 n7 n8 (nI jg) (nI pb) (nI lw), zi G n1 6 fnm, zi G n2 4 fso, zi G n3 4 fmi, zi G n4 4 fpa, zi G n5 6 fki, zi G n6 6 fmo, zi G n7 6 fsz, zi G n8 6 frd, zo0 th tt t1 t2 t3 t4 t5 t6 t7 t8 tj tb tl, zi G t1 6 unm, zi G t2 4 uso, zi G t3 4 umi, zi G t4 4 upa, zi G t5 6 uki, zi G t6 6 umo, zi G t7 6 usz, zi G t8 6 urd, zo0 kp tt k1 k2 k3 k4 k5 k6 k7 k8 (nI kj) (nI kb) (nI kl), zi G k1 6 gnm, zi G k2 4 gso, zi G k3 4 gmi, zi G k4 4 gpa, zi G k5 6 gki, zi G k6 6 gmo, zi G k7 6 gsz, zi G k8 6 grd, zo2 sh qn qo ql, zr G qn 4 fn, zi G r0 40 fs0, zi G r1 40 fs1, zi G r2 40 fs2, zi G r3 40 fs3, zi G qo 4 fqo, zi G ql 4 (nF fql), zo4 tu tw tr, zr G tw 6 fw, zi G w0 6 fw0, zi G w1 6 fw1, zi G w2 6 fw2, zi G w3 6 fw3, zi G w4 6 fw4, zi G w5 6 fw5, zi G tr 64 ftr, zo6 mo (nI Npb) Akd Amo Ast (nI Njg) Aro Atp (nI Ntd) Acd Asr (nI Ntx) (nI Nru) Zhi Air Aih Ass Asq Ace Alw Z19 Z20 Z21 Z22 Awo Ahe Z25 Z26 Z27 Ask Ana Akp Z31 Z32 Z33 Z34 Agb Ago Afa Aga Z39 Z40 Avo, zi G Akd 6 Fkd, zi G Amo 6 Fmo, zi G Ast 12 Fst, zi G Aro 12 Fro, zi G Atp 160 Ftp, zi G Acd 1200 Fcd, zi G Asr 24 (nF Fsr), zi G Air 24 Fir, zi G Aih 3 Fih, zi G Ass 4 Fss, zi G Asq 4 (nF Fsq), zi G Ace 160 Fce, zi G Alw 40 Flw, zi G Awo 96 Fwo, zi G Ahe 200 Fhe, zi G Ask 200 Fsk, zi G Ana 6 Fna, zi G Akp 24 Fkp, zb G Agb 61 Fgb, zb G Ago 61 Fgo, zi G Afa 36 Ffa, zi G Aga 36 Fga, zi G Avo 64 Fvo] H := ⟨hP, hD⟩
  have hP := hz9.1
  have hD := hz9.2
  refine lv_aload_n hx hb dL_law_1581 rfl (lv_at hl 2 rfl) ?_
  refine lv_aload_n hx hb dL_law_1582 rfl (lv_at hl 3 rfl) ?_
  refine lv_iload_n hx hb dL_law_1583 rfl (lv_at hl 0 rfl) ?_
  refine lv_iconst (v := 1) hx hb dL_law_1584 (by decide +kernel) ?_
  refine lv_iadd hx hb dL_law_1585 ?_
  refine lv_topi (fun v_1 ev_1 => ?_)
  have ev_1 : v_1 = nI ((7 * i7) + 1) := ev_1.trans (nI_add (7 * i7) 1)
  subst ev_1
  refine va_sld hx hb hX hbl hbA hS (i := nI ((7 * i7) + 1)) (vp_in_nI (by omega) (by omega)) dL_law_1586 ?_
  refine lv_topi (fun v_2 ev_2 => ?_)
  have ev_2 : v1 = v_2 := (ev_2.trans (by rw [nI_clamp (by omega)]; exact hv1.symm)).symm
  subst ev_2
  refine lv_aload_n hx hb dL_law_1587 rfl (lv_at hl 3 rfl) ?_
  refine lv_iload_n hx hb dL_law_1588 rfl (lv_at hl 0 rfl) ?_
  refine lv_iconst (v := 2) hx hb dL_law_1589 (by decide +kernel) ?_
  refine lv_iadd hx hb dL_law_1590 ?_
  refine lv_topi (fun v_3 ev_3 => ?_)
  have ev_3 : v_3 = nI ((7 * i7) + 2) := ev_3.trans (nI_add (7 * i7) 2)
  subst ev_3
  refine va_sld hx hb hX hbl hbA hS (i := nI ((7 * i7) + 2)) (vp_in_nI (by omega) (by omega)) dL_law_1591 ?_
  refine lv_topi (fun v_4 ev_4 => ?_)
  have ev_4 : v2 = v_4 := (ev_4.trans (by rw [nI_clamp (by omega)]; exact hv2.symm)).symm
  subst ev_4
  have hz9 : gPD G A [zo5 xo tt rd nw th kp sh tu him, zo0 nw tt n1 n2 n3 n4 n5 n6 n7 n8 (nI jg) (nI pb) (nI lw), zi G n4 4 fpa, zi G n5 6 fki] H := ⟨hP.sub [0, 19, 23, 24] rfl, hD.sub [0, 19, 23, 24] (by decide +kernel) rfl⟩
  have hPc := hz9.1
  have hDc := hz9.2
  have hFc := gFree hPc hD hS hA [0, 19, 23, 24] rfl
  refine va_calll (va_runV (As := [.int v1, .int v2]) (rest := []) ⟨hx, hb, hml, hown, hts⟩ (c_X5_taken l G xo tt rd nw th kp sh tu n1 n2 n3 n4 n5 n6 n7 n8 jg pb lw him fpa fki v1 v2 H.size (by first | exact hjg | assumption | omega) (by first | exact hpb | assumption | omega)) (cwV 2 hts gL_law_X5_taken rfl rfl rfl (by decide +kernel) ⟨Nat.le_of_ble_eq_true rfl, Nat.le_of_ble_eq_true rfl⟩) ⟨gPre_blind, va_recv hK hPc (ci := 5) (q0 := 0) rfl rfl, fun U hU hW => gPre_of hU hW hK hPc hDc⟩ rfl rfl hl.1 rfl (lv_room (Nat.le_of_ble_eq_true rfl)) dL_law_1592 ⟨Nat.le_of_ble_eq_true rfl, Nat.le_of_ble_eq_true rfl⟩) hS (fun q _ h => hFc q h) hFc (fun r_5 u t H locs ht hvm w_6 hB hz1 hk1 hS => ?_)
  obtain ⟨hP1, hK1, hD1⟩ := hB
  rw [ht] at hP1
  have hz9 : gPD G (va_A _ _) [zo5 xo tt rd nw th kp sh tu him, zo0 nw tt n1 n2 n3 n4 n5 n6 n7 n8 (nI jg) (nI pb) (nI lw), zi G n4 4 fpa, zi G n5 6 fki] H := ⟨hP1, hD1⟩
  have hP1 := hz9.1
  have hD1 := hz9.2
  have w_6 : r_5 = m_X5_taken jg pb fpa fki v1 v2 := w_6
  have hz9 : gPD G A [zo1 rd tt b0 x2 x3 x4 x5 (nI td), zi G b0 160 fb, zo3 tt co en sk wr (nI tx), zr G co 6 fc, zi G c0 160 fcr0, zi G c1 160 fcr1, zi G c2 160 fcr2, zi G c3 160 fcr3, zi G c4 160 fcr4, zi G c5 160 fcr5, zr G en 6 fe, zi G e0 3 (nF fer0), zi G e1 3 (nF fer1), zi G e2 3 (nF fer2), zi G e3 3 (nF fer3), zi G e4 3 (nF fer4), zi G e5 3 (nF fer5), zi G sk 32 fsk, zi G n1 6 fnm, zi G n2 4 fso, zi G n3 4 fmi, zi G n6 6 fmo, zi G n7 6 fsz, zi G n8 6 frd, zo0 th tt t1 t2 t3 t4 t5 t6 t7 t8 tj tb tl, zi G t1 6 unm, zi G t2 4 uso, zi G t3 4 umi, zi G t4 4 upa, zi G t5 6 uki, zi G t6 6 umo, zi G t7 6 usz, zi G t8 6 urd, zo0 kp tt k1 k2 k3 k4 k5 k6 k7 k8 (nI kj) (nI kb) (nI kl), zi G k1 6 gnm, zi G k2 4 gso, zi G k3 4 gmi, zi G k4 4 gpa, zi G k5 6 gki, zi G k6 6 gmo, zi G k7 6 gsz, zi G k8 6 grd, zo2 sh qn qo ql, zr G qn 4 fn, zi G r0 40 fs0, zi G r1 40 fs1, zi G r2 40 fs2, zi G r3 40 fs3, zi G qo 4 fqo, zi G ql 4 (nF fql), zo4 tu tw tr, zr G tw 6 fw, zi G w0 6 fw0, zi G w1 6 fw1, zi G w2 6 fw2, zi G w3 6 fw3, zi G w4 6 fw4, zi G w5 6 fw5, zi G tr 64 ftr, zo6 mo (nI Npb) Akd Amo Ast (nI Njg) Aro Atp (nI Ntd) Acd Asr (nI Ntx) (nI Nru) Zhi Air Aih Ass Asq Ace Alw Z19 Z20 Z21 Z22 Awo Ahe Z25 Z26 Z27 Ask Ana Akp Z31 Z32 Z33 Z34 Agb Ago Afa Aga Z39 Z40 Avo, zi G Akd 6 Fkd, zi G Amo 6 Fmo, zi G Ast 12 Fst, zi G Aro 12 Fro, zi G Atp 160 Ftp, zi G Acd 1200 Fcd, zi G Asr 24 (nF Fsr), zi G Air 24 Fir, zi G Aih 3 Fih, zi G Ass 4 Fss, zi G Asq 4 (nF Fsq), zi G Ace 160 Fce, zi G Alw 40 Flw, zi G Awo 96 Fwo, zi G Ahe 200 Fhe, zi G Ask 200 Fsk, zi G Ana 6 Fna, zi G Akp 24 Fkp, zb G Agb 61 Fgb, zb G Ago 61 Fgo, zi G Afa 36 Ffa, zi G Aga 36 Fga, zi G Avo 64 Fvo, zo5 xo tt rd nw th kp sh tu him, zo0 nw tt n1 n2 n3 n4 n5 n6 n7 n8 (nI jg) (nI pb) (nI lw), zi G n4 4 fpa, zi G n5 6 fki] H := gJoin hP hD hk1 hFc hP1 hD1 [0, 19, 23, 24] [1, 2, 3, 4, 5, 6, 7, 8, 9, 10, 11, 12, 13, 14, 15, 16, 17, 18, 20, 21, 22, 25, 26, 27, 28, 29, 30, 31, 32, 33, 34, 35, 36, 37, 38, 39, 40, 41, 42, 43, 44, 45, 46, 47, 48, 49, 50, 51, 52, 53, 54, 55, 56, 57, 58, 59, 60, 61, 62, 63, 64, 65, 66, 67, 68, 69, 70, 71, 72, 73, 74, 75, 76, 77, 78, 79, 80, 81, 82, 83, 84, 85, 86] rfl rfl rfl (by decide +kernel) (by decide +kernel)
  have hP := hz9.1
  have hD := hz9.2
  subst w_6
  refine lv_pop2_2 hx hb dL_law_1595 rfl ?_
  refine lv_aload_n hx hb dL_law_1596 rfl (lv_at hl 1 rfl) ?_
  refine lv_aload_n hx hb dL_law_1597 rfl (lv_at hl 3 rfl) ?_
  refine lv_iload_n hx hb dL_law_1598 rfl (lv_at hl 0 rfl) ?_
  refine lv_iconst (v := 1) hx hb dL_law_1599 (by decide +kernel) ?_
  refine lv_iadd hx hb dL_law_1600 ?_
  refine lv_topi (fun v_7 ev_7 => ?_)
  have ev_7 : v_7 = nI ((7 * i7) + 1) := ev_7.trans (nI_add (7 * i7) 1)
  subst ev_7
  refine va_sld hx hb hX hbl hbA hS (i := nI ((7 * i7) + 1)) (vp_in_nI (by omega) (by omega)) dL_law_1601 ?_
  refine lv_topi (fun v_8 ev_8 => ?_)
  have ev_8 : v1 = v_8 := (ev_8.trans (by rw [nI_clamp (by omega)]; exact hv1.symm)).symm
  subst ev_8
  refine lv_aload_n hx hb dL_law_1602 rfl (lv_at hl 3 rfl) ?_
  refine lv_iload_n hx hb dL_law_1603 rfl (lv_at hl 0 rfl) ?_
  refine lv_iconst (v := 2) hx hb dL_law_1604 (by decide +kernel) ?_
  refine lv_iadd hx hb dL_law_1605 ?_
  refine lv_topi (fun v_9 ev_9 => ?_)
  have ev_9 : v_9 = nI ((7 * i7) + 2) := ev_9.trans (nI_add (7 * i7) 2)
  subst ev_9
  refine va_sld hx hb hX hbl hbA hS (i := nI ((7 * i7) + 2)) (vp_in_nI (by omega) (by omega)) dL_law_1606 ?_
  refine lv_topi (fun v_10 ev_10 => ?_)
  have ev_10 : v2 = v_10 := (ev_10.trans (by rw [nI_clamp (by omega)]; exact hv2.symm)).symm
  subst ev_10
  have hz9 : gPD G A [zo6 mo (nI Npb) Akd Amo Ast (nI Njg) Aro Atp (nI Ntd) Acd Asr (nI Ntx) (nI Nru) Zhi Air Aih Ass Asq Ace Alw Z19 Z20 Z21 Z22 Awo Ahe Z25 Z26 Z27 Ask Ana Akp Z31 Z32 Z33 Z34 Agb Ago Afa Aga Z39 Z40 Avo, zi G Akd 6 Fkd, zi G Aro 12 Fro] H := ⟨hP.sub [59, 60, 63] rfl, hD.sub [59, 60, 63] (by decide +kernel) rfl⟩
  have hPc := hz9.1
  have hDc := hz9.2
  have hFc := gFree hPc hD hS hA [59, 60, 63] rfl
  refine va_calll (va_runV (As := [.int v1, .int v2]) (rest := []) ⟨hx, hb, hml, hown, hts⟩ (c_X6_taken l G mo Akd Amo Ast Aro Atp Acd Asr Air Aih Ass Asq Ace Alw Awo Ahe Ask Ana Akp Agb Ago Afa Aga Avo Npb Njg Ntd Ntx Nru Zhi Z19 Z20 Z21 Z22 Z25 Z26 Z27 Z31 Z32 Z33 Z34 Z39 Z40 Fkd Fro v1 v2 H.size (by first | exact hpb | assumption | omega) (by first | exact hjg | assumption | omega) (by first | exact htx | assumption | omega) (by first | exact hru | assumption | omega)) (cwV 2 hts gL_law_X6_taken rfl rfl rfl (by decide +kernel) ⟨Nat.le_of_ble_eq_true rfl, Nat.le_of_ble_eq_true rfl⟩) ⟨gPre_blind, va_recv hK hPc (ci := 6) (q0 := 0) rfl rfl, fun U hU hW => gPre_of hU hW hK hPc hDc⟩ rfl rfl hl.1 rfl (lv_room (Nat.le_of_ble_eq_true rfl)) dL_law_1607 ⟨Nat.le_of_ble_eq_true rfl, Nat.le_of_ble_eq_true rfl⟩) hS (fun q _ h => hFc q h) hFc (fun r_11 u t H locs ht hvm w_12 hB hz1 hk1 hS => ?_)
  obtain ⟨hP1, hK1, hD1⟩ := hB
  rw [ht] at hP1
  have hz9 : gPD G (va_A _ _) [zo6 mo (nI Npb) Akd Amo Ast (nI Njg) Aro Atp (nI Ntd) Acd Asr (nI Ntx) (nI Nru) Zhi Air Aih Ass Asq Ace Alw Z19 Z20 Z21 Z22 Awo Ahe Z25 Z26 Z27 Ask Ana Akp Z31 Z32 Z33 Z34 Agb Ago Afa Aga Z39 Z40 Avo, zi G Akd 6 Fkd, zi G Aro 12 Fro] H := ⟨hP1, hD1⟩
  have hP1 := hz9.1
  have hD1 := hz9.2
  have w_12 : r_11 = m_X6_taken Npb Njg Fkd Fro v1 v2 := w_12
  have hz9 : gPD G A [zo1 rd tt b0 x2 x3 x4 x5 (nI td), zi G b0 160 fb, zo3 tt co en sk wr (nI tx), zr G co 6 fc, zi G c0 160 fcr0, zi G c1 160 fcr1, zi G c2 160 fcr2, zi G c3 160 fcr3, zi G c4 160 fcr4, zi G c5 160 fcr5, zr G en 6 fe, zi G e0 3 (nF fer0), zi G e1 3 (nF fer1), zi G e2 3 (nF fer2), zi G e3 3 (nF fer3), zi G e4 3 (nF fer4), zi G e5 3 (nF fer5), zi G sk 32 fsk, zi G n1 6 fnm, zi G n2 4 fso, zi G n3 4 fmi, zi G n6 6 fmo, zi G n7 6 fsz, zi G n8 6 frd, zo0 th tt t1 t2 t3 t4 t5 t6 t7 t8 tj tb tl, zi G t1 6 unm, zi G t2 4 uso, zi G t3 4 umi, zi G t4 4 upa, zi G t5 6 uki, zi G t6 6 umo, zi G t7 6 usz, zi G t8 6 urd, zo0 kp tt k1 k2 k3 k4 k5 k6 k7 k8 (nI kj) (nI kb) (nI kl), zi G k1 6 gnm, zi G k2 4 gso, zi G k3 4 gmi, zi G k4 4 gpa, zi G k5 6 gki, zi G k6 6 gmo, zi G k7 6 gsz, zi G k8 6 grd, zo2 sh qn qo ql, zr G qn 4 fn, zi G r0 40 fs0, zi G r1 40 fs1, zi G r2 40 fs2, zi G r3 40 fs3, zi G qo 4 fqo, zi G ql 4 (nF fql), zo4 tu tw tr, zr G tw 6 fw, zi G w0 6 fw0, zi G w1 6 fw1, zi G w2 6 fw2, zi G w3 6 fw3, zi G w4 6 fw4, zi G w5 6 fw5, zi G tr 64 ftr, zi G Amo 6 Fmo, zi G Ast 12 Fst, zi G Atp 160 Ftp, zi G Acd 1200 Fcd, zi G Asr 24 (nF Fsr), zi G Air 24 Fir, zi G Aih 3 Fih, zi G Ass 4 Fss, zi G Asq 4 (nF Fsq), zi G Ace 160 Fce, zi G Alw 40 Flw, zi G Awo 96 Fwo, zi G Ahe 200 Fhe, zi G Ask 200 Fsk, zi G Ana 6 Fna, zi G Akp 24 Fkp, zb G Agb 61 Fgb, zb G Ago 61 Fgo, zi G Afa 36 Ffa, zi G Aga 36 Fga, zi G Avo 64 Fvo, zo5 xo tt rd nw th kp sh tu him, zo0 nw tt n1 n2 n3 n4 n5 n6 n7 n8 (nI jg) (nI pb) (nI lw), zi G n4 4 fpa, zi G n5 6 fki, zo6 mo (nI Npb) Akd Amo Ast (nI Njg) Aro Atp (nI Ntd) Acd Asr (nI Ntx) (nI Nru) Zhi Air Aih Ass Asq Ace Alw Z19 Z20 Z21 Z22 Awo Ahe Z25 Z26 Z27 Ask Ana Akp Z31 Z32 Z33 Z34 Agb Ago Afa Aga Z39 Z40 Avo, zi G Akd 6 Fkd, zi G Aro 12 Fro] H := gJoin hP hD hk1 hFc hP1 hD1 [59, 60, 63] [0, 1, 2, 3, 4, 5, 6, 7, 8, 9, 10, 11, 12, 13, 14, 15, 16, 17, 18, 19, 20, 21, 22, 23, 24, 25, 26, 27, 28, 29, 30, 31, 32, 33, 34, 35, 36, 37, 38, 39, 40, 41, 42, 43, 44, 45, 46, 47, 48, 49, 50, 51, 52, 53, 54, 55, 56, 57, 58, 61, 62, 64, 65, 66, 67, 68, 69, 70, 71, 72, 73, 74, 75, 76, 77, 78, 79, 80, 81, 82, 83, 84, 85, 86] rfl rfl rfl (by decide +kernel) (by decide +kernel)
  have hP := hz9.1
  have hD := hz9.2
  subst w_12
  refine lv_pop2_2 hx hb dL_law_1610 rfl ?_
  refine lv_goto (tgt := 1614) hx hb dL_law_1611 (by decide +kernel) ?_
  refine lv_iinc (v := nI (7 * (i7 + 1))) (lv' := [zI 3 (nI (7 * (i7 + 1))), zR 2 mo, zR 1 xo, zR 0 b]) hx hb dL_law_1614 hl (k := 0) rfl (by show nI (7 * i7) + 7 = nI (7 * (i7 + 1)); exact nI_add (7 * i7) 7) (by decide +kernel) rfl (fun ls hl => ?_)
  refine lv_goto (tgt := 18) hx hb dL_law_1617 (by decide +kernel) ?_
  exact K him x2 x3 x4 x5 td fb wr fsk jg pb lw fnm fso fmi fpa fki fmo fsz frd tj tb tl unm uso umi upa uki umo usz urd kj kb kl gnm gso gmi gpa gki gmo gsz grd fs0 fs1 fs2 fs3 fqo fql fw0 fw1 fw2 fw3 fw4 fw5 ftr Npb Njg Ntd Ntx Nru Zhi Z19 Z20 Z21 Z22 Z25 Z26 Z27 Z31 Z32 Z33 Z34 Z39 Z40 Fkd Fmo Fst Fro Ftp Fcd Fsr Fir Fih Fss Fsq Fce Flw Fwo Fhe Fsk Fna Fkp Fgb Fgo Ffa Fga Fvo hFX hFM hRL hRQ H _ ls (hP.sub [80, 0, 1, 2, 3, 4, 5, 6, 7, 8, 9, 10, 11, 12, 13, 14, 15, 16, 17, 81, 18, 19, 20, 82, 83, 21, 22, 23, 24, 25, 26, 27, 28, 29, 30, 31, 32, 33, 34, 35, 36, 37, 38, 39, 40, 41, 42, 43, 44, 45, 46, 47, 48, 49, 50, 51, 52, 53, 54, 55, 56, 57, 58, 84, 85, 59, 60, 86, 61, 62, 63, 64, 65, 66, 67, 68, 69, 70, 71, 72, 73, 74, 75, 76, 77, 78, 79] rfl) (hD.sub [80, 0, 1, 2, 3, 4, 5, 6, 7, 8, 9, 10, 11, 12, 13, 14, 15, 16, 17, 81, 18, 19, 20, 82, 83, 21, 22, 23, 24, 25, 26, 27, 28, 29, 30, 31, 32, 33, 34, 35, 36, 37, 38, 39, 40, 41, 42, 43, 44, 45, 46, 47, 48, 49, 50, 51, 52, 53, 54, 55, 56, 57, 58, 84, 85, 59, 60, 86, 61, 62, 63, 64, 65, 66, 67, 68, 69, 70, 71, 72, 73, 74, 75, 76, 77, 78, 79] (by decide +kernel) rfl) hS (lv_sub hl [0, 1, 2, 3] rfl)
