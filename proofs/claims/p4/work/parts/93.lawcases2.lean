set_option maxHeartbeats 4000000 in
set_option maxRecDepth 100000 in
theorem lc_thick {p : Program} {l : Launch} {e : Env} {s : State} {m : MethodId} {below : List Frame} {meth : Method} {c : Code} {b L : Nat} {xs : Nat → Int32} {G : gG} {E : gS} {A : Nat → Prop} (C0 : lw_At p s m meth c b L xs) (hE : gE E A s s.heap) (hK : gK G s) (hAe : A = fun q => s.heap.size ≤ q) {xo tt rd nw th kp sh tu b0 co en sk c0 c1 c2 c3 c4 c5 e0 e1 e2 e3 e4 e5 n1 n2 n3 n4 n5 n6 n7 n8 t1 t2 t3 t4 t5 t6 t7 t8 k1 k2 k3 k4 k5 k6 k7 k8 qn qo ql r0 r1 r2 r3 tw tr w0 w1 w2 w3 w4 w5 mo Akd Amo Ast Aro Atp Acd Asr Air Aih Ass Asq Ace Alw Awo Ahe Ask Ana Akp Agb Ago Afa Aga Avo : Nat} {fc fe fn fw : Nat → Option Nat} {tx : Nat} {fcr0 fcr1 fcr2 fcr3 fcr4 fcr5 : Nat → Int32} {fer0 fer1 fer2 fer3 fer4 fer5 : Nat → Nat} {him x2 x3 x4 x5 : Int32} {td : Nat} {fb : Nat → Int32} {wr : Int32} {fsk : Nat → Int32} {jg pb lw : Nat} {fnm fso fmi fpa fki fmo fsz frd : Nat → Int32} {tj tb tl : Int32} {unm uso umi upa uki umo usz urd : Nat → Int32} {kj kb kl : Nat} {gnm gso gmi gpa gki gmo gsz grd fs0 fs1 fs2 fs3 fqo : Nat → Int32} {fql : Nat → Nat} {fw0 fw1 fw2 fw3 fw4 fw5 ftr : Nat → Int32} {Npb Njg Ntd Ntx Nru : Nat} {Zhi Z19 Z20 Z21 Z22 Z25 Z26 Z27 Z31 Z32 Z33 Z34 Z39 Z40 : Int32} {Fkd Fmo Fst Fro Ftp Fcd : Nat → Int32} {Fsr : Nat → Nat} {Fir Fih Fss : Nat → Int32} {Fsq : Nat → Nat} {Fce Flw Fwo Fhe Fsk Fna Fkp Fgb Fgo Ffa Fga Fvo : Nat → Int32}  {v1 v2 v3 v4 v5 v6 : Int32} {i7 : Nat} (hi : 7 * i7 + 7 ≤ L) (hL : L ≤ 3584) (hv1 : v1 = xs (7 * i7 + 1)) (hv2 : v2 = xs (7 * i7 + 2)) (hv3 : v3 = xs (7 * i7 + 3)) (hv4 : v4 = xs (7 * i7 + 4)) (hv5 : v5 = xs (7 * i7 + 5)) (hv6 : v6 = xs (7 * i7 + 6)) (hc : fc lw = some c0) (he : fe lw = some e0) (hwx : mWx fcr0 fer0) (K : LawV p l e s m below meth c b G A xo tt rd nw th kp sh tu b0 co en sk c0 c1 c2 c3 c4 c5 e0 e1 e2 e3 e4 e5 n1 n2 n3 n4 n5 n6 n7 n8 t1 t2 t3 t4 t5 t6 t7 t8 k1 k2 k3 k4 k5 k6 k7 k8 qn qo ql r0 r1 r2 r3 tw tr w0 w1 w2 w3 w4 w5 mo Akd Amo Ast Aro Atp Acd Asr Air Aih Ass Asq Ace Alw Awo Ahe Ask Ana Akp Agb Ago Afa Aga Avo fc fe fn fw tx fcr0 fcr1 fcr2 fcr3 fcr4 fcr5 fer0 fer1 fer2 fer3 fer4 fer5 (i7 + 1)) (hFX : FXP jg pb lw kj kb kl tx td him fql) (hFM : FMP Npb Njg Ntd Ntx Nru Zhi Fcd Fsr Fsq Fir Fih) (hRL : RLP False fn r0 r1 r2 r3 jg pb kj kb him fs0 fs1 fs2 fs3 fqo fql Npb Njg Zhi Fss Fsq Fce Fih) (hRQ : RQP fc c0 c1 c2 c3 c4 c5 fcr0 fcr1 fcr2 fcr3 fcr4 fcr5 fer0 fer1 fer2 fer3 fer4 fer5 pb lw tx td kb kl him fb fso fmi fpa fki fmo fsz frd gso gmi gpa gki gmo gsz grd Nru Ntx Ntd Fkd Fmo Fst Fro Ftp Fcd Fsr Fir Fih Fwo) {H : Heap} {locs : List Loc} (hP : va_P G.1 vwCl (WLd G xo tt rd nw th kp sh tu b0 co en sk c0 c1 c2 c3 c4 c5 e0 e1 e2 e3 e4 e5 n1 n2 n3 n4 n5 n6 n7 n8 t1 t2 t3 t4 t5 t6 t7 t8 k1 k2 k3 k4 k5 k6 k7 k8 qn qo ql r0 r1 r2 r3 tw tr w0 w1 w2 w3 w4 w5 mo Akd Amo Ast Aro Atp Acd Asr Air Aih Ass Asq Ace Alw Awo Ahe Ask Ana Akp Agb Ago Afa Aga Avo fc fe fn fw tx fcr0 fcr1 fcr2 fcr3 fcr4 fcr5 fer0 fer1 fer2 fer3 fer4 fer5 him x2 x3 x4 x5 td fb wr fsk jg pb lw fnm fso fmi fpa fki fmo fsz frd tj tb tl unm uso umi upa uki umo usz urd kj kb kl gnm gso gmi gpa gki gmo gsz grd fs0 fs1 fs2 fs3 fqo fql fw0 fw1 fw2 fw3 fw4 fw5 ftr Npb Njg Ntd Ntx Nru Zhi Z19 Z20 Z21 Z22 Z25 Z26 Z27 Z31 Z32 Z33 Z34 Z39 Z40 Fkd Fmo Fst Fro Ftp Fcd Fsr Fir Fih Fss Fsq Fce Flw Fwo Fhe Fsk Fna Fkp Fgb Fgo Ffa Fga Fvo) H) (hD : va_D A (WLd G xo tt rd nw th kp sh tu b0 co en sk c0 c1 c2 c3 c4 c5 e0 e1 e2 e3 e4 e5 n1 n2 n3 n4 n5 n6 n7 n8 t1 t2 t3 t4 t5 t6 t7 t8 k1 k2 k3 k4 k5 k6 k7 k8 qn qo ql r0 r1 r2 r3 tw tr w0 w1 w2 w3 w4 w5 mo Akd Amo Ast Aro Atp Acd Asr Air Aih Ass Asq Ace Alw Awo Ahe Ask Ana Akp Agb Ago Afa Aga Avo fc fe fn fw tx fcr0 fcr1 fcr2 fcr3 fcr4 fcr5 fer0 fer1 fer2 fer3 fer4 fer5 him x2 x3 x4 x5 td fb wr fsk jg pb lw fnm fso fmi fpa fki fmo fsz frd tj tb tl unm uso umi upa uki umo usz urd kj kb kl gnm gso gmi gpa gki gmo gsz grd fs0 fs1 fs2 fs3 fqo fql fw0 fw1 fw2 fw3 fw4 fw5 ftr Npb Njg Ntd Ntx Nru Zhi Z19 Z20 Z21 Z22 Z25 Z26 Z27 Z31 Z32 Z33 Z34 Z39 Z40 Fkd Fmo Fst Fro Ftp Fcd Fsr Fir Fih Fss Fsq Fce Flw Fwo Fhe Fsk Fna Fkp Fgb Fgo Ffa Fga Fvo)) (hS : va_S A s.heap H locs) {ls : Array Slot} (hl : lv_has ls 4 [zI 3 (nI (7 * i7)), zR 2 mo, zR 1 xo, zR 0 b]) : W p l e room_1 s m #[Value.ref b] below meth c H locs 87 4128 (lw_Z below #[Value.ref b] s) (F0 m 815 ls []) := by
  obtain ⟨hx, hb, hret, hml, hown, hts0, hX, hbl, hlocks, hgv⟩ := id C0
  have hts : ∀ w ∈ wsL_law, w.before #[Value.ref b] s = true := fun w h => hts0 w (wsL_law_in w h)
  have hown : s.vm.findClass RL = some m.cls := hown
  have hA : ∀ q : Nat, s.heap.size ≤ q → A q := fun q h => by rw [hAe]; exact h
  have hbA : ¬ A b := by rw [hAe]; exact Nat.not_le.mpr hbl
  obtain ⟨⟨hjg, hpb, hlw, htx, htd⟩, hkk, hql⟩ := id hFX
  obtain ⟨⟨hNpb, hNjg, hNru, hNtx, hNtd⟩, hwa, hsq, hIM⟩ := id hFM
  have hz9 : gPD G A [zo5 xo tt rd nw th kp sh tu him, zo1 rd tt b0 x2 x3 x4 x5 (nI td), zi G b0 160 fb, zo3 tt co en sk wr (nI tx), zr G co 6 fc, zi G c0 160 fcr0, zi G c1 160 fcr1, zi G c2 160 fcr2, zi G c3 160 fcr3, zi G c4 160 fcr4, zi G c5 160 fcr5, zr G en 6 fe, zi G e0 3 (nF fer0), zi G e1 3 (nF fer1), zi G e2 3 (nF fer2), zi G e3 3 (nF fer3), zi G e4 3 (nF fer4), zi G e5 3 (nF fer5), zi G sk 32 fsk, zo0 nw tt n1 n2 n3 n4 n5 n6 n7 n8 (nI jg) (nI pb) (nI lw), zi G n1 6 fnm, zi G n2 4 fso, zi G n3 4 fmi, zi G n4 4 fpa, zi G n5 6 fki, zi G n6 6 fmo, zi G n7 6 fsz, zi G n8 6 frd, zo0 th tt t1 t2 t3 t4 t5 t6 t7 t8 tj tb tl, zi G t1 6 unm, zi G t2 4 uso, zi G t3 4 umi, zi G t4 4 upa, zi G t5 6 uki, zi G t6 6 umo, zi G t7 6 usz, zi G t8 6 urd, zo0 kp tt k1 k2 k3 k4 k5 k6 k7 k8 (nI kj) (nI kb) (nI kl), zi G k1 6 gnm, zi G k2 4 gso, zi G k3 4 gmi, zi G k4 4 gpa, zi G k5 6 gki, zi G k6 6 gmo, zi G k7 6 gsz, zi G k8 6 grd, zo2 sh qn qo ql, zr G qn 4 fn, zi G r0 40 fs0, zi G r1 40 fs1, zi G r2 40 fs2, zi G r3 40 fs3, zi G qo 4 fqo, zi G ql 4 (nF fql), zo4 tu tw tr, zr G tw 6 fw, zi G w0 6 fw0, zi G w1 6 fw1, zi G w2 6 fw2, zi G w3 6 fw3, zi G w4 6 fw4, zi G w5 6 fw5, zi G tr 64 ftr, zo6 mo (nI Npb) Akd Amo Ast (nI Njg) Aro Atp (nI Ntd) Acd Asr (nI Ntx) (nI Nru) Zhi Air Aih Ass Asq Ace Alw Z19 Z20 Z21 Z22 Awo Ahe Z25 Z26 Z27 Ask Ana Akp Z31 Z32 Z33 Z34 Agb Ago Afa Aga Z39 Z40 Avo, zi G Akd 6 Fkd, zi G Amo 6 Fmo, zi G Ast 12 Fst, zi G Aro 12 Fro, zi G Atp 160 Ftp, zi G Acd 1200 Fcd, zi G Asr 24 (nF Fsr), zi G Air 24 Fir, zi G Aih 3 Fih, zi G Ass 4 Fss, zi G Asq 4 (nF Fsq), zi G Ace 160 Fce, zi G Alw 40 Flw, zi G Awo 96 Fwo, zi G Ahe 200 Fhe, zi G Ask 200 Fsk, zi G Ana 6 Fna, zi G Akp 24 Fkp, zb G Agb 61 Fgb, zb G Ago 61 Fgo, zi G Afa 36 Ffa, zi G Aga 36 Fga, zi G Avo 64 Fvo] H := ⟨hP, hD⟩
  have hP := hz9.1
  have hD := hz9.2
  refine lv_aload_n hx hb dL_law_815 rfl (lv_at hl 2 rfl) ?_
  refine lv_aload_n hx hb dL_law_816 rfl (lv_at hl 3 rfl) ?_
  refine lv_iload_n hx hb dL_law_817 rfl (lv_at hl 0 rfl) ?_
  refine lv_iconst (v := 1) hx hb dL_law_818 (by decide +kernel) ?_
  refine lv_iadd hx hb dL_law_819 ?_
  refine lv_topi (fun v_1 ev_1 => ?_)
  have ev_1 : v_1 = nI ((7 * i7) + 1) := ev_1.trans (nI_add (7 * i7) 1)
  subst ev_1
  refine va_sld hx hb hX hbl hbA hS (i := nI ((7 * i7) + 1)) (vp_in_nI (by omega) (by omega)) dL_law_820 ?_
  refine lv_topi (fun v_2 ev_2 => ?_)
  have ev_2 : v1 = v_2 := (ev_2.trans (by rw [nI_clamp (by omega)]; exact hv1.symm)).symm
  subst ev_2
  refine lv_aload_n hx hb dL_law_821 rfl (lv_at hl 3 rfl) ?_
  refine lv_iload_n hx hb dL_law_822 rfl (lv_at hl 0 rfl) ?_
  refine lv_iconst (v := 2) hx hb dL_law_823 (by decide +kernel) ?_
  refine lv_iadd hx hb dL_law_824 ?_
  refine lv_topi (fun v_3 ev_3 => ?_)
  have ev_3 : v_3 = nI ((7 * i7) + 2) := ev_3.trans (nI_add (7 * i7) 2)
  subst ev_3
  refine va_sld hx hb hX hbl hbA hS (i := nI ((7 * i7) + 2)) (vp_in_nI (by omega) (by omega)) dL_law_825 ?_
  refine lv_topi (fun v_4 ev_4 => ?_)
  have ev_4 : v2 = v_4 := (ev_4.trans (by rw [nI_clamp (by omega)]; exact hv2.symm)).symm
  subst ev_4
  refine lv_aload_n hx hb dL_law_826 rfl (lv_at hl 3 rfl) ?_
  refine lv_iload_n hx hb dL_law_827 rfl (lv_at hl 0 rfl) ?_
  refine lv_iconst (v := 3) hx hb dL_law_828 (by decide +kernel) ?_
  refine lv_iadd hx hb dL_law_829 ?_
  refine lv_topi (fun v_5 ev_5 => ?_)
  have ev_5 : v_5 = nI ((7 * i7) + 3) := ev_5.trans (nI_add (7 * i7) 3)
  subst ev_5
  refine va_sld hx hb hX hbl hbA hS (i := nI ((7 * i7) + 3)) (vp_in_nI (by omega) (by omega)) dL_law_830 ?_
  refine lv_topi (fun v_6 ev_6 => ?_)
  have ev_6 : v3 = v_6 := (ev_6.trans (by rw [nI_clamp (by omega)]; exact hv3.symm)).symm
  subst ev_6
  have hz9 : gPD G A [zo5 xo tt rd nw th kp sh tu him, zo0 nw tt n1 n2 n3 n4 n5 n6 n7 n8 (nI jg) (nI pb) (nI lw), zi G n2 4 fso, zi G n3 4 fmi, zi G n4 4 fpa, zi G n5 6 fki, zi G n6 6 fmo, zi G n7 6 fsz, zi G n8 6 frd, zo0 th tt t1 t2 t3 t4 t5 t6 t7 t8 tj tb tl, zi G t1 6 unm, zi G t2 4 uso, zi G t3 4 umi, zi G t4 4 upa, zi G t5 6 uki, zi G t6 6 umo, zi G t7 6 usz, zi G t8 6 urd, zo3 tt co en sk wr (nI tx), zr G co 6 fc, zr G en 6 fe, zi G c0 160 fcr0, zi G e0 3 (nF fer0), zi G sk 32 fsk] H := ⟨hP.sub [0, 19, 21, 22, 23, 24, 25, 26, 27, 28, 29, 30, 31, 32, 33, 34, 35, 36, 3, 4, 11, 5, 12, 18] rfl, hD.sub [0, 19, 21, 22, 23, 24, 25, 26, 27, 28, 29, 30, 31, 32, 33, 34, 35, 36, 3, 4, 11, 5, 12, 18] (by decide +kernel) rfl⟩
  have hPc := hz9.1
  have hDc := hz9.2
  have hFc := gFree hPc hD hS hA [0, 19, 21, 22, 23, 24, 25, 26, 27, 28, 29, 30, 31, 32, 33, 34, 35, 36, 3, 4, 11, 5, 12, 18] rfl
  refine va_calli (va_runV (As := [.int v1, .int v2, .int v3]) (rest := []) ⟨hx, hb, hml, hown, hts⟩ (c_X5_thick l G xo tt rd nw th kp sh tu n1 n2 n3 n4 n5 n6 n7 n8 t1 t2 t3 t4 t5 t6 t7 t8 co en sk c0 e0 jg pb lw tx him wr tj tb tl fc fe fer0 fso fmi fpa fki fmo fsz frd unm uso umi upa uki umo usz urd fcr0 fsk v1 v2 v3 H.size (by first | exact htn | assumption | omega) (by first | exact hc | assumption | omega) (by first | exact he | assumption | omega) (by first | exact hwx | assumption | omega) (by first | exact hjg | assumption | omega) (by first | exact hpb | assumption | omega)) (cwV 3 hts gL_law_X5_thick rfl rfl rfl (by decide +kernel) ⟨Nat.le_of_ble_eq_true rfl, Nat.le_of_ble_eq_true rfl⟩) ⟨gPre_blind, va_recv hK hPc (ci := 5) (q0 := 0) rfl rfl, fun U hU hW => gPre_of hU hW hK hPc hDc⟩ rfl rfl hl.1 rfl (lv_room (Nat.le_of_ble_eq_true rfl)) dL_law_831 ⟨Nat.le_of_ble_eq_true rfl, Nat.le_of_ble_eq_true rfl⟩) hS (fun q _ h => hFc q h) hFc (fun r_7 u t H locs ht hvm w_8 hB hz1 hk1 hS => ?_)
  obtain ⟨zj9_9, zb9_10, zl9_11, yt1_12, yt2_13, yt3_14, yt4_15, yt5_16, yt6_17, yt7_18, yt8_19, ysk_20⟩ := u
  obtain ⟨hP1, hK1, hD1⟩ := hB
  rw [ht] at hP1
  have hz9 : gPD G (va_A _ _) [zo5 xo tt rd nw th kp sh tu him, zo0 nw tt n1 n2 n3 n4 n5 n6 n7 n8 (nI jg) (nI pb) (nI lw), zi G n2 4 fso, zi G n3 4 fmi, zi G n4 4 fpa, zi G n5 6 fki, zi G n6 6 fmo, zi G n7 6 fsz, zi G n8 6 frd, zo0 th tt t1 t2 t3 t4 t5 t6 t7 t8 zj9_9 zb9_10 zl9_11, zi G t1 6 yt1_12, zi G t2 4 yt2_13, zi G t3 4 yt3_14, zi G t4 4 yt4_15, zi G t5 6 yt5_16, zi G t6 6 yt6_17, zi G t7 6 yt7_18, zi G t8 6 yt8_19, zo3 tt co en sk wr (nI tx), zr G co 6 fc, zr G en 6 fe, zi G c0 160 fcr0, zi G e0 3 (nF fer0), zi G sk 32 ysk_20] H := ⟨hP1, hD1⟩
  have hP1 := hz9.1
  have hD1 := hz9.2
  have w_8 : r_7 = m_X5_thick jg pb fer0 fso fmi fpa fki fmo fsz frd fcr0 v1 v2 v3 := w_8
  have hz9 : gPD G A [zo1 rd tt b0 x2 x3 x4 x5 (nI td), zi G b0 160 fb, zi G c1 160 fcr1, zi G c2 160 fcr2, zi G c3 160 fcr3, zi G c4 160 fcr4, zi G c5 160 fcr5, zi G e1 3 (nF fer1), zi G e2 3 (nF fer2), zi G e3 3 (nF fer3), zi G e4 3 (nF fer4), zi G e5 3 (nF fer5), zi G n1 6 fnm, zo0 kp tt k1 k2 k3 k4 k5 k6 k7 k8 (nI kj) (nI kb) (nI kl), zi G k1 6 gnm, zi G k2 4 gso, zi G k3 4 gmi, zi G k4 4 gpa, zi G k5 6 gki, zi G k6 6 gmo, zi G k7 6 gsz, zi G k8 6 grd, zo2 sh qn qo ql, zr G qn 4 fn, zi G r0 40 fs0, zi G r1 40 fs1, zi G r2 40 fs2, zi G r3 40 fs3, zi G qo 4 fqo, zi G ql 4 (nF fql), zo4 tu tw tr, zr G tw 6 fw, zi G w0 6 fw0, zi G w1 6 fw1, zi G w2 6 fw2, zi G w3 6 fw3, zi G w4 6 fw4, zi G w5 6 fw5, zi G tr 64 ftr, zo6 mo (nI Npb) Akd Amo Ast (nI Njg) Aro Atp (nI Ntd) Acd Asr (nI Ntx) (nI Nru) Zhi Air Aih Ass Asq Ace Alw Z19 Z20 Z21 Z22 Awo Ahe Z25 Z26 Z27 Ask Ana Akp Z31 Z32 Z33 Z34 Agb Ago Afa Aga Z39 Z40 Avo, zi G Akd 6 Fkd, zi G Amo 6 Fmo, zi G Ast 12 Fst, zi G Aro 12 Fro, zi G Atp 160 Ftp, zi G Acd 1200 Fcd, zi G Asr 24 (nF Fsr), zi G Air 24 Fir, zi G Aih 3 Fih, zi G Ass 4 Fss, zi G Asq 4 (nF Fsq), zi G Ace 160 Fce, zi G Alw 40 Flw, zi G Awo 96 Fwo, zi G Ahe 200 Fhe, zi G Ask 200 Fsk, zi G Ana 6 Fna, zi G Akp 24 Fkp, zb G Agb 61 Fgb, zb G Ago 61 Fgo, zi G Afa 36 Ffa, zi G Aga 36 Fga, zi G Avo 64 Fvo, zo5 xo tt rd nw th kp sh tu him, zo0 nw tt n1 n2 n3 n4 n5 n6 n7 n8 (nI jg) (nI pb) (nI lw), zi G n2 4 fso, zi G n3 4 fmi, zi G n4 4 fpa, zi G n5 6 fki, zi G n6 6 fmo, zi G n7 6 fsz, zi G n8 6 frd, zo0 th tt t1 t2 t3 t4 t5 t6 t7 t8 zj9_9 zb9_10 zl9_11, zi G t1 6 yt1_12, zi G t2 4 yt2_13, zi G t3 4 yt3_14, zi G t4 4 yt4_15, zi G t5 6 yt5_16, zi G t6 6 yt6_17, zi G t7 6 yt7_18, zi G t8 6 yt8_19, zo3 tt co en sk wr (nI tx), zr G co 6 fc, zr G en 6 fe, zi G c0 160 fcr0, zi G e0 3 (nF fer0), zi G sk 32 ysk_20] H := gJoin hP hD hk1 hFc hP1 hD1 [0, 19, 21, 22, 23, 24, 25, 26, 27, 28, 29, 30, 31, 32, 33, 34, 35, 36, 3, 4, 11, 5, 12, 18] [1, 2, 6, 7, 8, 9, 10, 13, 14, 15, 16, 17, 20, 37, 38, 39, 40, 41, 42, 43, 44, 45, 46, 47, 48, 49, 50, 51, 52, 53, 54, 55, 56, 57, 58, 59, 60, 61, 62, 63, 64, 65, 66, 67, 68, 69, 70, 71, 72, 73, 74, 75, 76, 77, 78, 79, 80, 81, 82, 83, 84, 85, 86] rfl rfl rfl (by decide +kernel) (by decide +kernel)
  have hP := hz9.1
  have hD := hz9.2
  subst w_8
  refine lv_pop hx hb dL_law_834 rfl ?_
  refine lv_aload_n hx hb dL_law_835 rfl (lv_at hl 1 rfl) ?_
  refine lv_aload_n hx hb dL_law_836 rfl (lv_at hl 3 rfl) ?_
  refine lv_iload_n hx hb dL_law_837 rfl (lv_at hl 0 rfl) ?_
  refine lv_iconst (v := 1) hx hb dL_law_838 (by decide +kernel) ?_
  refine lv_iadd hx hb dL_law_839 ?_
  refine lv_topi (fun v_21 ev_21 => ?_)
  have ev_21 : v_21 = nI ((7 * i7) + 1) := ev_21.trans (nI_add (7 * i7) 1)
  subst ev_21
  refine va_sld hx hb hX hbl hbA hS (i := nI ((7 * i7) + 1)) (vp_in_nI (by omega) (by omega)) dL_law_840 ?_
  refine lv_topi (fun v_22 ev_22 => ?_)
  have ev_22 : v1 = v_22 := (ev_22.trans (by rw [nI_clamp (by omega)]; exact hv1.symm)).symm
  subst ev_22
  refine lv_aload_n hx hb dL_law_841 rfl (lv_at hl 3 rfl) ?_
  refine lv_iload_n hx hb dL_law_842 rfl (lv_at hl 0 rfl) ?_
  refine lv_iconst (v := 2) hx hb dL_law_843 (by decide +kernel) ?_
  refine lv_iadd hx hb dL_law_844 ?_
  refine lv_topi (fun v_23 ev_23 => ?_)
  have ev_23 : v_23 = nI ((7 * i7) + 2) := ev_23.trans (nI_add (7 * i7) 2)
  subst ev_23
  refine va_sld hx hb hX hbl hbA hS (i := nI ((7 * i7) + 2)) (vp_in_nI (by omega) (by omega)) dL_law_845 ?_
  refine lv_topi (fun v_24 ev_24 => ?_)
  have ev_24 : v2 = v_24 := (ev_24.trans (by rw [nI_clamp (by omega)]; exact hv2.symm)).symm
  subst ev_24
  refine lv_aload_n hx hb dL_law_846 rfl (lv_at hl 3 rfl) ?_
  refine lv_iload_n hx hb dL_law_847 rfl (lv_at hl 0 rfl) ?_
  refine lv_iconst (v := 3) hx hb dL_law_848 (by decide +kernel) ?_
  refine lv_iadd hx hb dL_law_849 ?_
  refine lv_topi (fun v_25 ev_25 => ?_)
  have ev_25 : v_25 = nI ((7 * i7) + 3) := ev_25.trans (nI_add (7 * i7) 3)
  subst ev_25
  refine va_sld hx hb hX hbl hbA hS (i := nI ((7 * i7) + 3)) (vp_in_nI (by omega) (by omega)) dL_law_850 ?_
  refine lv_topi (fun v_26 ev_26 => ?_)
  have ev_26 : v3 = v_26 := (ev_26.trans (by rw [nI_clamp (by omega)]; exact hv3.symm)).symm
  subst ev_26
  have hz9 : gPD G A [zo6 mo (nI Npb) Akd Amo Ast (nI Njg) Aro Atp (nI Ntd) Acd Asr (nI Ntx) (nI Nru) Zhi Air Aih Ass Asq Ace Alw Z19 Z20 Z21 Z22 Awo Ahe Z25 Z26 Z27 Ask Ana Akp Z31 Z32 Z33 Z34 Agb Ago Afa Aga Z39 Z40 Avo, zi G Ast 12 Fst, zi G Aro 12 Fro, zi G Amo 6 Fmo, zi G Akd 6 Fkd, zi G Acd 1200 Fcd, zi G Asr 24 (nF Fsr), zi G Ask 200 Fsk, zi G Ana 6 Fna, zi G Akp 24 Fkp] H := ⟨hP.sub [39, 42, 43, 41, 40, 45, 46, 55, 56, 57] rfl, hD.sub [39, 42, 43, 41, 40, 45, 46, 55, 56, 57] (by decide +kernel) rfl⟩
  have hPc := hz9.1
  have hDc := hz9.2
  have hFc := gFree hPc hD hS hA [39, 42, 43, 41, 40, 45, 46, 55, 56, 57] rfl
  refine va_calli (va_runV (As := [.int v1, .int v2, .int v3]) (rest := []) ⟨hx, hb, hml, hown, hts⟩ (c_X6_thick l G mo Akd Amo Ast Aro Atp Acd Asr Air Aih Ass Asq Ace Alw Awo Ahe Ask Ana Akp Agb Ago Afa Aga Avo Npb Njg Ntd Ntx Nru Zhi Z19 Z20 Z21 Z22 Z25 Z26 Z27 Z31 Z32 Z33 Z34 Z39 Z40 Fst Fro Fmo Fkd Fcd Fsr Fsk Fna Fkp v1 v2 v3 H.size (by first | exact hwa | assumption | omega) (by first | exact hpb | assumption | omega) (by first | exact hjg | assumption | omega) (by first | exact htx | assumption | omega) (by first | exact hru | assumption | omega)) (cwV 3 hts gL_law_X6_thick rfl rfl rfl (by decide +kernel) ⟨Nat.le_of_ble_eq_true rfl, Nat.le_of_ble_eq_true rfl⟩) ⟨gPre_blind, va_recv hK hPc (ci := 6) (q0 := 0) rfl rfl, fun U hU hW => gPre_of hU hW hK hPc hDc⟩ rfl rfl hl.1 rfl (lv_room (Nat.le_of_ble_eq_true rfl)) dL_law_851 ⟨Nat.le_of_ble_eq_true rfl, Nat.le_of_ble_eq_true rfl⟩) hS (fun q _ h => hFc q h) hFc (fun r_27 u t H locs ht hvm w_28 hB hz1 hk1 hS => ?_)
  obtain ⟨z31_29, z32_30, z33_31, z34_32, ysk_33, yna_34, ykp_35⟩ := u
  obtain ⟨hP1, hK1, hD1⟩ := hB
  rw [ht] at hP1
  have hz9 : gPD G (va_A _ _) [zo6 mo (nI Npb) Akd Amo Ast (nI Njg) Aro Atp (nI Ntd) Acd Asr (nI Ntx) (nI Nru) Zhi Air Aih Ass Asq Ace Alw Z19 Z20 Z21 Z22 Awo Ahe Z25 Z26 Z27 Ask Ana Akp z31_29 z32_30 z33_31 z34_32 Agb Ago Afa Aga Z39 Z40 Avo, zi G Ast 12 Fst, zi G Aro 12 (m_X6_thick_ro Npb Njg Nru Fst Fro Fmo Fkd Fcd Fsr v1 v2 v3), zi G Amo 6 Fmo, zi G Akd 6 Fkd, zi G Acd 1200 Fcd, zi G Asr 24 (nF Fsr), zi G Ask 200 ysk_33, zi G Ana 6 yna_34, zi G Akp 24 ykp_35] H := ⟨hP1, hD1⟩
  have hP1 := hz9.1
  have hD1 := hz9.2
  have w_28 : r_27 = m_X6_thick Npb Njg Nru Fst Fro Fmo Fkd Fcd Fsr v1 v2 v3 := w_28
  have hz9 : gPD G A [zo1 rd tt b0 x2 x3 x4 x5 (nI td), zi G b0 160 fb, zi G c1 160 fcr1, zi G c2 160 fcr2, zi G c3 160 fcr3, zi G c4 160 fcr4, zi G c5 160 fcr5, zi G e1 3 (nF fer1), zi G e2 3 (nF fer2), zi G e3 3 (nF fer3), zi G e4 3 (nF fer4), zi G e5 3 (nF fer5), zi G n1 6 fnm, zo0 kp tt k1 k2 k3 k4 k5 k6 k7 k8 (nI kj) (nI kb) (nI kl), zi G k1 6 gnm, zi G k2 4 gso, zi G k3 4 gmi, zi G k4 4 gpa, zi G k5 6 gki, zi G k6 6 gmo, zi G k7 6 gsz, zi G k8 6 grd, zo2 sh qn qo ql, zr G qn 4 fn, zi G r0 40 fs0, zi G r1 40 fs1, zi G r2 40 fs2, zi G r3 40 fs3, zi G qo 4 fqo, zi G ql 4 (nF fql), zo4 tu tw tr, zr G tw 6 fw, zi G w0 6 fw0, zi G w1 6 fw1, zi G w2 6 fw2, zi G w3 6 fw3, zi G w4 6 fw4, zi G w5 6 fw5, zi G tr 64 ftr, zi G Atp 160 Ftp, zi G Air 24 Fir, zi G Aih 3 Fih, zi G Ass 4 Fss, zi G Asq 4 (nF Fsq), zi G Ace 160 Fce, zi G Alw 40 Flw, zi G Awo 96 Fwo, zi G Ahe 200 Fhe, zb G Agb 61 Fgb, zb G Ago 61 Fgo, zi G Afa 36 Ffa, zi G Aga 36 Fga, zi G Avo 64 Fvo, zo5 xo tt rd nw th kp sh tu him, zo0 nw tt n1 n2 n3 n4 n5 n6 n7 n8 (nI jg) (nI pb) (nI lw), zi G n2 4 fso, zi G n3 4 fmi, zi G n4 4 fpa, zi G n5 6 fki, zi G n6 6 fmo, zi G n7 6 fsz, zi G n8 6 frd, zo0 th tt t1 t2 t3 t4 t5 t6 t7 t8 zj9_9 zb9_10 zl9_11, zi G t1 6 yt1_12, zi G t2 4 yt2_13, zi G t3 4 yt3_14, zi G t4 4 yt4_15, zi G t5 6 yt5_16, zi G t6 6 yt6_17, zi G t7 6 yt7_18, zi G t8 6 yt8_19, zo3 tt co en sk wr (nI tx), zr G co 6 fc, zr G en 6 fe, zi G c0 160 fcr0, zi G e0 3 (nF fer0), zi G sk 32 ysk_20, zo6 mo (nI Npb) Akd Amo Ast (nI Njg) Aro Atp (nI Ntd) Acd Asr (nI Ntx) (nI Nru) Zhi Air Aih Ass Asq Ace Alw Z19 Z20 Z21 Z22 Awo Ahe Z25 Z26 Z27 Ask Ana Akp z31_29 z32_30 z33_31 z34_32 Agb Ago Afa Aga Z39 Z40 Avo, zi G Ast 12 Fst, zi G Aro 12 (m_X6_thick_ro Npb Njg Nru Fst Fro Fmo Fkd Fcd Fsr v1 v2 v3), zi G Amo 6 Fmo, zi G Akd 6 Fkd, zi G Acd 1200 Fcd, zi G Asr 24 (nF Fsr), zi G Ask 200 ysk_33, zi G Ana 6 yna_34, zi G Akp 24 ykp_35] H := gJoin hP hD hk1 hFc hP1 hD1 [39, 42, 43, 41, 40, 45, 46, 55, 56, 57] [0, 1, 2, 3, 4, 5, 6, 7, 8, 9, 10, 11, 12, 13, 14, 15, 16, 17, 18, 19, 20, 21, 22, 23, 24, 25, 26, 27, 28, 29, 30, 31, 32, 33, 34, 35, 36, 37, 38, 44, 47, 48, 49, 50, 51, 52, 53, 54, 58, 59, 60, 61, 62, 63, 64, 65, 66, 67, 68, 69, 70, 71, 72, 73, 74, 75, 76, 77, 78, 79, 80, 81, 82, 83, 84, 85, 86] rfl rfl rfl (by decide +kernel) (by decide +kernel)
  have hP := hz9.1
  have hD := hz9.2
  subst w_28
  refine lv_pop hx hb dL_law_854 rfl ?_
  refine lv_goto (tgt := 1614) hx hb dL_law_855 (by decide +kernel) ?_
  refine lv_iinc (v := nI (7 * (i7 + 1))) (lv' := [zI 3 (nI (7 * (i7 + 1))), zR 2 mo, zR 1 xo, zR 0 b]) hx hb dL_law_1614 hl (k := 0) rfl (by show nI (7 * i7) + 7 = nI (7 * (i7 + 1)); exact nI_add (7 * i7) 7) (by decide +kernel) rfl (fun ls hl => ?_)
  refine lv_goto (tgt := 18) hx hb dL_law_1617 (by decide +kernel) ?_
  exact K him x2 x3 x4 x5 td fb wr ysk_20 jg pb lw fnm fso fmi fpa fki fmo fsz frd zj9_9 zb9_10 zl9_11 yt1_12 yt2_13 yt3_14 yt4_15 yt5_16 yt6_17 yt7_18 yt8_19 kj kb kl gnm gso gmi gpa gki gmo gsz grd fs0 fs1 fs2 fs3 fqo fql fw0 fw1 fw2 fw3 fw4 fw5 ftr Npb Njg Ntd Ntx Nru Zhi Z19 Z20 Z21 Z22 Z25 Z26 Z27 z31_29 z32_30 z33_31 z34_32 Z39 Z40 Fkd Fmo Fst (m_X6_thick_ro Npb Njg Nru Fst Fro Fmo Fkd Fcd Fsr v1 v2 v3) Ftp Fcd Fsr Fir Fih Fss Fsq Fce Flw Fwo Fhe ysk_33 yna_34 ykp_35 Fgb Fgo Ffa Fga Fvo hFX hFM hRL (rq_thick hRQ) H _ ls (hP.sub [53, 0, 1, 71, 72, 74, 2, 3, 4, 5, 6, 73, 75, 7, 8, 9, 10, 11, 76, 54, 12, 55, 56, 57, 58, 59, 60, 61, 62, 63, 64, 65, 66, 67, 68, 69, 70, 13, 14, 15, 16, 17, 18, 19, 20, 21, 22, 23, 24, 25, 26, 27, 28, 29, 30, 31, 32, 33, 34, 35, 36, 37, 38, 77, 81, 80, 78, 79, 39, 82, 83, 40, 41, 42, 43, 44, 45, 46, 47, 84, 85, 86, 48, 49, 50, 51, 52] rfl) (hD.sub [53, 0, 1, 71, 72, 74, 2, 3, 4, 5, 6, 73, 75, 7, 8, 9, 10, 11, 76, 54, 12, 55, 56, 57, 58, 59, 60, 61, 62, 63, 64, 65, 66, 67, 68, 69, 70, 13, 14, 15, 16, 17, 18, 19, 20, 21, 22, 23, 24, 25, 26, 27, 28, 29, 30, 31, 32, 33, 34, 35, 36, 37, 38, 77, 81, 80, 78, 79, 39, 82, 83, 40, 41, 42, 43, 44, 45, 46, 47, 84, 85, 86, 48, 49, 50, 51, 52] (by decide +kernel) rfl) hS (lv_sub hl [0, 1, 2, 3] rfl)
set_option maxHeartbeats 4000000 in
set_option maxRecDepth 100000 in
theorem lc_order {p : Program} {l : Launch} {e : Env} {s : State} {m : MethodId} {below : List Frame} {meth : Method} {c : Code} {b L : Nat} {xs : Nat → Int32} {G : gG} {E : gS} {A : Nat → Prop} (C0 : lw_At p s m meth c b L xs) (hE : gE E A s s.heap) (hK : gK G s) (hAe : A = fun q => s.heap.size ≤ q) {xo tt rd nw th kp sh tu b0 co en sk c0 c1 c2 c3 c4 c5 e0 e1 e2 e3 e4 e5 n1 n2 n3 n4 n5 n6 n7 n8 t1 t2 t3 t4 t5 t6 t7 t8 k1 k2 k3 k4 k5 k6 k7 k8 qn qo ql r0 r1 r2 r3 tw tr w0 w1 w2 w3 w4 w5 mo Akd Amo Ast Aro Atp Acd Asr Air Aih Ass Asq Ace Alw Awo Ahe Ask Ana Akp Agb Ago Afa Aga Avo : Nat} {fc fe fn fw : Nat → Option Nat} {tx : Nat} {fcr0 fcr1 fcr2 fcr3 fcr4 fcr5 : Nat → Int32} {fer0 fer1 fer2 fer3 fer4 fer5 : Nat → Nat} {him x2 x3 x4 x5 : Int32} {td : Nat} {fb : Nat → Int32} {wr : Int32} {fsk : Nat → Int32} {jg pb lw : Nat} {fnm fso fmi fpa fki fmo fsz frd : Nat → Int32} {tj tb tl : Int32} {unm uso umi upa uki umo usz urd : Nat → Int32} {kj kb kl : Nat} {gnm gso gmi gpa gki gmo gsz grd fs0 fs1 fs2 fs3 fqo : Nat → Int32} {fql : Nat → Nat} {fw0 fw1 fw2 fw3 fw4 fw5 ftr : Nat → Int32} {Npb Njg Ntd Ntx Nru : Nat} {Zhi Z19 Z20 Z21 Z22 Z25 Z26 Z27 Z31 Z32 Z33 Z34 Z39 Z40 : Int32} {Fkd Fmo Fst Fro Ftp Fcd : Nat → Int32} {Fsr : Nat → Nat} {Fir Fih Fss : Nat → Int32} {Fsq : Nat → Nat} {Fce Flw Fwo Fhe Fsk Fna Fkp Fgb Fgo Ffa Fga Fvo : Nat → Int32}  {v1 v2 v3 v4 v5 v6 : Int32} {i7 : Nat} (hi : 7 * i7 + 7 ≤ L) (hL : L ≤ 3584) (hv1 : v1 = xs (7 * i7 + 1)) (hv2 : v2 = xs (7 * i7 + 2)) (hv3 : v3 = xs (7 * i7 + 3)) (hv4 : v4 = xs (7 * i7 + 4)) (hv5 : v5 = xs (7 * i7 + 5)) (hv6 : v6 = xs (7 * i7 + 6)) (hc : fc lw = some c0) (he : fe lw = some e0) (hwx : mWx fcr0 fer0) (hw0 : fw 0 = some w0) (hw1 : fw 1 = some w1) (hw2 : fw 2 = some w2) (hw3 : fw 3 = some w3) (hw4 : fw 4 = some w4) (hw5 : fw 5 = some w5) (K : LawV p l e s m below meth c b G A xo tt rd nw th kp sh tu b0 co en sk c0 c1 c2 c3 c4 c5 e0 e1 e2 e3 e4 e5 n1 n2 n3 n4 n5 n6 n7 n8 t1 t2 t3 t4 t5 t6 t7 t8 k1 k2 k3 k4 k5 k6 k7 k8 qn qo ql r0 r1 r2 r3 tw tr w0 w1 w2 w3 w4 w5 mo Akd Amo Ast Aro Atp Acd Asr Air Aih Ass Asq Ace Alw Awo Ahe Ask Ana Akp Agb Ago Afa Aga Avo fc fe fn fw tx fcr0 fcr1 fcr2 fcr3 fcr4 fcr5 fer0 fer1 fer2 fer3 fer4 fer5 (i7 + 1)) (hFX : FXP jg pb lw kj kb kl tx td him fql) (hFM : FMP Npb Njg Ntd Ntx Nru Zhi Fcd Fsr Fsq Fir Fih) (hRL : RLP False fn r0 r1 r2 r3 jg pb kj kb him fs0 fs1 fs2 fs3 fqo fql Npb Njg Zhi Fss Fsq Fce Fih) (hRQ : RQP fc c0 c1 c2 c3 c4 c5 fcr0 fcr1 fcr2 fcr3 fcr4 fcr5 fer0 fer1 fer2 fer3 fer4 fer5 pb lw tx td kb kl him fb fso fmi fpa fki fmo fsz frd gso gmi gpa gki gmo gsz grd Nru Ntx Ntd Fkd Fmo Fst Fro Ftp Fcd Fsr Fir Fih Fwo) {H : Heap} {locs : List Loc} (hP : va_P G.1 vwCl (WLd G xo tt rd nw th kp sh tu b0 co en sk c0 c1 c2 c3 c4 c5 e0 e1 e2 e3 e4 e5 n1 n2 n3 n4 n5 n6 n7 n8 t1 t2 t3 t4 t5 t6 t7 t8 k1 k2 k3 k4 k5 k6 k7 k8 qn qo ql r0 r1 r2 r3 tw tr w0 w1 w2 w3 w4 w5 mo Akd Amo Ast Aro Atp Acd Asr Air Aih Ass Asq Ace Alw Awo Ahe Ask Ana Akp Agb Ago Afa Aga Avo fc fe fn fw tx fcr0 fcr1 fcr2 fcr3 fcr4 fcr5 fer0 fer1 fer2 fer3 fer4 fer5 him x2 x3 x4 x5 td fb wr fsk jg pb lw fnm fso fmi fpa fki fmo fsz frd tj tb tl unm uso umi upa uki umo usz urd kj kb kl gnm gso gmi gpa gki gmo gsz grd fs0 fs1 fs2 fs3 fqo fql fw0 fw1 fw2 fw3 fw4 fw5 ftr Npb Njg Ntd Ntx Nru Zhi Z19 Z20 Z21 Z22 Z25 Z26 Z27 Z31 Z32 Z33 Z34 Z39 Z40 Fkd Fmo Fst Fro Ftp Fcd Fsr Fir Fih Fss Fsq Fce Flw Fwo Fhe Fsk Fna Fkp Fgb Fgo Ffa Fga Fvo) H) (hD : va_D A (WLd G xo tt rd nw th kp sh tu b0 co en sk c0 c1 c2 c3 c4 c5 e0 e1 e2 e3 e4 e5 n1 n2 n3 n4 n5 n6 n7 n8 t1 t2 t3 t4 t5 t6 t7 t8 k1 k2 k3 k4 k5 k6 k7 k8 qn qo ql r0 r1 r2 r3 tw tr w0 w1 w2 w3 w4 w5 mo Akd Amo Ast Aro Atp Acd Asr Air Aih Ass Asq Ace Alw Awo Ahe Ask Ana Akp Agb Ago Afa Aga Avo fc fe fn fw tx fcr0 fcr1 fcr2 fcr3 fcr4 fcr5 fer0 fer1 fer2 fer3 fer4 fer5 him x2 x3 x4 x5 td fb wr fsk jg pb lw fnm fso fmi fpa fki fmo fsz frd tj tb tl unm uso umi upa uki umo usz urd kj kb kl gnm gso gmi gpa gki gmo gsz grd fs0 fs1 fs2 fs3 fqo fql fw0 fw1 fw2 fw3 fw4 fw5 ftr Npb Njg Ntd Ntx Nru Zhi Z19 Z20 Z21 Z22 Z25 Z26 Z27 Z31 Z32 Z33 Z34 Z39 Z40 Fkd Fmo Fst Fro Ftp Fcd Fsr Fir Fih Fss Fsq Fce Flw Fwo Fhe Fsk Fna Fkp Fgb Fgo Ffa Fga Fvo)) (hS : va_S A s.heap H locs) {ls : Array Slot} (hl : lv_has ls 4 [zI 3 (nI (7 * i7)), zR 2 mo, zR 1 xo, zR 0 b]) : W p l e room_1 s m #[Value.ref b] below meth c H locs 87 4128 (lw_Z below #[Value.ref b] s) (F0 m 858 ls []) := by
  obtain ⟨hx, hb, hret, hml, hown, hts0, hX, hbl, hlocks, hgv⟩ := id C0
  have hts : ∀ w ∈ wsL_law, w.before #[Value.ref b] s = true := fun w h => hts0 w (wsL_law_in w h)
  have hown : s.vm.findClass RL = some m.cls := hown
  have hA : ∀ q : Nat, s.heap.size ≤ q → A q := fun q h => by rw [hAe]; exact h
  have hbA : ¬ A b := by rw [hAe]; exact Nat.not_le.mpr hbl
  obtain ⟨⟨hjg, hpb, hlw, htx, htd⟩, hkk, hql⟩ := id hFX
  obtain ⟨⟨hNpb, hNjg, hNru, hNtx, hNtd⟩, hwa, hsq, hIM⟩ := id hFM
  have hz9 : gPD G A [zo5 xo tt rd nw th kp sh tu him, zo1 rd tt b0 x2 x3 x4 x5 (nI td), zi G b0 160 fb, zo3 tt co en sk wr (nI tx), zr G co 6 fc, zi G c0 160 fcr0, zi G c1 160 fcr1, zi G c2 160 fcr2, zi G c3 160 fcr3, zi G c4 160 fcr4, zi G c5 160 fcr5, zr G en 6 fe, zi G e0 3 (nF fer0), zi G e1 3 (nF fer1), zi G e2 3 (nF fer2), zi G e3 3 (nF fer3), zi G e4 3 (nF fer4), zi G e5 3 (nF fer5), zi G sk 32 fsk, zo0 nw tt n1 n2 n3 n4 n5 n6 n7 n8 (nI jg) (nI pb) (nI lw), zi G n1 6 fnm, zi G n2 4 fso, zi G n3 4 fmi, zi G n4 4 fpa, zi G n5 6 fki, zi G n6 6 fmo, zi G n7 6 fsz, zi G n8 6 frd, zo0 th tt t1 t2 t3 t4 t5 t6 t7 t8 tj tb tl, zi G t1 6 unm, zi G t2 4 uso, zi G t3 4 umi, zi G t4 4 upa, zi G t5 6 uki, zi G t6 6 umo, zi G t7 6 usz, zi G t8 6 urd, zo0 kp tt k1 k2 k3 k4 k5 k6 k7 k8 (nI kj) (nI kb) (nI kl), zi G k1 6 gnm, zi G k2 4 gso, zi G k3 4 gmi, zi G k4 4 gpa, zi G k5 6 gki, zi G k6 6 gmo, zi G k7 6 gsz, zi G k8 6 grd, zo2 sh qn qo ql, zr G qn 4 fn, zi G r0 40 fs0, zi G r1 40 fs1, zi G r2 40 fs2, zi G r3 40 fs3, zi G qo 4 fqo, zi G ql 4 (nF fql), zo4 tu tw tr, zr G tw 6 fw, zi G w0 6 fw0, zi G w1 6 fw1, zi G w2 6 fw2, zi G w3 6 fw3, zi G w4 6 fw4, zi G w5 6 fw5, zi G tr 64 ftr, zo6 mo (nI Npb) Akd Amo Ast (nI Njg) Aro Atp (nI Ntd) Acd Asr (nI Ntx) (nI Nru) Zhi Air Aih Ass Asq Ace Alw Z19 Z20 Z21 Z22 Awo Ahe Z25 Z26 Z27 Ask Ana Akp Z31 Z32 Z33 Z34 Agb Ago Afa Aga Z39 Z40 Avo, zi G Akd 6 Fkd, zi G Amo 6 Fmo, zi G Ast 12 Fst, zi G Aro 12 Fro, zi G Atp 160 Ftp, zi G Acd 1200 Fcd, zi G Asr 24 (nF Fsr), zi G Air 24 Fir, zi G Aih 3 Fih, zi G Ass 4 Fss, zi G Asq 4 (nF Fsq), zi G Ace 160 Fce, zi G Alw 40 Flw, zi G Awo 96 Fwo, zi G Ahe 200 Fhe, zi G Ask 200 Fsk, zi G Ana 6 Fna, zi G Akp 24 Fkp, zb G Agb 61 Fgb, zb G Ago 61 Fgo, zi G Afa 36 Ffa, zi G Aga 36 Fga, zi G Avo 64 Fvo] H := ⟨hP, hD⟩
  have hP := hz9.1
  have hD := hz9.2
  refine lv_aload_n hx hb dL_law_858 rfl (lv_at hl 2 rfl) ?_
  refine lv_aload_n hx hb dL_law_859 rfl (lv_at hl 3 rfl) ?_
  refine lv_iload_n hx hb dL_law_860 rfl (lv_at hl 0 rfl) ?_
  refine lv_iconst (v := 1) hx hb dL_law_861 (by decide +kernel) ?_
  refine lv_iadd hx hb dL_law_862 ?_
  refine lv_topi (fun v_1 ev_1 => ?_)
  have ev_1 : v_1 = nI ((7 * i7) + 1) := ev_1.trans (nI_add (7 * i7) 1)
  subst ev_1
  refine va_sld hx hb hX hbl hbA hS (i := nI ((7 * i7) + 1)) (vp_in_nI (by omega) (by omega)) dL_law_863 ?_
  refine lv_topi (fun v_2 ev_2 => ?_)
  have ev_2 : v1 = v_2 := (ev_2.trans (by rw [nI_clamp (by omega)]; exact hv1.symm)).symm
  subst ev_2
  refine lv_aload_n hx hb dL_law_864 rfl (lv_at hl 3 rfl) ?_
  refine lv_iload_n hx hb dL_law_865 rfl (lv_at hl 0 rfl) ?_
  refine lv_iconst (v := 2) hx hb dL_law_866 (by decide +kernel) ?_
  refine lv_iadd hx hb dL_law_867 ?_
  refine lv_topi (fun v_3 ev_3 => ?_)
  have ev_3 : v_3 = nI ((7 * i7) + 2) := ev_3.trans (nI_add (7 * i7) 2)
  subst ev_3
  refine va_sld hx hb hX hbl hbA hS (i := nI ((7 * i7) + 2)) (vp_in_nI (by omega) (by omega)) dL_law_868 ?_
  refine lv_topi (fun v_4 ev_4 => ?_)
  have ev_4 : v2 = v_4 := (ev_4.trans (by rw [nI_clamp (by omega)]; exact hv2.symm)).symm
  subst ev_4
  refine lv_aload_n hx hb dL_law_869 rfl (lv_at hl 3 rfl) ?_
  refine lv_iload_n hx hb dL_law_870 rfl (lv_at hl 0 rfl) ?_
  refine lv_iconst (v := 3) hx hb dL_law_871 (by decide +kernel) ?_
  refine lv_iadd hx hb dL_law_872 ?_
  refine lv_topi (fun v_5 ev_5 => ?_)
  have ev_5 : v_5 = nI ((7 * i7) + 3) := ev_5.trans (nI_add (7 * i7) 3)
  subst ev_5
  refine va_sld hx hb hX hbl hbA hS (i := nI ((7 * i7) + 3)) (vp_in_nI (by omega) (by omega)) dL_law_873 ?_
  refine lv_topi (fun v_6 ev_6 => ?_)
  have ev_6 : v3 = v_6 := (ev_6.trans (by rw [nI_clamp (by omega)]; exact hv3.symm)).symm
  subst ev_6
  have hz9 : gPD G A [zo5 xo tt rd nw th kp sh tu him, zo0 nw tt n1 n2 n3 n4 n5 n6 n7 n8 (nI jg) (nI pb) (nI lw), zi G n2 4 fso, zi G n3 4 fmi, zi G n4 4 fpa, zi G n5 6 fki, zi G n6 6 fmo, zi G n7 6 fsz, zi G n8 6 frd, zo0 th tt t1 t2 t3 t4 t5 t6 t7 t8 tj tb tl, zi G t1 6 unm, zi G t2 4 uso, zi G t3 4 umi, zi G t4 4 upa, zi G t5 6 uki, zi G t6 6 umo, zi G t7 6 usz, zi G t8 6 urd, zo3 tt co en sk wr (nI tx), zr G co 6 fc, zr G en 6 fe, zi G c0 160 fcr0, zi G e0 3 (nF fer0), zi G sk 32 fsk, zo4 tu tw tr, zr G tw 6 fw, zi G w0 6 fw0, zi G w1 6 fw1, zi G w2 6 fw2, zi G w3 6 fw3, zi G w4 6 fw4, zi G w5 6 fw5, zi G tr 64 ftr] H := ⟨hP.sub [0, 19, 21, 22, 23, 24, 25, 26, 27, 28, 29, 30, 31, 32, 33, 34, 35, 36, 3, 4, 11, 5, 12, 18, 54, 55, 56, 57, 58, 59, 60, 61, 62] rfl, hD.sub [0, 19, 21, 22, 23, 24, 25, 26, 27, 28, 29, 30, 31, 32, 33, 34, 35, 36, 3, 4, 11, 5, 12, 18, 54, 55, 56, 57, 58, 59, 60, 61, 62] (by decide +kernel) rfl⟩
  have hPc := hz9.1
  have hDc := hz9.2
  have hFc := gFree hPc hD hS hA [0, 19, 21, 22, 23, 24, 25, 26, 27, 28, 29, 30, 31, 32, 33, 34, 35, 36, 3, 4, 11, 5, 12, 18, 54, 55, 56, 57, 58, 59, 60, 61, 62] rfl
  refine va_calli (va_runV (As := [.int v1, .int v2, .int v3]) (rest := []) ⟨hx, hb, hml, hown, hts⟩ (c_X5_order l G xo tt rd nw th kp sh tu n1 n2 n3 n4 n5 n6 n7 n8 t1 t2 t3 t4 t5 t6 t7 t8 co en sk c0 e0 tw tr w0 w1 w2 w3 w4 w5 jg pb lw tx him wr tj tb tl fc fe fw fer0 fso fmi fpa fki fmo fsz frd unm uso umi upa uki umo usz urd fcr0 fsk ftr fw0 fw1 fw2 fw3 fw4 fw5 v1 v2 v3 H.size (by first | exact hw0 | assumption | omega) (by first | exact hw1 | assumption | omega) (by first | exact hw2 | assumption | omega) (by first | exact hw3 | assumption | omega) (by first | exact hw4 | assumption | omega) (by first | exact hw5 | assumption | omega) (by first | exact htn | assumption | omega) (by first | exact hc | assumption | omega) (by first | exact he | assumption | omega) (by first | exact hwx | assumption | omega) (by first | exact hjg | assumption | omega) (by first | exact hpb | assumption | omega)) (cwV 3 hts gL_law_X5_order rfl rfl rfl (by decide +kernel) ⟨Nat.le_of_ble_eq_true rfl, Nat.le_of_ble_eq_true rfl⟩) ⟨gPre_blind, va_recv hK hPc (ci := 5) (q0 := 0) rfl rfl, fun U hU hW => gPre_of hU hW hK hPc hDc⟩ rfl rfl hl.1 rfl (lv_room (Nat.le_of_ble_eq_true rfl)) dL_law_874 ⟨Nat.le_of_ble_eq_true rfl, Nat.le_of_ble_eq_true rfl⟩) hS (fun q _ h => hFc q h) hFc (fun r_7 u t H locs ht hvm w_8 hB hz1 hk1 hS => ?_)
  obtain ⟨zj9_9, zb9_10, zl9_11, yt1_12, yt2_13, yt3_14, yt4_15, yt5_16, yt6_17, yt7_18, yt8_19, ysk_20, yw0_21, yw1_22, yw2_23, yw3_24, yw4_25, yw5_26, ytr_27⟩ := u
  obtain ⟨hP1, hK1, hD1⟩ := hB
  rw [ht] at hP1
  have hz9 : gPD G (va_A _ _) [zo5 xo tt rd nw th kp sh tu him, zo0 nw tt n1 n2 n3 n4 n5 n6 n7 n8 (nI jg) (nI pb) (nI lw), zi G n2 4 fso, zi G n3 4 fmi, zi G n4 4 fpa, zi G n5 6 fki, zi G n6 6 fmo, zi G n7 6 fsz, zi G n8 6 frd, zo0 th tt t1 t2 t3 t4 t5 t6 t7 t8 zj9_9 zb9_10 zl9_11, zi G t1 6 yt1_12, zi G t2 4 yt2_13, zi G t3 4 yt3_14, zi G t4 4 yt4_15, zi G t5 6 yt5_16, zi G t6 6 yt6_17, zi G t7 6 yt7_18, zi G t8 6 yt8_19, zo3 tt co en sk wr (nI tx), zr G co 6 fc, zr G en 6 fe, zi G c0 160 fcr0, zi G e0 3 (nF fer0), zi G sk 32 ysk_20, zo4 tu tw tr, zr G tw 6 fw, zi G w0 6 yw0_21, zi G w1 6 yw1_22, zi G w2 6 yw2_23, zi G w3 6 yw3_24, zi G w4 6 yw4_25, zi G w5 6 yw5_26, zi G tr 64 ytr_27] H := ⟨hP1, hD1⟩
  have hP1 := hz9.1
  have hD1 := hz9.2
  have w_8 : r_7 = m_X5_order jg pb fer0 fso fmi fpa fki fmo fsz frd fcr0 ftr fw0 fw1 fw2 fw3 fw4 fw5 v1 v2 v3 := w_8
  have hz9 : gPD G A [zo1 rd tt b0 x2 x3 x4 x5 (nI td), zi G b0 160 fb, zi G c1 160 fcr1, zi G c2 160 fcr2, zi G c3 160 fcr3, zi G c4 160 fcr4, zi G c5 160 fcr5, zi G e1 3 (nF fer1), zi G e2 3 (nF fer2), zi G e3 3 (nF fer3), zi G e4 3 (nF fer4), zi G e5 3 (nF fer5), zi G n1 6 fnm, zo0 kp tt k1 k2 k3 k4 k5 k6 k7 k8 (nI kj) (nI kb) (nI kl), zi G k1 6 gnm, zi G k2 4 gso, zi G k3 4 gmi, zi G k4 4 gpa, zi G k5 6 gki, zi G k6 6 gmo, zi G k7 6 gsz, zi G k8 6 grd, zo2 sh qn qo ql, zr G qn 4 fn, zi G r0 40 fs0, zi G r1 40 fs1, zi G r2 40 fs2, zi G r3 40 fs3, zi G qo 4 fqo, zi G ql 4 (nF fql), zo6 mo (nI Npb) Akd Amo Ast (nI Njg) Aro Atp (nI Ntd) Acd Asr (nI Ntx) (nI Nru) Zhi Air Aih Ass Asq Ace Alw Z19 Z20 Z21 Z22 Awo Ahe Z25 Z26 Z27 Ask Ana Akp Z31 Z32 Z33 Z34 Agb Ago Afa Aga Z39 Z40 Avo, zi G Akd 6 Fkd, zi G Amo 6 Fmo, zi G Ast 12 Fst, zi G Aro 12 Fro, zi G Atp 160 Ftp, zi G Acd 1200 Fcd, zi G Asr 24 (nF Fsr), zi G Air 24 Fir, zi G Aih 3 Fih, zi G Ass 4 Fss, zi G Asq 4 (nF Fsq), zi G Ace 160 Fce, zi G Alw 40 Flw, zi G Awo 96 Fwo, zi G Ahe 200 Fhe, zi G Ask 200 Fsk, zi G Ana 6 Fna, zi G Akp 24 Fkp, zb G Agb 61 Fgb, zb G Ago 61 Fgo, zi G Afa 36 Ffa, zi G Aga 36 Fga, zi G Avo 64 Fvo, zo5 xo tt rd nw th kp sh tu him, zo0 nw tt n1 n2 n3 n4 n5 n6 n7 n8 (nI jg) (nI pb) (nI lw), zi G n2 4 fso, zi G n3 4 fmi, zi G n4 4 fpa, zi G n5 6 fki, zi G n6 6 fmo, zi G n7 6 fsz, zi G n8 6 frd, zo0 th tt t1 t2 t3 t4 t5 t6 t7 t8 zj9_9 zb9_10 zl9_11, zi G t1 6 yt1_12, zi G t2 4 yt2_13, zi G t3 4 yt3_14, zi G t4 4 yt4_15, zi G t5 6 yt5_16, zi G t6 6 yt6_17, zi G t7 6 yt7_18, zi G t8 6 yt8_19, zo3 tt co en sk wr (nI tx), zr G co 6 fc, zr G en 6 fe, zi G c0 160 fcr0, zi G e0 3 (nF fer0), zi G sk 32 ysk_20, zo4 tu tw tr, zr G tw 6 fw, zi G w0 6 yw0_21, zi G w1 6 yw1_22, zi G w2 6 yw2_23, zi G w3 6 yw3_24, zi G w4 6 yw4_25, zi G w5 6 yw5_26, zi G tr 64 ytr_27] H := gJoin hP hD hk1 hFc hP1 hD1 [0, 19, 21, 22, 23, 24, 25, 26, 27, 28, 29, 30, 31, 32, 33, 34, 35, 36, 3, 4, 11, 5, 12, 18, 54, 55, 56, 57, 58, 59, 60, 61, 62] [1, 2, 6, 7, 8, 9, 10, 13, 14, 15, 16, 17, 20, 37, 38, 39, 40, 41, 42, 43, 44, 45, 46, 47, 48, 49, 50, 51, 52, 53, 63, 64, 65, 66, 67, 68, 69, 70, 71, 72, 73, 74, 75, 76, 77, 78, 79, 80, 81, 82, 83, 84, 85, 86] rfl rfl rfl (by decide +kernel) (by decide +kernel)
  have hP := hz9.1
  have hD := hz9.2
  subst w_8
  refine lv_pop hx hb dL_law_877 rfl ?_
  refine lv_aload_n hx hb dL_law_878 rfl (lv_at hl 1 rfl) ?_
  refine lv_aload_n hx hb dL_law_879 rfl (lv_at hl 3 rfl) ?_
  refine lv_iload_n hx hb dL_law_880 rfl (lv_at hl 0 rfl) ?_
  refine lv_iconst (v := 1) hx hb dL_law_881 (by decide +kernel) ?_
  refine lv_iadd hx hb dL_law_882 ?_
  refine lv_topi (fun v_28 ev_28 => ?_)
  have ev_28 : v_28 = nI ((7 * i7) + 1) := ev_28.trans (nI_add (7 * i7) 1)
  subst ev_28
  refine va_sld hx hb hX hbl hbA hS (i := nI ((7 * i7) + 1)) (vp_in_nI (by omega) (by omega)) dL_law_883 ?_
  refine lv_topi (fun v_29 ev_29 => ?_)
  have ev_29 : v1 = v_29 := (ev_29.trans (by rw [nI_clamp (by omega)]; exact hv1.symm)).symm
  subst ev_29
  refine lv_aload_n hx hb dL_law_884 rfl (lv_at hl 3 rfl) ?_
  refine lv_iload_n hx hb dL_law_885 rfl (lv_at hl 0 rfl) ?_
  refine lv_iconst (v := 2) hx hb dL_law_886 (by decide +kernel) ?_
  refine lv_iadd hx hb dL_law_887 ?_
  refine lv_topi (fun v_30 ev_30 => ?_)
  have ev_30 : v_30 = nI ((7 * i7) + 2) := ev_30.trans (nI_add (7 * i7) 2)
  subst ev_30
  refine va_sld hx hb hX hbl hbA hS (i := nI ((7 * i7) + 2)) (vp_in_nI (by omega) (by omega)) dL_law_888 ?_
  refine lv_topi (fun v_31 ev_31 => ?_)
  have ev_31 : v2 = v_31 := (ev_31.trans (by rw [nI_clamp (by omega)]; exact hv2.symm)).symm
  subst ev_31
  refine lv_aload_n hx hb dL_law_889 rfl (lv_at hl 3 rfl) ?_
  refine lv_iload_n hx hb dL_law_890 rfl (lv_at hl 0 rfl) ?_
  refine lv_iconst (v := 3) hx hb dL_law_891 (by decide +kernel) ?_
  refine lv_iadd hx hb dL_law_892 ?_
  refine lv_topi (fun v_32 ev_32 => ?_)
  have ev_32 : v_32 = nI ((7 * i7) + 3) := ev_32.trans (nI_add (7 * i7) 3)
  subst ev_32
  refine va_sld hx hb hX hbl hbA hS (i := nI ((7 * i7) + 3)) (vp_in_nI (by omega) (by omega)) dL_law_893 ?_
  refine lv_topi (fun v_33 ev_33 => ?_)
  have ev_33 : v3 = v_33 := (ev_33.trans (by rw [nI_clamp (by omega)]; exact hv3.symm)).symm
  subst ev_33
  have hz9 : gPD G A [zo6 mo (nI Npb) Akd Amo Ast (nI Njg) Aro Atp (nI Ntd) Acd Asr (nI Ntx) (nI Nru) Zhi Air Aih Ass Asq Ace Alw Z19 Z20 Z21 Z22 Awo Ahe Z25 Z26 Z27 Ask Ana Akp Z31 Z32 Z33 Z34 Agb Ago Afa Aga Z39 Z40 Avo, zi G Ast 12 Fst, zi G Aro 12 Fro, zi G Amo 6 Fmo, zi G Akd 6 Fkd, zi G Acd 1200 Fcd, zi G Asr 24 (nF Fsr), zi G Ask 200 Fsk, zi G Ana 6 Fna, zi G Akp 24 Fkp, zi G Afa 36 Ffa, zi G Aga 36 Fga] H := ⟨hP.sub [30, 33, 34, 32, 31, 36, 37, 46, 47, 48, 51, 52] rfl, hD.sub [30, 33, 34, 32, 31, 36, 37, 46, 47, 48, 51, 52] (by decide +kernel) rfl⟩
  have hPc := hz9.1
  have hDc := hz9.2
  have hFc := gFree hPc hD hS hA [30, 33, 34, 32, 31, 36, 37, 46, 47, 48, 51, 52] rfl
  refine va_calli (va_runV (As := [.int v1, .int v2, .int v3]) (rest := []) ⟨hx, hb, hml, hown, hts⟩ (c_X6_order l G mo Akd Amo Ast Aro Atp Acd Asr Air Aih Ass Asq Ace Alw Awo Ahe Ask Ana Akp Agb Ago Afa Aga Avo Npb Njg Ntd Ntx Nru Zhi Z19 Z20 Z21 Z22 Z25 Z26 Z27 Z31 Z32 Z33 Z34 Z39 Z40 Fst Fro Fmo Fkd Fcd Fsr Fsk Fna Fkp Ffa Fga v1 v2 v3 H.size (by first | exact hwa | assumption | omega) (by first | exact hpb | assumption | omega) (by first | exact hjg | assumption | omega) (by first | exact htx | assumption | omega) (by first | exact hru | assumption | omega)) (cwV 3 hts gL_law_X6_order rfl rfl rfl (by decide +kernel) ⟨Nat.le_of_ble_eq_true rfl, Nat.le_of_ble_eq_true rfl⟩) ⟨gPre_blind, va_recv hK hPc (ci := 6) (q0 := 0) rfl rfl, fun U hU hW => gPre_of hU hW hK hPc hDc⟩ rfl rfl hl.1 rfl (lv_room (Nat.le_of_ble_eq_true rfl)) dL_law_894 ⟨Nat.le_of_ble_eq_true rfl, Nat.le_of_ble_eq_true rfl⟩) hS (fun q _ h => hFc q h) hFc (fun r_34 u t H locs ht hvm w_35 hB hz1 hk1 hS => ?_)
  obtain ⟨z31_36, z32_37, z33_38, z34_39, z39_40, z40_41, ysk_42, yna_43, ykp_44, yfa_45, yga_46⟩ := u
  obtain ⟨hP1, hK1, hD1⟩ := hB
  rw [ht] at hP1
  have hz9 : gPD G (va_A _ _) [zo6 mo (nI Npb) Akd Amo Ast (nI Njg) Aro Atp (nI Ntd) Acd Asr (nI Ntx) (nI Nru) Zhi Air Aih Ass Asq Ace Alw Z19 Z20 Z21 Z22 Awo Ahe Z25 Z26 Z27 Ask Ana Akp z31_36 z32_37 z33_38 z34_39 Agb Ago Afa Aga z39_40 z40_41 Avo, zi G Ast 12 Fst, zi G Aro 12 (m_X6_order_ro Npb Njg Nru Fst Fro Fmo Fkd Fcd Fsr Ffa Fga v1 v2 v3), zi G Amo 6 Fmo, zi G Akd 6 Fkd, zi G Acd 1200 Fcd, zi G Asr 24 (nF Fsr), zi G Ask 200 ysk_42, zi G Ana 6 yna_43, zi G Akp 24 ykp_44, zi G Afa 36 yfa_45, zi G Aga 36 yga_46] H := ⟨hP1, hD1⟩
  have hP1 := hz9.1
  have hD1 := hz9.2
  have w_35 : r_34 = m_X6_order Npb Njg Nru Z39 Z40 Fst Fro Fmo Fkd Fcd Fsr Ffa Fga v1 v2 v3 := w_35
  have hz9 : gPD G A [zo1 rd tt b0 x2 x3 x4 x5 (nI td), zi G b0 160 fb, zi G c1 160 fcr1, zi G c2 160 fcr2, zi G c3 160 fcr3, zi G c4 160 fcr4, zi G c5 160 fcr5, zi G e1 3 (nF fer1), zi G e2 3 (nF fer2), zi G e3 3 (nF fer3), zi G e4 3 (nF fer4), zi G e5 3 (nF fer5), zi G n1 6 fnm, zo0 kp tt k1 k2 k3 k4 k5 k6 k7 k8 (nI kj) (nI kb) (nI kl), zi G k1 6 gnm, zi G k2 4 gso, zi G k3 4 gmi, zi G k4 4 gpa, zi G k5 6 gki, zi G k6 6 gmo, zi G k7 6 gsz, zi G k8 6 grd, zo2 sh qn qo ql, zr G qn 4 fn, zi G r0 40 fs0, zi G r1 40 fs1, zi G r2 40 fs2, zi G r3 40 fs3, zi G qo 4 fqo, zi G ql 4 (nF fql), zi G Atp 160 Ftp, zi G Air 24 Fir, zi G Aih 3 Fih, zi G Ass 4 Fss, zi G Asq 4 (nF Fsq), zi G Ace 160 Fce, zi G Alw 40 Flw, zi G Awo 96 Fwo, zi G Ahe 200 Fhe, zb G Agb 61 Fgb, zb G Ago 61 Fgo, zi G Avo 64 Fvo, zo5 xo tt rd nw th kp sh tu him, zo0 nw tt n1 n2 n3 n4 n5 n6 n7 n8 (nI jg) (nI pb) (nI lw), zi G n2 4 fso, zi G n3 4 fmi, zi G n4 4 fpa, zi G n5 6 fki, zi G n6 6 fmo, zi G n7 6 fsz, zi G n8 6 frd, zo0 th tt t1 t2 t3 t4 t5 t6 t7 t8 zj9_9 zb9_10 zl9_11, zi G t1 6 yt1_12, zi G t2 4 yt2_13, zi G t3 4 yt3_14, zi G t4 4 yt4_15, zi G t5 6 yt5_16, zi G t6 6 yt6_17, zi G t7 6 yt7_18, zi G t8 6 yt8_19, zo3 tt co en sk wr (nI tx), zr G co 6 fc, zr G en 6 fe, zi G c0 160 fcr0, zi G e0 3 (nF fer0), zi G sk 32 ysk_20, zo4 tu tw tr, zr G tw 6 fw, zi G w0 6 yw0_21, zi G w1 6 yw1_22, zi G w2 6 yw2_23, zi G w3 6 yw3_24, zi G w4 6 yw4_25, zi G w5 6 yw5_26, zi G tr 64 ytr_27, zo6 mo (nI Npb) Akd Amo Ast (nI Njg) Aro Atp (nI Ntd) Acd Asr (nI Ntx) (nI Nru) Zhi Air Aih Ass Asq Ace Alw Z19 Z20 Z21 Z22 Awo Ahe Z25 Z26 Z27 Ask Ana Akp z31_36 z32_37 z33_38 z34_39 Agb Ago Afa Aga z39_40 z40_41 Avo, zi G Ast 12 Fst, zi G Aro 12 (m_X6_order_ro Npb Njg Nru Fst Fro Fmo Fkd Fcd Fsr Ffa Fga v1 v2 v3), zi G Amo 6 Fmo, zi G Akd 6 Fkd, zi G Acd 1200 Fcd, zi G Asr 24 (nF Fsr), zi G Ask 200 ysk_42, zi G Ana 6 yna_43, zi G Akp 24 ykp_44, zi G Afa 36 yfa_45, zi G Aga 36 yga_46] H := gJoin hP hD hk1 hFc hP1 hD1 [30, 33, 34, 32, 31, 36, 37, 46, 47, 48, 51, 52] [0, 1, 2, 3, 4, 5, 6, 7, 8, 9, 10, 11, 12, 13, 14, 15, 16, 17, 18, 19, 20, 21, 22, 23, 24, 25, 26, 27, 28, 29, 35, 38, 39, 40, 41, 42, 43, 44, 45, 49, 50, 53, 54, 55, 56, 57, 58, 59, 60, 61, 62, 63, 64, 65, 66, 67, 68, 69, 70, 71, 72, 73, 74, 75, 76, 77, 78, 79, 80, 81, 82, 83, 84, 85, 86] rfl rfl rfl (by decide +kernel) (by decide +kernel)
  have hP := hz9.1
  have hD := hz9.2
  subst w_35
  refine lv_pop hx hb dL_law_897 rfl ?_
  refine lv_goto (tgt := 1614) hx hb dL_law_898 (by decide +kernel) ?_
  refine lv_iinc (v := nI (7 * (i7 + 1))) (lv' := [zI 3 (nI (7 * (i7 + 1))), zR 2 mo, zR 1 xo, zR 0 b]) hx hb dL_law_1614 hl (k := 0) rfl (by show nI (7 * i7) + 7 = nI (7 * (i7 + 1)); exact nI_add (7 * i7) 7) (by decide +kernel) rfl (fun ls hl => ?_)
  refine lv_goto (tgt := 18) hx hb dL_law_1617 (by decide +kernel) ?_
  exact K him x2 x3 x4 x5 td fb wr ysk_20 jg pb lw fnm fso fmi fpa fki fmo fsz frd zj9_9 zb9_10 zl9_11 yt1_12 yt2_13 yt3_14 yt4_15 yt5_16 yt6_17 yt7_18 yt8_19 kj kb kl gnm gso gmi gpa gki gmo gsz grd fs0 fs1 fs2 fs3 fqo fql yw0_21 yw1_22 yw2_23 yw3_24 yw4_25 yw5_26 ytr_27 Npb Njg Ntd Ntx Nru Zhi Z19 Z20 Z21 Z22 Z25 Z26 Z27 z31_36 z32_37 z33_38 z34_39 z39_40 z40_41 Fkd Fmo Fst (m_X6_order_ro Npb Njg Nru Fst Fro Fmo Fkd Fcd Fsr Ffa Fga v1 v2 v3) Ftp Fcd Fsr Fir Fih Fss Fsq Fce Flw Fwo Fhe ysk_42 yna_43 ykp_44 Fgb Fgo yfa_45 yga_46 Fvo hFX hFM hRL (rq_order hRQ) H _ ls (hP.sub [42, 0, 1, 60, 61, 63, 2, 3, 4, 5, 6, 62, 64, 7, 8, 9, 10, 11, 65, 43, 12, 44, 45, 46, 47, 48, 49, 50, 51, 52, 53, 54, 55, 56, 57, 58, 59, 13, 14, 15, 16, 17, 18, 19, 20, 21, 22, 23, 24, 25, 26, 27, 28, 29, 66, 67, 68, 69, 70, 71, 72, 73, 74, 75, 79, 78, 76, 77, 30, 80, 81, 31, 32, 33, 34, 35, 36, 37, 38, 82, 83, 84, 39, 40, 85, 86, 41] rfl) (hD.sub [42, 0, 1, 60, 61, 63, 2, 3, 4, 5, 6, 62, 64, 7, 8, 9, 10, 11, 65, 43, 12, 44, 45, 46, 47, 48, 49, 50, 51, 52, 53, 54, 55, 56, 57, 58, 59, 13, 14, 15, 16, 17, 18, 19, 20, 21, 22, 23, 24, 25, 26, 27, 28, 29, 66, 67, 68, 69, 70, 71, 72, 73, 74, 75, 79, 78, 76, 77, 30, 80, 81, 31, 32, 33, 34, 35, 36, 37, 38, 82, 83, 84, 39, 40, 85, 86, 41] (by decide +kernel) rfl) hS (lv_sub hl [0, 1, 2, 3] rfl)
set_option maxHeartbeats 4000000 in
set_option maxRecDepth 100000 in
theorem lc_counsel {p : Program} {l : Launch} {e : Env} {s : State} {m : MethodId} {below : List Frame} {meth : Method} {c : Code} {b L : Nat} {xs : Nat → Int32} {G : gG} {E : gS} {A : Nat → Prop} (C0 : lw_At p s m meth c b L xs) (hE : gE E A s s.heap) (hK : gK G s) (hAe : A = fun q => s.heap.size ≤ q) {xo tt rd nw th kp sh tu b0 co en sk c0 c1 c2 c3 c4 c5 e0 e1 e2 e3 e4 e5 n1 n2 n3 n4 n5 n6 n7 n8 t1 t2 t3 t4 t5 t6 t7 t8 k1 k2 k3 k4 k5 k6 k7 k8 qn qo ql r0 r1 r2 r3 tw tr w0 w1 w2 w3 w4 w5 mo Akd Amo Ast Aro Atp Acd Asr Air Aih Ass Asq Ace Alw Awo Ahe Ask Ana Akp Agb Ago Afa Aga Avo : Nat} {fc fe fn fw : Nat → Option Nat} {tx : Nat} {fcr0 fcr1 fcr2 fcr3 fcr4 fcr5 : Nat → Int32} {fer0 fer1 fer2 fer3 fer4 fer5 : Nat → Nat} {him x2 x3 x4 x5 : Int32} {td : Nat} {fb : Nat → Int32} {wr : Int32} {fsk : Nat → Int32} {jg pb lw : Nat} {fnm fso fmi fpa fki fmo fsz frd : Nat → Int32} {tj tb tl : Int32} {unm uso umi upa uki umo usz urd : Nat → Int32} {kj kb kl : Nat} {gnm gso gmi gpa gki gmo gsz grd fs0 fs1 fs2 fs3 fqo : Nat → Int32} {fql : Nat → Nat} {fw0 fw1 fw2 fw3 fw4 fw5 ftr : Nat → Int32} {Npb Njg Ntd Ntx Nru : Nat} {Zhi Z19 Z20 Z21 Z22 Z25 Z26 Z27 Z31 Z32 Z33 Z34 Z39 Z40 : Int32} {Fkd Fmo Fst Fro Ftp Fcd : Nat → Int32} {Fsr : Nat → Nat} {Fir Fih Fss : Nat → Int32} {Fsq : Nat → Nat} {Fce Flw Fwo Fhe Fsk Fna Fkp Fgb Fgo Ffa Fga Fvo : Nat → Int32}  {v1 v2 v3 v4 v5 v6 : Int32} {i7 : Nat} (hi : 7 * i7 + 7 ≤ L) (hL : L ≤ 3584) (hv1 : v1 = xs (7 * i7 + 1)) (hv2 : v2 = xs (7 * i7 + 2)) (hv3 : v3 = xs (7 * i7 + 3)) (hv4 : v4 = xs (7 * i7 + 4)) (hv5 : v5 = xs (7 * i7 + 5)) (hv6 : v6 = xs (7 * i7 + 6)) (hc : fc lw = some c0) (he : fe lw = some e0) (hwx : mWx fcr0 fer0) (hw0 : fw 0 = some w0) (hw1 : fw 1 = some w1) (hw2 : fw 2 = some w2) (hw3 : fw 3 = some w3) (hw4 : fw 4 = some w4) (hw5 : fw 5 = some w5) (K : LawV p l e s m below meth c b G A xo tt rd nw th kp sh tu b0 co en sk c0 c1 c2 c3 c4 c5 e0 e1 e2 e3 e4 e5 n1 n2 n3 n4 n5 n6 n7 n8 t1 t2 t3 t4 t5 t6 t7 t8 k1 k2 k3 k4 k5 k6 k7 k8 qn qo ql r0 r1 r2 r3 tw tr w0 w1 w2 w3 w4 w5 mo Akd Amo Ast Aro Atp Acd Asr Air Aih Ass Asq Ace Alw Awo Ahe Ask Ana Akp Agb Ago Afa Aga Avo fc fe fn fw tx fcr0 fcr1 fcr2 fcr3 fcr4 fcr5 fer0 fer1 fer2 fer3 fer4 fer5 (i7 + 1)) (hFX : FXP jg pb lw kj kb kl tx td him fql) (hFM : FMP Npb Njg Ntd Ntx Nru Zhi Fcd Fsr Fsq Fir Fih) (hRL : RLP False fn r0 r1 r2 r3 jg pb kj kb him fs0 fs1 fs2 fs3 fqo fql Npb Njg Zhi Fss Fsq Fce Fih) (hRQ : RQP fc c0 c1 c2 c3 c4 c5 fcr0 fcr1 fcr2 fcr3 fcr4 fcr5 fer0 fer1 fer2 fer3 fer4 fer5 pb lw tx td kb kl him fb fso fmi fpa fki fmo fsz frd gso gmi gpa gki gmo gsz grd Nru Ntx Ntd Fkd Fmo Fst Fro Ftp Fcd Fsr Fir Fih Fwo) {H : Heap} {locs : List Loc} (hP : va_P G.1 vwCl (WLd G xo tt rd nw th kp sh tu b0 co en sk c0 c1 c2 c3 c4 c5 e0 e1 e2 e3 e4 e5 n1 n2 n3 n4 n5 n6 n7 n8 t1 t2 t3 t4 t5 t6 t7 t8 k1 k2 k3 k4 k5 k6 k7 k8 qn qo ql r0 r1 r2 r3 tw tr w0 w1 w2 w3 w4 w5 mo Akd Amo Ast Aro Atp Acd Asr Air Aih Ass Asq Ace Alw Awo Ahe Ask Ana Akp Agb Ago Afa Aga Avo fc fe fn fw tx fcr0 fcr1 fcr2 fcr3 fcr4 fcr5 fer0 fer1 fer2 fer3 fer4 fer5 him x2 x3 x4 x5 td fb wr fsk jg pb lw fnm fso fmi fpa fki fmo fsz frd tj tb tl unm uso umi upa uki umo usz urd kj kb kl gnm gso gmi gpa gki gmo gsz grd fs0 fs1 fs2 fs3 fqo fql fw0 fw1 fw2 fw3 fw4 fw5 ftr Npb Njg Ntd Ntx Nru Zhi Z19 Z20 Z21 Z22 Z25 Z26 Z27 Z31 Z32 Z33 Z34 Z39 Z40 Fkd Fmo Fst Fro Ftp Fcd Fsr Fir Fih Fss Fsq Fce Flw Fwo Fhe Fsk Fna Fkp Fgb Fgo Ffa Fga Fvo) H) (hD : va_D A (WLd G xo tt rd nw th kp sh tu b0 co en sk c0 c1 c2 c3 c4 c5 e0 e1 e2 e3 e4 e5 n1 n2 n3 n4 n5 n6 n7 n8 t1 t2 t3 t4 t5 t6 t7 t8 k1 k2 k3 k4 k5 k6 k7 k8 qn qo ql r0 r1 r2 r3 tw tr w0 w1 w2 w3 w4 w5 mo Akd Amo Ast Aro Atp Acd Asr Air Aih Ass Asq Ace Alw Awo Ahe Ask Ana Akp Agb Ago Afa Aga Avo fc fe fn fw tx fcr0 fcr1 fcr2 fcr3 fcr4 fcr5 fer0 fer1 fer2 fer3 fer4 fer5 him x2 x3 x4 x5 td fb wr fsk jg pb lw fnm fso fmi fpa fki fmo fsz frd tj tb tl unm uso umi upa uki umo usz urd kj kb kl gnm gso gmi gpa gki gmo gsz grd fs0 fs1 fs2 fs3 fqo fql fw0 fw1 fw2 fw3 fw4 fw5 ftr Npb Njg Ntd Ntx Nru Zhi Z19 Z20 Z21 Z22 Z25 Z26 Z27 Z31 Z32 Z33 Z34 Z39 Z40 Fkd Fmo Fst Fro Ftp Fcd Fsr Fir Fih Fss Fsq Fce Flw Fwo Fhe Fsk Fna Fkp Fgb Fgo Ffa Fga Fvo)) (hS : va_S A s.heap H locs) {ls : Array Slot} (hl : lv_has ls 4 [zI 3 (nI (7 * i7)), zR 2 mo, zR 1 xo, zR 0 b]) : W p l e room_1 s m #[Value.ref b] below meth c H locs 87 4128 (lw_Z below #[Value.ref b] s) (F0 m 901 ls []) := by
  obtain ⟨hx, hb, hret, hml, hown, hts0, hX, hbl, hlocks, hgv⟩ := id C0
  have hts : ∀ w ∈ wsL_law, w.before #[Value.ref b] s = true := fun w h => hts0 w (wsL_law_in w h)
  have hown : s.vm.findClass RL = some m.cls := hown
  have hA : ∀ q : Nat, s.heap.size ≤ q → A q := fun q h => by rw [hAe]; exact h
  have hbA : ¬ A b := by rw [hAe]; exact Nat.not_le.mpr hbl
  obtain ⟨⟨hjg, hpb, hlw, htx, htd⟩, hkk, hql⟩ := id hFX
  obtain ⟨⟨hNpb, hNjg, hNru, hNtx, hNtd⟩, hwa, hsq, hIM⟩ := id hFM
  have hz9 : gPD G A [zo5 xo tt rd nw th kp sh tu him, zo1 rd tt b0 x2 x3 x4 x5 (nI td), zi G b0 160 fb, zo3 tt co en sk wr (nI tx), zr G co 6 fc, zi G c0 160 fcr0, zi G c1 160 fcr1, zi G c2 160 fcr2, zi G c3 160 fcr3, zi G c4 160 fcr4, zi G c5 160 fcr5, zr G en 6 fe, zi G e0 3 (nF fer0), zi G e1 3 (nF fer1), zi G e2 3 (nF fer2), zi G e3 3 (nF fer3), zi G e4 3 (nF fer4), zi G e5 3 (nF fer5), zi G sk 32 fsk, zo0 nw tt n1 n2 n3 n4 n5 n6 n7 n8 (nI jg) (nI pb) (nI lw), zi G n1 6 fnm, zi G n2 4 fso, zi G n3 4 fmi, zi G n4 4 fpa, zi G n5 6 fki, zi G n6 6 fmo, zi G n7 6 fsz, zi G n8 6 frd, zo0 th tt t1 t2 t3 t4 t5 t6 t7 t8 tj tb tl, zi G t1 6 unm, zi G t2 4 uso, zi G t3 4 umi, zi G t4 4 upa, zi G t5 6 uki, zi G t6 6 umo, zi G t7 6 usz, zi G t8 6 urd, zo0 kp tt k1 k2 k3 k4 k5 k6 k7 k8 (nI kj) (nI kb) (nI kl), zi G k1 6 gnm, zi G k2 4 gso, zi G k3 4 gmi, zi G k4 4 gpa, zi G k5 6 gki, zi G k6 6 gmo, zi G k7 6 gsz, zi G k8 6 grd, zo2 sh qn qo ql, zr G qn 4 fn, zi G r0 40 fs0, zi G r1 40 fs1, zi G r2 40 fs2, zi G r3 40 fs3, zi G qo 4 fqo, zi G ql 4 (nF fql), zo4 tu tw tr, zr G tw 6 fw, zi G w0 6 fw0, zi G w1 6 fw1, zi G w2 6 fw2, zi G w3 6 fw3, zi G w4 6 fw4, zi G w5 6 fw5, zi G tr 64 ftr, zo6 mo (nI Npb) Akd Amo Ast (nI Njg) Aro Atp (nI Ntd) Acd Asr (nI Ntx) (nI Nru) Zhi Air Aih Ass Asq Ace Alw Z19 Z20 Z21 Z22 Awo Ahe Z25 Z26 Z27 Ask Ana Akp Z31 Z32 Z33 Z34 Agb Ago Afa Aga Z39 Z40 Avo, zi G Akd 6 Fkd, zi G Amo 6 Fmo, zi G Ast 12 Fst, zi G Aro 12 Fro, zi G Atp 160 Ftp, zi G Acd 1200 Fcd, zi G Asr 24 (nF Fsr), zi G Air 24 Fir, zi G Aih 3 Fih, zi G Ass 4 Fss, zi G Asq 4 (nF Fsq), zi G Ace 160 Fce, zi G Alw 40 Flw, zi G Awo 96 Fwo, zi G Ahe 200 Fhe, zi G Ask 200 Fsk, zi G Ana 6 Fna, zi G Akp 24 Fkp, zb G Agb 61 Fgb, zb G Ago 61 Fgo, zi G Afa 36 Ffa, zi G Aga 36 Fga, zi G Avo 64 Fvo] H := ⟨hP, hD⟩
  have hP := hz9.1
  have hD := hz9.2
  refine lv_aload_n hx hb dL_law_901 rfl (lv_at hl 2 rfl) ?_
  refine lv_aload_n hx hb dL_law_902 rfl (lv_at hl 3 rfl) ?_
  refine lv_iload_n hx hb dL_law_903 rfl (lv_at hl 0 rfl) ?_
  refine lv_iconst (v := 1) hx hb dL_law_904 (by decide +kernel) ?_
  refine lv_iadd hx hb dL_law_905 ?_
  refine lv_topi (fun v_1 ev_1 => ?_)
  have ev_1 : v_1 = nI ((7 * i7) + 1) := ev_1.trans (nI_add (7 * i7) 1)
  subst ev_1
  refine va_sld hx hb hX hbl hbA hS (i := nI ((7 * i7) + 1)) (vp_in_nI (by omega) (by omega)) dL_law_906 ?_
  refine lv_topi (fun v_2 ev_2 => ?_)
  have ev_2 : v1 = v_2 := (ev_2.trans (by rw [nI_clamp (by omega)]; exact hv1.symm)).symm
  subst ev_2
  refine lv_aload_n hx hb dL_law_907 rfl (lv_at hl 3 rfl) ?_
  refine lv_iload_n hx hb dL_law_908 rfl (lv_at hl 0 rfl) ?_
  refine lv_iconst (v := 2) hx hb dL_law_909 (by decide +kernel) ?_
  refine lv_iadd hx hb dL_law_910 ?_
  refine lv_topi (fun v_3 ev_3 => ?_)
  have ev_3 : v_3 = nI ((7 * i7) + 2) := ev_3.trans (nI_add (7 * i7) 2)
  subst ev_3
  refine va_sld hx hb hX hbl hbA hS (i := nI ((7 * i7) + 2)) (vp_in_nI (by omega) (by omega)) dL_law_911 ?_
  refine lv_topi (fun v_4 ev_4 => ?_)
  have ev_4 : v2 = v_4 := (ev_4.trans (by rw [nI_clamp (by omega)]; exact hv2.symm)).symm
  subst ev_4
  refine lv_aload_n hx hb dL_law_912 rfl (lv_at hl 3 rfl) ?_
  refine lv_iload_n hx hb dL_law_913 rfl (lv_at hl 0 rfl) ?_
  refine lv_iconst (v := 3) hx hb dL_law_914 (by decide +kernel) ?_
  refine lv_iadd hx hb dL_law_915 ?_
  refine lv_topi (fun v_5 ev_5 => ?_)
  have ev_5 : v_5 = nI ((7 * i7) + 3) := ev_5.trans (nI_add (7 * i7) 3)
  subst ev_5
  refine va_sld hx hb hX hbl hbA hS (i := nI ((7 * i7) + 3)) (vp_in_nI (by omega) (by omega)) dL_law_916 ?_
  refine lv_topi (fun v_6 ev_6 => ?_)
  have ev_6 : v3 = v_6 := (ev_6.trans (by rw [nI_clamp (by omega)]; exact hv3.symm)).symm
  subst ev_6
  have hz9 : gPD G A [zo5 xo tt rd nw th kp sh tu him, zo0 nw tt n1 n2 n3 n4 n5 n6 n7 n8 (nI jg) (nI pb) (nI lw), zi G n2 4 fso, zi G n3 4 fmi, zi G n4 4 fpa, zi G n5 6 fki, zi G n6 6 fmo, zi G n7 6 fsz, zi G n8 6 frd, zo0 th tt t1 t2 t3 t4 t5 t6 t7 t8 tj tb tl, zi G t1 6 unm, zi G t2 4 uso, zi G t3 4 umi, zi G t4 4 upa, zi G t5 6 uki, zi G t6 6 umo, zi G t7 6 usz, zi G t8 6 urd, zo3 tt co en sk wr (nI tx), zr G co 6 fc, zr G en 6 fe, zi G c0 160 fcr0, zi G e0 3 (nF fer0), zi G sk 32 fsk, zo4 tu tw tr, zr G tw 6 fw, zi G w0 6 fw0, zi G w1 6 fw1, zi G w2 6 fw2, zi G w3 6 fw3, zi G w4 6 fw4, zi G w5 6 fw5, zi G tr 64 ftr] H := ⟨hP.sub [0, 19, 21, 22, 23, 24, 25, 26, 27, 28, 29, 30, 31, 32, 33, 34, 35, 36, 3, 4, 11, 5, 12, 18, 54, 55, 56, 57, 58, 59, 60, 61, 62] rfl, hD.sub [0, 19, 21, 22, 23, 24, 25, 26, 27, 28, 29, 30, 31, 32, 33, 34, 35, 36, 3, 4, 11, 5, 12, 18, 54, 55, 56, 57, 58, 59, 60, 61, 62] (by decide +kernel) rfl⟩
  have hPc := hz9.1
  have hDc := hz9.2
  have hFc := gFree hPc hD hS hA [0, 19, 21, 22, 23, 24, 25, 26, 27, 28, 29, 30, 31, 32, 33, 34, 35, 36, 3, 4, 11, 5, 12, 18, 54, 55, 56, 57, 58, 59, 60, 61, 62] rfl
  refine va_calli (va_runV (As := [.int v1, .int v2, .int v3]) (rest := []) ⟨hx, hb, hml, hown, hts⟩ (c_X5_counsel l G xo tt rd nw th kp sh tu n1 n2 n3 n4 n5 n6 n7 n8 t1 t2 t3 t4 t5 t6 t7 t8 co en sk c0 e0 tw tr w0 w1 w2 w3 w4 w5 jg pb lw tx him wr tj tb tl fc fe fw fer0 fso fmi fpa fki fmo fsz frd unm uso umi upa uki umo usz urd fcr0 fsk ftr fw0 fw1 fw2 fw3 fw4 fw5 v1 v2 v3 H.size (by first | exact hw0 | assumption | omega) (by first | exact hw1 | assumption | omega) (by first | exact hw2 | assumption | omega) (by first | exact hw3 | assumption | omega) (by first | exact hw4 | assumption | omega) (by first | exact hw5 | assumption | omega) (by first | exact htn | assumption | omega) (by first | exact hc | assumption | omega) (by first | exact he | assumption | omega) (by first | exact hwx | assumption | omega) (by first | exact hjg | assumption | omega) (by first | exact hpb | assumption | omega)) (cwV 3 hts gL_law_X5_counsel rfl rfl rfl (by decide +kernel) ⟨Nat.le_of_ble_eq_true rfl, Nat.le_of_ble_eq_true rfl⟩) ⟨gPre_blind, va_recv hK hPc (ci := 5) (q0 := 0) rfl rfl, fun U hU hW => gPre_of hU hW hK hPc hDc⟩ rfl rfl hl.1 rfl (lv_room (Nat.le_of_ble_eq_true rfl)) dL_law_917 ⟨Nat.le_of_ble_eq_true rfl, Nat.le_of_ble_eq_true rfl⟩) hS (fun q _ h => hFc q h) hFc (fun r_7 u t H locs ht hvm w_8 hB hz1 hk1 hS => ?_)
  obtain ⟨zj9_9, zb9_10, zl9_11, yt1_12, yt2_13, yt3_14, yt4_15, yt5_16, yt6_17, yt7_18, yt8_19, ysk_20, yw0_21, yw1_22, yw2_23, yw3_24, yw4_25, yw5_26, ytr_27⟩ := u
  obtain ⟨hP1, hK1, hD1⟩ := hB
  rw [ht] at hP1
  have hz9 : gPD G (va_A _ _) [zo5 xo tt rd nw th kp sh tu him, zo0 nw tt n1 n2 n3 n4 n5 n6 n7 n8 (nI jg) (nI pb) (nI lw), zi G n2 4 fso, zi G n3 4 fmi, zi G n4 4 fpa, zi G n5 6 fki, zi G n6 6 fmo, zi G n7 6 fsz, zi G n8 6 frd, zo0 th tt t1 t2 t3 t4 t5 t6 t7 t8 zj9_9 zb9_10 zl9_11, zi G t1 6 yt1_12, zi G t2 4 yt2_13, zi G t3 4 yt3_14, zi G t4 4 yt4_15, zi G t5 6 yt5_16, zi G t6 6 yt6_17, zi G t7 6 yt7_18, zi G t8 6 yt8_19, zo3 tt co en sk wr (nI tx), zr G co 6 fc, zr G en 6 fe, zi G c0 160 fcr0, zi G e0 3 (nF fer0), zi G sk 32 ysk_20, zo4 tu tw tr, zr G tw 6 fw, zi G w0 6 yw0_21, zi G w1 6 yw1_22, zi G w2 6 yw2_23, zi G w3 6 yw3_24, zi G w4 6 yw4_25, zi G w5 6 yw5_26, zi G tr 64 ytr_27] H := ⟨hP1, hD1⟩
  have hP1 := hz9.1
  have hD1 := hz9.2
  have w_8 : r_7 = m_X5_counsel jg pb fer0 fso fmi fpa fki fmo fsz frd fcr0 ftr fw0 fw1 fw2 fw3 fw4 fw5 v1 v2 v3 := w_8
  have hz9 : gPD G A [zo1 rd tt b0 x2 x3 x4 x5 (nI td), zi G b0 160 fb, zi G c1 160 fcr1, zi G c2 160 fcr2, zi G c3 160 fcr3, zi G c4 160 fcr4, zi G c5 160 fcr5, zi G e1 3 (nF fer1), zi G e2 3 (nF fer2), zi G e3 3 (nF fer3), zi G e4 3 (nF fer4), zi G e5 3 (nF fer5), zi G n1 6 fnm, zo0 kp tt k1 k2 k3 k4 k5 k6 k7 k8 (nI kj) (nI kb) (nI kl), zi G k1 6 gnm, zi G k2 4 gso, zi G k3 4 gmi, zi G k4 4 gpa, zi G k5 6 gki, zi G k6 6 gmo, zi G k7 6 gsz, zi G k8 6 grd, zo2 sh qn qo ql, zr G qn 4 fn, zi G r0 40 fs0, zi G r1 40 fs1, zi G r2 40 fs2, zi G r3 40 fs3, zi G qo 4 fqo, zi G ql 4 (nF fql), zo6 mo (nI Npb) Akd Amo Ast (nI Njg) Aro Atp (nI Ntd) Acd Asr (nI Ntx) (nI Nru) Zhi Air Aih Ass Asq Ace Alw Z19 Z20 Z21 Z22 Awo Ahe Z25 Z26 Z27 Ask Ana Akp Z31 Z32 Z33 Z34 Agb Ago Afa Aga Z39 Z40 Avo, zi G Akd 6 Fkd, zi G Amo 6 Fmo, zi G Ast 12 Fst, zi G Aro 12 Fro, zi G Atp 160 Ftp, zi G Acd 1200 Fcd, zi G Asr 24 (nF Fsr), zi G Air 24 Fir, zi G Aih 3 Fih, zi G Ass 4 Fss, zi G Asq 4 (nF Fsq), zi G Ace 160 Fce, zi G Alw 40 Flw, zi G Awo 96 Fwo, zi G Ahe 200 Fhe, zi G Ask 200 Fsk, zi G Ana 6 Fna, zi G Akp 24 Fkp, zb G Agb 61 Fgb, zb G Ago 61 Fgo, zi G Afa 36 Ffa, zi G Aga 36 Fga, zi G Avo 64 Fvo, zo5 xo tt rd nw th kp sh tu him, zo0 nw tt n1 n2 n3 n4 n5 n6 n7 n8 (nI jg) (nI pb) (nI lw), zi G n2 4 fso, zi G n3 4 fmi, zi G n4 4 fpa, zi G n5 6 fki, zi G n6 6 fmo, zi G n7 6 fsz, zi G n8 6 frd, zo0 th tt t1 t2 t3 t4 t5 t6 t7 t8 zj9_9 zb9_10 zl9_11, zi G t1 6 yt1_12, zi G t2 4 yt2_13, zi G t3 4 yt3_14, zi G t4 4 yt4_15, zi G t5 6 yt5_16, zi G t6 6 yt6_17, zi G t7 6 yt7_18, zi G t8 6 yt8_19, zo3 tt co en sk wr (nI tx), zr G co 6 fc, zr G en 6 fe, zi G c0 160 fcr0, zi G e0 3 (nF fer0), zi G sk 32 ysk_20, zo4 tu tw tr, zr G tw 6 fw, zi G w0 6 yw0_21, zi G w1 6 yw1_22, zi G w2 6 yw2_23, zi G w3 6 yw3_24, zi G w4 6 yw4_25, zi G w5 6 yw5_26, zi G tr 64 ytr_27] H := gJoin hP hD hk1 hFc hP1 hD1 [0, 19, 21, 22, 23, 24, 25, 26, 27, 28, 29, 30, 31, 32, 33, 34, 35, 36, 3, 4, 11, 5, 12, 18, 54, 55, 56, 57, 58, 59, 60, 61, 62] [1, 2, 6, 7, 8, 9, 10, 13, 14, 15, 16, 17, 20, 37, 38, 39, 40, 41, 42, 43, 44, 45, 46, 47, 48, 49, 50, 51, 52, 53, 63, 64, 65, 66, 67, 68, 69, 70, 71, 72, 73, 74, 75, 76, 77, 78, 79, 80, 81, 82, 83, 84, 85, 86] rfl rfl rfl (by decide +kernel) (by decide +kernel)
  have hP := hz9.1
  have hD := hz9.2
  subst w_8
  refine lv_pop hx hb dL_law_920 rfl ?_
  refine lv_aload_n hx hb dL_law_921 rfl (lv_at hl 1 rfl) ?_
  refine lv_aload_n hx hb dL_law_922 rfl (lv_at hl 3 rfl) ?_
  refine lv_iload_n hx hb dL_law_923 rfl (lv_at hl 0 rfl) ?_
  refine lv_iconst (v := 1) hx hb dL_law_924 (by decide +kernel) ?_
  refine lv_iadd hx hb dL_law_925 ?_
  refine lv_topi (fun v_28 ev_28 => ?_)
  have ev_28 : v_28 = nI ((7 * i7) + 1) := ev_28.trans (nI_add (7 * i7) 1)
  subst ev_28
  refine va_sld hx hb hX hbl hbA hS (i := nI ((7 * i7) + 1)) (vp_in_nI (by omega) (by omega)) dL_law_926 ?_
  refine lv_topi (fun v_29 ev_29 => ?_)
  have ev_29 : v1 = v_29 := (ev_29.trans (by rw [nI_clamp (by omega)]; exact hv1.symm)).symm
  subst ev_29
  refine lv_aload_n hx hb dL_law_927 rfl (lv_at hl 3 rfl) ?_
  refine lv_iload_n hx hb dL_law_928 rfl (lv_at hl 0 rfl) ?_
  refine lv_iconst (v := 2) hx hb dL_law_929 (by decide +kernel) ?_
  refine lv_iadd hx hb dL_law_930 ?_
  refine lv_topi (fun v_30 ev_30 => ?_)
  have ev_30 : v_30 = nI ((7 * i7) + 2) := ev_30.trans (nI_add (7 * i7) 2)
  subst ev_30
  refine va_sld hx hb hX hbl hbA hS (i := nI ((7 * i7) + 2)) (vp_in_nI (by omega) (by omega)) dL_law_931 ?_
  refine lv_topi (fun v_31 ev_31 => ?_)
  have ev_31 : v2 = v_31 := (ev_31.trans (by rw [nI_clamp (by omega)]; exact hv2.symm)).symm
  subst ev_31
  refine lv_aload_n hx hb dL_law_932 rfl (lv_at hl 3 rfl) ?_
  refine lv_iload_n hx hb dL_law_933 rfl (lv_at hl 0 rfl) ?_
  refine lv_iconst (v := 3) hx hb dL_law_934 (by decide +kernel) ?_
  refine lv_iadd hx hb dL_law_935 ?_
  refine lv_topi (fun v_32 ev_32 => ?_)
  have ev_32 : v_32 = nI ((7 * i7) + 3) := ev_32.trans (nI_add (7 * i7) 3)
  subst ev_32
  refine va_sld hx hb hX hbl hbA hS (i := nI ((7 * i7) + 3)) (vp_in_nI (by omega) (by omega)) dL_law_936 ?_
  refine lv_topi (fun v_33 ev_33 => ?_)
  have ev_33 : v3 = v_33 := (ev_33.trans (by rw [nI_clamp (by omega)]; exact hv3.symm)).symm
  subst ev_33
  have hz9 : gPD G A [zo6 mo (nI Npb) Akd Amo Ast (nI Njg) Aro Atp (nI Ntd) Acd Asr (nI Ntx) (nI Nru) Zhi Air Aih Ass Asq Ace Alw Z19 Z20 Z21 Z22 Awo Ahe Z25 Z26 Z27 Ask Ana Akp Z31 Z32 Z33 Z34 Agb Ago Afa Aga Z39 Z40 Avo, zi G Ast 12 Fst, zi G Aro 12 Fro, zi G Amo 6 Fmo, zi G Akd 6 Fkd, zi G Acd 1200 Fcd, zi G Asr 24 (nF Fsr), zi G Ask 200 Fsk, zi G Ana 6 Fna, zi G Akp 24 Fkp, zi G Afa 36 Ffa, zi G Aga 36 Fga, zi G Avo 64 Fvo] H := ⟨hP.sub [30, 33, 34, 32, 31, 36, 37, 46, 47, 48, 51, 52, 53] rfl, hD.sub [30, 33, 34, 32, 31, 36, 37, 46, 47, 48, 51, 52, 53] (by decide +kernel) rfl⟩
  have hPc := hz9.1
  have hDc := hz9.2
  have hFc := gFree hPc hD hS hA [30, 33, 34, 32, 31, 36, 37, 46, 47, 48, 51, 52, 53] rfl
  refine va_calli (va_runV (As := [.int v1, .int v2, .int v3]) (rest := []) ⟨hx, hb, hml, hown, hts⟩ (c_X6_counsel l G mo Akd Amo Ast Aro Atp Acd Asr Air Aih Ass Asq Ace Alw Awo Ahe Ask Ana Akp Agb Ago Afa Aga Avo Npb Njg Ntd Ntx Nru Zhi Z19 Z20 Z21 Z22 Z25 Z26 Z27 Z31 Z32 Z33 Z34 Z39 Z40 Fst Fro Fmo Fkd Fcd Fsr Fsk Fna Fkp Ffa Fga Fvo v1 v2 v3 H.size (by first | exact hwa | assumption | omega) (by first | exact hpb | assumption | omega) (by first | exact hjg | assumption | omega) (by first | exact htx | assumption | omega) (by first | exact hru | assumption | omega)) (cwV 3 hts gL_law_X6_counsel rfl rfl rfl (by decide +kernel) ⟨Nat.le_of_ble_eq_true rfl, Nat.le_of_ble_eq_true rfl⟩) ⟨gPre_blind, va_recv hK hPc (ci := 6) (q0 := 0) rfl rfl, fun U hU hW => gPre_of hU hW hK hPc hDc⟩ rfl rfl hl.1 rfl (lv_room (Nat.le_of_ble_eq_true rfl)) dL_law_937 ⟨Nat.le_of_ble_eq_true rfl, Nat.le_of_ble_eq_true rfl⟩) hS (fun q _ h => hFc q h) hFc (fun r_34 u t H locs ht hvm w_35 hB hz1 hk1 hS => ?_)
  obtain ⟨z31_36, z32_37, z33_38, z34_39, ysk_40, yna_41, ykp_42, yfa_43, yga_44, yvo_45⟩ := u
  obtain ⟨hP1, hK1, hD1⟩ := hB
  rw [ht] at hP1
  have hz9 : gPD G (va_A _ _) [zo6 mo (nI Npb) Akd Amo Ast (nI Njg) Aro Atp (nI Ntd) Acd Asr (nI Ntx) (nI Nru) Zhi Air Aih Ass Asq Ace Alw Z19 Z20 Z21 Z22 Awo Ahe Z25 Z26 Z27 Ask Ana Akp z31_36 z32_37 z33_38 z34_39 Agb Ago Afa Aga Z39 Z40 Avo, zi G Ast 12 Fst, zi G Aro 12 (m_X6_counsel_ro Npb Njg Nru Fst Fro Fmo Fkd Fcd Fsr Ffa Fga v1 v2 v3), zi G Amo 6 Fmo, zi G Akd 6 Fkd, zi G Acd 1200 Fcd, zi G Asr 24 (nF Fsr), zi G Ask 200 ysk_40, zi G Ana 6 yna_41, zi G Akp 24 ykp_42, zi G Afa 36 yfa_43, zi G Aga 36 yga_44, zi G Avo 64 yvo_45] H := ⟨hP1, hD1⟩
  have hP1 := hz9.1
  have hD1 := hz9.2
  have w_35 : r_34 = m_X6_counsel Npb Njg Nru Fst Fro Fmo Fkd Fcd Fsr Ffa Fga Fvo v1 v2 v3 := w_35
  have hz9 : gPD G A [zo1 rd tt b0 x2 x3 x4 x5 (nI td), zi G b0 160 fb, zi G c1 160 fcr1, zi G c2 160 fcr2, zi G c3 160 fcr3, zi G c4 160 fcr4, zi G c5 160 fcr5, zi G e1 3 (nF fer1), zi G e2 3 (nF fer2), zi G e3 3 (nF fer3), zi G e4 3 (nF fer4), zi G e5 3 (nF fer5), zi G n1 6 fnm, zo0 kp tt k1 k2 k3 k4 k5 k6 k7 k8 (nI kj) (nI kb) (nI kl), zi G k1 6 gnm, zi G k2 4 gso, zi G k3 4 gmi, zi G k4 4 gpa, zi G k5 6 gki, zi G k6 6 gmo, zi G k7 6 gsz, zi G k8 6 grd, zo2 sh qn qo ql, zr G qn 4 fn, zi G r0 40 fs0, zi G r1 40 fs1, zi G r2 40 fs2, zi G r3 40 fs3, zi G qo 4 fqo, zi G ql 4 (nF fql), zi G Atp 160 Ftp, zi G Air 24 Fir, zi G Aih 3 Fih, zi G Ass 4 Fss, zi G Asq 4 (nF Fsq), zi G Ace 160 Fce, zi G Alw 40 Flw, zi G Awo 96 Fwo, zi G Ahe 200 Fhe, zb G Agb 61 Fgb, zb G Ago 61 Fgo, zo5 xo tt rd nw th kp sh tu him, zo0 nw tt n1 n2 n3 n4 n5 n6 n7 n8 (nI jg) (nI pb) (nI lw), zi G n2 4 fso, zi G n3 4 fmi, zi G n4 4 fpa, zi G n5 6 fki, zi G n6 6 fmo, zi G n7 6 fsz, zi G n8 6 frd, zo0 th tt t1 t2 t3 t4 t5 t6 t7 t8 zj9_9 zb9_10 zl9_11, zi G t1 6 yt1_12, zi G t2 4 yt2_13, zi G t3 4 yt3_14, zi G t4 4 yt4_15, zi G t5 6 yt5_16, zi G t6 6 yt6_17, zi G t7 6 yt7_18, zi G t8 6 yt8_19, zo3 tt co en sk wr (nI tx), zr G co 6 fc, zr G en 6 fe, zi G c0 160 fcr0, zi G e0 3 (nF fer0), zi G sk 32 ysk_20, zo4 tu tw tr, zr G tw 6 fw, zi G w0 6 yw0_21, zi G w1 6 yw1_22, zi G w2 6 yw2_23, zi G w3 6 yw3_24, zi G w4 6 yw4_25, zi G w5 6 yw5_26, zi G tr 64 ytr_27, zo6 mo (nI Npb) Akd Amo Ast (nI Njg) Aro Atp (nI Ntd) Acd Asr (nI Ntx) (nI Nru) Zhi Air Aih Ass Asq Ace Alw Z19 Z20 Z21 Z22 Awo Ahe Z25 Z26 Z27 Ask Ana Akp z31_36 z32_37 z33_38 z34_39 Agb Ago Afa Aga Z39 Z40 Avo, zi G Ast 12 Fst, zi G Aro 12 (m_X6_counsel_ro Npb Njg Nru Fst Fro Fmo Fkd Fcd Fsr Ffa Fga v1 v2 v3), zi G Amo 6 Fmo, zi G Akd 6 Fkd, zi G Acd 1200 Fcd, zi G Asr 24 (nF Fsr), zi G Ask 200 ysk_40, zi G Ana 6 yna_41, zi G Akp 24 ykp_42, zi G Afa 36 yfa_43, zi G Aga 36 yga_44, zi G Avo 64 yvo_45] H := gJoin hP hD hk1 hFc hP1 hD1 [30, 33, 34, 32, 31, 36, 37, 46, 47, 48, 51, 52, 53] [0, 1, 2, 3, 4, 5, 6, 7, 8, 9, 10, 11, 12, 13, 14, 15, 16, 17, 18, 19, 20, 21, 22, 23, 24, 25, 26, 27, 28, 29, 35, 38, 39, 40, 41, 42, 43, 44, 45, 49, 50, 54, 55, 56, 57, 58, 59, 60, 61, 62, 63, 64, 65, 66, 67, 68, 69, 70, 71, 72, 73, 74, 75, 76, 77, 78, 79, 80, 81, 82, 83, 84, 85, 86] rfl rfl rfl (by decide +kernel) (by decide +kernel)
  have hP := hz9.1
  have hD := hz9.2
  subst w_35
  refine lv_pop hx hb dL_law_940 rfl ?_
  refine lv_goto (tgt := 1614) hx hb dL_law_941 (by decide +kernel) ?_
  refine lv_iinc (v := nI (7 * (i7 + 1))) (lv' := [zI 3 (nI (7 * (i7 + 1))), zR 2 mo, zR 1 xo, zR 0 b]) hx hb dL_law_1614 hl (k := 0) rfl (by show nI (7 * i7) + 7 = nI (7 * (i7 + 1)); exact nI_add (7 * i7) 7) (by decide +kernel) rfl (fun ls hl => ?_)
  refine lv_goto (tgt := 18) hx hb dL_law_1617 (by decide +kernel) ?_
  exact K him x2 x3 x4 x5 td fb wr ysk_20 jg pb lw fnm fso fmi fpa fki fmo fsz frd zj9_9 zb9_10 zl9_11 yt1_12 yt2_13 yt3_14 yt4_15 yt5_16 yt6_17 yt7_18 yt8_19 kj kb kl gnm gso gmi gpa gki gmo gsz grd fs0 fs1 fs2 fs3 fqo fql yw0_21 yw1_22 yw2_23 yw3_24 yw4_25 yw5_26 ytr_27 Npb Njg Ntd Ntx Nru Zhi Z19 Z20 Z21 Z22 Z25 Z26 Z27 z31_36 z32_37 z33_38 z34_39 Z39 Z40 Fkd Fmo Fst (m_X6_counsel_ro Npb Njg Nru Fst Fro Fmo Fkd Fcd Fsr Ffa Fga v1 v2 v3) Ftp Fcd Fsr Fir Fih Fss Fsq Fce Flw Fwo Fhe ysk_40 yna_41 ykp_42 Fgb Fgo yfa_43 yga_44 yvo_45 hFX hFM hRL (rq_counsel hRQ) H _ ls (hP.sub [41, 0, 1, 59, 60, 62, 2, 3, 4, 5, 6, 61, 63, 7, 8, 9, 10, 11, 64, 42, 12, 43, 44, 45, 46, 47, 48, 49, 50, 51, 52, 53, 54, 55, 56, 57, 58, 13, 14, 15, 16, 17, 18, 19, 20, 21, 22, 23, 24, 25, 26, 27, 28, 29, 65, 66, 67, 68, 69, 70, 71, 72, 73, 74, 78, 77, 75, 76, 30, 79, 80, 31, 32, 33, 34, 35, 36, 37, 38, 81, 82, 83, 39, 40, 84, 85, 86] rfl) (hD.sub [41, 0, 1, 59, 60, 62, 2, 3, 4, 5, 6, 61, 63, 7, 8, 9, 10, 11, 64, 42, 12, 43, 44, 45, 46, 47, 48, 49, 50, 51, 52, 53, 54, 55, 56, 57, 58, 13, 14, 15, 16, 17, 18, 19, 20, 21, 22, 23, 24, 25, 26, 27, 28, 29, 65, 66, 67, 68, 69, 70, 71, 72, 73, 74, 78, 77, 75, 76, 30, 79, 80, 31, 32, 33, 34, 35, 36, 37, 38, 81, 82, 83, 39, 40, 84, 85, 86] (by decide +kernel) rfl) hS (lv_sub hl [0, 1, 2, 3] rfl)
set_option maxHeartbeats 4000000 in
set_option maxRecDepth 100000 in
theorem lc_reversed_A {p : Program} {l : Launch} {e : Env} {s : State} {m : MethodId} {below : List Frame} {meth : Method} {c : Code} {b L : Nat} {xs : Nat → Int32} {G : gG} {E : gS} {A : Nat → Prop} (C0 : lw_At p s m meth c b L xs) (hE : gE E A s s.heap) (hK : gK G s) (hAe : A = fun q => s.heap.size ≤ q) {xo tt rd nw th kp sh tu b0 co en sk c0 c1 c2 c3 c4 c5 e0 e1 e2 e3 e4 e5 n1 n2 n3 n4 n5 n6 n7 n8 t1 t2 t3 t4 t5 t6 t7 t8 k1 k2 k3 k4 k5 k6 k7 k8 qn qo ql r0 r1 r2 r3 tw tr w0 w1 w2 w3 w4 w5 mo Akd Amo Ast Aro Atp Acd Asr Air Aih Ass Asq Ace Alw Awo Ahe Ask Ana Akp Agb Ago Afa Aga Avo : Nat} {fc fe fn fw : Nat → Option Nat} {tx : Nat} {fcr0 fcr1 fcr2 fcr3 fcr4 fcr5 : Nat → Int32} {fer0 fer1 fer2 fer3 fer4 fer5 : Nat → Nat} {him x2 x3 x4 x5 : Int32} {td : Nat} {fb : Nat → Int32} {wr : Int32} {fsk : Nat → Int32} {jg pb lw : Nat} {fnm fso fmi fpa fki fmo fsz frd : Nat → Int32} {tj tb tl : Int32} {unm uso umi upa uki umo usz urd : Nat → Int32} {kj kb kl : Nat} {gnm gso gmi gpa gki gmo gsz grd fs0 fs1 fs2 fs3 fqo : Nat → Int32} {fql : Nat → Nat} {fw0 fw1 fw2 fw3 fw4 fw5 ftr : Nat → Int32} {Npb Njg Ntd Ntx Nru : Nat} {Zhi Z19 Z20 Z21 Z22 Z25 Z26 Z27 Z31 Z32 Z33 Z34 Z39 Z40 : Int32} {Fkd Fmo Fst Fro Ftp Fcd : Nat → Int32} {Fsr : Nat → Nat} {Fir Fih Fss : Nat → Int32} {Fsq : Nat → Nat} {Fce Flw Fwo Fhe Fsk Fna Fkp Fgb Fgo Ffa Fga Fvo : Nat → Int32} {sn : Nat} {v2 v3 v4 v5 v6 : Int32} {i7 : Nat} (hi : 7 * i7 + 7 ≤ L) (hL : L ≤ 3584) (hv1 : (nI sn) = xs (7 * i7 + 1)) (hv2 : v2 = xs (7 * i7 + 2)) (hv3 : v3 = xs (7 * i7 + 3)) (hv4 : v4 = xs (7 * i7 + 4)) (hv5 : v5 = xs (7 * i7 + 5)) (hv6 : v6 = xs (7 * i7 + 6)) (hsn : sn < 4) (hrw : fn sn = some r0) (hc : fc lw = some c0) (he : fe lw = some e0) (hwx : mWx fcr0 fer0) (K : LawV p l e s m below meth c b G A xo tt rd nw th kp sh tu b0 co en sk c0 c1 c2 c3 c4 c5 e0 e1 e2 e3 e4 e5 n1 n2 n3 n4 n5 n6 n7 n8 t1 t2 t3 t4 t5 t6 t7 t8 k1 k2 k3 k4 k5 k6 k7 k8 qn qo ql r0 r1 r2 r3 tw tr w0 w1 w2 w3 w4 w5 mo Akd Amo Ast Aro Atp Acd Asr Air Aih Ass Asq Ace Alw Awo Ahe Ask Ana Akp Agb Ago Afa Aga Avo fc fe fn fw tx fcr0 fcr1 fcr2 fcr3 fcr4 fcr5 fer0 fer1 fer2 fer3 fer4 fer5 (i7 + 1)) (hFX : FXP jg pb lw kj kb kl tx td him fql) (hFM : FMP Npb Njg Ntd Ntx Nru Zhi Fcd Fsr Fsq Fir Fih) (hRL : RLP False fn r0 r1 r2 r3 jg pb kj kb him fs0 fs1 fs2 fs3 fqo fql Npb Njg Zhi Fss Fsq Fce Fih) (hRQ : RQP fc c0 c1 c2 c3 c4 c5 fcr0 fcr1 fcr2 fcr3 fcr4 fcr5 fer0 fer1 fer2 fer3 fer4 fer5 pb lw tx td kb kl him fb fso fmi fpa fki fmo fsz frd gso gmi gpa gki gmo gsz grd Nru Ntx Ntd Fkd Fmo Fst Fro Ftp Fcd Fsr Fir Fih Fwo) {H : Heap} {locs : List Loc} (hP : va_P G.1 vwCl (WLd G xo tt rd nw th kp sh tu b0 co en sk c0 c1 c2 c3 c4 c5 e0 e1 e2 e3 e4 e5 n1 n2 n3 n4 n5 n6 n7 n8 t1 t2 t3 t4 t5 t6 t7 t8 k1 k2 k3 k4 k5 k6 k7 k8 qn qo ql r0 r1 r2 r3 tw tr w0 w1 w2 w3 w4 w5 mo Akd Amo Ast Aro Atp Acd Asr Air Aih Ass Asq Ace Alw Awo Ahe Ask Ana Akp Agb Ago Afa Aga Avo fc fe fn fw tx fcr0 fcr1 fcr2 fcr3 fcr4 fcr5 fer0 fer1 fer2 fer3 fer4 fer5 him x2 x3 x4 x5 td fb wr fsk jg pb lw fnm fso fmi fpa fki fmo fsz frd tj tb tl unm uso umi upa uki umo usz urd kj kb kl gnm gso gmi gpa gki gmo gsz grd fs0 fs1 fs2 fs3 fqo fql fw0 fw1 fw2 fw3 fw4 fw5 ftr Npb Njg Ntd Ntx Nru Zhi Z19 Z20 Z21 Z22 Z25 Z26 Z27 Z31 Z32 Z33 Z34 Z39 Z40 Fkd Fmo Fst Fro Ftp Fcd Fsr Fir Fih Fss Fsq Fce Flw Fwo Fhe Fsk Fna Fkp Fgb Fgo Ffa Fga Fvo) H) (hD : va_D A (WLd G xo tt rd nw th kp sh tu b0 co en sk c0 c1 c2 c3 c4 c5 e0 e1 e2 e3 e4 e5 n1 n2 n3 n4 n5 n6 n7 n8 t1 t2 t3 t4 t5 t6 t7 t8 k1 k2 k3 k4 k5 k6 k7 k8 qn qo ql r0 r1 r2 r3 tw tr w0 w1 w2 w3 w4 w5 mo Akd Amo Ast Aro Atp Acd Asr Air Aih Ass Asq Ace Alw Awo Ahe Ask Ana Akp Agb Ago Afa Aga Avo fc fe fn fw tx fcr0 fcr1 fcr2 fcr3 fcr4 fcr5 fer0 fer1 fer2 fer3 fer4 fer5 him x2 x3 x4 x5 td fb wr fsk jg pb lw fnm fso fmi fpa fki fmo fsz frd tj tb tl unm uso umi upa uki umo usz urd kj kb kl gnm gso gmi gpa gki gmo gsz grd fs0 fs1 fs2 fs3 fqo fql fw0 fw1 fw2 fw3 fw4 fw5 ftr Npb Njg Ntd Ntx Nru Zhi Z19 Z20 Z21 Z22 Z25 Z26 Z27 Z31 Z32 Z33 Z34 Z39 Z40 Fkd Fmo Fst Fro Ftp Fcd Fsr Fir Fih Fss Fsq Fce Flw Fwo Fhe Fsk Fna Fkp Fgb Fgo Ffa Fga Fvo)) (hS : va_S A s.heap H locs) {ls : Array Slot} (hl : lv_has ls 4 [zI 3 (nI (7 * i7)), zR 2 mo, zR 1 xo, zR 0 b]) : W p l e room_1 s m #[Value.ref b] below meth c H locs 87 4128 (lw_Z below #[Value.ref b] s) (F0 m 944 ls []) := by
  obtain ⟨hx, hb, hret, hml, hown, hts0, hX, hbl, hlocks, hgv⟩ := id C0
  have hts : ∀ w ∈ wsL_law, w.before #[Value.ref b] s = true := fun w h => hts0 w (wsL_law_in w h)
  have hown : s.vm.findClass RL = some m.cls := hown
  have hA : ∀ q : Nat, s.heap.size ≤ q → A q := fun q h => by rw [hAe]; exact h
  have hbA : ¬ A b := by rw [hAe]; exact Nat.not_le.mpr hbl
  obtain ⟨⟨hjg, hpb, hlw, htx, htd⟩, hkk, hql⟩ := id hFX
  obtain ⟨⟨hNpb, hNjg, hNru, hNtx, hNtd⟩, hwa, hsq, hIM⟩ := id hFM
  have hz9 : gPD G A [zo5 xo tt rd nw th kp sh tu him, zo1 rd tt b0 x2 x3 x4 x5 (nI td), zi G b0 160 fb, zo3 tt co en sk wr (nI tx), zr G co 6 fc, zi G c0 160 fcr0, zi G c1 160 fcr1, zi G c2 160 fcr2, zi G c3 160 fcr3, zi G c4 160 fcr4, zi G c5 160 fcr5, zr G en 6 fe, zi G e0 3 (nF fer0), zi G e1 3 (nF fer1), zi G e2 3 (nF fer2), zi G e3 3 (nF fer3), zi G e4 3 (nF fer4), zi G e5 3 (nF fer5), zi G sk 32 fsk, zo0 nw tt n1 n2 n3 n4 n5 n6 n7 n8 (nI jg) (nI pb) (nI lw), zi G n1 6 fnm, zi G n2 4 fso, zi G n3 4 fmi, zi G n4 4 fpa, zi G n5 6 fki, zi G n6 6 fmo, zi G n7 6 fsz, zi G n8 6 frd, zo0 th tt t1 t2 t3 t4 t5 t6 t7 t8 tj tb tl, zi G t1 6 unm, zi G t2 4 uso, zi G t3 4 umi, zi G t4 4 upa, zi G t5 6 uki, zi G t6 6 umo, zi G t7 6 usz, zi G t8 6 urd, zo0 kp tt k1 k2 k3 k4 k5 k6 k7 k8 (nI kj) (nI kb) (nI kl), zi G k1 6 gnm, zi G k2 4 gso, zi G k3 4 gmi, zi G k4 4 gpa, zi G k5 6 gki, zi G k6 6 gmo, zi G k7 6 gsz, zi G k8 6 grd, zo2 sh qn qo ql, zr G qn 4 fn, zi G r0 40 fs0, zi G r1 40 fs1, zi G r2 40 fs2, zi G r3 40 fs3, zi G qo 4 fqo, zi G ql 4 (nF fql), zo4 tu tw tr, zr G tw 6 fw, zi G w0 6 fw0, zi G w1 6 fw1, zi G w2 6 fw2, zi G w3 6 fw3, zi G w4 6 fw4, zi G w5 6 fw5, zi G tr 64 ftr, zo6 mo (nI Npb) Akd Amo Ast (nI Njg) Aro Atp (nI Ntd) Acd Asr (nI Ntx) (nI Nru) Zhi Air Aih Ass Asq Ace Alw Z19 Z20 Z21 Z22 Awo Ahe Z25 Z26 Z27 Ask Ana Akp Z31 Z32 Z33 Z34 Agb Ago Afa Aga Z39 Z40 Avo, zi G Akd 6 Fkd, zi G Amo 6 Fmo, zi G Ast 12 Fst, zi G Aro 12 Fro, zi G Atp 160 Ftp, zi G Acd 1200 Fcd, zi G Asr 24 (nF Fsr), zi G Air 24 Fir, zi G Aih 3 Fih, zi G Ass 4 Fss, zi G Asq 4 (nF Fsq), zi G Ace 160 Fce, zi G Alw 40 Flw, zi G Awo 96 Fwo, zi G Ahe 200 Fhe, zi G Ask 200 Fsk, zi G Ana 6 Fna, zi G Akp 24 Fkp, zb G Agb 61 Fgb, zb G Ago 61 Fgo, zi G Afa 36 Ffa, zi G Aga 36 Fga, zi G Avo 64 Fvo] H := ⟨hP, hD⟩
  have hP := hz9.1
  have hD := hz9.2
  refine lv_aload_n hx hb dL_law_944 rfl (lv_at hl 2 rfl) ?_
  refine lv_aload_n hx hb dL_law_945 rfl (lv_at hl 3 rfl) ?_
  refine lv_iload_n hx hb dL_law_946 rfl (lv_at hl 0 rfl) ?_
  refine lv_iconst (v := 1) hx hb dL_law_947 (by decide +kernel) ?_
  refine lv_iadd hx hb dL_law_948 ?_
  refine lv_topi (fun v_1 ev_1 => ?_)
  have ev_1 : v_1 = nI ((7 * i7) + 1) := ev_1.trans (nI_add (7 * i7) 1)
  subst ev_1
  refine va_sld hx hb hX hbl hbA hS (i := nI ((7 * i7) + 1)) (vp_in_nI (by omega) (by omega)) dL_law_949 ?_
  refine lv_topi (fun v_2 ev_2 => ?_)
  have ev_2 : (nI sn) = v_2 := (ev_2.trans (by rw [nI_clamp (by omega)]; exact hv1.symm)).symm
  subst ev_2
  refine lv_aload_n hx hb dL_law_950 rfl (lv_at hl 3 rfl) ?_
  refine lv_iload_n hx hb dL_law_951 rfl (lv_at hl 0 rfl) ?_
  refine lv_iconst (v := 2) hx hb dL_law_952 (by decide +kernel) ?_
  refine lv_iadd hx hb dL_law_953 ?_
  refine lv_topi (fun v_3 ev_3 => ?_)
  have ev_3 : v_3 = nI ((7 * i7) + 2) := ev_3.trans (nI_add (7 * i7) 2)
  subst ev_3
  refine va_sld hx hb hX hbl hbA hS (i := nI ((7 * i7) + 2)) (vp_in_nI (by omega) (by omega)) dL_law_954 ?_
  refine lv_topi (fun v_4 ev_4 => ?_)
  have ev_4 : v2 = v_4 := (ev_4.trans (by rw [nI_clamp (by omega)]; exact hv2.symm)).symm
  subst ev_4
  have hz9 : gPD G A [zo5 xo tt rd nw th kp sh tu him, zo0 nw tt n1 n2 n3 n4 n5 n6 n7 n8 (nI jg) (nI pb) (nI lw), zi G n2 4 fso, zi G n3 4 fmi, zi G n4 4 fpa, zi G n5 6 fki, zi G n6 6 fmo, zi G n7 6 fsz, zi G n8 6 frd, zo0 th tt t1 t2 t3 t4 t5 t6 t7 t8 tj tb tl, zi G t1 6 unm, zi G t2 4 uso, zi G t3 4 umi, zi G t4 4 upa, zi G t5 6 uki, zi G t6 6 umo, zi G t7 6 usz, zi G t8 6 urd, zo3 tt co en sk wr (nI tx), zr G co 6 fc, zr G en 6 fe, zi G c0 160 fcr0, zi G e0 3 (nF fer0), zi G sk 32 fsk, zo2 sh qn qo ql, zr G qn 4 fn, zi G qo 4 fqo, zi G ql 4 (nF fql), zi G r0 40 fs0] H := ⟨hP.sub [0, 19, 21, 22, 23, 24, 25, 26, 27, 28, 29, 30, 31, 32, 33, 34, 35, 36, 3, 4, 11, 5, 12, 18, 46, 47, 52, 53, 48] rfl, hD.sub [0, 19, 21, 22, 23, 24, 25, 26, 27, 28, 29, 30, 31, 32, 33, 34, 35, 36, 3, 4, 11, 5, 12, 18, 46, 47, 52, 53, 48] (by decide +kernel) rfl⟩
  have hPc := hz9.1
  have hDc := hz9.2
  have hFc := gFree hPc hD hS hA [0, 19, 21, 22, 23, 24, 25, 26, 27, 28, 29, 30, 31, 32, 33, 34, 35, 36, 3, 4, 11, 5, 12, 18, 46, 47, 52, 53, 48] rfl
  refine va_calli (va_runV (As := [.int (nI sn), .int v2]) (rest := []) ⟨hx, hb, hml, hown, hts⟩ (c_X5_reversed_A l G E xo tt rd nw th kp sh tu n1 n2 n3 n4 n5 n6 n7 n8 t1 t2 t3 t4 t5 t6 t7 t8 co en sk c0 e0 qn qo ql r0 jg pb lw tx him wr tj tb tl fc fe fn fer0 fql fso fmi fpa fki fmo fsz frd unm uso umi upa uki umo usz urd fcr0 fsk fqo fs0 sn v2 H.size (by first | exact hsn | assumption | omega) (by first | exact hrw | assumption | omega) (by first | exact hql | assumption | omega) (by first | exact htn | assumption | omega) (by first | exact hc | assumption | omega) (by first | exact he | assumption | omega) (by first | exact hwx | assumption | omega) (by first | exact hjg | assumption | omega) (by first | exact hpb | assumption | omega)) (cwV 2 hts gL_law_X5_reversed rfl rfl rfl (by decide +kernel) ⟨Nat.le_of_ble_eq_true rfl, Nat.le_of_ble_eq_true rfl⟩) ⟨gPreE_blind, va_recv hK hPc (ci := 5) (q0 := 0) rfl rfl, fun U hU hW => gPreE_of hU hW hK hPc hDc hE hS hFc⟩ rfl rfl hl.1 rfl (lv_room (Nat.le_of_ble_eq_true rfl)) dL_law_955 ⟨Nat.le_of_ble_eq_true rfl, Nat.le_of_ble_eq_true rfl⟩) hS (fun q _ h => hFc q h) hFc (fun r_5 u t H locs ht hvm w_6 hB hz1 hk1 hS => ?_)
  obtain ⟨yt1_7, yt2_8, yt3_9, yt4_10, yt5_11, yt6_12, yt7_13, yt8_14, ysk_15⟩ := u
  obtain ⟨hP1, hK1, hD1⟩ := hB
  rw [ht] at hP1
  have hz9 : gPD G (va_A _ _) [zo5 xo tt rd nw th kp sh tu him, zo0 nw tt n1 n2 n3 n4 n5 n6 n7 n8 (nI jg) (nI pb) (nI lw), zi G n2 4 fso, zi G n3 4 fmi, zi G n4 4 fpa, zi G n5 6 fki, zi G n6 6 fmo, zi G n7 6 fsz, zi G n8 6 frd, zo0 th tt t1 t2 t3 t4 t5 t6 t7 t8 (m_X5_reversed_A_th9 jg pb tj fql fqo fs0 sn v2) (m_X5_reversed_A_th10 jg pb tb fql fqo fs0 sn v2) (m_X5_reversed_A_th11 jg pb lw tl fql fqo fs0 sn v2), zi G t1 6 yt1_7, zi G t2 4 yt2_8, zi G t3 4 yt3_9, zi G t4 4 yt4_10, zi G t5 6 yt5_11, zi G t6 6 yt6_12, zi G t7 6 yt7_13, zi G t8 6 yt8_14, zo3 tt co en sk wr (nI tx), zr G co 6 fc, zr G en 6 fe, zi G c0 160 fcr0, zi G e0 3 (nF fer0), zi G sk 32 ysk_15, zo2 sh qn qo ql, zr G qn 4 fn, zi G qo 4 fqo, zi G ql 4 (nF fql), zi G r0 40 fs0] H := ⟨hP1, hD1⟩
  have hP1 := hz9.1
  have hD1 := hz9.2
  have w_6 : r_5 = m_X5_reversed_A jg pb fer0 fql fso fmi fpa fki fmo fsz frd fcr0 fqo fs0 sn v2 := w_6
  have hz9 : gPD G A [zo1 rd tt b0 x2 x3 x4 x5 (nI td), zi G b0 160 fb, zi G c1 160 fcr1, zi G c2 160 fcr2, zi G c3 160 fcr3, zi G c4 160 fcr4, zi G c5 160 fcr5, zi G e1 3 (nF fer1), zi G e2 3 (nF fer2), zi G e3 3 (nF fer3), zi G e4 3 (nF fer4), zi G e5 3 (nF fer5), zi G n1 6 fnm, zo0 kp tt k1 k2 k3 k4 k5 k6 k7 k8 (nI kj) (nI kb) (nI kl), zi G k1 6 gnm, zi G k2 4 gso, zi G k3 4 gmi, zi G k4 4 gpa, zi G k5 6 gki, zi G k6 6 gmo, zi G k7 6 gsz, zi G k8 6 grd, zi G r1 40 fs1, zi G r2 40 fs2, zi G r3 40 fs3, zo4 tu tw tr, zr G tw 6 fw, zi G w0 6 fw0, zi G w1 6 fw1, zi G w2 6 fw2, zi G w3 6 fw3, zi G w4 6 fw4, zi G w5 6 fw5, zi G tr 64 ftr, zo6 mo (nI Npb) Akd Amo Ast (nI Njg) Aro Atp (nI Ntd) Acd Asr (nI Ntx) (nI Nru) Zhi Air Aih Ass Asq Ace Alw Z19 Z20 Z21 Z22 Awo Ahe Z25 Z26 Z27 Ask Ana Akp Z31 Z32 Z33 Z34 Agb Ago Afa Aga Z39 Z40 Avo, zi G Akd 6 Fkd, zi G Amo 6 Fmo, zi G Ast 12 Fst, zi G Aro 12 Fro, zi G Atp 160 Ftp, zi G Acd 1200 Fcd, zi G Asr 24 (nF Fsr), zi G Air 24 Fir, zi G Aih 3 Fih, zi G Ass 4 Fss, zi G Asq 4 (nF Fsq), zi G Ace 160 Fce, zi G Alw 40 Flw, zi G Awo 96 Fwo, zi G Ahe 200 Fhe, zi G Ask 200 Fsk, zi G Ana 6 Fna, zi G Akp 24 Fkp, zb G Agb 61 Fgb, zb G Ago 61 Fgo, zi G Afa 36 Ffa, zi G Aga 36 Fga, zi G Avo 64 Fvo, zo5 xo tt rd nw th kp sh tu him, zo0 nw tt n1 n2 n3 n4 n5 n6 n7 n8 (nI jg) (nI pb) (nI lw), zi G n2 4 fso, zi G n3 4 fmi, zi G n4 4 fpa, zi G n5 6 fki, zi G n6 6 fmo, zi G n7 6 fsz, zi G n8 6 frd, zo0 th tt t1 t2 t3 t4 t5 t6 t7 t8 (m_X5_reversed_A_th9 jg pb tj fql fqo fs0 sn v2) (m_X5_reversed_A_th10 jg pb tb fql fqo fs0 sn v2) (m_X5_reversed_A_th11 jg pb lw tl fql fqo fs0 sn v2), zi G t1 6 yt1_7, zi G t2 4 yt2_8, zi G t3 4 yt3_9, zi G t4 4 yt4_10, zi G t5 6 yt5_11, zi G t6 6 yt6_12, zi G t7 6 yt7_13, zi G t8 6 yt8_14, zo3 tt co en sk wr (nI tx), zr G co 6 fc, zr G en 6 fe, zi G c0 160 fcr0, zi G e0 3 (nF fer0), zi G sk 32 ysk_15, zo2 sh qn qo ql, zr G qn 4 fn, zi G qo 4 fqo, zi G ql 4 (nF fql), zi G r0 40 fs0] H := gJoin hP hD hk1 hFc hP1 hD1 [0, 19, 21, 22, 23, 24, 25, 26, 27, 28, 29, 30, 31, 32, 33, 34, 35, 36, 3, 4, 11, 5, 12, 18, 46, 47, 52, 53, 48] [1, 2, 6, 7, 8, 9, 10, 13, 14, 15, 16, 17, 20, 37, 38, 39, 40, 41, 42, 43, 44, 45, 49, 50, 51, 54, 55, 56, 57, 58, 59, 60, 61, 62, 63, 64, 65, 66, 67, 68, 69, 70, 71, 72, 73, 74, 75, 76, 77, 78, 79, 80, 81, 82, 83, 84, 85, 86] rfl rfl rfl (by decide +kernel) (by decide +kernel)
  have hP := hz9.1
  have hD := hz9.2
  subst w_6
  refine lv_pop hx hb dL_law_958 rfl ?_
  refine lv_aload_n hx hb dL_law_959 rfl (lv_at hl 1 rfl) ?_
  refine lv_aload_n hx hb dL_law_960 rfl (lv_at hl 3 rfl) ?_
  refine lv_iload_n hx hb dL_law_961 rfl (lv_at hl 0 rfl) ?_
  refine lv_iconst (v := 1) hx hb dL_law_962 (by decide +kernel) ?_
  refine lv_iadd hx hb dL_law_963 ?_
  refine lv_topi (fun v_16 ev_16 => ?_)
  have ev_16 : v_16 = nI ((7 * i7) + 1) := ev_16.trans (nI_add (7 * i7) 1)
  subst ev_16
  refine va_sld hx hb hX hbl hbA hS (i := nI ((7 * i7) + 1)) (vp_in_nI (by omega) (by omega)) dL_law_964 ?_
  refine lv_topi (fun v_17 ev_17 => ?_)
  have ev_17 : (nI sn) = v_17 := (ev_17.trans (by rw [nI_clamp (by omega)]; exact hv1.symm)).symm
  subst ev_17
  refine lv_aload_n hx hb dL_law_965 rfl (lv_at hl 3 rfl) ?_
  refine lv_iload_n hx hb dL_law_966 rfl (lv_at hl 0 rfl) ?_
  refine lv_iconst (v := 2) hx hb dL_law_967 (by decide +kernel) ?_
  refine lv_iadd hx hb dL_law_968 ?_
  refine lv_topi (fun v_18 ev_18 => ?_)
  have ev_18 : v_18 = nI ((7 * i7) + 2) := ev_18.trans (nI_add (7 * i7) 2)
  subst ev_18
  refine va_sld hx hb hX hbl hbA hS (i := nI ((7 * i7) + 2)) (vp_in_nI (by omega) (by omega)) dL_law_969 ?_
  refine lv_topi (fun v_19 ev_19 => ?_)
  have ev_19 : v2 = v_19 := (ev_19.trans (by rw [nI_clamp (by omega)]; exact hv2.symm)).symm
  subst ev_19
  have hz9 : gPD G A [zo6 mo (nI Npb) Akd Amo Ast (nI Njg) Aro Atp (nI Ntd) Acd Asr (nI Ntx) (nI Nru) Zhi Air Aih Ass Asq Ace Alw Z19 Z20 Z21 Z22 Awo Ahe Z25 Z26 Z27 Ask Ana Akp Z31 Z32 Z33 Z34 Agb Ago Afa Aga Z39 Z40 Avo, zi G Ast 12 Fst, zi G Aro 12 Fro, zi G Amo 6 Fmo, zi G Akd 6 Fkd, zi G Acd 1200 Fcd, zi G Asr 24 (nF Fsr), zi G Ask 200 Fsk, zi G Ana 6 Fna, zi G Akp 24 Fkp, zi G Asq 4 (nF Fsq), zi G Ace 160 Fce, zi G Ass 4 Fss] H := ⟨hP.sub [34, 37, 38, 36, 35, 40, 41, 50, 51, 52, 45, 46, 44] rfl, hD.sub [34, 37, 38, 36, 35, 40, 41, 50, 51, 52, 45, 46, 44] (by decide +kernel) rfl⟩
  have hPc := hz9.1
  have hDc := hz9.2
  have hFc := gFree hPc hD hS hA [34, 37, 38, 36, 35, 40, 41, 50, 51, 52, 45, 46, 44] rfl
  refine va_calli (va_runV (As := [.int (nI sn), .int v2]) (rest := []) ⟨hx, hb, hml, hown, hts⟩ (c_X6_reversed l G mo Akd Amo Ast Aro Atp Acd Asr Air Aih Ass Asq Ace Alw Awo Ahe Ask Ana Akp Agb Ago Afa Aga Avo Npb Njg Ntd Ntx Nru Zhi Z19 Z20 Z21 Z22 Z25 Z26 Z27 Z31 Z32 Z33 Z34 Z39 Z40 Fst Fro Fmo Fkd Fcd Fsr Fsk Fna Fkp Fsq Fce Fss (nI sn) v2 H.size (by first | exact hsq | assumption | omega) (by first | exact hwa | assumption | omega) (by first | exact hpb | assumption | omega) (by first | exact hjg | assumption | omega) (by first | exact htx | assumption | omega) (by first | exact hru | assumption | omega)) (cwV 2 hts gL_law_X6_reversed rfl rfl rfl (by decide +kernel) ⟨Nat.le_of_ble_eq_true rfl, Nat.le_of_ble_eq_true rfl⟩) ⟨gPre_blind, va_recv hK hPc (ci := 6) (q0 := 0) rfl rfl, fun U hU hW => gPre_of hU hW hK hPc hDc⟩ rfl rfl hl.1 rfl (lv_room (Nat.le_of_ble_eq_true rfl)) dL_law_970 ⟨Nat.le_of_ble_eq_true rfl, Nat.le_of_ble_eq_true rfl⟩) hS (fun q _ h => hFc q h) hFc (fun r_20 u t H locs ht hvm w_21 hB hz1 hk1 hS => ?_)
  obtain ⟨ysk_22, yna_23, ykp_24⟩ := u
  obtain ⟨hP1, hK1, hD1⟩ := hB
  rw [ht] at hP1
  have hz9 : gPD G (va_A _ _) [zo6 mo (nI Npb) Akd Amo Ast (nI Njg) Aro Atp (nI Ntd) Acd Asr (nI Ntx) (nI Nru) Zhi Air Aih Ass Asq Ace Alw Z19 Z20 Z21 Z22 Awo Ahe Z25 Z26 Z27 Ask Ana Akp Z31 Z32 Z33 Z34 Agb Ago Afa Aga Z39 Z40 Avo, zi G Ast 12 Fst, zi G Aro 12 Fro, zi G Amo 6 Fmo, zi G Akd 6 Fkd, zi G Acd 1200 Fcd, zi G Asr 24 (nF Fsr), zi G Ask 200 ysk_22, zi G Ana 6 yna_23, zi G Akp 24 ykp_24, zi G Asq 4 (nF Fsq), zi G Ace 160 Fce, zi G Ass 4 Fss] H := ⟨hP1, hD1⟩
  have hP1 := hz9.1
  have hD1 := hz9.2
  have w_21 : r_20 = m_X6_reversed Npb Njg Nru Fst Fro Fmo Fkd Fcd Fsr Fsq Fce Fss (nI sn) v2 := w_21
  have hz9 : gPD G A [zo1 rd tt b0 x2 x3 x4 x5 (nI td), zi G b0 160 fb, zi G c1 160 fcr1, zi G c2 160 fcr2, zi G c3 160 fcr3, zi G c4 160 fcr4, zi G c5 160 fcr5, zi G e1 3 (nF fer1), zi G e2 3 (nF fer2), zi G e3 3 (nF fer3), zi G e4 3 (nF fer4), zi G e5 3 (nF fer5), zi G n1 6 fnm, zo0 kp tt k1 k2 k3 k4 k5 k6 k7 k8 (nI kj) (nI kb) (nI kl), zi G k1 6 gnm, zi G k2 4 gso, zi G k3 4 gmi, zi G k4 4 gpa, zi G k5 6 gki, zi G k6 6 gmo, zi G k7 6 gsz, zi G k8 6 grd, zi G r1 40 fs1, zi G r2 40 fs2, zi G r3 40 fs3, zo4 tu tw tr, zr G tw 6 fw, zi G w0 6 fw0, zi G w1 6 fw1, zi G w2 6 fw2, zi G w3 6 fw3, zi G w4 6 fw4, zi G w5 6 fw5, zi G tr 64 ftr, zi G Atp 160 Ftp, zi G Air 24 Fir, zi G Aih 3 Fih, zi G Alw 40 Flw, zi G Awo 96 Fwo, zi G Ahe 200 Fhe, zb G Agb 61 Fgb, zb G Ago 61 Fgo, zi G Afa 36 Ffa, zi G Aga 36 Fga, zi G Avo 64 Fvo, zo5 xo tt rd nw th kp sh tu him, zo0 nw tt n1 n2 n3 n4 n5 n6 n7 n8 (nI jg) (nI pb) (nI lw), zi G n2 4 fso, zi G n3 4 fmi, zi G n4 4 fpa, zi G n5 6 fki, zi G n6 6 fmo, zi G n7 6 fsz, zi G n8 6 frd, zo0 th tt t1 t2 t3 t4 t5 t6 t7 t8 (m_X5_reversed_A_th9 jg pb tj fql fqo fs0 sn v2) (m_X5_reversed_A_th10 jg pb tb fql fqo fs0 sn v2) (m_X5_reversed_A_th11 jg pb lw tl fql fqo fs0 sn v2), zi G t1 6 yt1_7, zi G t2 4 yt2_8, zi G t3 4 yt3_9, zi G t4 4 yt4_10, zi G t5 6 yt5_11, zi G t6 6 yt6_12, zi G t7 6 yt7_13, zi G t8 6 yt8_14, zo3 tt co en sk wr (nI tx), zr G co 6 fc, zr G en 6 fe, zi G c0 160 fcr0, zi G e0 3 (nF fer0), zi G sk 32 ysk_15, zo2 sh qn qo ql, zr G qn 4 fn, zi G qo 4 fqo, zi G ql 4 (nF fql), zi G r0 40 fs0, zo6 mo (nI Npb) Akd Amo Ast (nI Njg) Aro Atp (nI Ntd) Acd Asr (nI Ntx) (nI Nru) Zhi Air Aih Ass Asq Ace Alw Z19 Z20 Z21 Z22 Awo Ahe Z25 Z26 Z27 Ask Ana Akp Z31 Z32 Z33 Z34 Agb Ago Afa Aga Z39 Z40 Avo, zi G Ast 12 Fst, zi G Aro 12 Fro, zi G Amo 6 Fmo, zi G Akd 6 Fkd, zi G Acd 1200 Fcd, zi G Asr 24 (nF Fsr), zi G Ask 200 ysk_22, zi G Ana 6 yna_23, zi G Akp 24 ykp_24, zi G Asq 4 (nF Fsq), zi G Ace 160 Fce, zi G Ass 4 Fss] H := gJoin hP hD hk1 hFc hP1 hD1 [34, 37, 38, 36, 35, 40, 41, 50, 51, 52, 45, 46, 44] [0, 1, 2, 3, 4, 5, 6, 7, 8, 9, 10, 11, 12, 13, 14, 15, 16, 17, 18, 19, 20, 21, 22, 23, 24, 25, 26, 27, 28, 29, 30, 31, 32, 33, 39, 42, 43, 47, 48, 49, 53, 54, 55, 56, 57, 58, 59, 60, 61, 62, 63, 64, 65, 66, 67, 68, 69, 70, 71, 72, 73, 74, 75, 76, 77, 78, 79, 80, 81, 82, 83, 84, 85, 86] rfl rfl rfl (by decide +kernel) (by decide +kernel)
  have hP := hz9.1
  have hD := hz9.2
  subst w_21
  refine lv_pop hx hb dL_law_973 rfl ?_
  refine lv_goto (tgt := 1614) hx hb dL_law_974 (by decide +kernel) ?_
  refine lv_iinc (v := nI (7 * (i7 + 1))) (lv' := [zI 3 (nI (7 * (i7 + 1))), zR 2 mo, zR 1 xo, zR 0 b]) hx hb dL_law_1614 hl (k := 0) rfl (by show nI (7 * i7) + 7 = nI (7 * (i7 + 1)); exact nI_add (7 * i7) 7) (by decide +kernel) rfl (fun ls hl => ?_)
  refine lv_goto (tgt := 18) hx hb dL_law_1617 (by decide +kernel) ?_
  exact K him x2 x3 x4 x5 td fb wr ysk_15 jg pb lw fnm fso fmi fpa fki fmo fsz frd (m_X5_reversed_A_th9 jg pb tj fql fqo fs0 sn v2) (m_X5_reversed_A_th10 jg pb tb fql fqo fs0 sn v2) (m_X5_reversed_A_th11 jg pb lw tl fql fqo fs0 sn v2) yt1_7 yt2_8 yt3_9 yt4_10 yt5_11 yt6_12 yt7_13 yt8_14 kj kb kl gnm gso gmi gpa gki gmo gsz grd fs0 fs1 fs2 fs3 fqo fql fw0 fw1 fw2 fw3 fw4 fw5 ftr Npb Njg Ntd Ntx Nru Zhi Z19 Z20 Z21 Z22 Z25 Z26 Z27 Z31 Z32 Z33 Z34 Z39 Z40 Fkd Fmo Fst Fro Ftp Fcd Fsr Fir Fih Fss Fsq Fce Flw Fwo Fhe ysk_22 yna_23 ykp_24 Fgb Fgo Ffa Fga Fvo hFX hFM hRL hRQ H _ ls (hP.sub [45, 0, 1, 63, 64, 66, 2, 3, 4, 5, 6, 65, 67, 7, 8, 9, 10, 11, 68, 46, 12, 47, 48, 49, 50, 51, 52, 53, 54, 55, 56, 57, 58, 59, 60, 61, 62, 13, 14, 15, 16, 17, 18, 19, 20, 21, 69, 70, 73, 22, 23, 24, 71, 72, 25, 26, 27, 28, 29, 30, 31, 32, 33, 74, 78, 77, 75, 76, 34, 79, 80, 35, 36, 86, 84, 85, 37, 38, 39, 81, 82, 83, 40, 41, 42, 43, 44] rfl) (hD.sub [45, 0, 1, 63, 64, 66, 2, 3, 4, 5, 6, 65, 67, 7, 8, 9, 10, 11, 68, 46, 12, 47, 48, 49, 50, 51, 52, 53, 54, 55, 56, 57, 58, 59, 60, 61, 62, 13, 14, 15, 16, 17, 18, 19, 20, 21, 69, 70, 73, 22, 23, 24, 71, 72, 25, 26, 27, 28, 29, 30, 31, 32, 33, 74, 78, 77, 75, 76, 34, 79, 80, 35, 36, 86, 84, 85, 37, 38, 39, 81, 82, 83, 40, 41, 42, 43, 44] (by decide +kernel) rfl) hS (lv_sub hl [0, 1, 2, 3] rfl)
set_option maxHeartbeats 4000000 in
set_option maxRecDepth 100000 in
theorem lc_reversed_B {p : Program} {l : Launch} {e : Env} {s : State} {m : MethodId} {below : List Frame} {meth : Method} {c : Code} {b L : Nat} {xs : Nat → Int32} {G : gG} {E : gS} {A : Nat → Prop} (C0 : lw_At p s m meth c b L xs) (hE : gE E A s s.heap) (hK : gK G s) (hAe : A = fun q => s.heap.size ≤ q) {xo tt rd nw th kp sh tu b0 co en sk c0 c1 c2 c3 c4 c5 e0 e1 e2 e3 e4 e5 n1 n2 n3 n4 n5 n6 n7 n8 t1 t2 t3 t4 t5 t6 t7 t8 k1 k2 k3 k4 k5 k6 k7 k8 qn qo ql r0 r1 r2 r3 tw tr w0 w1 w2 w3 w4 w5 mo Akd Amo Ast Aro Atp Acd Asr Air Aih Ass Asq Ace Alw Awo Ahe Ask Ana Akp Agb Ago Afa Aga Avo : Nat} {fc fe fn fw : Nat → Option Nat} {tx : Nat} {fcr0 fcr1 fcr2 fcr3 fcr4 fcr5 : Nat → Int32} {fer0 fer1 fer2 fer3 fer4 fer5 : Nat → Nat} {him x2 x3 x4 x5 : Int32} {td : Nat} {fb : Nat → Int32} {wr : Int32} {fsk : Nat → Int32} {jg pb lw : Nat} {fnm fso fmi fpa fki fmo fsz frd : Nat → Int32} {tj tb tl : Int32} {unm uso umi upa uki umo usz urd : Nat → Int32} {kj kb kl : Nat} {gnm gso gmi gpa gki gmo gsz grd fs0 fs1 fs2 fs3 fqo : Nat → Int32} {fql : Nat → Nat} {fw0 fw1 fw2 fw3 fw4 fw5 ftr : Nat → Int32} {Npb Njg Ntd Ntx Nru : Nat} {Zhi Z19 Z20 Z21 Z22 Z25 Z26 Z27 Z31 Z32 Z33 Z34 Z39 Z40 : Int32} {Fkd Fmo Fst Fro Ftp Fcd : Nat → Int32} {Fsr : Nat → Nat} {Fir Fih Fss : Nat → Int32} {Fsq : Nat → Nat} {Fce Flw Fwo Fhe Fsk Fna Fkp Fgb Fgo Ffa Fga Fvo : Nat → Int32}  {v1 v2 v3 v4 v5 v6 : Int32} {i7 : Nat} (hi : 7 * i7 + 7 ≤ L) (hL : L ≤ 3584) (hv1 : v1 = xs (7 * i7 + 1)) (hv2 : v2 = xs (7 * i7 + 2)) (hv3 : v3 = xs (7 * i7 + 3)) (hv4 : v4 = xs (7 * i7 + 4)) (hv5 : v5 = xs (7 * i7 + 5)) (hv6 : v6 = xs (7 * i7 + 6)) (hno : ¬ (0 ≤ v1 ∧ v1 ≤ 3)) (K : LawV p l e s m below meth c b G A xo tt rd nw th kp sh tu b0 co en sk c0 c1 c2 c3 c4 c5 e0 e1 e2 e3 e4 e5 n1 n2 n3 n4 n5 n6 n7 n8 t1 t2 t3 t4 t5 t6 t7 t8 k1 k2 k3 k4 k5 k6 k7 k8 qn qo ql r0 r1 r2 r3 tw tr w0 w1 w2 w3 w4 w5 mo Akd Amo Ast Aro Atp Acd Asr Air Aih Ass Asq Ace Alw Awo Ahe Ask Ana Akp Agb Ago Afa Aga Avo fc fe fn fw tx fcr0 fcr1 fcr2 fcr3 fcr4 fcr5 fer0 fer1 fer2 fer3 fer4 fer5 (i7 + 1)) (hFX : FXP jg pb lw kj kb kl tx td him fql) (hFM : FMP Npb Njg Ntd Ntx Nru Zhi Fcd Fsr Fsq Fir Fih) (hRL : RLP False fn r0 r1 r2 r3 jg pb kj kb him fs0 fs1 fs2 fs3 fqo fql Npb Njg Zhi Fss Fsq Fce Fih) (hRQ : RQP fc c0 c1 c2 c3 c4 c5 fcr0 fcr1 fcr2 fcr3 fcr4 fcr5 fer0 fer1 fer2 fer3 fer4 fer5 pb lw tx td kb kl him fb fso fmi fpa fki fmo fsz frd gso gmi gpa gki gmo gsz grd Nru Ntx Ntd Fkd Fmo Fst Fro Ftp Fcd Fsr Fir Fih Fwo) {H : Heap} {locs : List Loc} (hP : va_P G.1 vwCl (WLd G xo tt rd nw th kp sh tu b0 co en sk c0 c1 c2 c3 c4 c5 e0 e1 e2 e3 e4 e5 n1 n2 n3 n4 n5 n6 n7 n8 t1 t2 t3 t4 t5 t6 t7 t8 k1 k2 k3 k4 k5 k6 k7 k8 qn qo ql r0 r1 r2 r3 tw tr w0 w1 w2 w3 w4 w5 mo Akd Amo Ast Aro Atp Acd Asr Air Aih Ass Asq Ace Alw Awo Ahe Ask Ana Akp Agb Ago Afa Aga Avo fc fe fn fw tx fcr0 fcr1 fcr2 fcr3 fcr4 fcr5 fer0 fer1 fer2 fer3 fer4 fer5 him x2 x3 x4 x5 td fb wr fsk jg pb lw fnm fso fmi fpa fki fmo fsz frd tj tb tl unm uso umi upa uki umo usz urd kj kb kl gnm gso gmi gpa gki gmo gsz grd fs0 fs1 fs2 fs3 fqo fql fw0 fw1 fw2 fw3 fw4 fw5 ftr Npb Njg Ntd Ntx Nru Zhi Z19 Z20 Z21 Z22 Z25 Z26 Z27 Z31 Z32 Z33 Z34 Z39 Z40 Fkd Fmo Fst Fro Ftp Fcd Fsr Fir Fih Fss Fsq Fce Flw Fwo Fhe Fsk Fna Fkp Fgb Fgo Ffa Fga Fvo) H) (hD : va_D A (WLd G xo tt rd nw th kp sh tu b0 co en sk c0 c1 c2 c3 c4 c5 e0 e1 e2 e3 e4 e5 n1 n2 n3 n4 n5 n6 n7 n8 t1 t2 t3 t4 t5 t6 t7 t8 k1 k2 k3 k4 k5 k6 k7 k8 qn qo ql r0 r1 r2 r3 tw tr w0 w1 w2 w3 w4 w5 mo Akd Amo Ast Aro Atp Acd Asr Air Aih Ass Asq Ace Alw Awo Ahe Ask Ana Akp Agb Ago Afa Aga Avo fc fe fn fw tx fcr0 fcr1 fcr2 fcr3 fcr4 fcr5 fer0 fer1 fer2 fer3 fer4 fer5 him x2 x3 x4 x5 td fb wr fsk jg pb lw fnm fso fmi fpa fki fmo fsz frd tj tb tl unm uso umi upa uki umo usz urd kj kb kl gnm gso gmi gpa gki gmo gsz grd fs0 fs1 fs2 fs3 fqo fql fw0 fw1 fw2 fw3 fw4 fw5 ftr Npb Njg Ntd Ntx Nru Zhi Z19 Z20 Z21 Z22 Z25 Z26 Z27 Z31 Z32 Z33 Z34 Z39 Z40 Fkd Fmo Fst Fro Ftp Fcd Fsr Fir Fih Fss Fsq Fce Flw Fwo Fhe Fsk Fna Fkp Fgb Fgo Ffa Fga Fvo)) (hS : va_S A s.heap H locs) {ls : Array Slot} (hl : lv_has ls 4 [zI 3 (nI (7 * i7)), zR 2 mo, zR 1 xo, zR 0 b]) : W p l e room_1 s m #[Value.ref b] below meth c H locs 87 4128 (lw_Z below #[Value.ref b] s) (F0 m 944 ls []) := by
  obtain ⟨hx, hb, hret, hml, hown, hts0, hX, hbl, hlocks, hgv⟩ := id C0
  have hts : ∀ w ∈ wsL_law, w.before #[Value.ref b] s = true := fun w h => hts0 w (wsL_law_in w h)
  have hown : s.vm.findClass RL = some m.cls := hown
  have hA : ∀ q : Nat, s.heap.size ≤ q → A q := fun q h => by rw [hAe]; exact h
  have hbA : ¬ A b := by rw [hAe]; exact Nat.not_le.mpr hbl
  obtain ⟨⟨hjg, hpb, hlw, htx, htd⟩, hkk, hql⟩ := id hFX
  obtain ⟨⟨hNpb, hNjg, hNru, hNtx, hNtd⟩, hwa, hsq, hIM⟩ := id hFM
  have hz9 : gPD G A [zo5 xo tt rd nw th kp sh tu him, zo1 rd tt b0 x2 x3 x4 x5 (nI td), zi G b0 160 fb, zo3 tt co en sk wr (nI tx), zr G co 6 fc, zi G c0 160 fcr0, zi G c1 160 fcr1, zi G c2 160 fcr2, zi G c3 160 fcr3, zi G c4 160 fcr4, zi G c5 160 fcr5, zr G en 6 fe, zi G e0 3 (nF fer0), zi G e1 3 (nF fer1), zi G e2 3 (nF fer2), zi G e3 3 (nF fer3), zi G e4 3 (nF fer4), zi G e5 3 (nF fer5), zi G sk 32 fsk, zo0 nw tt n1 n2 n3 n4 n5 n6 n7 n8 (nI jg) (nI pb) (nI lw), zi G n1 6 fnm, zi G n2 4 fso, zi G n3 4 fmi, zi G n4 4 fpa, zi G n5 6 fki, zi G n6 6 fmo, zi G n7 6 fsz, zi G n8 6 frd, zo0 th tt t1 t2 t3 t4 t5 t6 t7 t8 tj tb tl, zi G t1 6 unm, zi G t2 4 uso, zi G t3 4 umi, zi G t4 4 upa, zi G t5 6 uki, zi G t6 6 umo, zi G t7 6 usz, zi G t8 6 urd, zo0 kp tt k1 k2 k3 k4 k5 k6 k7 k8 (nI kj) (nI kb) (nI kl), zi G k1 6 gnm, zi G k2 4 gso, zi G k3 4 gmi, zi G k4 4 gpa, zi G k5 6 gki, zi G k6 6 gmo, zi G k7 6 gsz, zi G k8 6 grd, zo2 sh qn qo ql, zr G qn 4 fn, zi G r0 40 fs0, zi G r1 40 fs1, zi G r2 40 fs2, zi G r3 40 fs3, zi G qo 4 fqo, zi G ql 4 (nF fql), zo4 tu tw tr, zr G tw 6 fw, zi G w0 6 fw0, zi G w1 6 fw1, zi G w2 6 fw2, zi G w3 6 fw3, zi G w4 6 fw4, zi G w5 6 fw5, zi G tr 64 ftr, zo6 mo (nI Npb) Akd Amo Ast (nI Njg) Aro Atp (nI Ntd) Acd Asr (nI Ntx) (nI Nru) Zhi Air Aih Ass Asq Ace Alw Z19 Z20 Z21 Z22 Awo Ahe Z25 Z26 Z27 Ask Ana Akp Z31 Z32 Z33 Z34 Agb Ago Afa Aga Z39 Z40 Avo, zi G Akd 6 Fkd, zi G Amo 6 Fmo, zi G Ast 12 Fst, zi G Aro 12 Fro, zi G Atp 160 Ftp, zi G Acd 1200 Fcd, zi G Asr 24 (nF Fsr), zi G Air 24 Fir, zi G Aih 3 Fih, zi G Ass 4 Fss, zi G Asq 4 (nF Fsq), zi G Ace 160 Fce, zi G Alw 40 Flw, zi G Awo 96 Fwo, zi G Ahe 200 Fhe, zi G Ask 200 Fsk, zi G Ana 6 Fna, zi G Akp 24 Fkp, zb G Agb 61 Fgb, zb G Ago 61 Fgo, zi G Afa 36 Ffa, zi G Aga 36 Fga, zi G Avo 64 Fvo] H := ⟨hP, hD⟩
  have hP := hz9.1
  have hD := hz9.2
  refine lv_aload_n hx hb dL_law_944 rfl (lv_at hl 2 rfl) ?_
  refine lv_aload_n hx hb dL_law_945 rfl (lv_at hl 3 rfl) ?_
  refine lv_iload_n hx hb dL_law_946 rfl (lv_at hl 0 rfl) ?_
  refine lv_iconst (v := 1) hx hb dL_law_947 (by decide +kernel) ?_
  refine lv_iadd hx hb dL_law_948 ?_
  refine lv_topi (fun v_1 ev_1 => ?_)
  have ev_1 : v_1 = nI ((7 * i7) + 1) := ev_1.trans (nI_add (7 * i7) 1)
  subst ev_1
  refine va_sld hx hb hX hbl hbA hS (i := nI ((7 * i7) + 1)) (vp_in_nI (by omega) (by omega)) dL_law_949 ?_
  refine lv_topi (fun v_2 ev_2 => ?_)
  have ev_2 : v1 = v_2 := (ev_2.trans (by rw [nI_clamp (by omega)]; exact hv1.symm)).symm
  subst ev_2
  refine lv_aload_n hx hb dL_law_950 rfl (lv_at hl 3 rfl) ?_
  refine lv_iload_n hx hb dL_law_951 rfl (lv_at hl 0 rfl) ?_
  refine lv_iconst (v := 2) hx hb dL_law_952 (by decide +kernel) ?_
  refine lv_iadd hx hb dL_law_953 ?_
  refine lv_topi (fun v_3 ev_3 => ?_)
  have ev_3 : v_3 = nI ((7 * i7) + 2) := ev_3.trans (nI_add (7 * i7) 2)
  subst ev_3
  refine va_sld hx hb hX hbl hbA hS (i := nI ((7 * i7) + 2)) (vp_in_nI (by omega) (by omega)) dL_law_954 ?_
  refine lv_topi (fun v_4 ev_4 => ?_)
  have ev_4 : v2 = v_4 := (ev_4.trans (by rw [nI_clamp (by omega)]; exact hv2.symm)).symm
  subst ev_4
  have hz9 : gPD G A [zo5 xo tt rd nw th kp sh tu him, zo2 sh qn qo ql] H := ⟨hP.sub [0, 46] rfl, hD.sub [0, 46] (by decide +kernel) rfl⟩
  have hPc := hz9.1
  have hDc := hz9.2
  have hFc := gFree hPc hD hS hA [0, 46] rfl
  refine va_calli (va_runV (As := [.int v1, .int v2]) (rest := []) ⟨hx, hb, hml, hown, hts⟩ (c_X5_reversed_B l G E xo tt rd nw th kp sh tu qn qo ql him v1 v2 H.size (by first | exact hno | assumption | omega)) (cwV 2 hts gL_law_X5_reversed rfl rfl rfl (by decide +kernel) ⟨Nat.le_of_ble_eq_true rfl, Nat.le_of_ble_eq_true rfl⟩) ⟨gPreE_blind, va_recv hK hPc (ci := 5) (q0 := 0) rfl rfl, fun U hU hW => gPreE_of hU hW hK hPc hDc hE hS hFc⟩ rfl rfl hl.1 rfl (lv_room (Nat.le_of_ble_eq_true rfl)) dL_law_955 ⟨Nat.le_of_ble_eq_true rfl, Nat.le_of_ble_eq_true rfl⟩) hS (fun q _ h => hFc q h) hFc (fun r_5 u t H locs ht hvm w_6 hB hz1 hk1 hS => ?_)
  obtain ⟨hP1, hK1, hD1⟩ := hB
  rw [ht] at hP1
  have hz9 : gPD G (va_A _ _) [zo5 xo tt rd nw th kp sh tu him, zo2 sh qn qo ql] H := ⟨hP1, hD1⟩
  have hP1 := hz9.1
  have hD1 := hz9.2
  have w_6 : r_5 = -2 := w_6
  have hz9 : gPD G A [zo1 rd tt b0 x2 x3 x4 x5 (nI td), zi G b0 160 fb, zo3 tt co en sk wr (nI tx), zr G co 6 fc, zi G c0 160 fcr0, zi G c1 160 fcr1, zi G c2 160 fcr2, zi G c3 160 fcr3, zi G c4 160 fcr4, zi G c5 160 fcr5, zr G en 6 fe, zi G e0 3 (nF fer0), zi G e1 3 (nF fer1), zi G e2 3 (nF fer2), zi G e3 3 (nF fer3), zi G e4 3 (nF fer4), zi G e5 3 (nF fer5), zi G sk 32 fsk, zo0 nw tt n1 n2 n3 n4 n5 n6 n7 n8 (nI jg) (nI pb) (nI lw), zi G n1 6 fnm, zi G n2 4 fso, zi G n3 4 fmi, zi G n4 4 fpa, zi G n5 6 fki, zi G n6 6 fmo, zi G n7 6 fsz, zi G n8 6 frd, zo0 th tt t1 t2 t3 t4 t5 t6 t7 t8 tj tb tl, zi G t1 6 unm, zi G t2 4 uso, zi G t3 4 umi, zi G t4 4 upa, zi G t5 6 uki, zi G t6 6 umo, zi G t7 6 usz, zi G t8 6 urd, zo0 kp tt k1 k2 k3 k4 k5 k6 k7 k8 (nI kj) (nI kb) (nI kl), zi G k1 6 gnm, zi G k2 4 gso, zi G k3 4 gmi, zi G k4 4 gpa, zi G k5 6 gki, zi G k6 6 gmo, zi G k7 6 gsz, zi G k8 6 grd, zr G qn 4 fn, zi G r0 40 fs0, zi G r1 40 fs1, zi G r2 40 fs2, zi G r3 40 fs3, zi G qo 4 fqo, zi G ql 4 (nF fql), zo4 tu tw tr, zr G tw 6 fw, zi G w0 6 fw0, zi G w1 6 fw1, zi G w2 6 fw2, zi G w3 6 fw3, zi G w4 6 fw4, zi G w5 6 fw5, zi G tr 64 ftr, zo6 mo (nI Npb) Akd Amo Ast (nI Njg) Aro Atp (nI Ntd) Acd Asr (nI Ntx) (nI Nru) Zhi Air Aih Ass Asq Ace Alw Z19 Z20 Z21 Z22 Awo Ahe Z25 Z26 Z27 Ask Ana Akp Z31 Z32 Z33 Z34 Agb Ago Afa Aga Z39 Z40 Avo, zi G Akd 6 Fkd, zi G Amo 6 Fmo, zi G Ast 12 Fst, zi G Aro 12 Fro, zi G Atp 160 Ftp, zi G Acd 1200 Fcd, zi G Asr 24 (nF Fsr), zi G Air 24 Fir, zi G Aih 3 Fih, zi G Ass 4 Fss, zi G Asq 4 (nF Fsq), zi G Ace 160 Fce, zi G Alw 40 Flw, zi G Awo 96 Fwo, zi G Ahe 200 Fhe, zi G Ask 200 Fsk, zi G Ana 6 Fna, zi G Akp 24 Fkp, zb G Agb 61 Fgb, zb G Ago 61 Fgo, zi G Afa 36 Ffa, zi G Aga 36 Fga, zi G Avo 64 Fvo, zo5 xo tt rd nw th kp sh tu him, zo2 sh qn qo ql] H := gJoin hP hD hk1 hFc hP1 hD1 [0, 46] [1, 2, 3, 4, 5, 6, 7, 8, 9, 10, 11, 12, 13, 14, 15, 16, 17, 18, 19, 20, 21, 22, 23, 24, 25, 26, 27, 28, 29, 30, 31, 32, 33, 34, 35, 36, 37, 38, 39, 40, 41, 42, 43, 44, 45, 47, 48, 49, 50, 51, 52, 53, 54, 55, 56, 57, 58, 59, 60, 61, 62, 63, 64, 65, 66, 67, 68, 69, 70, 71, 72, 73, 74, 75, 76, 77, 78, 79, 80, 81, 82, 83, 84, 85, 86] rfl rfl rfl (by decide +kernel) (by decide +kernel)
  have hP := hz9.1
  have hD := hz9.2
  subst w_6
  refine lv_pop hx hb dL_law_958 rfl ?_
  refine lv_aload_n hx hb dL_law_959 rfl (lv_at hl 1 rfl) ?_
  refine lv_aload_n hx hb dL_law_960 rfl (lv_at hl 3 rfl) ?_
  refine lv_iload_n hx hb dL_law_961 rfl (lv_at hl 0 rfl) ?_
  refine lv_iconst (v := 1) hx hb dL_law_962 (by decide +kernel) ?_
  refine lv_iadd hx hb dL_law_963 ?_
  refine lv_topi (fun v_7 ev_7 => ?_)
  have ev_7 : v_7 = nI ((7 * i7) + 1) := ev_7.trans (nI_add (7 * i7) 1)
  subst ev_7
  refine va_sld hx hb hX hbl hbA hS (i := nI ((7 * i7) + 1)) (vp_in_nI (by omega) (by omega)) dL_law_964 ?_
  refine lv_topi (fun v_8 ev_8 => ?_)
  have ev_8 : v1 = v_8 := (ev_8.trans (by rw [nI_clamp (by omega)]; exact hv1.symm)).symm
  subst ev_8
  refine lv_aload_n hx hb dL_law_965 rfl (lv_at hl 3 rfl) ?_
  refine lv_iload_n hx hb dL_law_966 rfl (lv_at hl 0 rfl) ?_
  refine lv_iconst (v := 2) hx hb dL_law_967 (by decide +kernel) ?_
  refine lv_iadd hx hb dL_law_968 ?_
  refine lv_topi (fun v_9 ev_9 => ?_)
  have ev_9 : v_9 = nI ((7 * i7) + 2) := ev_9.trans (nI_add (7 * i7) 2)
  subst ev_9
  refine va_sld hx hb hX hbl hbA hS (i := nI ((7 * i7) + 2)) (vp_in_nI (by omega) (by omega)) dL_law_969 ?_
  refine lv_topi (fun v_10 ev_10 => ?_)
  have ev_10 : v2 = v_10 := (ev_10.trans (by rw [nI_clamp (by omega)]; exact hv2.symm)).symm
  subst ev_10
  have hz9 : gPD G A [zo6 mo (nI Npb) Akd Amo Ast (nI Njg) Aro Atp (nI Ntd) Acd Asr (nI Ntx) (nI Nru) Zhi Air Aih Ass Asq Ace Alw Z19 Z20 Z21 Z22 Awo Ahe Z25 Z26 Z27 Ask Ana Akp Z31 Z32 Z33 Z34 Agb Ago Afa Aga Z39 Z40 Avo, zi G Ast 12 Fst, zi G Aro 12 Fro, zi G Amo 6 Fmo, zi G Akd 6 Fkd, zi G Acd 1200 Fcd, zi G Asr 24 (nF Fsr), zi G Ask 200 Fsk, zi G Ana 6 Fna, zi G Akp 24 Fkp, zi G Asq 4 (nF Fsq), zi G Ace 160 Fce, zi G Ass 4 Fss] H := ⟨hP.sub [61, 64, 65, 63, 62, 67, 68, 77, 78, 79, 72, 73, 71] rfl, hD.sub [61, 64, 65, 63, 62, 67, 68, 77, 78, 79, 72, 73, 71] (by decide +kernel) rfl⟩
  have hPc := hz9.1
  have hDc := hz9.2
  have hFc := gFree hPc hD hS hA [61, 64, 65, 63, 62, 67, 68, 77, 78, 79, 72, 73, 71] rfl
  refine va_calli (va_runV (As := [.int v1, .int v2]) (rest := []) ⟨hx, hb, hml, hown, hts⟩ (c_X6_reversed l G mo Akd Amo Ast Aro Atp Acd Asr Air Aih Ass Asq Ace Alw Awo Ahe Ask Ana Akp Agb Ago Afa Aga Avo Npb Njg Ntd Ntx Nru Zhi Z19 Z20 Z21 Z22 Z25 Z26 Z27 Z31 Z32 Z33 Z34 Z39 Z40 Fst Fro Fmo Fkd Fcd Fsr Fsk Fna Fkp Fsq Fce Fss v1 v2 H.size (by first | exact hsq | assumption | omega) (by first | exact hwa | assumption | omega) (by first | exact hpb | assumption | omega) (by first | exact hjg | assumption | omega) (by first | exact htx | assumption | omega) (by first | exact hru | assumption | omega)) (cwV 2 hts gL_law_X6_reversed rfl rfl rfl (by decide +kernel) ⟨Nat.le_of_ble_eq_true rfl, Nat.le_of_ble_eq_true rfl⟩) ⟨gPre_blind, va_recv hK hPc (ci := 6) (q0 := 0) rfl rfl, fun U hU hW => gPre_of hU hW hK hPc hDc⟩ rfl rfl hl.1 rfl (lv_room (Nat.le_of_ble_eq_true rfl)) dL_law_970 ⟨Nat.le_of_ble_eq_true rfl, Nat.le_of_ble_eq_true rfl⟩) hS (fun q _ h => hFc q h) hFc (fun r_11 u t H locs ht hvm w_12 hB hz1 hk1 hS => ?_)
  obtain ⟨ysk_13, yna_14, ykp_15⟩ := u
  obtain ⟨hP1, hK1, hD1⟩ := hB
  rw [ht] at hP1
  have hz9 : gPD G (va_A _ _) [zo6 mo (nI Npb) Akd Amo Ast (nI Njg) Aro Atp (nI Ntd) Acd Asr (nI Ntx) (nI Nru) Zhi Air Aih Ass Asq Ace Alw Z19 Z20 Z21 Z22 Awo Ahe Z25 Z26 Z27 Ask Ana Akp Z31 Z32 Z33 Z34 Agb Ago Afa Aga Z39 Z40 Avo, zi G Ast 12 Fst, zi G Aro 12 Fro, zi G Amo 6 Fmo, zi G Akd 6 Fkd, zi G Acd 1200 Fcd, zi G Asr 24 (nF Fsr), zi G Ask 200 ysk_13, zi G Ana 6 yna_14, zi G Akp 24 ykp_15, zi G Asq 4 (nF Fsq), zi G Ace 160 Fce, zi G Ass 4 Fss] H := ⟨hP1, hD1⟩
  have hP1 := hz9.1
  have hD1 := hz9.2
  have w_12 : r_11 = m_X6_reversed Npb Njg Nru Fst Fro Fmo Fkd Fcd Fsr Fsq Fce Fss v1 v2 := w_12
  have hz9 : gPD G A [zo1 rd tt b0 x2 x3 x4 x5 (nI td), zi G b0 160 fb, zo3 tt co en sk wr (nI tx), zr G co 6 fc, zi G c0 160 fcr0, zi G c1 160 fcr1, zi G c2 160 fcr2, zi G c3 160 fcr3, zi G c4 160 fcr4, zi G c5 160 fcr5, zr G en 6 fe, zi G e0 3 (nF fer0), zi G e1 3 (nF fer1), zi G e2 3 (nF fer2), zi G e3 3 (nF fer3), zi G e4 3 (nF fer4), zi G e5 3 (nF fer5), zi G sk 32 fsk, zo0 nw tt n1 n2 n3 n4 n5 n6 n7 n8 (nI jg) (nI pb) (nI lw), zi G n1 6 fnm, zi G n2 4 fso, zi G n3 4 fmi, zi G n4 4 fpa, zi G n5 6 fki, zi G n6 6 fmo, zi G n7 6 fsz, zi G n8 6 frd, zo0 th tt t1 t2 t3 t4 t5 t6 t7 t8 tj tb tl, zi G t1 6 unm, zi G t2 4 uso, zi G t3 4 umi, zi G t4 4 upa, zi G t5 6 uki, zi G t6 6 umo, zi G t7 6 usz, zi G t8 6 urd, zo0 kp tt k1 k2 k3 k4 k5 k6 k7 k8 (nI kj) (nI kb) (nI kl), zi G k1 6 gnm, zi G k2 4 gso, zi G k3 4 gmi, zi G k4 4 gpa, zi G k5 6 gki, zi G k6 6 gmo, zi G k7 6 gsz, zi G k8 6 grd, zr G qn 4 fn, zi G r0 40 fs0, zi G r1 40 fs1, zi G r2 40 fs2, zi G r3 40 fs3, zi G qo 4 fqo, zi G ql 4 (nF fql), zo4 tu tw tr, zr G tw 6 fw, zi G w0 6 fw0, zi G w1 6 fw1, zi G w2 6 fw2, zi G w3 6 fw3, zi G w4 6 fw4, zi G w5 6 fw5, zi G tr 64 ftr, zi G Atp 160 Ftp, zi G Air 24 Fir, zi G Aih 3 Fih, zi G Alw 40 Flw, zi G Awo 96 Fwo, zi G Ahe 200 Fhe, zb G Agb 61 Fgb, zb G Ago 61 Fgo, zi G Afa 36 Ffa, zi G Aga 36 Fga, zi G Avo 64 Fvo, zo5 xo tt rd nw th kp sh tu him, zo2 sh qn qo ql, zo6 mo (nI Npb) Akd Amo Ast (nI Njg) Aro Atp (nI Ntd) Acd Asr (nI Ntx) (nI Nru) Zhi Air Aih Ass Asq Ace Alw Z19 Z20 Z21 Z22 Awo Ahe Z25 Z26 Z27 Ask Ana Akp Z31 Z32 Z33 Z34 Agb Ago Afa Aga Z39 Z40 Avo, zi G Ast 12 Fst, zi G Aro 12 Fro, zi G Amo 6 Fmo, zi G Akd 6 Fkd, zi G Acd 1200 Fcd, zi G Asr 24 (nF Fsr), zi G Ask 200 ysk_13, zi G Ana 6 yna_14, zi G Akp 24 ykp_15, zi G Asq 4 (nF Fsq), zi G Ace 160 Fce, zi G Ass 4 Fss] H := gJoin hP hD hk1 hFc hP1 hD1 [61, 64, 65, 63, 62, 67, 68, 77, 78, 79, 72, 73, 71] [0, 1, 2, 3, 4, 5, 6, 7, 8, 9, 10, 11, 12, 13, 14, 15, 16, 17, 18, 19, 20, 21, 22, 23, 24, 25, 26, 27, 28, 29, 30, 31, 32, 33, 34, 35, 36, 37, 38, 39, 40, 41, 42, 43, 44, 45, 46, 47, 48, 49, 50, 51, 52, 53, 54, 55, 56, 57, 58, 59, 60, 66, 69, 70, 74, 75, 76, 80, 81, 82, 83, 84, 85, 86] rfl rfl rfl (by decide +kernel) (by decide +kernel)
  have hP := hz9.1
  have hD := hz9.2
  subst w_12
  refine lv_pop hx hb dL_law_973 rfl ?_
  refine lv_goto (tgt := 1614) hx hb dL_law_974 (by decide +kernel) ?_
  refine lv_iinc (v := nI (7 * (i7 + 1))) (lv' := [zI 3 (nI (7 * (i7 + 1))), zR 2 mo, zR 1 xo, zR 0 b]) hx hb dL_law_1614 hl (k := 0) rfl (by show nI (7 * i7) + 7 = nI (7 * (i7 + 1)); exact nI_add (7 * i7) 7) (by decide +kernel) rfl (fun ls hl => ?_)
  refine lv_goto (tgt := 18) hx hb dL_law_1617 (by decide +kernel) ?_
  exact K him x2 x3 x4 x5 td fb wr fsk jg pb lw fnm fso fmi fpa fki fmo fsz frd tj tb tl unm uso umi upa uki umo usz urd kj kb kl gnm gso gmi gpa gki gmo gsz grd fs0 fs1 fs2 fs3 fqo fql fw0 fw1 fw2 fw3 fw4 fw5 ftr Npb Njg Ntd Ntx Nru Zhi Z19 Z20 Z21 Z22 Z25 Z26 Z27 Z31 Z32 Z33 Z34 Z39 Z40 Fkd Fmo Fst Fro Ftp Fcd Fsr Fir Fih Fss Fsq Fce Flw Fwo Fhe ysk_13 yna_14 ykp_15 Fgb Fgo Ffa Fga Fvo hFX hFM hRL hRQ H _ ls (hP.sub [72, 0, 1, 2, 3, 4, 5, 6, 7, 8, 9, 10, 11, 12, 13, 14, 15, 16, 17, 18, 19, 20, 21, 22, 23, 24, 25, 26, 27, 28, 29, 30, 31, 32, 33, 34, 35, 36, 37, 38, 39, 40, 41, 42, 43, 44, 73, 45, 46, 47, 48, 49, 50, 51, 52, 53, 54, 55, 56, 57, 58, 59, 60, 74, 78, 77, 75, 76, 61, 79, 80, 62, 63, 86, 84, 85, 64, 65, 66, 81, 82, 83, 67, 68, 69, 70, 71] rfl) (hD.sub [72, 0, 1, 2, 3, 4, 5, 6, 7, 8, 9, 10, 11, 12, 13, 14, 15, 16, 17, 18, 19, 20, 21, 22, 23, 24, 25, 26, 27, 28, 29, 30, 31, 32, 33, 34, 35, 36, 37, 38, 39, 40, 41, 42, 43, 44, 73, 45, 46, 47, 48, 49, 50, 51, 52, 53, 54, 55, 56, 57, 58, 59, 60, 74, 78, 77, 75, 76, 61, 79, 80, 62, 63, 86, 84, 85, 64, 65, 66, 81, 82, 83, 67, 68, 69, 70, 71] (by decide +kernel) rfl) hS (lv_sub hl [0, 1, 2, 3] rfl)
set_option maxHeartbeats 4000000 in
set_option maxRecDepth 100000 in
theorem lc_kinds_A {p : Program} {l : Launch} {e : Env} {s : State} {m : MethodId} {below : List Frame} {meth : Method} {c : Code} {b L : Nat} {xs : Nat → Int32} {G : gG} {E : gS} {A : Nat → Prop} (C0 : lw_At p s m meth c b L xs) (hE : gE E A s s.heap) (hK : gK G s) (hAe : A = fun q => s.heap.size ≤ q) {xo tt rd nw th kp sh tu b0 co en sk c0 c1 c2 c3 c4 c5 e0 e1 e2 e3 e4 e5 n1 n2 n3 n4 n5 n6 n7 n8 t1 t2 t3 t4 t5 t6 t7 t8 k1 k2 k3 k4 k5 k6 k7 k8 qn qo ql r0 r1 r2 r3 tw tr w0 w1 w2 w3 w4 w5 mo Akd Amo Ast Aro Atp Acd Asr Air Aih Ass Asq Ace Alw Awo Ahe Ask Ana Akp Agb Ago Afa Aga Avo : Nat} {fc fe fn fw : Nat → Option Nat} {tx : Nat} {fcr0 fcr1 fcr2 fcr3 fcr4 fcr5 : Nat → Int32} {fer0 fer1 fer2 fer3 fer4 fer5 : Nat → Nat} {him x2 x3 x4 x5 : Int32} {td : Nat} {fb : Nat → Int32} {wr : Int32} {fsk : Nat → Int32} {jg pb lw : Nat} {fnm fso fmi fpa fki fmo fsz frd : Nat → Int32} {tj tb tl : Int32} {unm uso umi upa uki umo usz urd : Nat → Int32} {kj kb kl : Nat} {gnm gso gmi gpa gki gmo gsz grd fs0 fs1 fs2 fs3 fqo : Nat → Int32} {fql : Nat → Nat} {fw0 fw1 fw2 fw3 fw4 fw5 ftr : Nat → Int32} {Npb Njg Ntd Ntx Nru : Nat} {Zhi Z19 Z20 Z21 Z22 Z25 Z26 Z27 Z31 Z32 Z33 Z34 Z39 Z40 : Int32} {Fkd Fmo Fst Fro Ftp Fcd : Nat → Int32} {Fsr : Nat → Nat} {Fir Fih Fss : Nat → Int32} {Fsq : Nat → Nat} {Fce Flw Fwo Fhe Fsk Fna Fkp Fgb Fgo Ffa Fga Fvo : Nat → Int32} {sn : Nat} {v2 v3 v4 v5 v6 : Int32} {i7 : Nat} (hi : 7 * i7 + 7 ≤ L) (hL : L ≤ 3584) (hv1 : (nI sn) = xs (7 * i7 + 1)) (hv2 : v2 = xs (7 * i7 + 2)) (hv3 : v3 = xs (7 * i7 + 3)) (hv4 : v4 = xs (7 * i7 + 4)) (hv5 : v5 = xs (7 * i7 + 5)) (hv6 : v6 = xs (7 * i7 + 6)) (hsn : sn < 4) (hrw : fn sn = some r0) (hc : fc lw = some c0) (he : fe lw = some e0) (hwx : mWx fcr0 fer0) (K : LawV p l e s m below meth c b G A xo tt rd nw th kp sh tu b0 co en sk c0 c1 c2 c3 c4 c5 e0 e1 e2 e3 e4 e5 n1 n2 n3 n4 n5 n6 n7 n8 t1 t2 t3 t4 t5 t6 t7 t8 k1 k2 k3 k4 k5 k6 k7 k8 qn qo ql r0 r1 r2 r3 tw tr w0 w1 w2 w3 w4 w5 mo Akd Amo Ast Aro Atp Acd Asr Air Aih Ass Asq Ace Alw Awo Ahe Ask Ana Akp Agb Ago Afa Aga Avo fc fe fn fw tx fcr0 fcr1 fcr2 fcr3 fcr4 fcr5 fer0 fer1 fer2 fer3 fer4 fer5 (i7 + 1)) (hFX : FXP jg pb lw kj kb kl tx td him fql) (hFM : FMP Npb Njg Ntd Ntx Nru Zhi Fcd Fsr Fsq Fir Fih) (hRL : RLP False fn r0 r1 r2 r3 jg pb kj kb him fs0 fs1 fs2 fs3 fqo fql Npb Njg Zhi Fss Fsq Fce Fih) (hRQ : RQP fc c0 c1 c2 c3 c4 c5 fcr0 fcr1 fcr2 fcr3 fcr4 fcr5 fer0 fer1 fer2 fer3 fer4 fer5 pb lw tx td kb kl him fb fso fmi fpa fki fmo fsz frd gso gmi gpa gki gmo gsz grd Nru Ntx Ntd Fkd Fmo Fst Fro Ftp Fcd Fsr Fir Fih Fwo) {H : Heap} {locs : List Loc} (hP : va_P G.1 vwCl (WLd G xo tt rd nw th kp sh tu b0 co en sk c0 c1 c2 c3 c4 c5 e0 e1 e2 e3 e4 e5 n1 n2 n3 n4 n5 n6 n7 n8 t1 t2 t3 t4 t5 t6 t7 t8 k1 k2 k3 k4 k5 k6 k7 k8 qn qo ql r0 r1 r2 r3 tw tr w0 w1 w2 w3 w4 w5 mo Akd Amo Ast Aro Atp Acd Asr Air Aih Ass Asq Ace Alw Awo Ahe Ask Ana Akp Agb Ago Afa Aga Avo fc fe fn fw tx fcr0 fcr1 fcr2 fcr3 fcr4 fcr5 fer0 fer1 fer2 fer3 fer4 fer5 him x2 x3 x4 x5 td fb wr fsk jg pb lw fnm fso fmi fpa fki fmo fsz frd tj tb tl unm uso umi upa uki umo usz urd kj kb kl gnm gso gmi gpa gki gmo gsz grd fs0 fs1 fs2 fs3 fqo fql fw0 fw1 fw2 fw3 fw4 fw5 ftr Npb Njg Ntd Ntx Nru Zhi Z19 Z20 Z21 Z22 Z25 Z26 Z27 Z31 Z32 Z33 Z34 Z39 Z40 Fkd Fmo Fst Fro Ftp Fcd Fsr Fir Fih Fss Fsq Fce Flw Fwo Fhe Fsk Fna Fkp Fgb Fgo Ffa Fga Fvo) H) (hD : va_D A (WLd G xo tt rd nw th kp sh tu b0 co en sk c0 c1 c2 c3 c4 c5 e0 e1 e2 e3 e4 e5 n1 n2 n3 n4 n5 n6 n7 n8 t1 t2 t3 t4 t5 t6 t7 t8 k1 k2 k3 k4 k5 k6 k7 k8 qn qo ql r0 r1 r2 r3 tw tr w0 w1 w2 w3 w4 w5 mo Akd Amo Ast Aro Atp Acd Asr Air Aih Ass Asq Ace Alw Awo Ahe Ask Ana Akp Agb Ago Afa Aga Avo fc fe fn fw tx fcr0 fcr1 fcr2 fcr3 fcr4 fcr5 fer0 fer1 fer2 fer3 fer4 fer5 him x2 x3 x4 x5 td fb wr fsk jg pb lw fnm fso fmi fpa fki fmo fsz frd tj tb tl unm uso umi upa uki umo usz urd kj kb kl gnm gso gmi gpa gki gmo gsz grd fs0 fs1 fs2 fs3 fqo fql fw0 fw1 fw2 fw3 fw4 fw5 ftr Npb Njg Ntd Ntx Nru Zhi Z19 Z20 Z21 Z22 Z25 Z26 Z27 Z31 Z32 Z33 Z34 Z39 Z40 Fkd Fmo Fst Fro Ftp Fcd Fsr Fir Fih Fss Fsq Fce Flw Fwo Fhe Fsk Fna Fkp Fgb Fgo Ffa Fga Fvo)) (hS : va_S A s.heap H locs) {ls : Array Slot} (hl : lv_has ls 4 [zI 3 (nI (7 * i7)), zR 2 mo, zR 1 xo, zR 0 b]) : W p l e room_1 s m #[Value.ref b] below meth c H locs 87 4128 (lw_Z below #[Value.ref b] s) (F0 m 977 ls []) := by
  obtain ⟨hx, hb, hret, hml, hown, hts0, hX, hbl, hlocks, hgv⟩ := id C0
  have hts : ∀ w ∈ wsL_law, w.before #[Value.ref b] s = true := fun w h => hts0 w (wsL_law_in w h)
  have hown : s.vm.findClass RL = some m.cls := hown
  have hA : ∀ q : Nat, s.heap.size ≤ q → A q := fun q h => by rw [hAe]; exact h
  have hbA : ¬ A b := by rw [hAe]; exact Nat.not_le.mpr hbl
  obtain ⟨⟨hjg, hpb, hlw, htx, htd⟩, hkk, hql⟩ := id hFX
  obtain ⟨⟨hNpb, hNjg, hNru, hNtx, hNtd⟩, hwa, hsq, hIM⟩ := id hFM
  have hz9 : gPD G A [zo5 xo tt rd nw th kp sh tu him, zo1 rd tt b0 x2 x3 x4 x5 (nI td), zi G b0 160 fb, zo3 tt co en sk wr (nI tx), zr G co 6 fc, zi G c0 160 fcr0, zi G c1 160 fcr1, zi G c2 160 fcr2, zi G c3 160 fcr3, zi G c4 160 fcr4, zi G c5 160 fcr5, zr G en 6 fe, zi G e0 3 (nF fer0), zi G e1 3 (nF fer1), zi G e2 3 (nF fer2), zi G e3 3 (nF fer3), zi G e4 3 (nF fer4), zi G e5 3 (nF fer5), zi G sk 32 fsk, zo0 nw tt n1 n2 n3 n4 n5 n6 n7 n8 (nI jg) (nI pb) (nI lw), zi G n1 6 fnm, zi G n2 4 fso, zi G n3 4 fmi, zi G n4 4 fpa, zi G n5 6 fki, zi G n6 6 fmo, zi G n7 6 fsz, zi G n8 6 frd, zo0 th tt t1 t2 t3 t4 t5 t6 t7 t8 tj tb tl, zi G t1 6 unm, zi G t2 4 uso, zi G t3 4 umi, zi G t4 4 upa, zi G t5 6 uki, zi G t6 6 umo, zi G t7 6 usz, zi G t8 6 urd, zo0 kp tt k1 k2 k3 k4 k5 k6 k7 k8 (nI kj) (nI kb) (nI kl), zi G k1 6 gnm, zi G k2 4 gso, zi G k3 4 gmi, zi G k4 4 gpa, zi G k5 6 gki, zi G k6 6 gmo, zi G k7 6 gsz, zi G k8 6 grd, zo2 sh qn qo ql, zr G qn 4 fn, zi G r0 40 fs0, zi G r1 40 fs1, zi G r2 40 fs2, zi G r3 40 fs3, zi G qo 4 fqo, zi G ql 4 (nF fql), zo4 tu tw tr, zr G tw 6 fw, zi G w0 6 fw0, zi G w1 6 fw1, zi G w2 6 fw2, zi G w3 6 fw3, zi G w4 6 fw4, zi G w5 6 fw5, zi G tr 64 ftr, zo6 mo (nI Npb) Akd Amo Ast (nI Njg) Aro Atp (nI Ntd) Acd Asr (nI Ntx) (nI Nru) Zhi Air Aih Ass Asq Ace Alw Z19 Z20 Z21 Z22 Awo Ahe Z25 Z26 Z27 Ask Ana Akp Z31 Z32 Z33 Z34 Agb Ago Afa Aga Z39 Z40 Avo, zi G Akd 6 Fkd, zi G Amo 6 Fmo, zi G Ast 12 Fst, zi G Aro 12 Fro, zi G Atp 160 Ftp, zi G Acd 1200 Fcd, zi G Asr 24 (nF Fsr), zi G Air 24 Fir, zi G Aih 3 Fih, zi G Ass 4 Fss, zi G Asq 4 (nF Fsq), zi G Ace 160 Fce, zi G Alw 40 Flw, zi G Awo 96 Fwo, zi G Ahe 200 Fhe, zi G Ask 200 Fsk, zi G Ana 6 Fna, zi G Akp 24 Fkp, zb G Agb 61 Fgb, zb G Ago 61 Fgo, zi G Afa 36 Ffa, zi G Aga 36 Fga, zi G Avo 64 Fvo] H := ⟨hP, hD⟩
  have hP := hz9.1
  have hD := hz9.2
  refine lv_aload_n hx hb dL_law_977 rfl (lv_at hl 2 rfl) ?_
  refine lv_aload_n hx hb dL_law_978 rfl (lv_at hl 3 rfl) ?_
  refine lv_iload_n hx hb dL_law_979 rfl (lv_at hl 0 rfl) ?_
  refine lv_iconst (v := 1) hx hb dL_law_980 (by decide +kernel) ?_
  refine lv_iadd hx hb dL_law_981 ?_
  refine lv_topi (fun v_1 ev_1 => ?_)
  have ev_1 : v_1 = nI ((7 * i7) + 1) := ev_1.trans (nI_add (7 * i7) 1)
  subst ev_1
  refine va_sld hx hb hX hbl hbA hS (i := nI ((7 * i7) + 1)) (vp_in_nI (by omega) (by omega)) dL_law_982 ?_
  refine lv_topi (fun v_2 ev_2 => ?_)
  have ev_2 : (nI sn) = v_2 := (ev_2.trans (by rw [nI_clamp (by omega)]; exact hv1.symm)).symm
  subst ev_2
  refine lv_aload_n hx hb dL_law_983 rfl (lv_at hl 3 rfl) ?_
  refine lv_iload_n hx hb dL_law_984 rfl (lv_at hl 0 rfl) ?_
  refine lv_iconst (v := 2) hx hb dL_law_985 (by decide +kernel) ?_
  refine lv_iadd hx hb dL_law_986 ?_
  refine lv_topi (fun v_3 ev_3 => ?_)
  have ev_3 : v_3 = nI ((7 * i7) + 2) := ev_3.trans (nI_add (7 * i7) 2)
  subst ev_3
  refine va_sld hx hb hX hbl hbA hS (i := nI ((7 * i7) + 2)) (vp_in_nI (by omega) (by omega)) dL_law_987 ?_
  refine lv_topi (fun v_4 ev_4 => ?_)
  have ev_4 : v2 = v_4 := (ev_4.trans (by rw [nI_clamp (by omega)]; exact hv2.symm)).symm
  subst ev_4
  refine lv_aload_n hx hb dL_law_988 rfl (lv_at hl 3 rfl) ?_
  refine lv_iload_n hx hb dL_law_989 rfl (lv_at hl 0 rfl) ?_
  refine lv_iconst (v := 3) hx hb dL_law_990 (by decide +kernel) ?_
  refine lv_iadd hx hb dL_law_991 ?_
  refine lv_topi (fun v_5 ev_5 => ?_)
  have ev_5 : v_5 = nI ((7 * i7) + 3) := ev_5.trans (nI_add (7 * i7) 3)
  subst ev_5
  refine va_sld hx hb hX hbl hbA hS (i := nI ((7 * i7) + 3)) (vp_in_nI (by omega) (by omega)) dL_law_992 ?_
  refine lv_topi (fun v_6 ev_6 => ?_)
  have ev_6 : v3 = v_6 := (ev_6.trans (by rw [nI_clamp (by omega)]; exact hv3.symm)).symm
  subst ev_6
  refine lv_aload_n hx hb dL_law_993 rfl (lv_at hl 3 rfl) ?_
  refine lv_iload_n hx hb dL_law_994 rfl (lv_at hl 0 rfl) ?_
  refine lv_iconst (v := 4) hx hb dL_law_995 (by decide +kernel) ?_
  refine lv_iadd hx hb dL_law_996 ?_
  refine lv_topi (fun v_7 ev_7 => ?_)
  have ev_7 : v_7 = nI ((7 * i7) + 4) := ev_7.trans (nI_add (7 * i7) 4)
  subst ev_7
  refine va_sld hx hb hX hbl hbA hS (i := nI ((7 * i7) + 4)) (vp_in_nI (by omega) (by omega)) dL_law_997 ?_
  refine lv_topi (fun v_8 ev_8 => ?_)
  have ev_8 : v4 = v_8 := (ev_8.trans (by rw [nI_clamp (by omega)]; exact hv4.symm)).symm
  subst ev_8
  have hz9 : gPD G A [zo5 xo tt rd nw th kp sh tu him, zo0 nw tt n1 n2 n3 n4 n5 n6 n7 n8 (nI jg) (nI pb) (nI lw), zi G n2 4 fso, zi G n3 4 fmi, zi G n4 4 fpa, zi G n5 6 fki, zi G n6 6 fmo, zi G n7 6 fsz, zi G n8 6 frd, zo0 th tt t1 t2 t3 t4 t5 t6 t7 t8 tj tb tl, zi G t1 6 unm, zi G t2 4 uso, zi G t3 4 umi, zi G t4 4 upa, zi G t5 6 uki, zi G t6 6 umo, zi G t7 6 usz, zi G t8 6 urd, zo3 tt co en sk wr (nI tx), zr G co 6 fc, zr G en 6 fe, zi G c0 160 fcr0, zi G e0 3 (nF fer0), zi G sk 32 fsk, zo2 sh qn qo ql, zr G qn 4 fn, zi G qo 4 fqo, zi G ql 4 (nF fql), zi G r0 40 fs0] H := ⟨hP.sub [0, 19, 21, 22, 23, 24, 25, 26, 27, 28, 29, 30, 31, 32, 33, 34, 35, 36, 3, 4, 11, 5, 12, 18, 46, 47, 52, 53, 48] rfl, hD.sub [0, 19, 21, 22, 23, 24, 25, 26, 27, 28, 29, 30, 31, 32, 33, 34, 35, 36, 3, 4, 11, 5, 12, 18, 46, 47, 52, 53, 48] (by decide +kernel) rfl⟩
  have hPc := hz9.1
  have hDc := hz9.2
  have hFc := gFree hPc hD hS hA [0, 19, 21, 22, 23, 24, 25, 26, 27, 28, 29, 30, 31, 32, 33, 34, 35, 36, 3, 4, 11, 5, 12, 18, 46, 47, 52, 53, 48] rfl
  refine va_calli (va_runV (As := [.int (nI sn), .int v2, .int v3, .int v4]) (rest := []) ⟨hx, hb, hml, hown, hts⟩ (c_X5_kinds_A l G E xo tt rd nw th kp sh tu n1 n2 n3 n4 n5 n6 n7 n8 t1 t2 t3 t4 t5 t6 t7 t8 co en sk c0 e0 qn qo ql r0 jg pb lw tx him wr tj tb tl fc fe fn fer0 fql fso fmi fpa fki fmo fsz frd unm uso umi upa uki umo usz urd fcr0 fsk fqo fs0 sn v2 v3 v4 H.size (by first | exact hsn | assumption | omega) (by first | exact hrw | assumption | omega) (by first | exact hql | assumption | omega) (by first | exact htn | assumption | omega) (by first | exact hc | assumption | omega) (by first | exact he | assumption | omega) (by first | exact hwx | assumption | omega) (by first | exact hjg | assumption | omega) (by first | exact hpb | assumption | omega)) (cwV 4 hts gL_law_X5_kinds rfl rfl rfl (by decide +kernel) ⟨Nat.le_of_ble_eq_true rfl, Nat.le_of_ble_eq_true rfl⟩) ⟨gPreE_blind, va_recv hK hPc (ci := 5) (q0 := 0) rfl rfl, fun U hU hW => gPreE_of hU hW hK hPc hDc hE hS hFc⟩ rfl rfl hl.1 rfl (lv_room (Nat.le_of_ble_eq_true rfl)) dL_law_998 ⟨Nat.le_of_ble_eq_true rfl, Nat.le_of_ble_eq_true rfl⟩) hS (fun q _ h => hFc q h) hFc (fun r_9 u t H locs ht hvm w_10 hB hz1 hk1 hS => ?_)
  obtain ⟨zj9_11, zb9_12, zl9_13, yt1_14, yt2_15, yt3_16, yt4_17, yt5_18, yt6_19, yt7_20, yt8_21, ysk_22⟩ := u
  obtain ⟨hP1, hK1, hD1⟩ := hB
  rw [ht] at hP1
  have hz9 : gPD G (va_A _ _) [zo5 xo tt rd nw th kp sh tu him, zo0 nw tt n1 n2 n3 n4 n5 n6 n7 n8 (nI jg) (nI pb) (nI lw), zi G n2 4 fso, zi G n3 4 fmi, zi G n4 4 fpa, zi G n5 6 fki, zi G n6 6 fmo, zi G n7 6 fsz, zi G n8 6 frd, zo0 th tt t1 t2 t3 t4 t5 t6 t7 t8 zj9_11 zb9_12 zl9_13, zi G t1 6 yt1_14, zi G t2 4 yt2_15, zi G t3 4 yt3_16, zi G t4 4 yt4_17, zi G t5 6 yt5_18, zi G t6 6 yt6_19, zi G t7 6 yt7_20, zi G t8 6 yt8_21, zo3 tt co en sk wr (nI tx), zr G co 6 fc, zr G en 6 fe, zi G c0 160 fcr0, zi G e0 3 (nF fer0), zi G sk 32 ysk_22, zo2 sh qn qo ql, zr G qn 4 fn, zi G qo 4 fqo, zi G ql 4 (nF fql), zi G r0 40 fs0] H := ⟨hP1, hD1⟩
  have hP1 := hz9.1
  have hD1 := hz9.2
  have w_10 : r_9 = m_X5_kinds_A jg pb fer0 fql fso fmi fpa fki fmo fsz frd fcr0 fqo fs0 sn v2 v3 v4 := w_10
  have hz9 : gPD G A [zo1 rd tt b0 x2 x3 x4 x5 (nI td), zi G b0 160 fb, zi G c1 160 fcr1, zi G c2 160 fcr2, zi G c3 160 fcr3, zi G c4 160 fcr4, zi G c5 160 fcr5, zi G e1 3 (nF fer1), zi G e2 3 (nF fer2), zi G e3 3 (nF fer3), zi G e4 3 (nF fer4), zi G e5 3 (nF fer5), zi G n1 6 fnm, zo0 kp tt k1 k2 k3 k4 k5 k6 k7 k8 (nI kj) (nI kb) (nI kl), zi G k1 6 gnm, zi G k2 4 gso, zi G k3 4 gmi, zi G k4 4 gpa, zi G k5 6 gki, zi G k6 6 gmo, zi G k7 6 gsz, zi G k8 6 grd, zi G r1 40 fs1, zi G r2 40 fs2, zi G r3 40 fs3, zo4 tu tw tr, zr G tw 6 fw, zi G w0 6 fw0, zi G w1 6 fw1, zi G w2 6 fw2, zi G w3 6 fw3, zi G w4 6 fw4, zi G w5 6 fw5, zi G tr 64 ftr, zo6 mo (nI Npb) Akd Amo Ast (nI Njg) Aro Atp (nI Ntd) Acd Asr (nI Ntx) (nI Nru) Zhi Air Aih Ass Asq Ace Alw Z19 Z20 Z21 Z22 Awo Ahe Z25 Z26 Z27 Ask Ana Akp Z31 Z32 Z33 Z34 Agb Ago Afa Aga Z39 Z40 Avo, zi G Akd 6 Fkd, zi G Amo 6 Fmo, zi G Ast 12 Fst, zi G Aro 12 Fro, zi G Atp 160 Ftp, zi G Acd 1200 Fcd, zi G Asr 24 (nF Fsr), zi G Air 24 Fir, zi G Aih 3 Fih, zi G Ass 4 Fss, zi G Asq 4 (nF Fsq), zi G Ace 160 Fce, zi G Alw 40 Flw, zi G Awo 96 Fwo, zi G Ahe 200 Fhe, zi G Ask 200 Fsk, zi G Ana 6 Fna, zi G Akp 24 Fkp, zb G Agb 61 Fgb, zb G Ago 61 Fgo, zi G Afa 36 Ffa, zi G Aga 36 Fga, zi G Avo 64 Fvo, zo5 xo tt rd nw th kp sh tu him, zo0 nw tt n1 n2 n3 n4 n5 n6 n7 n8 (nI jg) (nI pb) (nI lw), zi G n2 4 fso, zi G n3 4 fmi, zi G n4 4 fpa, zi G n5 6 fki, zi G n6 6 fmo, zi G n7 6 fsz, zi G n8 6 frd, zo0 th tt t1 t2 t3 t4 t5 t6 t7 t8 zj9_11 zb9_12 zl9_13, zi G t1 6 yt1_14, zi G t2 4 yt2_15, zi G t3 4 yt3_16, zi G t4 4 yt4_17, zi G t5 6 yt5_18, zi G t6 6 yt6_19, zi G t7 6 yt7_20, zi G t8 6 yt8_21, zo3 tt co en sk wr (nI tx), zr G co 6 fc, zr G en 6 fe, zi G c0 160 fcr0, zi G e0 3 (nF fer0), zi G sk 32 ysk_22, zo2 sh qn qo ql, zr G qn 4 fn, zi G qo 4 fqo, zi G ql 4 (nF fql), zi G r0 40 fs0] H := gJoin hP hD hk1 hFc hP1 hD1 [0, 19, 21, 22, 23, 24, 25, 26, 27, 28, 29, 30, 31, 32, 33, 34, 35, 36, 3, 4, 11, 5, 12, 18, 46, 47, 52, 53, 48] [1, 2, 6, 7, 8, 9, 10, 13, 14, 15, 16, 17, 20, 37, 38, 39, 40, 41, 42, 43, 44, 45, 49, 50, 51, 54, 55, 56, 57, 58, 59, 60, 61, 62, 63, 64, 65, 66, 67, 68, 69, 70, 71, 72, 73, 74, 75, 76, 77, 78, 79, 80, 81, 82, 83, 84, 85, 86] rfl rfl rfl (by decide +kernel) (by decide +kernel)
  have hP := hz9.1
  have hD := hz9.2
  subst w_10
  refine lv_pop hx hb dL_law_1001 rfl ?_
  refine lv_aload_n hx hb dL_law_1002 rfl (lv_at hl 1 rfl) ?_
  refine lv_aload_n hx hb dL_law_1003 rfl (lv_at hl 3 rfl) ?_
  refine lv_iload_n hx hb dL_law_1004 rfl (lv_at hl 0 rfl) ?_
  refine lv_iconst (v := 1) hx hb dL_law_1005 (by decide +kernel) ?_
  refine lv_iadd hx hb dL_law_1006 ?_
  refine lv_topi (fun v_23 ev_23 => ?_)
  have ev_23 : v_23 = nI ((7 * i7) + 1) := ev_23.trans (nI_add (7 * i7) 1)
  subst ev_23
  refine va_sld hx hb hX hbl hbA hS (i := nI ((7 * i7) + 1)) (vp_in_nI (by omega) (by omega)) dL_law_1007 ?_
  refine lv_topi (fun v_24 ev_24 => ?_)
  have ev_24 : (nI sn) = v_24 := (ev_24.trans (by rw [nI_clamp (by omega)]; exact hv1.symm)).symm
  subst ev_24
  refine lv_aload_n hx hb dL_law_1008 rfl (lv_at hl 3 rfl) ?_
  refine lv_iload_n hx hb dL_law_1009 rfl (lv_at hl 0 rfl) ?_
  refine lv_iconst (v := 2) hx hb dL_law_1010 (by decide +kernel) ?_
  refine lv_iadd hx hb dL_law_1011 ?_
  refine lv_topi (fun v_25 ev_25 => ?_)
  have ev_25 : v_25 = nI ((7 * i7) + 2) := ev_25.trans (nI_add (7 * i7) 2)
  subst ev_25
  refine va_sld hx hb hX hbl hbA hS (i := nI ((7 * i7) + 2)) (vp_in_nI (by omega) (by omega)) dL_law_1012 ?_
  refine lv_topi (fun v_26 ev_26 => ?_)
  have ev_26 : v2 = v_26 := (ev_26.trans (by rw [nI_clamp (by omega)]; exact hv2.symm)).symm
  subst ev_26
  refine lv_aload_n hx hb dL_law_1013 rfl (lv_at hl 3 rfl) ?_
  refine lv_iload_n hx hb dL_law_1014 rfl (lv_at hl 0 rfl) ?_
  refine lv_iconst (v := 3) hx hb dL_law_1015 (by decide +kernel) ?_
  refine lv_iadd hx hb dL_law_1016 ?_
  refine lv_topi (fun v_27 ev_27 => ?_)
  have ev_27 : v_27 = nI ((7 * i7) + 3) := ev_27.trans (nI_add (7 * i7) 3)
  subst ev_27
  refine va_sld hx hb hX hbl hbA hS (i := nI ((7 * i7) + 3)) (vp_in_nI (by omega) (by omega)) dL_law_1017 ?_
  refine lv_topi (fun v_28 ev_28 => ?_)
  have ev_28 : v3 = v_28 := (ev_28.trans (by rw [nI_clamp (by omega)]; exact hv3.symm)).symm
  subst ev_28
  refine lv_aload_n hx hb dL_law_1018 rfl (lv_at hl 3 rfl) ?_
  refine lv_iload_n hx hb dL_law_1019 rfl (lv_at hl 0 rfl) ?_
  refine lv_iconst (v := 4) hx hb dL_law_1020 (by decide +kernel) ?_
  refine lv_iadd hx hb dL_law_1021 ?_
  refine lv_topi (fun v_29 ev_29 => ?_)
  have ev_29 : v_29 = nI ((7 * i7) + 4) := ev_29.trans (nI_add (7 * i7) 4)
  subst ev_29
  refine va_sld hx hb hX hbl hbA hS (i := nI ((7 * i7) + 4)) (vp_in_nI (by omega) (by omega)) dL_law_1022 ?_
  refine lv_topi (fun v_30 ev_30 => ?_)
  have ev_30 : v4 = v_30 := (ev_30.trans (by rw [nI_clamp (by omega)]; exact hv4.symm)).symm
  subst ev_30
  have hz9 : gPD G A [zo6 mo (nI Npb) Akd Amo Ast (nI Njg) Aro Atp (nI Ntd) Acd Asr (nI Ntx) (nI Nru) Zhi Air Aih Ass Asq Ace Alw Z19 Z20 Z21 Z22 Awo Ahe Z25 Z26 Z27 Ask Ana Akp Z31 Z32 Z33 Z34 Agb Ago Afa Aga Z39 Z40 Avo, zi G Ast 12 Fst, zi G Aro 12 Fro, zi G Amo 6 Fmo, zi G Akd 6 Fkd, zi G Acd 1200 Fcd, zi G Asr 24 (nF Fsr), zi G Ask 200 Fsk, zi G Ana 6 Fna, zi G Akp 24 Fkp, zi G Asq 4 (nF Fsq), zi G Ace 160 Fce, zi G Ass 4 Fss] H := ⟨hP.sub [34, 37, 38, 36, 35, 40, 41, 50, 51, 52, 45, 46, 44] rfl, hD.sub [34, 37, 38, 36, 35, 40, 41, 50, 51, 52, 45, 46, 44] (by decide +kernel) rfl⟩
  have hPc := hz9.1
  have hDc := hz9.2
  have hFc := gFree hPc hD hS hA [34, 37, 38, 36, 35, 40, 41, 50, 51, 52, 45, 46, 44] rfl
  refine va_calli (va_runV (As := [.int (nI sn), .int v2, .int v3, .int v4]) (rest := []) ⟨hx, hb, hml, hown, hts⟩ (c_X6_kinds l G mo Akd Amo Ast Aro Atp Acd Asr Air Aih Ass Asq Ace Alw Awo Ahe Ask Ana Akp Agb Ago Afa Aga Avo Npb Njg Ntd Ntx Nru Zhi Z19 Z20 Z21 Z22 Z25 Z26 Z27 Z31 Z32 Z33 Z34 Z39 Z40 Fst Fro Fmo Fkd Fcd Fsr Fsk Fna Fkp Fsq Fce Fss (nI sn) v2 v3 v4 H.size (by first | exact hsq | assumption | omega) (by first | exact hwa | assumption | omega) (by first | exact hpb | assumption | omega) (by first | exact hjg | assumption | omega) (by first | exact htx | assumption | omega) (by first | exact hru | assumption | omega)) (cwV 4 hts gL_law_X6_kinds rfl rfl rfl (by decide +kernel) ⟨Nat.le_of_ble_eq_true rfl, Nat.le_of_ble_eq_true rfl⟩) ⟨gPre_blind, va_recv hK hPc (ci := 6) (q0 := 0) rfl rfl, fun U hU hW => gPre_of hU hW hK hPc hDc⟩ rfl rfl hl.1 rfl (lv_room (Nat.le_of_ble_eq_true rfl)) dL_law_1023 ⟨Nat.le_of_ble_eq_true rfl, Nat.le_of_ble_eq_true rfl⟩) hS (fun q _ h => hFc q h) hFc (fun r_31 u t H locs ht hvm w_32 hB hz1 hk1 hS => ?_)
  obtain ⟨ysk_33, yna_34, ykp_35⟩ := u
  obtain ⟨hP1, hK1, hD1⟩ := hB
  rw [ht] at hP1
  have hz9 : gPD G (va_A _ _) [zo6 mo (nI Npb) Akd Amo Ast (nI Njg) Aro Atp (nI Ntd) Acd Asr (nI Ntx) (nI Nru) Zhi Air Aih Ass Asq Ace Alw Z19 Z20 Z21 Z22 Awo Ahe Z25 Z26 Z27 Ask Ana Akp Z31 Z32 Z33 Z34 Agb Ago Afa Aga Z39 Z40 Avo, zi G Ast 12 Fst, zi G Aro 12 Fro, zi G Amo 6 (m_X6_kinds_mo Npb Njg Nru Fst Fro Fmo Fkd Fcd Fsr Fsq Fce Fss (nI sn) v2 v3 v4), zi G Akd 6 (m_X6_kinds_kd Npb Njg Nru Fst Fro Fmo Fkd Fcd Fsr Fsq Fce Fss (nI sn) v2 v3 v4), zi G Acd 1200 Fcd, zi G Asr 24 (nF Fsr), zi G Ask 200 ysk_33, zi G Ana 6 yna_34, zi G Akp 24 ykp_35, zi G Asq 4 (nF Fsq), zi G Ace 160 Fce, zi G Ass 4 Fss] H := ⟨hP1, hD1⟩
  have hP1 := hz9.1
  have hD1 := hz9.2
  have w_32 : r_31 = m_X6_kinds Npb Njg Nru Fst Fro Fmo Fkd Fcd Fsr Fsq Fce Fss (nI sn) v2 v3 v4 := w_32
  have hz9 : gPD G A [zo1 rd tt b0 x2 x3 x4 x5 (nI td), zi G b0 160 fb, zi G c1 160 fcr1, zi G c2 160 fcr2, zi G c3 160 fcr3, zi G c4 160 fcr4, zi G c5 160 fcr5, zi G e1 3 (nF fer1), zi G e2 3 (nF fer2), zi G e3 3 (nF fer3), zi G e4 3 (nF fer4), zi G e5 3 (nF fer5), zi G n1 6 fnm, zo0 kp tt k1 k2 k3 k4 k5 k6 k7 k8 (nI kj) (nI kb) (nI kl), zi G k1 6 gnm, zi G k2 4 gso, zi G k3 4 gmi, zi G k4 4 gpa, zi G k5 6 gki, zi G k6 6 gmo, zi G k7 6 gsz, zi G k8 6 grd, zi G r1 40 fs1, zi G r2 40 fs2, zi G r3 40 fs3, zo4 tu tw tr, zr G tw 6 fw, zi G w0 6 fw0, zi G w1 6 fw1, zi G w2 6 fw2, zi G w3 6 fw3, zi G w4 6 fw4, zi G w5 6 fw5, zi G tr 64 ftr, zi G Atp 160 Ftp, zi G Air 24 Fir, zi G Aih 3 Fih, zi G Alw 40 Flw, zi G Awo 96 Fwo, zi G Ahe 200 Fhe, zb G Agb 61 Fgb, zb G Ago 61 Fgo, zi G Afa 36 Ffa, zi G Aga 36 Fga, zi G Avo 64 Fvo, zo5 xo tt rd nw th kp sh tu him, zo0 nw tt n1 n2 n3 n4 n5 n6 n7 n8 (nI jg) (nI pb) (nI lw), zi G n2 4 fso, zi G n3 4 fmi, zi G n4 4 fpa, zi G n5 6 fki, zi G n6 6 fmo, zi G n7 6 fsz, zi G n8 6 frd, zo0 th tt t1 t2 t3 t4 t5 t6 t7 t8 zj9_11 zb9_12 zl9_13, zi G t1 6 yt1_14, zi G t2 4 yt2_15, zi G t3 4 yt3_16, zi G t4 4 yt4_17, zi G t5 6 yt5_18, zi G t6 6 yt6_19, zi G t7 6 yt7_20, zi G t8 6 yt8_21, zo3 tt co en sk wr (nI tx), zr G co 6 fc, zr G en 6 fe, zi G c0 160 fcr0, zi G e0 3 (nF fer0), zi G sk 32 ysk_22, zo2 sh qn qo ql, zr G qn 4 fn, zi G qo 4 fqo, zi G ql 4 (nF fql), zi G r0 40 fs0, zo6 mo (nI Npb) Akd Amo Ast (nI Njg) Aro Atp (nI Ntd) Acd Asr (nI Ntx) (nI Nru) Zhi Air Aih Ass Asq Ace Alw Z19 Z20 Z21 Z22 Awo Ahe Z25 Z26 Z27 Ask Ana Akp Z31 Z32 Z33 Z34 Agb Ago Afa Aga Z39 Z40 Avo, zi G Ast 12 Fst, zi G Aro 12 Fro, zi G Amo 6 (m_X6_kinds_mo Npb Njg Nru Fst Fro Fmo Fkd Fcd Fsr Fsq Fce Fss (nI sn) v2 v3 v4), zi G Akd 6 (m_X6_kinds_kd Npb Njg Nru Fst Fro Fmo Fkd Fcd Fsr Fsq Fce Fss (nI sn) v2 v3 v4), zi G Acd 1200 Fcd, zi G Asr 24 (nF Fsr), zi G Ask 200 ysk_33, zi G Ana 6 yna_34, zi G Akp 24 ykp_35, zi G Asq 4 (nF Fsq), zi G Ace 160 Fce, zi G Ass 4 Fss] H := gJoin hP hD hk1 hFc hP1 hD1 [34, 37, 38, 36, 35, 40, 41, 50, 51, 52, 45, 46, 44] [0, 1, 2, 3, 4, 5, 6, 7, 8, 9, 10, 11, 12, 13, 14, 15, 16, 17, 18, 19, 20, 21, 22, 23, 24, 25, 26, 27, 28, 29, 30, 31, 32, 33, 39, 42, 43, 47, 48, 49, 53, 54, 55, 56, 57, 58, 59, 60, 61, 62, 63, 64, 65, 66, 67, 68, 69, 70, 71, 72, 73, 74, 75, 76, 77, 78, 79, 80, 81, 82, 83, 84, 85, 86] rfl rfl rfl (by decide +kernel) (by decide +kernel)
  have hP := hz9.1
  have hD := hz9.2
  subst w_32
  refine lv_pop hx hb dL_law_1026 rfl ?_
  refine lv_goto (tgt := 1614) hx hb dL_law_1027 (by decide +kernel) ?_
  refine lv_iinc (v := nI (7 * (i7 + 1))) (lv' := [zI 3 (nI (7 * (i7 + 1))), zR 2 mo, zR 1 xo, zR 0 b]) hx hb dL_law_1614 hl (k := 0) rfl (by show nI (7 * i7) + 7 = nI (7 * (i7 + 1)); exact nI_add (7 * i7) 7) (by decide +kernel) rfl (fun ls hl => ?_)
  refine lv_goto (tgt := 18) hx hb dL_law_1617 (by decide +kernel) ?_
  exact K him x2 x3 x4 x5 td fb wr ysk_22 jg pb lw fnm fso fmi fpa fki fmo fsz frd zj9_11 zb9_12 zl9_13 yt1_14 yt2_15 yt3_16 yt4_17 yt5_18 yt6_19 yt7_20 yt8_21 kj kb kl gnm gso gmi gpa gki gmo gsz grd fs0 fs1 fs2 fs3 fqo fql fw0 fw1 fw2 fw3 fw4 fw5 ftr Npb Njg Ntd Ntx Nru Zhi Z19 Z20 Z21 Z22 Z25 Z26 Z27 Z31 Z32 Z33 Z34 Z39 Z40 (m_X6_kinds_kd Npb Njg Nru Fst Fro Fmo Fkd Fcd Fsr Fsq Fce Fss (nI sn) v2 v3 v4) (m_X6_kinds_mo Npb Njg Nru Fst Fro Fmo Fkd Fcd Fsr Fsq Fce Fss (nI sn) v2 v3 v4) Fst Fro Ftp Fcd Fsr Fir Fih Fss Fsq Fce Flw Fwo Fhe ysk_33 yna_34 ykp_35 Fgb Fgo Ffa Fga Fvo hFX hFM hRL (rq_kinds hRQ) H _ ls (hP.sub [45, 0, 1, 63, 64, 66, 2, 3, 4, 5, 6, 65, 67, 7, 8, 9, 10, 11, 68, 46, 12, 47, 48, 49, 50, 51, 52, 53, 54, 55, 56, 57, 58, 59, 60, 61, 62, 13, 14, 15, 16, 17, 18, 19, 20, 21, 69, 70, 73, 22, 23, 24, 71, 72, 25, 26, 27, 28, 29, 30, 31, 32, 33, 74, 78, 77, 75, 76, 34, 79, 80, 35, 36, 86, 84, 85, 37, 38, 39, 81, 82, 83, 40, 41, 42, 43, 44] rfl) (hD.sub [45, 0, 1, 63, 64, 66, 2, 3, 4, 5, 6, 65, 67, 7, 8, 9, 10, 11, 68, 46, 12, 47, 48, 49, 50, 51, 52, 53, 54, 55, 56, 57, 58, 59, 60, 61, 62, 13, 14, 15, 16, 17, 18, 19, 20, 21, 69, 70, 73, 22, 23, 24, 71, 72, 25, 26, 27, 28, 29, 30, 31, 32, 33, 74, 78, 77, 75, 76, 34, 79, 80, 35, 36, 86, 84, 85, 37, 38, 39, 81, 82, 83, 40, 41, 42, 43, 44] (by decide +kernel) rfl) hS (lv_sub hl [0, 1, 2, 3] rfl)
set_option maxHeartbeats 4000000 in
set_option maxRecDepth 100000 in
theorem lc_kinds_B {p : Program} {l : Launch} {e : Env} {s : State} {m : MethodId} {below : List Frame} {meth : Method} {c : Code} {b L : Nat} {xs : Nat → Int32} {G : gG} {E : gS} {A : Nat → Prop} (C0 : lw_At p s m meth c b L xs) (hE : gE E A s s.heap) (hK : gK G s) (hAe : A = fun q => s.heap.size ≤ q) {xo tt rd nw th kp sh tu b0 co en sk c0 c1 c2 c3 c4 c5 e0 e1 e2 e3 e4 e5 n1 n2 n3 n4 n5 n6 n7 n8 t1 t2 t3 t4 t5 t6 t7 t8 k1 k2 k3 k4 k5 k6 k7 k8 qn qo ql r0 r1 r2 r3 tw tr w0 w1 w2 w3 w4 w5 mo Akd Amo Ast Aro Atp Acd Asr Air Aih Ass Asq Ace Alw Awo Ahe Ask Ana Akp Agb Ago Afa Aga Avo : Nat} {fc fe fn fw : Nat → Option Nat} {tx : Nat} {fcr0 fcr1 fcr2 fcr3 fcr4 fcr5 : Nat → Int32} {fer0 fer1 fer2 fer3 fer4 fer5 : Nat → Nat} {him x2 x3 x4 x5 : Int32} {td : Nat} {fb : Nat → Int32} {wr : Int32} {fsk : Nat → Int32} {jg pb lw : Nat} {fnm fso fmi fpa fki fmo fsz frd : Nat → Int32} {tj tb tl : Int32} {unm uso umi upa uki umo usz urd : Nat → Int32} {kj kb kl : Nat} {gnm gso gmi gpa gki gmo gsz grd fs0 fs1 fs2 fs3 fqo : Nat → Int32} {fql : Nat → Nat} {fw0 fw1 fw2 fw3 fw4 fw5 ftr : Nat → Int32} {Npb Njg Ntd Ntx Nru : Nat} {Zhi Z19 Z20 Z21 Z22 Z25 Z26 Z27 Z31 Z32 Z33 Z34 Z39 Z40 : Int32} {Fkd Fmo Fst Fro Ftp Fcd : Nat → Int32} {Fsr : Nat → Nat} {Fir Fih Fss : Nat → Int32} {Fsq : Nat → Nat} {Fce Flw Fwo Fhe Fsk Fna Fkp Fgb Fgo Ffa Fga Fvo : Nat → Int32}  {v1 v2 v3 v4 v5 v6 : Int32} {i7 : Nat} (hi : 7 * i7 + 7 ≤ L) (hL : L ≤ 3584) (hv1 : v1 = xs (7 * i7 + 1)) (hv2 : v2 = xs (7 * i7 + 2)) (hv3 : v3 = xs (7 * i7 + 3)) (hv4 : v4 = xs (7 * i7 + 4)) (hv5 : v5 = xs (7 * i7 + 5)) (hv6 : v6 = xs (7 * i7 + 6)) (hno : ¬ (0 ≤ v1 ∧ v1 ≤ 3)) (K : LawV p l e s m below meth c b G A xo tt rd nw th kp sh tu b0 co en sk c0 c1 c2 c3 c4 c5 e0 e1 e2 e3 e4 e5 n1 n2 n3 n4 n5 n6 n7 n8 t1 t2 t3 t4 t5 t6 t7 t8 k1 k2 k3 k4 k5 k6 k7 k8 qn qo ql r0 r1 r2 r3 tw tr w0 w1 w2 w3 w4 w5 mo Akd Amo Ast Aro Atp Acd Asr Air Aih Ass Asq Ace Alw Awo Ahe Ask Ana Akp Agb Ago Afa Aga Avo fc fe fn fw tx fcr0 fcr1 fcr2 fcr3 fcr4 fcr5 fer0 fer1 fer2 fer3 fer4 fer5 (i7 + 1)) (hFX : FXP jg pb lw kj kb kl tx td him fql) (hFM : FMP Npb Njg Ntd Ntx Nru Zhi Fcd Fsr Fsq Fir Fih) (hRL : RLP False fn r0 r1 r2 r3 jg pb kj kb him fs0 fs1 fs2 fs3 fqo fql Npb Njg Zhi Fss Fsq Fce Fih) (hRQ : RQP fc c0 c1 c2 c3 c4 c5 fcr0 fcr1 fcr2 fcr3 fcr4 fcr5 fer0 fer1 fer2 fer3 fer4 fer5 pb lw tx td kb kl him fb fso fmi fpa fki fmo fsz frd gso gmi gpa gki gmo gsz grd Nru Ntx Ntd Fkd Fmo Fst Fro Ftp Fcd Fsr Fir Fih Fwo) {H : Heap} {locs : List Loc} (hP : va_P G.1 vwCl (WLd G xo tt rd nw th kp sh tu b0 co en sk c0 c1 c2 c3 c4 c5 e0 e1 e2 e3 e4 e5 n1 n2 n3 n4 n5 n6 n7 n8 t1 t2 t3 t4 t5 t6 t7 t8 k1 k2 k3 k4 k5 k6 k7 k8 qn qo ql r0 r1 r2 r3 tw tr w0 w1 w2 w3 w4 w5 mo Akd Amo Ast Aro Atp Acd Asr Air Aih Ass Asq Ace Alw Awo Ahe Ask Ana Akp Agb Ago Afa Aga Avo fc fe fn fw tx fcr0 fcr1 fcr2 fcr3 fcr4 fcr5 fer0 fer1 fer2 fer3 fer4 fer5 him x2 x3 x4 x5 td fb wr fsk jg pb lw fnm fso fmi fpa fki fmo fsz frd tj tb tl unm uso umi upa uki umo usz urd kj kb kl gnm gso gmi gpa gki gmo gsz grd fs0 fs1 fs2 fs3 fqo fql fw0 fw1 fw2 fw3 fw4 fw5 ftr Npb Njg Ntd Ntx Nru Zhi Z19 Z20 Z21 Z22 Z25 Z26 Z27 Z31 Z32 Z33 Z34 Z39 Z40 Fkd Fmo Fst Fro Ftp Fcd Fsr Fir Fih Fss Fsq Fce Flw Fwo Fhe Fsk Fna Fkp Fgb Fgo Ffa Fga Fvo) H) (hD : va_D A (WLd G xo tt rd nw th kp sh tu b0 co en sk c0 c1 c2 c3 c4 c5 e0 e1 e2 e3 e4 e5 n1 n2 n3 n4 n5 n6 n7 n8 t1 t2 t3 t4 t5 t6 t7 t8 k1 k2 k3 k4 k5 k6 k7 k8 qn qo ql r0 r1 r2 r3 tw tr w0 w1 w2 w3 w4 w5 mo Akd Amo Ast Aro Atp Acd Asr Air Aih Ass Asq Ace Alw Awo Ahe Ask Ana Akp Agb Ago Afa Aga Avo fc fe fn fw tx fcr0 fcr1 fcr2 fcr3 fcr4 fcr5 fer0 fer1 fer2 fer3 fer4 fer5 him x2 x3 x4 x5 td fb wr fsk jg pb lw fnm fso fmi fpa fki fmo fsz frd tj tb tl unm uso umi upa uki umo usz urd kj kb kl gnm gso gmi gpa gki gmo gsz grd fs0 fs1 fs2 fs3 fqo fql fw0 fw1 fw2 fw3 fw4 fw5 ftr Npb Njg Ntd Ntx Nru Zhi Z19 Z20 Z21 Z22 Z25 Z26 Z27 Z31 Z32 Z33 Z34 Z39 Z40 Fkd Fmo Fst Fro Ftp Fcd Fsr Fir Fih Fss Fsq Fce Flw Fwo Fhe Fsk Fna Fkp Fgb Fgo Ffa Fga Fvo)) (hS : va_S A s.heap H locs) {ls : Array Slot} (hl : lv_has ls 4 [zI 3 (nI (7 * i7)), zR 2 mo, zR 1 xo, zR 0 b]) : W p l e room_1 s m #[Value.ref b] below meth c H locs 87 4128 (lw_Z below #[Value.ref b] s) (F0 m 977 ls []) := by
  obtain ⟨hx, hb, hret, hml, hown, hts0, hX, hbl, hlocks, hgv⟩ := id C0
  have hts : ∀ w ∈ wsL_law, w.before #[Value.ref b] s = true := fun w h => hts0 w (wsL_law_in w h)
  have hown : s.vm.findClass RL = some m.cls := hown
  have hA : ∀ q : Nat, s.heap.size ≤ q → A q := fun q h => by rw [hAe]; exact h
  have hbA : ¬ A b := by rw [hAe]; exact Nat.not_le.mpr hbl
  obtain ⟨⟨hjg, hpb, hlw, htx, htd⟩, hkk, hql⟩ := id hFX
  obtain ⟨⟨hNpb, hNjg, hNru, hNtx, hNtd⟩, hwa, hsq, hIM⟩ := id hFM
  have hz9 : gPD G A [zo5 xo tt rd nw th kp sh tu him, zo1 rd tt b0 x2 x3 x4 x5 (nI td), zi G b0 160 fb, zo3 tt co en sk wr (nI tx), zr G co 6 fc, zi G c0 160 fcr0, zi G c1 160 fcr1, zi G c2 160 fcr2, zi G c3 160 fcr3, zi G c4 160 fcr4, zi G c5 160 fcr5, zr G en 6 fe, zi G e0 3 (nF fer0), zi G e1 3 (nF fer1), zi G e2 3 (nF fer2), zi G e3 3 (nF fer3), zi G e4 3 (nF fer4), zi G e5 3 (nF fer5), zi G sk 32 fsk, zo0 nw tt n1 n2 n3 n4 n5 n6 n7 n8 (nI jg) (nI pb) (nI lw), zi G n1 6 fnm, zi G n2 4 fso, zi G n3 4 fmi, zi G n4 4 fpa, zi G n5 6 fki, zi G n6 6 fmo, zi G n7 6 fsz, zi G n8 6 frd, zo0 th tt t1 t2 t3 t4 t5 t6 t7 t8 tj tb tl, zi G t1 6 unm, zi G t2 4 uso, zi G t3 4 umi, zi G t4 4 upa, zi G t5 6 uki, zi G t6 6 umo, zi G t7 6 usz, zi G t8 6 urd, zo0 kp tt k1 k2 k3 k4 k5 k6 k7 k8 (nI kj) (nI kb) (nI kl), zi G k1 6 gnm, zi G k2 4 gso, zi G k3 4 gmi, zi G k4 4 gpa, zi G k5 6 gki, zi G k6 6 gmo, zi G k7 6 gsz, zi G k8 6 grd, zo2 sh qn qo ql, zr G qn 4 fn, zi G r0 40 fs0, zi G r1 40 fs1, zi G r2 40 fs2, zi G r3 40 fs3, zi G qo 4 fqo, zi G ql 4 (nF fql), zo4 tu tw tr, zr G tw 6 fw, zi G w0 6 fw0, zi G w1 6 fw1, zi G w2 6 fw2, zi G w3 6 fw3, zi G w4 6 fw4, zi G w5 6 fw5, zi G tr 64 ftr, zo6 mo (nI Npb) Akd Amo Ast (nI Njg) Aro Atp (nI Ntd) Acd Asr (nI Ntx) (nI Nru) Zhi Air Aih Ass Asq Ace Alw Z19 Z20 Z21 Z22 Awo Ahe Z25 Z26 Z27 Ask Ana Akp Z31 Z32 Z33 Z34 Agb Ago Afa Aga Z39 Z40 Avo, zi G Akd 6 Fkd, zi G Amo 6 Fmo, zi G Ast 12 Fst, zi G Aro 12 Fro, zi G Atp 160 Ftp, zi G Acd 1200 Fcd, zi G Asr 24 (nF Fsr), zi G Air 24 Fir, zi G Aih 3 Fih, zi G Ass 4 Fss, zi G Asq 4 (nF Fsq), zi G Ace 160 Fce, zi G Alw 40 Flw, zi G Awo 96 Fwo, zi G Ahe 200 Fhe, zi G Ask 200 Fsk, zi G Ana 6 Fna, zi G Akp 24 Fkp, zb G Agb 61 Fgb, zb G Ago 61 Fgo, zi G Afa 36 Ffa, zi G Aga 36 Fga, zi G Avo 64 Fvo] H := ⟨hP, hD⟩
  have hP := hz9.1
  have hD := hz9.2
  refine lv_aload_n hx hb dL_law_977 rfl (lv_at hl 2 rfl) ?_
  refine lv_aload_n hx hb dL_law_978 rfl (lv_at hl 3 rfl) ?_
  refine lv_iload_n hx hb dL_law_979 rfl (lv_at hl 0 rfl) ?_
  refine lv_iconst (v := 1) hx hb dL_law_980 (by decide +kernel) ?_
  refine lv_iadd hx hb dL_law_981 ?_
  refine lv_topi (fun v_1 ev_1 => ?_)
  have ev_1 : v_1 = nI ((7 * i7) + 1) := ev_1.trans (nI_add (7 * i7) 1)
  subst ev_1
  refine va_sld hx hb hX hbl hbA hS (i := nI ((7 * i7) + 1)) (vp_in_nI (by omega) (by omega)) dL_law_982 ?_
  refine lv_topi (fun v_2 ev_2 => ?_)
  have ev_2 : v1 = v_2 := (ev_2.trans (by rw [nI_clamp (by omega)]; exact hv1.symm)).symm
  subst ev_2
  refine lv_aload_n hx hb dL_law_983 rfl (lv_at hl 3 rfl) ?_
  refine lv_iload_n hx hb dL_law_984 rfl (lv_at hl 0 rfl) ?_
  refine lv_iconst (v := 2) hx hb dL_law_985 (by decide +kernel) ?_
  refine lv_iadd hx hb dL_law_986 ?_
  refine lv_topi (fun v_3 ev_3 => ?_)
  have ev_3 : v_3 = nI ((7 * i7) + 2) := ev_3.trans (nI_add (7 * i7) 2)
  subst ev_3
  refine va_sld hx hb hX hbl hbA hS (i := nI ((7 * i7) + 2)) (vp_in_nI (by omega) (by omega)) dL_law_987 ?_
  refine lv_topi (fun v_4 ev_4 => ?_)
  have ev_4 : v2 = v_4 := (ev_4.trans (by rw [nI_clamp (by omega)]; exact hv2.symm)).symm
  subst ev_4
  refine lv_aload_n hx hb dL_law_988 rfl (lv_at hl 3 rfl) ?_
  refine lv_iload_n hx hb dL_law_989 rfl (lv_at hl 0 rfl) ?_
  refine lv_iconst (v := 3) hx hb dL_law_990 (by decide +kernel) ?_
  refine lv_iadd hx hb dL_law_991 ?_
  refine lv_topi (fun v_5 ev_5 => ?_)
  have ev_5 : v_5 = nI ((7 * i7) + 3) := ev_5.trans (nI_add (7 * i7) 3)
  subst ev_5
  refine va_sld hx hb hX hbl hbA hS (i := nI ((7 * i7) + 3)) (vp_in_nI (by omega) (by omega)) dL_law_992 ?_
  refine lv_topi (fun v_6 ev_6 => ?_)
  have ev_6 : v3 = v_6 := (ev_6.trans (by rw [nI_clamp (by omega)]; exact hv3.symm)).symm
  subst ev_6
  refine lv_aload_n hx hb dL_law_993 rfl (lv_at hl 3 rfl) ?_
  refine lv_iload_n hx hb dL_law_994 rfl (lv_at hl 0 rfl) ?_
  refine lv_iconst (v := 4) hx hb dL_law_995 (by decide +kernel) ?_
  refine lv_iadd hx hb dL_law_996 ?_
  refine lv_topi (fun v_7 ev_7 => ?_)
  have ev_7 : v_7 = nI ((7 * i7) + 4) := ev_7.trans (nI_add (7 * i7) 4)
  subst ev_7
  refine va_sld hx hb hX hbl hbA hS (i := nI ((7 * i7) + 4)) (vp_in_nI (by omega) (by omega)) dL_law_997 ?_
  refine lv_topi (fun v_8 ev_8 => ?_)
  have ev_8 : v4 = v_8 := (ev_8.trans (by rw [nI_clamp (by omega)]; exact hv4.symm)).symm
  subst ev_8
  have hz9 : gPD G A [zo5 xo tt rd nw th kp sh tu him, zo2 sh qn qo ql] H := ⟨hP.sub [0, 46] rfl, hD.sub [0, 46] (by decide +kernel) rfl⟩
  have hPc := hz9.1
  have hDc := hz9.2
  have hFc := gFree hPc hD hS hA [0, 46] rfl
  refine va_calli (va_runV (As := [.int v1, .int v2, .int v3, .int v4]) (rest := []) ⟨hx, hb, hml, hown, hts⟩ (c_X5_kinds_B l G E xo tt rd nw th kp sh tu qn qo ql him v1 v2 v3 v4 H.size (by first | exact hno | assumption | omega)) (cwV 4 hts gL_law_X5_kinds rfl rfl rfl (by decide +kernel) ⟨Nat.le_of_ble_eq_true rfl, Nat.le_of_ble_eq_true rfl⟩) ⟨gPreE_blind, va_recv hK hPc (ci := 5) (q0 := 0) rfl rfl, fun U hU hW => gPreE_of hU hW hK hPc hDc hE hS hFc⟩ rfl rfl hl.1 rfl (lv_room (Nat.le_of_ble_eq_true rfl)) dL_law_998 ⟨Nat.le_of_ble_eq_true rfl, Nat.le_of_ble_eq_true rfl⟩) hS (fun q _ h => hFc q h) hFc (fun r_9 u t H locs ht hvm w_10 hB hz1 hk1 hS => ?_)
  obtain ⟨hP1, hK1, hD1⟩ := hB
  rw [ht] at hP1
  have hz9 : gPD G (va_A _ _) [zo5 xo tt rd nw th kp sh tu him, zo2 sh qn qo ql] H := ⟨hP1, hD1⟩
  have hP1 := hz9.1
  have hD1 := hz9.2
  have w_10 : r_9 = -2 := w_10
  have hz9 : gPD G A [zo1 rd tt b0 x2 x3 x4 x5 (nI td), zi G b0 160 fb, zo3 tt co en sk wr (nI tx), zr G co 6 fc, zi G c0 160 fcr0, zi G c1 160 fcr1, zi G c2 160 fcr2, zi G c3 160 fcr3, zi G c4 160 fcr4, zi G c5 160 fcr5, zr G en 6 fe, zi G e0 3 (nF fer0), zi G e1 3 (nF fer1), zi G e2 3 (nF fer2), zi G e3 3 (nF fer3), zi G e4 3 (nF fer4), zi G e5 3 (nF fer5), zi G sk 32 fsk, zo0 nw tt n1 n2 n3 n4 n5 n6 n7 n8 (nI jg) (nI pb) (nI lw), zi G n1 6 fnm, zi G n2 4 fso, zi G n3 4 fmi, zi G n4 4 fpa, zi G n5 6 fki, zi G n6 6 fmo, zi G n7 6 fsz, zi G n8 6 frd, zo0 th tt t1 t2 t3 t4 t5 t6 t7 t8 tj tb tl, zi G t1 6 unm, zi G t2 4 uso, zi G t3 4 umi, zi G t4 4 upa, zi G t5 6 uki, zi G t6 6 umo, zi G t7 6 usz, zi G t8 6 urd, zo0 kp tt k1 k2 k3 k4 k5 k6 k7 k8 (nI kj) (nI kb) (nI kl), zi G k1 6 gnm, zi G k2 4 gso, zi G k3 4 gmi, zi G k4 4 gpa, zi G k5 6 gki, zi G k6 6 gmo, zi G k7 6 gsz, zi G k8 6 grd, zr G qn 4 fn, zi G r0 40 fs0, zi G r1 40 fs1, zi G r2 40 fs2, zi G r3 40 fs3, zi G qo 4 fqo, zi G ql 4 (nF fql), zo4 tu tw tr, zr G tw 6 fw, zi G w0 6 fw0, zi G w1 6 fw1, zi G w2 6 fw2, zi G w3 6 fw3, zi G w4 6 fw4, zi G w5 6 fw5, zi G tr 64 ftr, zo6 mo (nI Npb) Akd Amo Ast (nI Njg) Aro Atp (nI Ntd) Acd Asr (nI Ntx) (nI Nru) Zhi Air Aih Ass Asq Ace Alw Z19 Z20 Z21 Z22 Awo Ahe Z25 Z26 Z27 Ask Ana Akp Z31 Z32 Z33 Z34 Agb Ago Afa Aga Z39 Z40 Avo, zi G Akd 6 Fkd, zi G Amo 6 Fmo, zi G Ast 12 Fst, zi G Aro 12 Fro, zi G Atp 160 Ftp, zi G Acd 1200 Fcd, zi G Asr 24 (nF Fsr), zi G Air 24 Fir, zi G Aih 3 Fih, zi G Ass 4 Fss, zi G Asq 4 (nF Fsq), zi G Ace 160 Fce, zi G Alw 40 Flw, zi G Awo 96 Fwo, zi G Ahe 200 Fhe, zi G Ask 200 Fsk, zi G Ana 6 Fna, zi G Akp 24 Fkp, zb G Agb 61 Fgb, zb G Ago 61 Fgo, zi G Afa 36 Ffa, zi G Aga 36 Fga, zi G Avo 64 Fvo, zo5 xo tt rd nw th kp sh tu him, zo2 sh qn qo ql] H := gJoin hP hD hk1 hFc hP1 hD1 [0, 46] [1, 2, 3, 4, 5, 6, 7, 8, 9, 10, 11, 12, 13, 14, 15, 16, 17, 18, 19, 20, 21, 22, 23, 24, 25, 26, 27, 28, 29, 30, 31, 32, 33, 34, 35, 36, 37, 38, 39, 40, 41, 42, 43, 44, 45, 47, 48, 49, 50, 51, 52, 53, 54, 55, 56, 57, 58, 59, 60, 61, 62, 63, 64, 65, 66, 67, 68, 69, 70, 71, 72, 73, 74, 75, 76, 77, 78, 79, 80, 81, 82, 83, 84, 85, 86] rfl rfl rfl (by decide +kernel) (by decide +kernel)
  have hP := hz9.1
  have hD := hz9.2
  subst w_10
  refine lv_pop hx hb dL_law_1001 rfl ?_
  refine lv_aload_n hx hb dL_law_1002 rfl (lv_at hl 1 rfl) ?_
  refine lv_aload_n hx hb dL_law_1003 rfl (lv_at hl 3 rfl) ?_
  refine lv_iload_n hx hb dL_law_1004 rfl (lv_at hl 0 rfl) ?_
  refine lv_iconst (v := 1) hx hb dL_law_1005 (by decide +kernel) ?_
  refine lv_iadd hx hb dL_law_1006 ?_
  refine lv_topi (fun v_11 ev_11 => ?_)
  have ev_11 : v_11 = nI ((7 * i7) + 1) := ev_11.trans (nI_add (7 * i7) 1)
  subst ev_11
  refine va_sld hx hb hX hbl hbA hS (i := nI ((7 * i7) + 1)) (vp_in_nI (by omega) (by omega)) dL_law_1007 ?_
  refine lv_topi (fun v_12 ev_12 => ?_)
  have ev_12 : v1 = v_12 := (ev_12.trans (by rw [nI_clamp (by omega)]; exact hv1.symm)).symm
  subst ev_12
  refine lv_aload_n hx hb dL_law_1008 rfl (lv_at hl 3 rfl) ?_
  refine lv_iload_n hx hb dL_law_1009 rfl (lv_at hl 0 rfl) ?_
  refine lv_iconst (v := 2) hx hb dL_law_1010 (by decide +kernel) ?_
  refine lv_iadd hx hb dL_law_1011 ?_
  refine lv_topi (fun v_13 ev_13 => ?_)
  have ev_13 : v_13 = nI ((7 * i7) + 2) := ev_13.trans (nI_add (7 * i7) 2)
  subst ev_13
  refine va_sld hx hb hX hbl hbA hS (i := nI ((7 * i7) + 2)) (vp_in_nI (by omega) (by omega)) dL_law_1012 ?_
  refine lv_topi (fun v_14 ev_14 => ?_)
  have ev_14 : v2 = v_14 := (ev_14.trans (by rw [nI_clamp (by omega)]; exact hv2.symm)).symm
  subst ev_14
  refine lv_aload_n hx hb dL_law_1013 rfl (lv_at hl 3 rfl) ?_
  refine lv_iload_n hx hb dL_law_1014 rfl (lv_at hl 0 rfl) ?_
  refine lv_iconst (v := 3) hx hb dL_law_1015 (by decide +kernel) ?_
  refine lv_iadd hx hb dL_law_1016 ?_
  refine lv_topi (fun v_15 ev_15 => ?_)
  have ev_15 : v_15 = nI ((7 * i7) + 3) := ev_15.trans (nI_add (7 * i7) 3)
  subst ev_15
  refine va_sld hx hb hX hbl hbA hS (i := nI ((7 * i7) + 3)) (vp_in_nI (by omega) (by omega)) dL_law_1017 ?_
  refine lv_topi (fun v_16 ev_16 => ?_)
  have ev_16 : v3 = v_16 := (ev_16.trans (by rw [nI_clamp (by omega)]; exact hv3.symm)).symm
  subst ev_16
  refine lv_aload_n hx hb dL_law_1018 rfl (lv_at hl 3 rfl) ?_
  refine lv_iload_n hx hb dL_law_1019 rfl (lv_at hl 0 rfl) ?_
  refine lv_iconst (v := 4) hx hb dL_law_1020 (by decide +kernel) ?_
  refine lv_iadd hx hb dL_law_1021 ?_
  refine lv_topi (fun v_17 ev_17 => ?_)
  have ev_17 : v_17 = nI ((7 * i7) + 4) := ev_17.trans (nI_add (7 * i7) 4)
  subst ev_17
  refine va_sld hx hb hX hbl hbA hS (i := nI ((7 * i7) + 4)) (vp_in_nI (by omega) (by omega)) dL_law_1022 ?_
  refine lv_topi (fun v_18 ev_18 => ?_)
  have ev_18 : v4 = v_18 := (ev_18.trans (by rw [nI_clamp (by omega)]; exact hv4.symm)).symm
  subst ev_18
  have hz9 : gPD G A [zo6 mo (nI Npb) Akd Amo Ast (nI Njg) Aro Atp (nI Ntd) Acd Asr (nI Ntx) (nI Nru) Zhi Air Aih Ass Asq Ace Alw Z19 Z20 Z21 Z22 Awo Ahe Z25 Z26 Z27 Ask Ana Akp Z31 Z32 Z33 Z34 Agb Ago Afa Aga Z39 Z40 Avo, zi G Ast 12 Fst, zi G Aro 12 Fro, zi G Amo 6 Fmo, zi G Akd 6 Fkd, zi G Acd 1200 Fcd, zi G Asr 24 (nF Fsr), zi G Ask 200 Fsk, zi G Ana 6 Fna, zi G Akp 24 Fkp, zi G Asq 4 (nF Fsq), zi G Ace 160 Fce, zi G Ass 4 Fss] H := ⟨hP.sub [61, 64, 65, 63, 62, 67, 68, 77, 78, 79, 72, 73, 71] rfl, hD.sub [61, 64, 65, 63, 62, 67, 68, 77, 78, 79, 72, 73, 71] (by decide +kernel) rfl⟩
  have hPc := hz9.1
  have hDc := hz9.2
  have hFc := gFree hPc hD hS hA [61, 64, 65, 63, 62, 67, 68, 77, 78, 79, 72, 73, 71] rfl
  refine va_calli (va_runV (As := [.int v1, .int v2, .int v3, .int v4]) (rest := []) ⟨hx, hb, hml, hown, hts⟩ (c_X6_kinds l G mo Akd Amo Ast Aro Atp Acd Asr Air Aih Ass Asq Ace Alw Awo Ahe Ask Ana Akp Agb Ago Afa Aga Avo Npb Njg Ntd Ntx Nru Zhi Z19 Z20 Z21 Z22 Z25 Z26 Z27 Z31 Z32 Z33 Z34 Z39 Z40 Fst Fro Fmo Fkd Fcd Fsr Fsk Fna Fkp Fsq Fce Fss v1 v2 v3 v4 H.size (by first | exact hsq | assumption | omega) (by first | exact hwa | assumption | omega) (by first | exact hpb | assumption | omega) (by first | exact hjg | assumption | omega) (by first | exact htx | assumption | omega) (by first | exact hru | assumption | omega)) (cwV 4 hts gL_law_X6_kinds rfl rfl rfl (by decide +kernel) ⟨Nat.le_of_ble_eq_true rfl, Nat.le_of_ble_eq_true rfl⟩) ⟨gPre_blind, va_recv hK hPc (ci := 6) (q0 := 0) rfl rfl, fun U hU hW => gPre_of hU hW hK hPc hDc⟩ rfl rfl hl.1 rfl (lv_room (Nat.le_of_ble_eq_true rfl)) dL_law_1023 ⟨Nat.le_of_ble_eq_true rfl, Nat.le_of_ble_eq_true rfl⟩) hS (fun q _ h => hFc q h) hFc (fun r_19 u t H locs ht hvm w_20 hB hz1 hk1 hS => ?_)
  obtain ⟨ysk_21, yna_22, ykp_23⟩ := u
  obtain ⟨hP1, hK1, hD1⟩ := hB
  rw [ht] at hP1
  have hz9 : gPD G (va_A _ _) [zo6 mo (nI Npb) Akd Amo Ast (nI Njg) Aro Atp (nI Ntd) Acd Asr (nI Ntx) (nI Nru) Zhi Air Aih Ass Asq Ace Alw Z19 Z20 Z21 Z22 Awo Ahe Z25 Z26 Z27 Ask Ana Akp Z31 Z32 Z33 Z34 Agb Ago Afa Aga Z39 Z40 Avo, zi G Ast 12 Fst, zi G Aro 12 Fro, zi G Amo 6 (m_X6_kinds_mo Npb Njg Nru Fst Fro Fmo Fkd Fcd Fsr Fsq Fce Fss v1 v2 v3 v4), zi G Akd 6 (m_X6_kinds_kd Npb Njg Nru Fst Fro Fmo Fkd Fcd Fsr Fsq Fce Fss v1 v2 v3 v4), zi G Acd 1200 Fcd, zi G Asr 24 (nF Fsr), zi G Ask 200 ysk_21, zi G Ana 6 yna_22, zi G Akp 24 ykp_23, zi G Asq 4 (nF Fsq), zi G Ace 160 Fce, zi G Ass 4 Fss] H := ⟨hP1, hD1⟩
  have hP1 := hz9.1
  have hD1 := hz9.2
  have w_20 : r_19 = m_X6_kinds Npb Njg Nru Fst Fro Fmo Fkd Fcd Fsr Fsq Fce Fss v1 v2 v3 v4 := w_20
  have hz9 : gPD G A [zo1 rd tt b0 x2 x3 x4 x5 (nI td), zi G b0 160 fb, zo3 tt co en sk wr (nI tx), zr G co 6 fc, zi G c0 160 fcr0, zi G c1 160 fcr1, zi G c2 160 fcr2, zi G c3 160 fcr3, zi G c4 160 fcr4, zi G c5 160 fcr5, zr G en 6 fe, zi G e0 3 (nF fer0), zi G e1 3 (nF fer1), zi G e2 3 (nF fer2), zi G e3 3 (nF fer3), zi G e4 3 (nF fer4), zi G e5 3 (nF fer5), zi G sk 32 fsk, zo0 nw tt n1 n2 n3 n4 n5 n6 n7 n8 (nI jg) (nI pb) (nI lw), zi G n1 6 fnm, zi G n2 4 fso, zi G n3 4 fmi, zi G n4 4 fpa, zi G n5 6 fki, zi G n6 6 fmo, zi G n7 6 fsz, zi G n8 6 frd, zo0 th tt t1 t2 t3 t4 t5 t6 t7 t8 tj tb tl, zi G t1 6 unm, zi G t2 4 uso, zi G t3 4 umi, zi G t4 4 upa, zi G t5 6 uki, zi G t6 6 umo, zi G t7 6 usz, zi G t8 6 urd, zo0 kp tt k1 k2 k3 k4 k5 k6 k7 k8 (nI kj) (nI kb) (nI kl), zi G k1 6 gnm, zi G k2 4 gso, zi G k3 4 gmi, zi G k4 4 gpa, zi G k5 6 gki, zi G k6 6 gmo, zi G k7 6 gsz, zi G k8 6 grd, zr G qn 4 fn, zi G r0 40 fs0, zi G r1 40 fs1, zi G r2 40 fs2, zi G r3 40 fs3, zi G qo 4 fqo, zi G ql 4 (nF fql), zo4 tu tw tr, zr G tw 6 fw, zi G w0 6 fw0, zi G w1 6 fw1, zi G w2 6 fw2, zi G w3 6 fw3, zi G w4 6 fw4, zi G w5 6 fw5, zi G tr 64 ftr, zi G Atp 160 Ftp, zi G Air 24 Fir, zi G Aih 3 Fih, zi G Alw 40 Flw, zi G Awo 96 Fwo, zi G Ahe 200 Fhe, zb G Agb 61 Fgb, zb G Ago 61 Fgo, zi G Afa 36 Ffa, zi G Aga 36 Fga, zi G Avo 64 Fvo, zo5 xo tt rd nw th kp sh tu him, zo2 sh qn qo ql, zo6 mo (nI Npb) Akd Amo Ast (nI Njg) Aro Atp (nI Ntd) Acd Asr (nI Ntx) (nI Nru) Zhi Air Aih Ass Asq Ace Alw Z19 Z20 Z21 Z22 Awo Ahe Z25 Z26 Z27 Ask Ana Akp Z31 Z32 Z33 Z34 Agb Ago Afa Aga Z39 Z40 Avo, zi G Ast 12 Fst, zi G Aro 12 Fro, zi G Amo 6 (m_X6_kinds_mo Npb Njg Nru Fst Fro Fmo Fkd Fcd Fsr Fsq Fce Fss v1 v2 v3 v4), zi G Akd 6 (m_X6_kinds_kd Npb Njg Nru Fst Fro Fmo Fkd Fcd Fsr Fsq Fce Fss v1 v2 v3 v4), zi G Acd 1200 Fcd, zi G Asr 24 (nF Fsr), zi G Ask 200 ysk_21, zi G Ana 6 yna_22, zi G Akp 24 ykp_23, zi G Asq 4 (nF Fsq), zi G Ace 160 Fce, zi G Ass 4 Fss] H := gJoin hP hD hk1 hFc hP1 hD1 [61, 64, 65, 63, 62, 67, 68, 77, 78, 79, 72, 73, 71] [0, 1, 2, 3, 4, 5, 6, 7, 8, 9, 10, 11, 12, 13, 14, 15, 16, 17, 18, 19, 20, 21, 22, 23, 24, 25, 26, 27, 28, 29, 30, 31, 32, 33, 34, 35, 36, 37, 38, 39, 40, 41, 42, 43, 44, 45, 46, 47, 48, 49, 50, 51, 52, 53, 54, 55, 56, 57, 58, 59, 60, 66, 69, 70, 74, 75, 76, 80, 81, 82, 83, 84, 85, 86] rfl rfl rfl (by decide +kernel) (by decide +kernel)
  have hP := hz9.1
  have hD := hz9.2
  subst w_20
  refine lv_pop hx hb dL_law_1026 rfl ?_
  refine lv_goto (tgt := 1614) hx hb dL_law_1027 (by decide +kernel) ?_
  refine lv_iinc (v := nI (7 * (i7 + 1))) (lv' := [zI 3 (nI (7 * (i7 + 1))), zR 2 mo, zR 1 xo, zR 0 b]) hx hb dL_law_1614 hl (k := 0) rfl (by show nI (7 * i7) + 7 = nI (7 * (i7 + 1)); exact nI_add (7 * i7) 7) (by decide +kernel) rfl (fun ls hl => ?_)
  refine lv_goto (tgt := 18) hx hb dL_law_1617 (by decide +kernel) ?_
  exact K him x2 x3 x4 x5 td fb wr fsk jg pb lw fnm fso fmi fpa fki fmo fsz frd tj tb tl unm uso umi upa uki umo usz urd kj kb kl gnm gso gmi gpa gki gmo gsz grd fs0 fs1 fs2 fs3 fqo fql fw0 fw1 fw2 fw3 fw4 fw5 ftr Npb Njg Ntd Ntx Nru Zhi Z19 Z20 Z21 Z22 Z25 Z26 Z27 Z31 Z32 Z33 Z34 Z39 Z40 (m_X6_kinds_kd Npb Njg Nru Fst Fro Fmo Fkd Fcd Fsr Fsq Fce Fss v1 v2 v3 v4) (m_X6_kinds_mo Npb Njg Nru Fst Fro Fmo Fkd Fcd Fsr Fsq Fce Fss v1 v2 v3 v4) Fst Fro Ftp Fcd Fsr Fir Fih Fss Fsq Fce Flw Fwo Fhe ysk_21 yna_22 ykp_23 Fgb Fgo Ffa Fga Fvo hFX hFM hRL (rq_kinds hRQ) H _ ls (hP.sub [72, 0, 1, 2, 3, 4, 5, 6, 7, 8, 9, 10, 11, 12, 13, 14, 15, 16, 17, 18, 19, 20, 21, 22, 23, 24, 25, 26, 27, 28, 29, 30, 31, 32, 33, 34, 35, 36, 37, 38, 39, 40, 41, 42, 43, 44, 73, 45, 46, 47, 48, 49, 50, 51, 52, 53, 54, 55, 56, 57, 58, 59, 60, 74, 78, 77, 75, 76, 61, 79, 80, 62, 63, 86, 84, 85, 64, 65, 66, 81, 82, 83, 67, 68, 69, 70, 71] rfl) (hD.sub [72, 0, 1, 2, 3, 4, 5, 6, 7, 8, 9, 10, 11, 12, 13, 14, 15, 16, 17, 18, 19, 20, 21, 22, 23, 24, 25, 26, 27, 28, 29, 30, 31, 32, 33, 34, 35, 36, 37, 38, 39, 40, 41, 42, 43, 44, 73, 45, 46, 47, 48, 49, 50, 51, 52, 53, 54, 55, 56, 57, 58, 59, 60, 74, 78, 77, 75, 76, 61, 79, 80, 62, 63, 86, 84, 85, 64, 65, 66, 81, 82, 83, 67, 68, 69, 70, 71] (by decide +kernel) rfl) hS (lv_sub hl [0, 1, 2, 3] rfl)
set_option maxHeartbeats 4000000 in
set_option maxRecDepth 100000 in
theorem lc_soled_A {p : Program} {l : Launch} {e : Env} {s : State} {m : MethodId} {below : List Frame} {meth : Method} {c : Code} {b L : Nat} {xs : Nat → Int32} {G : gG} {E : gS} {A : Nat → Prop} (C0 : lw_At p s m meth c b L xs) (hE : gE E A s s.heap) (hK : gK G s) (hAe : A = fun q => s.heap.size ≤ q) {xo tt rd nw th kp sh tu b0 co en sk c0 c1 c2 c3 c4 c5 e0 e1 e2 e3 e4 e5 n1 n2 n3 n4 n5 n6 n7 n8 t1 t2 t3 t4 t5 t6 t7 t8 k1 k2 k3 k4 k5 k6 k7 k8 qn qo ql r0 r1 r2 r3 tw tr w0 w1 w2 w3 w4 w5 mo Akd Amo Ast Aro Atp Acd Asr Air Aih Ass Asq Ace Alw Awo Ahe Ask Ana Akp Agb Ago Afa Aga Avo : Nat} {fc fe fn fw : Nat → Option Nat} {tx : Nat} {fcr0 fcr1 fcr2 fcr3 fcr4 fcr5 : Nat → Int32} {fer0 fer1 fer2 fer3 fer4 fer5 : Nat → Nat} {him x2 x3 x4 x5 : Int32} {td : Nat} {fb : Nat → Int32} {wr : Int32} {fsk : Nat → Int32} {jg pb lw : Nat} {fnm fso fmi fpa fki fmo fsz frd : Nat → Int32} {tj tb tl : Int32} {unm uso umi upa uki umo usz urd : Nat → Int32} {kj kb kl : Nat} {gnm gso gmi gpa gki gmo gsz grd fs0 fs1 fs2 fs3 fqo : Nat → Int32} {fql : Nat → Nat} {fw0 fw1 fw2 fw3 fw4 fw5 ftr : Nat → Int32} {Npb Njg Ntd Ntx Nru : Nat} {Zhi Z19 Z20 Z21 Z22 Z25 Z26 Z27 Z31 Z32 Z33 Z34 Z39 Z40 : Int32} {Fkd Fmo Fst Fro Ftp Fcd : Nat → Int32} {Fsr : Nat → Nat} {Fir Fih Fss : Nat → Int32} {Fsq : Nat → Nat} {Fce Flw Fwo Fhe Fsk Fna Fkp Fgb Fgo Ffa Fga Fvo : Nat → Int32} {sn : Nat} {v2 v3 v4 v5 v6 : Int32} {i7 : Nat} (hi : 7 * i7 + 7 ≤ L) (hL : L ≤ 3584) (hv1 : (nI sn) = xs (7 * i7 + 1)) (hv2 : v2 = xs (7 * i7 + 2)) (hv3 : v3 = xs (7 * i7 + 3)) (hv4 : v4 = xs (7 * i7 + 4)) (hv5 : v5 = xs (7 * i7 + 5)) (hv6 : v6 = xs (7 * i7 + 6)) (hsn : sn < 4) (hrw : fn sn = some r0) (hc : fc lw = some c0) (he : fe lw = some e0) (hwx : mWx fcr0 fer0) (K : LawV p l e s m below meth c b G A xo tt rd nw th kp sh tu b0 co en sk c0 c1 c2 c3 c4 c5 e0 e1 e2 e3 e4 e5 n1 n2 n3 n4 n5 n6 n7 n8 t1 t2 t3 t4 t5 t6 t7 t8 k1 k2 k3 k4 k5 k6 k7 k8 qn qo ql r0 r1 r2 r3 tw tr w0 w1 w2 w3 w4 w5 mo Akd Amo Ast Aro Atp Acd Asr Air Aih Ass Asq Ace Alw Awo Ahe Ask Ana Akp Agb Ago Afa Aga Avo fc fe fn fw tx fcr0 fcr1 fcr2 fcr3 fcr4 fcr5 fer0 fer1 fer2 fer3 fer4 fer5 (i7 + 1)) (hFX : FXP jg pb lw kj kb kl tx td him fql) (hFM : FMP Npb Njg Ntd Ntx Nru Zhi Fcd Fsr Fsq Fir Fih) (hRL : RLP False fn r0 r1 r2 r3 jg pb kj kb him fs0 fs1 fs2 fs3 fqo fql Npb Njg Zhi Fss Fsq Fce Fih) (hRQ : RQP fc c0 c1 c2 c3 c4 c5 fcr0 fcr1 fcr2 fcr3 fcr4 fcr5 fer0 fer1 fer2 fer3 fer4 fer5 pb lw tx td kb kl him fb fso fmi fpa fki fmo fsz frd gso gmi gpa gki gmo gsz grd Nru Ntx Ntd Fkd Fmo Fst Fro Ftp Fcd Fsr Fir Fih Fwo) {H : Heap} {locs : List Loc} (hP : va_P G.1 vwCl (WLd G xo tt rd nw th kp sh tu b0 co en sk c0 c1 c2 c3 c4 c5 e0 e1 e2 e3 e4 e5 n1 n2 n3 n4 n5 n6 n7 n8 t1 t2 t3 t4 t5 t6 t7 t8 k1 k2 k3 k4 k5 k6 k7 k8 qn qo ql r0 r1 r2 r3 tw tr w0 w1 w2 w3 w4 w5 mo Akd Amo Ast Aro Atp Acd Asr Air Aih Ass Asq Ace Alw Awo Ahe Ask Ana Akp Agb Ago Afa Aga Avo fc fe fn fw tx fcr0 fcr1 fcr2 fcr3 fcr4 fcr5 fer0 fer1 fer2 fer3 fer4 fer5 him x2 x3 x4 x5 td fb wr fsk jg pb lw fnm fso fmi fpa fki fmo fsz frd tj tb tl unm uso umi upa uki umo usz urd kj kb kl gnm gso gmi gpa gki gmo gsz grd fs0 fs1 fs2 fs3 fqo fql fw0 fw1 fw2 fw3 fw4 fw5 ftr Npb Njg Ntd Ntx Nru Zhi Z19 Z20 Z21 Z22 Z25 Z26 Z27 Z31 Z32 Z33 Z34 Z39 Z40 Fkd Fmo Fst Fro Ftp Fcd Fsr Fir Fih Fss Fsq Fce Flw Fwo Fhe Fsk Fna Fkp Fgb Fgo Ffa Fga Fvo) H) (hD : va_D A (WLd G xo tt rd nw th kp sh tu b0 co en sk c0 c1 c2 c3 c4 c5 e0 e1 e2 e3 e4 e5 n1 n2 n3 n4 n5 n6 n7 n8 t1 t2 t3 t4 t5 t6 t7 t8 k1 k2 k3 k4 k5 k6 k7 k8 qn qo ql r0 r1 r2 r3 tw tr w0 w1 w2 w3 w4 w5 mo Akd Amo Ast Aro Atp Acd Asr Air Aih Ass Asq Ace Alw Awo Ahe Ask Ana Akp Agb Ago Afa Aga Avo fc fe fn fw tx fcr0 fcr1 fcr2 fcr3 fcr4 fcr5 fer0 fer1 fer2 fer3 fer4 fer5 him x2 x3 x4 x5 td fb wr fsk jg pb lw fnm fso fmi fpa fki fmo fsz frd tj tb tl unm uso umi upa uki umo usz urd kj kb kl gnm gso gmi gpa gki gmo gsz grd fs0 fs1 fs2 fs3 fqo fql fw0 fw1 fw2 fw3 fw4 fw5 ftr Npb Njg Ntd Ntx Nru Zhi Z19 Z20 Z21 Z22 Z25 Z26 Z27 Z31 Z32 Z33 Z34 Z39 Z40 Fkd Fmo Fst Fro Ftp Fcd Fsr Fir Fih Fss Fsq Fce Flw Fwo Fhe Fsk Fna Fkp Fgb Fgo Ffa Fga Fvo)) (hS : va_S A s.heap H locs) {ls : Array Slot} (hl : lv_has ls 4 [zI 3 (nI (7 * i7)), zR 2 mo, zR 1 xo, zR 0 b]) : W p l e room_1 s m #[Value.ref b] below meth c H locs 87 4128 (lw_Z below #[Value.ref b] s) (F0 m 1030 ls []) := by
  obtain ⟨hx, hb, hret, hml, hown, hts0, hX, hbl, hlocks, hgv⟩ := id C0
  have hts : ∀ w ∈ wsL_law, w.before #[Value.ref b] s = true := fun w h => hts0 w (wsL_law_in w h)
  have hown : s.vm.findClass RL = some m.cls := hown
  have hA : ∀ q : Nat, s.heap.size ≤ q → A q := fun q h => by rw [hAe]; exact h
  have hbA : ¬ A b := by rw [hAe]; exact Nat.not_le.mpr hbl
  obtain ⟨⟨hjg, hpb, hlw, htx, htd⟩, hkk, hql⟩ := id hFX
  obtain ⟨⟨hNpb, hNjg, hNru, hNtx, hNtd⟩, hwa, hsq, hIM⟩ := id hFM
  have hz9 : gPD G A [zo5 xo tt rd nw th kp sh tu him, zo1 rd tt b0 x2 x3 x4 x5 (nI td), zi G b0 160 fb, zo3 tt co en sk wr (nI tx), zr G co 6 fc, zi G c0 160 fcr0, zi G c1 160 fcr1, zi G c2 160 fcr2, zi G c3 160 fcr3, zi G c4 160 fcr4, zi G c5 160 fcr5, zr G en 6 fe, zi G e0 3 (nF fer0), zi G e1 3 (nF fer1), zi G e2 3 (nF fer2), zi G e3 3 (nF fer3), zi G e4 3 (nF fer4), zi G e5 3 (nF fer5), zi G sk 32 fsk, zo0 nw tt n1 n2 n3 n4 n5 n6 n7 n8 (nI jg) (nI pb) (nI lw), zi G n1 6 fnm, zi G n2 4 fso, zi G n3 4 fmi, zi G n4 4 fpa, zi G n5 6 fki, zi G n6 6 fmo, zi G n7 6 fsz, zi G n8 6 frd, zo0 th tt t1 t2 t3 t4 t5 t6 t7 t8 tj tb tl, zi G t1 6 unm, zi G t2 4 uso, zi G t3 4 umi, zi G t4 4 upa, zi G t5 6 uki, zi G t6 6 umo, zi G t7 6 usz, zi G t8 6 urd, zo0 kp tt k1 k2 k3 k4 k5 k6 k7 k8 (nI kj) (nI kb) (nI kl), zi G k1 6 gnm, zi G k2 4 gso, zi G k3 4 gmi, zi G k4 4 gpa, zi G k5 6 gki, zi G k6 6 gmo, zi G k7 6 gsz, zi G k8 6 grd, zo2 sh qn qo ql, zr G qn 4 fn, zi G r0 40 fs0, zi G r1 40 fs1, zi G r2 40 fs2, zi G r3 40 fs3, zi G qo 4 fqo, zi G ql 4 (nF fql), zo4 tu tw tr, zr G tw 6 fw, zi G w0 6 fw0, zi G w1 6 fw1, zi G w2 6 fw2, zi G w3 6 fw3, zi G w4 6 fw4, zi G w5 6 fw5, zi G tr 64 ftr, zo6 mo (nI Npb) Akd Amo Ast (nI Njg) Aro Atp (nI Ntd) Acd Asr (nI Ntx) (nI Nru) Zhi Air Aih Ass Asq Ace Alw Z19 Z20 Z21 Z22 Awo Ahe Z25 Z26 Z27 Ask Ana Akp Z31 Z32 Z33 Z34 Agb Ago Afa Aga Z39 Z40 Avo, zi G Akd 6 Fkd, zi G Amo 6 Fmo, zi G Ast 12 Fst, zi G Aro 12 Fro, zi G Atp 160 Ftp, zi G Acd 1200 Fcd, zi G Asr 24 (nF Fsr), zi G Air 24 Fir, zi G Aih 3 Fih, zi G Ass 4 Fss, zi G Asq 4 (nF Fsq), zi G Ace 160 Fce, zi G Alw 40 Flw, zi G Awo 96 Fwo, zi G Ahe 200 Fhe, zi G Ask 200 Fsk, zi G Ana 6 Fna, zi G Akp 24 Fkp, zb G Agb 61 Fgb, zb G Ago 61 Fgo, zi G Afa 36 Ffa, zi G Aga 36 Fga, zi G Avo 64 Fvo] H := ⟨hP, hD⟩
  have hP := hz9.1
  have hD := hz9.2
  refine lv_aload_n hx hb dL_law_1030 rfl (lv_at hl 2 rfl) ?_
  refine lv_aload_n hx hb dL_law_1031 rfl (lv_at hl 3 rfl) ?_
  refine lv_iload_n hx hb dL_law_1032 rfl (lv_at hl 0 rfl) ?_
  refine lv_iconst (v := 1) hx hb dL_law_1033 (by decide +kernel) ?_
  refine lv_iadd hx hb dL_law_1034 ?_
  refine lv_topi (fun v_1 ev_1 => ?_)
  have ev_1 : v_1 = nI ((7 * i7) + 1) := ev_1.trans (nI_add (7 * i7) 1)
  subst ev_1
  refine va_sld hx hb hX hbl hbA hS (i := nI ((7 * i7) + 1)) (vp_in_nI (by omega) (by omega)) dL_law_1035 ?_
  refine lv_topi (fun v_2 ev_2 => ?_)
  have ev_2 : (nI sn) = v_2 := (ev_2.trans (by rw [nI_clamp (by omega)]; exact hv1.symm)).symm
  subst ev_2
  refine lv_aload_n hx hb dL_law_1036 rfl (lv_at hl 3 rfl) ?_
  refine lv_iload_n hx hb dL_law_1037 rfl (lv_at hl 0 rfl) ?_
  refine lv_iconst (v := 2) hx hb dL_law_1038 (by decide +kernel) ?_
  refine lv_iadd hx hb dL_law_1039 ?_
  refine lv_topi (fun v_3 ev_3 => ?_)
  have ev_3 : v_3 = nI ((7 * i7) + 2) := ev_3.trans (nI_add (7 * i7) 2)
  subst ev_3
  refine va_sld hx hb hX hbl hbA hS (i := nI ((7 * i7) + 2)) (vp_in_nI (by omega) (by omega)) dL_law_1040 ?_
  refine lv_topi (fun v_4 ev_4 => ?_)
  have ev_4 : v2 = v_4 := (ev_4.trans (by rw [nI_clamp (by omega)]; exact hv2.symm)).symm
  subst ev_4
  have hz9 : gPD G A [zo5 xo tt rd nw th kp sh tu him, zo0 nw tt n1 n2 n3 n4 n5 n6 n7 n8 (nI jg) (nI pb) (nI lw), zi G n2 4 fso, zi G n3 4 fmi, zi G n4 4 fpa, zi G n5 6 fki, zi G n6 6 fmo, zi G n7 6 fsz, zi G n8 6 frd, zo0 th tt t1 t2 t3 t4 t5 t6 t7 t8 tj tb tl, zi G t1 6 unm, zi G t2 4 uso, zi G t3 4 umi, zi G t4 4 upa, zi G t5 6 uki, zi G t6 6 umo, zi G t7 6 usz, zi G t8 6 urd, zo3 tt co en sk wr (nI tx), zr G co 6 fc, zr G en 6 fe, zi G c0 160 fcr0, zi G e0 3 (nF fer0), zi G sk 32 fsk, zo2 sh qn qo ql, zr G qn 4 fn, zi G qo 4 fqo, zi G ql 4 (nF fql), zi G r0 40 fs0] H := ⟨hP.sub [0, 19, 21, 22, 23, 24, 25, 26, 27, 28, 29, 30, 31, 32, 33, 34, 35, 36, 3, 4, 11, 5, 12, 18, 46, 47, 52, 53, 48] rfl, hD.sub [0, 19, 21, 22, 23, 24, 25, 26, 27, 28, 29, 30, 31, 32, 33, 34, 35, 36, 3, 4, 11, 5, 12, 18, 46, 47, 52, 53, 48] (by decide +kernel) rfl⟩
  have hPc := hz9.1
  have hDc := hz9.2
  have hFc := gFree hPc hD hS hA [0, 19, 21, 22, 23, 24, 25, 26, 27, 28, 29, 30, 31, 32, 33, 34, 35, 36, 3, 4, 11, 5, 12, 18, 46, 47, 52, 53, 48] rfl
  refine va_calli (va_runV (As := [.int (nI sn), .int v2]) (rest := []) ⟨hx, hb, hml, hown, hts⟩ (c_X5_soled_A l G E xo tt rd nw th kp sh tu n1 n2 n3 n4 n5 n6 n7 n8 t1 t2 t3 t4 t5 t6 t7 t8 co en sk c0 e0 qn qo ql r0 jg pb lw tx him wr tj tb tl fc fe fn fer0 fql fso fmi fpa fki fmo fsz frd unm uso umi upa uki umo usz urd fcr0 fsk fqo fs0 sn v2 H.size (by first | exact hsn | assumption | omega) (by first | exact hrw | assumption | omega) (by first | exact hql | assumption | omega) (by first | exact htn | assumption | omega) (by first | exact hc | assumption | omega) (by first | exact he | assumption | omega) (by first | exact hwx | assumption | omega) (by first | exact hjg | assumption | omega) (by first | exact hpb | assumption | omega)) (cwV 2 hts gL_law_X5_soled rfl rfl rfl (by decide +kernel) ⟨Nat.le_of_ble_eq_true rfl, Nat.le_of_ble_eq_true rfl⟩) ⟨gPreE_blind, va_recv hK hPc (ci := 5) (q0 := 0) rfl rfl, fun U hU hW => gPreE_of hU hW hK hPc hDc hE hS hFc⟩ rfl rfl hl.1 rfl (lv_room (Nat.le_of_ble_eq_true rfl)) dL_law_1041 ⟨Nat.le_of_ble_eq_true rfl, Nat.le_of_ble_eq_true rfl⟩) hS (fun q _ h => hFc q h) hFc (fun r_5 u t H locs ht hvm w_6 hB hz1 hk1 hS => ?_)
  obtain ⟨zj9_7, zb9_8, zl9_9, yt1_10, yt2_11, yt3_12, yt4_13, yt5_14, yt6_15, yt7_16, yt8_17, ysk_18⟩ := u
  obtain ⟨hP1, hK1, hD1⟩ := hB
  rw [ht] at hP1
  have hz9 : gPD G (va_A _ _) [zo5 xo tt rd nw th kp sh tu him, zo0 nw tt n1 n2 n3 n4 n5 n6 n7 n8 (nI jg) (nI pb) (nI lw), zi G n2 4 fso, zi G n3 4 fmi, zi G n4 4 fpa, zi G n5 6 fki, zi G n6 6 fmo, zi G n7 6 fsz, zi G n8 6 frd, zo0 th tt t1 t2 t3 t4 t5 t6 t7 t8 zj9_7 zb9_8 zl9_9, zi G t1 6 yt1_10, zi G t2 4 yt2_11, zi G t3 4 yt3_12, zi G t4 4 yt4_13, zi G t5 6 yt5_14, zi G t6 6 yt6_15, zi G t7 6 yt7_16, zi G t8 6 yt8_17, zo3 tt co en sk wr (nI tx), zr G co 6 fc, zr G en 6 fe, zi G c0 160 fcr0, zi G e0 3 (nF fer0), zi G sk 32 ysk_18, zo2 sh qn qo ql, zr G qn 4 fn, zi G qo 4 fqo, zi G ql 4 (nF fql), zi G r0 40 fs0] H := ⟨hP1, hD1⟩
  have hP1 := hz9.1
  have hD1 := hz9.2
  have w_6 : r_5 = m_X5_soled_A jg pb fer0 fql fso fmi fpa fki fmo fsz frd fcr0 fqo fs0 sn v2 := w_6
  have hz9 : gPD G A [zo1 rd tt b0 x2 x3 x4 x5 (nI td), zi G b0 160 fb, zi G c1 160 fcr1, zi G c2 160 fcr2, zi G c3 160 fcr3, zi G c4 160 fcr4, zi G c5 160 fcr5, zi G e1 3 (nF fer1), zi G e2 3 (nF fer2), zi G e3 3 (nF fer3), zi G e4 3 (nF fer4), zi G e5 3 (nF fer5), zi G n1 6 fnm, zo0 kp tt k1 k2 k3 k4 k5 k6 k7 k8 (nI kj) (nI kb) (nI kl), zi G k1 6 gnm, zi G k2 4 gso, zi G k3 4 gmi, zi G k4 4 gpa, zi G k5 6 gki, zi G k6 6 gmo, zi G k7 6 gsz, zi G k8 6 grd, zi G r1 40 fs1, zi G r2 40 fs2, zi G r3 40 fs3, zo4 tu tw tr, zr G tw 6 fw, zi G w0 6 fw0, zi G w1 6 fw1, zi G w2 6 fw2, zi G w3 6 fw3, zi G w4 6 fw4, zi G w5 6 fw5, zi G tr 64 ftr, zo6 mo (nI Npb) Akd Amo Ast (nI Njg) Aro Atp (nI Ntd) Acd Asr (nI Ntx) (nI Nru) Zhi Air Aih Ass Asq Ace Alw Z19 Z20 Z21 Z22 Awo Ahe Z25 Z26 Z27 Ask Ana Akp Z31 Z32 Z33 Z34 Agb Ago Afa Aga Z39 Z40 Avo, zi G Akd 6 Fkd, zi G Amo 6 Fmo, zi G Ast 12 Fst, zi G Aro 12 Fro, zi G Atp 160 Ftp, zi G Acd 1200 Fcd, zi G Asr 24 (nF Fsr), zi G Air 24 Fir, zi G Aih 3 Fih, zi G Ass 4 Fss, zi G Asq 4 (nF Fsq), zi G Ace 160 Fce, zi G Alw 40 Flw, zi G Awo 96 Fwo, zi G Ahe 200 Fhe, zi G Ask 200 Fsk, zi G Ana 6 Fna, zi G Akp 24 Fkp, zb G Agb 61 Fgb, zb G Ago 61 Fgo, zi G Afa 36 Ffa, zi G Aga 36 Fga, zi G Avo 64 Fvo, zo5 xo tt rd nw th kp sh tu him, zo0 nw tt n1 n2 n3 n4 n5 n6 n7 n8 (nI jg) (nI pb) (nI lw), zi G n2 4 fso, zi G n3 4 fmi, zi G n4 4 fpa, zi G n5 6 fki, zi G n6 6 fmo, zi G n7 6 fsz, zi G n8 6 frd, zo0 th tt t1 t2 t3 t4 t5 t6 t7 t8 zj9_7 zb9_8 zl9_9, zi G t1 6 yt1_10, zi G t2 4 yt2_11, zi G t3 4 yt3_12, zi G t4 4 yt4_13, zi G t5 6 yt5_14, zi G t6 6 yt6_15, zi G t7 6 yt7_16, zi G t8 6 yt8_17, zo3 tt co en sk wr (nI tx), zr G co 6 fc, zr G en 6 fe, zi G c0 160 fcr0, zi G e0 3 (nF fer0), zi G sk 32 ysk_18, zo2 sh qn qo ql, zr G qn 4 fn, zi G qo 4 fqo, zi G ql 4 (nF fql), zi G r0 40 fs0] H := gJoin hP hD hk1 hFc hP1 hD1 [0, 19, 21, 22, 23, 24, 25, 26, 27, 28, 29, 30, 31, 32, 33, 34, 35, 36, 3, 4, 11, 5, 12, 18, 46, 47, 52, 53, 48] [1, 2, 6, 7, 8, 9, 10, 13, 14, 15, 16, 17, 20, 37, 38, 39, 40, 41, 42, 43, 44, 45, 49, 50, 51, 54, 55, 56, 57, 58, 59, 60, 61, 62, 63, 64, 65, 66, 67, 68, 69, 70, 71, 72, 73, 74, 75, 76, 77, 78, 79, 80, 81, 82, 83, 84, 85, 86] rfl rfl rfl (by decide +kernel) (by decide +kernel)
  have hP := hz9.1
  have hD := hz9.2
  subst w_6
  refine lv_pop hx hb dL_law_1044 rfl ?_
  refine lv_aload_n hx hb dL_law_1045 rfl (lv_at hl 1 rfl) ?_
  refine lv_aload_n hx hb dL_law_1046 rfl (lv_at hl 3 rfl) ?_
  refine lv_iload_n hx hb dL_law_1047 rfl (lv_at hl 0 rfl) ?_
  refine lv_iconst (v := 1) hx hb dL_law_1048 (by decide +kernel) ?_
  refine lv_iadd hx hb dL_law_1049 ?_
  refine lv_topi (fun v_19 ev_19 => ?_)
  have ev_19 : v_19 = nI ((7 * i7) + 1) := ev_19.trans (nI_add (7 * i7) 1)
  subst ev_19
  refine va_sld hx hb hX hbl hbA hS (i := nI ((7 * i7) + 1)) (vp_in_nI (by omega) (by omega)) dL_law_1050 ?_
  refine lv_topi (fun v_20 ev_20 => ?_)
  have ev_20 : (nI sn) = v_20 := (ev_20.trans (by rw [nI_clamp (by omega)]; exact hv1.symm)).symm
  subst ev_20
  refine lv_aload_n hx hb dL_law_1051 rfl (lv_at hl 3 rfl) ?_
  refine lv_iload_n hx hb dL_law_1052 rfl (lv_at hl 0 rfl) ?_
  refine lv_iconst (v := 2) hx hb dL_law_1053 (by decide +kernel) ?_
  refine lv_iadd hx hb dL_law_1054 ?_
  refine lv_topi (fun v_21 ev_21 => ?_)
  have ev_21 : v_21 = nI ((7 * i7) + 2) := ev_21.trans (nI_add (7 * i7) 2)
  subst ev_21
  refine va_sld hx hb hX hbl hbA hS (i := nI ((7 * i7) + 2)) (vp_in_nI (by omega) (by omega)) dL_law_1055 ?_
  refine lv_topi (fun v_22 ev_22 => ?_)
  have ev_22 : v2 = v_22 := (ev_22.trans (by rw [nI_clamp (by omega)]; exact hv2.symm)).symm
  subst ev_22
  have hz9 : gPD G A [zo6 mo (nI Npb) Akd Amo Ast (nI Njg) Aro Atp (nI Ntd) Acd Asr (nI Ntx) (nI Nru) Zhi Air Aih Ass Asq Ace Alw Z19 Z20 Z21 Z22 Awo Ahe Z25 Z26 Z27 Ask Ana Akp Z31 Z32 Z33 Z34 Agb Ago Afa Aga Z39 Z40 Avo, zi G Ast 12 Fst, zi G Aro 12 Fro, zi G Amo 6 Fmo, zi G Akd 6 Fkd, zi G Acd 1200 Fcd, zi G Asr 24 (nF Fsr), zi G Ask 200 Fsk, zi G Ana 6 Fna, zi G Akp 24 Fkp, zi G Asq 4 (nF Fsq), zi G Ace 160 Fce, zi G Ass 4 Fss] H := ⟨hP.sub [34, 37, 38, 36, 35, 40, 41, 50, 51, 52, 45, 46, 44] rfl, hD.sub [34, 37, 38, 36, 35, 40, 41, 50, 51, 52, 45, 46, 44] (by decide +kernel) rfl⟩
  have hPc := hz9.1
  have hDc := hz9.2
  have hFc := gFree hPc hD hS hA [34, 37, 38, 36, 35, 40, 41, 50, 51, 52, 45, 46, 44] rfl
  refine va_calli (va_runV (As := [.int (nI sn), .int v2]) (rest := []) ⟨hx, hb, hml, hown, hts⟩ (c_X6_soled l G mo Akd Amo Ast Aro Atp Acd Asr Air Aih Ass Asq Ace Alw Awo Ahe Ask Ana Akp Agb Ago Afa Aga Avo Npb Njg Ntd Ntx Nru Zhi Z19 Z20 Z21 Z22 Z25 Z26 Z27 Z31 Z32 Z33 Z34 Z39 Z40 Fst Fro Fmo Fkd Fcd Fsr Fsk Fna Fkp Fsq Fce Fss (nI sn) v2 H.size (by first | exact hsq | assumption | omega) (by first | exact hwa | assumption | omega) (by first | exact hpb | assumption | omega) (by first | exact hjg | assumption | omega) (by first | exact htx | assumption | omega) (by first | exact hru | assumption | omega)) (cwV 2 hts gL_law_X6_soled rfl rfl rfl (by decide +kernel) ⟨Nat.le_of_ble_eq_true rfl, Nat.le_of_ble_eq_true rfl⟩) ⟨gPre_blind, va_recv hK hPc (ci := 6) (q0 := 0) rfl rfl, fun U hU hW => gPre_of hU hW hK hPc hDc⟩ rfl rfl hl.1 rfl (lv_room (Nat.le_of_ble_eq_true rfl)) dL_law_1056 ⟨Nat.le_of_ble_eq_true rfl, Nat.le_of_ble_eq_true rfl⟩) hS (fun q _ h => hFc q h) hFc (fun r_23 u t H locs ht hvm w_24 hB hz1 hk1 hS => ?_)
  obtain ⟨ysk_25, yna_26, ykp_27⟩ := u
  obtain ⟨hP1, hK1, hD1⟩ := hB
  rw [ht] at hP1
  have hz9 : gPD G (va_A _ _) [zo6 mo (nI Npb) Akd Amo Ast (nI Njg) Aro Atp (nI Ntd) Acd Asr (nI Ntx) (nI Nru) Zhi Air Aih Ass Asq Ace Alw Z19 Z20 Z21 Z22 Awo Ahe Z25 Z26 Z27 Ask Ana Akp Z31 Z32 Z33 Z34 Agb Ago Afa Aga Z39 Z40 Avo, zi G Ast 12 Fst, zi G Aro 12 (m_X6_soled_ro Npb Njg Nru Fst Fro Fmo Fkd Fcd Fsr Fsq Fce Fss (nI sn) v2), zi G Amo 6 Fmo, zi G Akd 6 Fkd, zi G Acd 1200 Fcd, zi G Asr 24 (nF Fsr), zi G Ask 200 ysk_25, zi G Ana 6 yna_26, zi G Akp 24 ykp_27, zi G Asq 4 (nF Fsq), zi G Ace 160 Fce, zi G Ass 4 Fss] H := ⟨hP1, hD1⟩
  have hP1 := hz9.1
  have hD1 := hz9.2
  have w_24 : r_23 = m_X6_soled Npb Njg Nru Fst Fro Fmo Fkd Fcd Fsr Fsq Fce Fss (nI sn) v2 := w_24
  have hz9 : gPD G A [zo1 rd tt b0 x2 x3 x4 x5 (nI td), zi G b0 160 fb, zi G c1 160 fcr1, zi G c2 160 fcr2, zi G c3 160 fcr3, zi G c4 160 fcr4, zi G c5 160 fcr5, zi G e1 3 (nF fer1), zi G e2 3 (nF fer2), zi G e3 3 (nF fer3), zi G e4 3 (nF fer4), zi G e5 3 (nF fer5), zi G n1 6 fnm, zo0 kp tt k1 k2 k3 k4 k5 k6 k7 k8 (nI kj) (nI kb) (nI kl), zi G k1 6 gnm, zi G k2 4 gso, zi G k3 4 gmi, zi G k4 4 gpa, zi G k5 6 gki, zi G k6 6 gmo, zi G k7 6 gsz, zi G k8 6 grd, zi G r1 40 fs1, zi G r2 40 fs2, zi G r3 40 fs3, zo4 tu tw tr, zr G tw 6 fw, zi G w0 6 fw0, zi G w1 6 fw1, zi G w2 6 fw2, zi G w3 6 fw3, zi G w4 6 fw4, zi G w5 6 fw5, zi G tr 64 ftr, zi G Atp 160 Ftp, zi G Air 24 Fir, zi G Aih 3 Fih, zi G Alw 40 Flw, zi G Awo 96 Fwo, zi G Ahe 200 Fhe, zb G Agb 61 Fgb, zb G Ago 61 Fgo, zi G Afa 36 Ffa, zi G Aga 36 Fga, zi G Avo 64 Fvo, zo5 xo tt rd nw th kp sh tu him, zo0 nw tt n1 n2 n3 n4 n5 n6 n7 n8 (nI jg) (nI pb) (nI lw), zi G n2 4 fso, zi G n3 4 fmi, zi G n4 4 fpa, zi G n5 6 fki, zi G n6 6 fmo, zi G n7 6 fsz, zi G n8 6 frd, zo0 th tt t1 t2 t3 t4 t5 t6 t7 t8 zj9_7 zb9_8 zl9_9, zi G t1 6 yt1_10, zi G t2 4 yt2_11, zi G t3 4 yt3_12, zi G t4 4 yt4_13, zi G t5 6 yt5_14, zi G t6 6 yt6_15, zi G t7 6 yt7_16, zi G t8 6 yt8_17, zo3 tt co en sk wr (nI tx), zr G co 6 fc, zr G en 6 fe, zi G c0 160 fcr0, zi G e0 3 (nF fer0), zi G sk 32 ysk_18, zo2 sh qn qo ql, zr G qn 4 fn, zi G qo 4 fqo, zi G ql 4 (nF fql), zi G r0 40 fs0, zo6 mo (nI Npb) Akd Amo Ast (nI Njg) Aro Atp (nI Ntd) Acd Asr (nI Ntx) (nI Nru) Zhi Air Aih Ass Asq Ace Alw Z19 Z20 Z21 Z22 Awo Ahe Z25 Z26 Z27 Ask Ana Akp Z31 Z32 Z33 Z34 Agb Ago Afa Aga Z39 Z40 Avo, zi G Ast 12 Fst, zi G Aro 12 (m_X6_soled_ro Npb Njg Nru Fst Fro Fmo Fkd Fcd Fsr Fsq Fce Fss (nI sn) v2), zi G Amo 6 Fmo, zi G Akd 6 Fkd, zi G Acd 1200 Fcd, zi G Asr 24 (nF Fsr), zi G Ask 200 ysk_25, zi G Ana 6 yna_26, zi G Akp 24 ykp_27, zi G Asq 4 (nF Fsq), zi G Ace 160 Fce, zi G Ass 4 Fss] H := gJoin hP hD hk1 hFc hP1 hD1 [34, 37, 38, 36, 35, 40, 41, 50, 51, 52, 45, 46, 44] [0, 1, 2, 3, 4, 5, 6, 7, 8, 9, 10, 11, 12, 13, 14, 15, 16, 17, 18, 19, 20, 21, 22, 23, 24, 25, 26, 27, 28, 29, 30, 31, 32, 33, 39, 42, 43, 47, 48, 49, 53, 54, 55, 56, 57, 58, 59, 60, 61, 62, 63, 64, 65, 66, 67, 68, 69, 70, 71, 72, 73, 74, 75, 76, 77, 78, 79, 80, 81, 82, 83, 84, 85, 86] rfl rfl rfl (by decide +kernel) (by decide +kernel)
  have hP := hz9.1
  have hD := hz9.2
  subst w_24
  refine lv_pop hx hb dL_law_1059 rfl ?_
  refine lv_goto (tgt := 1614) hx hb dL_law_1060 (by decide +kernel) ?_
  refine lv_iinc (v := nI (7 * (i7 + 1))) (lv' := [zI 3 (nI (7 * (i7 + 1))), zR 2 mo, zR 1 xo, zR 0 b]) hx hb dL_law_1614 hl (k := 0) rfl (by show nI (7 * i7) + 7 = nI (7 * (i7 + 1)); exact nI_add (7 * i7) 7) (by decide +kernel) rfl (fun ls hl => ?_)
  refine lv_goto (tgt := 18) hx hb dL_law_1617 (by decide +kernel) ?_
  exact K him x2 x3 x4 x5 td fb wr ysk_18 jg pb lw fnm fso fmi fpa fki fmo fsz frd zj9_7 zb9_8 zl9_9 yt1_10 yt2_11 yt3_12 yt4_13 yt5_14 yt6_15 yt7_16 yt8_17 kj kb kl gnm gso gmi gpa gki gmo gsz grd fs0 fs1 fs2 fs3 fqo fql fw0 fw1 fw2 fw3 fw4 fw5 ftr Npb Njg Ntd Ntx Nru Zhi Z19 Z20 Z21 Z22 Z25 Z26 Z27 Z31 Z32 Z33 Z34 Z39 Z40 Fkd Fmo Fst (m_X6_soled_ro Npb Njg Nru Fst Fro Fmo Fkd Fcd Fsr Fsq Fce Fss (nI sn) v2) Ftp Fcd Fsr Fir Fih Fss Fsq Fce Flw Fwo Fhe ysk_25 yna_26 ykp_27 Fgb Fgo Ffa Fga Fvo hFX hFM hRL (rq_soled hRQ) H _ ls (hP.sub [45, 0, 1, 63, 64, 66, 2, 3, 4, 5, 6, 65, 67, 7, 8, 9, 10, 11, 68, 46, 12, 47, 48, 49, 50, 51, 52, 53, 54, 55, 56, 57, 58, 59, 60, 61, 62, 13, 14, 15, 16, 17, 18, 19, 20, 21, 69, 70, 73, 22, 23, 24, 71, 72, 25, 26, 27, 28, 29, 30, 31, 32, 33, 74, 78, 77, 75, 76, 34, 79, 80, 35, 36, 86, 84, 85, 37, 38, 39, 81, 82, 83, 40, 41, 42, 43, 44] rfl) (hD.sub [45, 0, 1, 63, 64, 66, 2, 3, 4, 5, 6, 65, 67, 7, 8, 9, 10, 11, 68, 46, 12, 47, 48, 49, 50, 51, 52, 53, 54, 55, 56, 57, 58, 59, 60, 61, 62, 13, 14, 15, 16, 17, 18, 19, 20, 21, 69, 70, 73, 22, 23, 24, 71, 72, 25, 26, 27, 28, 29, 30, 31, 32, 33, 74, 78, 77, 75, 76, 34, 79, 80, 35, 36, 86, 84, 85, 37, 38, 39, 81, 82, 83, 40, 41, 42, 43, 44] (by decide +kernel) rfl) hS (lv_sub hl [0, 1, 2, 3] rfl)
set_option maxHeartbeats 4000000 in
set_option maxRecDepth 100000 in
theorem lc_soled_B {p : Program} {l : Launch} {e : Env} {s : State} {m : MethodId} {below : List Frame} {meth : Method} {c : Code} {b L : Nat} {xs : Nat → Int32} {G : gG} {E : gS} {A : Nat → Prop} (C0 : lw_At p s m meth c b L xs) (hE : gE E A s s.heap) (hK : gK G s) (hAe : A = fun q => s.heap.size ≤ q) {xo tt rd nw th kp sh tu b0 co en sk c0 c1 c2 c3 c4 c5 e0 e1 e2 e3 e4 e5 n1 n2 n3 n4 n5 n6 n7 n8 t1 t2 t3 t4 t5 t6 t7 t8 k1 k2 k3 k4 k5 k6 k7 k8 qn qo ql r0 r1 r2 r3 tw tr w0 w1 w2 w3 w4 w5 mo Akd Amo Ast Aro Atp Acd Asr Air Aih Ass Asq Ace Alw Awo Ahe Ask Ana Akp Agb Ago Afa Aga Avo : Nat} {fc fe fn fw : Nat → Option Nat} {tx : Nat} {fcr0 fcr1 fcr2 fcr3 fcr4 fcr5 : Nat → Int32} {fer0 fer1 fer2 fer3 fer4 fer5 : Nat → Nat} {him x2 x3 x4 x5 : Int32} {td : Nat} {fb : Nat → Int32} {wr : Int32} {fsk : Nat → Int32} {jg pb lw : Nat} {fnm fso fmi fpa fki fmo fsz frd : Nat → Int32} {tj tb tl : Int32} {unm uso umi upa uki umo usz urd : Nat → Int32} {kj kb kl : Nat} {gnm gso gmi gpa gki gmo gsz grd fs0 fs1 fs2 fs3 fqo : Nat → Int32} {fql : Nat → Nat} {fw0 fw1 fw2 fw3 fw4 fw5 ftr : Nat → Int32} {Npb Njg Ntd Ntx Nru : Nat} {Zhi Z19 Z20 Z21 Z22 Z25 Z26 Z27 Z31 Z32 Z33 Z34 Z39 Z40 : Int32} {Fkd Fmo Fst Fro Ftp Fcd : Nat → Int32} {Fsr : Nat → Nat} {Fir Fih Fss : Nat → Int32} {Fsq : Nat → Nat} {Fce Flw Fwo Fhe Fsk Fna Fkp Fgb Fgo Ffa Fga Fvo : Nat → Int32}  {v1 v2 v3 v4 v5 v6 : Int32} {i7 : Nat} (hi : 7 * i7 + 7 ≤ L) (hL : L ≤ 3584) (hv1 : v1 = xs (7 * i7 + 1)) (hv2 : v2 = xs (7 * i7 + 2)) (hv3 : v3 = xs (7 * i7 + 3)) (hv4 : v4 = xs (7 * i7 + 4)) (hv5 : v5 = xs (7 * i7 + 5)) (hv6 : v6 = xs (7 * i7 + 6)) (hno : ¬ (0 ≤ v1 ∧ v1 ≤ 3)) (K : LawV p l e s m below meth c b G A xo tt rd nw th kp sh tu b0 co en sk c0 c1 c2 c3 c4 c5 e0 e1 e2 e3 e4 e5 n1 n2 n3 n4 n5 n6 n7 n8 t1 t2 t3 t4 t5 t6 t7 t8 k1 k2 k3 k4 k5 k6 k7 k8 qn qo ql r0 r1 r2 r3 tw tr w0 w1 w2 w3 w4 w5 mo Akd Amo Ast Aro Atp Acd Asr Air Aih Ass Asq Ace Alw Awo Ahe Ask Ana Akp Agb Ago Afa Aga Avo fc fe fn fw tx fcr0 fcr1 fcr2 fcr3 fcr4 fcr5 fer0 fer1 fer2 fer3 fer4 fer5 (i7 + 1)) (hFX : FXP jg pb lw kj kb kl tx td him fql) (hFM : FMP Npb Njg Ntd Ntx Nru Zhi Fcd Fsr Fsq Fir Fih) (hRL : RLP False fn r0 r1 r2 r3 jg pb kj kb him fs0 fs1 fs2 fs3 fqo fql Npb Njg Zhi Fss Fsq Fce Fih) (hRQ : RQP fc c0 c1 c2 c3 c4 c5 fcr0 fcr1 fcr2 fcr3 fcr4 fcr5 fer0 fer1 fer2 fer3 fer4 fer5 pb lw tx td kb kl him fb fso fmi fpa fki fmo fsz frd gso gmi gpa gki gmo gsz grd Nru Ntx Ntd Fkd Fmo Fst Fro Ftp Fcd Fsr Fir Fih Fwo) {H : Heap} {locs : List Loc} (hP : va_P G.1 vwCl (WLd G xo tt rd nw th kp sh tu b0 co en sk c0 c1 c2 c3 c4 c5 e0 e1 e2 e3 e4 e5 n1 n2 n3 n4 n5 n6 n7 n8 t1 t2 t3 t4 t5 t6 t7 t8 k1 k2 k3 k4 k5 k6 k7 k8 qn qo ql r0 r1 r2 r3 tw tr w0 w1 w2 w3 w4 w5 mo Akd Amo Ast Aro Atp Acd Asr Air Aih Ass Asq Ace Alw Awo Ahe Ask Ana Akp Agb Ago Afa Aga Avo fc fe fn fw tx fcr0 fcr1 fcr2 fcr3 fcr4 fcr5 fer0 fer1 fer2 fer3 fer4 fer5 him x2 x3 x4 x5 td fb wr fsk jg pb lw fnm fso fmi fpa fki fmo fsz frd tj tb tl unm uso umi upa uki umo usz urd kj kb kl gnm gso gmi gpa gki gmo gsz grd fs0 fs1 fs2 fs3 fqo fql fw0 fw1 fw2 fw3 fw4 fw5 ftr Npb Njg Ntd Ntx Nru Zhi Z19 Z20 Z21 Z22 Z25 Z26 Z27 Z31 Z32 Z33 Z34 Z39 Z40 Fkd Fmo Fst Fro Ftp Fcd Fsr Fir Fih Fss Fsq Fce Flw Fwo Fhe Fsk Fna Fkp Fgb Fgo Ffa Fga Fvo) H) (hD : va_D A (WLd G xo tt rd nw th kp sh tu b0 co en sk c0 c1 c2 c3 c4 c5 e0 e1 e2 e3 e4 e5 n1 n2 n3 n4 n5 n6 n7 n8 t1 t2 t3 t4 t5 t6 t7 t8 k1 k2 k3 k4 k5 k6 k7 k8 qn qo ql r0 r1 r2 r3 tw tr w0 w1 w2 w3 w4 w5 mo Akd Amo Ast Aro Atp Acd Asr Air Aih Ass Asq Ace Alw Awo Ahe Ask Ana Akp Agb Ago Afa Aga Avo fc fe fn fw tx fcr0 fcr1 fcr2 fcr3 fcr4 fcr5 fer0 fer1 fer2 fer3 fer4 fer5 him x2 x3 x4 x5 td fb wr fsk jg pb lw fnm fso fmi fpa fki fmo fsz frd tj tb tl unm uso umi upa uki umo usz urd kj kb kl gnm gso gmi gpa gki gmo gsz grd fs0 fs1 fs2 fs3 fqo fql fw0 fw1 fw2 fw3 fw4 fw5 ftr Npb Njg Ntd Ntx Nru Zhi Z19 Z20 Z21 Z22 Z25 Z26 Z27 Z31 Z32 Z33 Z34 Z39 Z40 Fkd Fmo Fst Fro Ftp Fcd Fsr Fir Fih Fss Fsq Fce Flw Fwo Fhe Fsk Fna Fkp Fgb Fgo Ffa Fga Fvo)) (hS : va_S A s.heap H locs) {ls : Array Slot} (hl : lv_has ls 4 [zI 3 (nI (7 * i7)), zR 2 mo, zR 1 xo, zR 0 b]) : W p l e room_1 s m #[Value.ref b] below meth c H locs 87 4128 (lw_Z below #[Value.ref b] s) (F0 m 1030 ls []) := by
  obtain ⟨hx, hb, hret, hml, hown, hts0, hX, hbl, hlocks, hgv⟩ := id C0
  have hts : ∀ w ∈ wsL_law, w.before #[Value.ref b] s = true := fun w h => hts0 w (wsL_law_in w h)
  have hown : s.vm.findClass RL = some m.cls := hown
  have hA : ∀ q : Nat, s.heap.size ≤ q → A q := fun q h => by rw [hAe]; exact h
  have hbA : ¬ A b := by rw [hAe]; exact Nat.not_le.mpr hbl
  obtain ⟨⟨hjg, hpb, hlw, htx, htd⟩, hkk, hql⟩ := id hFX
  obtain ⟨⟨hNpb, hNjg, hNru, hNtx, hNtd⟩, hwa, hsq, hIM⟩ := id hFM
  have hz9 : gPD G A [zo5 xo tt rd nw th kp sh tu him, zo1 rd tt b0 x2 x3 x4 x5 (nI td), zi G b0 160 fb, zo3 tt co en sk wr (nI tx), zr G co 6 fc, zi G c0 160 fcr0, zi G c1 160 fcr1, zi G c2 160 fcr2, zi G c3 160 fcr3, zi G c4 160 fcr4, zi G c5 160 fcr5, zr G en 6 fe, zi G e0 3 (nF fer0), zi G e1 3 (nF fer1), zi G e2 3 (nF fer2), zi G e3 3 (nF fer3), zi G e4 3 (nF fer4), zi G e5 3 (nF fer5), zi G sk 32 fsk, zo0 nw tt n1 n2 n3 n4 n5 n6 n7 n8 (nI jg) (nI pb) (nI lw), zi G n1 6 fnm, zi G n2 4 fso, zi G n3 4 fmi, zi G n4 4 fpa, zi G n5 6 fki, zi G n6 6 fmo, zi G n7 6 fsz, zi G n8 6 frd, zo0 th tt t1 t2 t3 t4 t5 t6 t7 t8 tj tb tl, zi G t1 6 unm, zi G t2 4 uso, zi G t3 4 umi, zi G t4 4 upa, zi G t5 6 uki, zi G t6 6 umo, zi G t7 6 usz, zi G t8 6 urd, zo0 kp tt k1 k2 k3 k4 k5 k6 k7 k8 (nI kj) (nI kb) (nI kl), zi G k1 6 gnm, zi G k2 4 gso, zi G k3 4 gmi, zi G k4 4 gpa, zi G k5 6 gki, zi G k6 6 gmo, zi G k7 6 gsz, zi G k8 6 grd, zo2 sh qn qo ql, zr G qn 4 fn, zi G r0 40 fs0, zi G r1 40 fs1, zi G r2 40 fs2, zi G r3 40 fs3, zi G qo 4 fqo, zi G ql 4 (nF fql), zo4 tu tw tr, zr G tw 6 fw, zi G w0 6 fw0, zi G w1 6 fw1, zi G w2 6 fw2, zi G w3 6 fw3, zi G w4 6 fw4, zi G w5 6 fw5, zi G tr 64 ftr, zo6 mo (nI Npb) Akd Amo Ast (nI Njg) Aro Atp (nI Ntd) Acd Asr (nI Ntx) (nI Nru) Zhi Air Aih Ass Asq Ace Alw Z19 Z20 Z21 Z22 Awo Ahe Z25 Z26 Z27 Ask Ana Akp Z31 Z32 Z33 Z34 Agb Ago Afa Aga Z39 Z40 Avo, zi G Akd 6 Fkd, zi G Amo 6 Fmo, zi G Ast 12 Fst, zi G Aro 12 Fro, zi G Atp 160 Ftp, zi G Acd 1200 Fcd, zi G Asr 24 (nF Fsr), zi G Air 24 Fir, zi G Aih 3 Fih, zi G Ass 4 Fss, zi G Asq 4 (nF Fsq), zi G Ace 160 Fce, zi G Alw 40 Flw, zi G Awo 96 Fwo, zi G Ahe 200 Fhe, zi G Ask 200 Fsk, zi G Ana 6 Fna, zi G Akp 24 Fkp, zb G Agb 61 Fgb, zb G Ago 61 Fgo, zi G Afa 36 Ffa, zi G Aga 36 Fga, zi G Avo 64 Fvo] H := ⟨hP, hD⟩
  have hP := hz9.1
  have hD := hz9.2
  refine lv_aload_n hx hb dL_law_1030 rfl (lv_at hl 2 rfl) ?_
  refine lv_aload_n hx hb dL_law_1031 rfl (lv_at hl 3 rfl) ?_
  refine lv_iload_n hx hb dL_law_1032 rfl (lv_at hl 0 rfl) ?_
  refine lv_iconst (v := 1) hx hb dL_law_1033 (by decide +kernel) ?_
  refine lv_iadd hx hb dL_law_1034 ?_
  refine lv_topi (fun v_1 ev_1 => ?_)
  have ev_1 : v_1 = nI ((7 * i7) + 1) := ev_1.trans (nI_add (7 * i7) 1)
  subst ev_1
  refine va_sld hx hb hX hbl hbA hS (i := nI ((7 * i7) + 1)) (vp_in_nI (by omega) (by omega)) dL_law_1035 ?_
  refine lv_topi (fun v_2 ev_2 => ?_)
  have ev_2 : v1 = v_2 := (ev_2.trans (by rw [nI_clamp (by omega)]; exact hv1.symm)).symm
  subst ev_2
  refine lv_aload_n hx hb dL_law_1036 rfl (lv_at hl 3 rfl) ?_
  refine lv_iload_n hx hb dL_law_1037 rfl (lv_at hl 0 rfl) ?_
  refine lv_iconst (v := 2) hx hb dL_law_1038 (by decide +kernel) ?_
  refine lv_iadd hx hb dL_law_1039 ?_
  refine lv_topi (fun v_3 ev_3 => ?_)
  have ev_3 : v_3 = nI ((7 * i7) + 2) := ev_3.trans (nI_add (7 * i7) 2)
  subst ev_3
  refine va_sld hx hb hX hbl hbA hS (i := nI ((7 * i7) + 2)) (vp_in_nI (by omega) (by omega)) dL_law_1040 ?_
  refine lv_topi (fun v_4 ev_4 => ?_)
  have ev_4 : v2 = v_4 := (ev_4.trans (by rw [nI_clamp (by omega)]; exact hv2.symm)).symm
  subst ev_4
  have hz9 : gPD G A [zo5 xo tt rd nw th kp sh tu him, zo2 sh qn qo ql] H := ⟨hP.sub [0, 46] rfl, hD.sub [0, 46] (by decide +kernel) rfl⟩
  have hPc := hz9.1
  have hDc := hz9.2
  have hFc := gFree hPc hD hS hA [0, 46] rfl
  refine va_calli (va_runV (As := [.int v1, .int v2]) (rest := []) ⟨hx, hb, hml, hown, hts⟩ (c_X5_soled_B l G E xo tt rd nw th kp sh tu qn qo ql him v1 v2 H.size (by first | exact hno | assumption | omega)) (cwV 2 hts gL_law_X5_soled rfl rfl rfl (by decide +kernel) ⟨Nat.le_of_ble_eq_true rfl, Nat.le_of_ble_eq_true rfl⟩) ⟨gPreE_blind, va_recv hK hPc (ci := 5) (q0 := 0) rfl rfl, fun U hU hW => gPreE_of hU hW hK hPc hDc hE hS hFc⟩ rfl rfl hl.1 rfl (lv_room (Nat.le_of_ble_eq_true rfl)) dL_law_1041 ⟨Nat.le_of_ble_eq_true rfl, Nat.le_of_ble_eq_true rfl⟩) hS (fun q _ h => hFc q h) hFc (fun r_5 u t H locs ht hvm w_6 hB hz1 hk1 hS => ?_)
  obtain ⟨hP1, hK1, hD1⟩ := hB
  rw [ht] at hP1
  have hz9 : gPD G (va_A _ _) [zo5 xo tt rd nw th kp sh tu him, zo2 sh qn qo ql] H := ⟨hP1, hD1⟩
  have hP1 := hz9.1
  have hD1 := hz9.2
  have w_6 : r_5 = -2 := w_6
  have hz9 : gPD G A [zo1 rd tt b0 x2 x3 x4 x5 (nI td), zi G b0 160 fb, zo3 tt co en sk wr (nI tx), zr G co 6 fc, zi G c0 160 fcr0, zi G c1 160 fcr1, zi G c2 160 fcr2, zi G c3 160 fcr3, zi G c4 160 fcr4, zi G c5 160 fcr5, zr G en 6 fe, zi G e0 3 (nF fer0), zi G e1 3 (nF fer1), zi G e2 3 (nF fer2), zi G e3 3 (nF fer3), zi G e4 3 (nF fer4), zi G e5 3 (nF fer5), zi G sk 32 fsk, zo0 nw tt n1 n2 n3 n4 n5 n6 n7 n8 (nI jg) (nI pb) (nI lw), zi G n1 6 fnm, zi G n2 4 fso, zi G n3 4 fmi, zi G n4 4 fpa, zi G n5 6 fki, zi G n6 6 fmo, zi G n7 6 fsz, zi G n8 6 frd, zo0 th tt t1 t2 t3 t4 t5 t6 t7 t8 tj tb tl, zi G t1 6 unm, zi G t2 4 uso, zi G t3 4 umi, zi G t4 4 upa, zi G t5 6 uki, zi G t6 6 umo, zi G t7 6 usz, zi G t8 6 urd, zo0 kp tt k1 k2 k3 k4 k5 k6 k7 k8 (nI kj) (nI kb) (nI kl), zi G k1 6 gnm, zi G k2 4 gso, zi G k3 4 gmi, zi G k4 4 gpa, zi G k5 6 gki, zi G k6 6 gmo, zi G k7 6 gsz, zi G k8 6 grd, zr G qn 4 fn, zi G r0 40 fs0, zi G r1 40 fs1, zi G r2 40 fs2, zi G r3 40 fs3, zi G qo 4 fqo, zi G ql 4 (nF fql), zo4 tu tw tr, zr G tw 6 fw, zi G w0 6 fw0, zi G w1 6 fw1, zi G w2 6 fw2, zi G w3 6 fw3, zi G w4 6 fw4, zi G w5 6 fw5, zi G tr 64 ftr, zo6 mo (nI Npb) Akd Amo Ast (nI Njg) Aro Atp (nI Ntd) Acd Asr (nI Ntx) (nI Nru) Zhi Air Aih Ass Asq Ace Alw Z19 Z20 Z21 Z22 Awo Ahe Z25 Z26 Z27 Ask Ana Akp Z31 Z32 Z33 Z34 Agb Ago Afa Aga Z39 Z40 Avo, zi G Akd 6 Fkd, zi G Amo 6 Fmo, zi G Ast 12 Fst, zi G Aro 12 Fro, zi G Atp 160 Ftp, zi G Acd 1200 Fcd, zi G Asr 24 (nF Fsr), zi G Air 24 Fir, zi G Aih 3 Fih, zi G Ass 4 Fss, zi G Asq 4 (nF Fsq), zi G Ace 160 Fce, zi G Alw 40 Flw, zi G Awo 96 Fwo, zi G Ahe 200 Fhe, zi G Ask 200 Fsk, zi G Ana 6 Fna, zi G Akp 24 Fkp, zb G Agb 61 Fgb, zb G Ago 61 Fgo, zi G Afa 36 Ffa, zi G Aga 36 Fga, zi G Avo 64 Fvo, zo5 xo tt rd nw th kp sh tu him, zo2 sh qn qo ql] H := gJoin hP hD hk1 hFc hP1 hD1 [0, 46] [1, 2, 3, 4, 5, 6, 7, 8, 9, 10, 11, 12, 13, 14, 15, 16, 17, 18, 19, 20, 21, 22, 23, 24, 25, 26, 27, 28, 29, 30, 31, 32, 33, 34, 35, 36, 37, 38, 39, 40, 41, 42, 43, 44, 45, 47, 48, 49, 50, 51, 52, 53, 54, 55, 56, 57, 58, 59, 60, 61, 62, 63, 64, 65, 66, 67, 68, 69, 70, 71, 72, 73, 74, 75, 76, 77, 78, 79, 80, 81, 82, 83, 84, 85, 86] rfl rfl rfl (by decide +kernel) (by decide +kernel)
  have hP := hz9.1
  have hD := hz9.2
  subst w_6
  refine lv_pop hx hb dL_law_1044 rfl ?_
  refine lv_aload_n hx hb dL_law_1045 rfl (lv_at hl 1 rfl) ?_
  refine lv_aload_n hx hb dL_law_1046 rfl (lv_at hl 3 rfl) ?_
  refine lv_iload_n hx hb dL_law_1047 rfl (lv_at hl 0 rfl) ?_
  refine lv_iconst (v := 1) hx hb dL_law_1048 (by decide +kernel) ?_
  refine lv_iadd hx hb dL_law_1049 ?_
  refine lv_topi (fun v_7 ev_7 => ?_)
  have ev_7 : v_7 = nI ((7 * i7) + 1) := ev_7.trans (nI_add (7 * i7) 1)
  subst ev_7
  refine va_sld hx hb hX hbl hbA hS (i := nI ((7 * i7) + 1)) (vp_in_nI (by omega) (by omega)) dL_law_1050 ?_
  refine lv_topi (fun v_8 ev_8 => ?_)
  have ev_8 : v1 = v_8 := (ev_8.trans (by rw [nI_clamp (by omega)]; exact hv1.symm)).symm
  subst ev_8
  refine lv_aload_n hx hb dL_law_1051 rfl (lv_at hl 3 rfl) ?_
  refine lv_iload_n hx hb dL_law_1052 rfl (lv_at hl 0 rfl) ?_
  refine lv_iconst (v := 2) hx hb dL_law_1053 (by decide +kernel) ?_
  refine lv_iadd hx hb dL_law_1054 ?_
  refine lv_topi (fun v_9 ev_9 => ?_)
  have ev_9 : v_9 = nI ((7 * i7) + 2) := ev_9.trans (nI_add (7 * i7) 2)
  subst ev_9
  refine va_sld hx hb hX hbl hbA hS (i := nI ((7 * i7) + 2)) (vp_in_nI (by omega) (by omega)) dL_law_1055 ?_
  refine lv_topi (fun v_10 ev_10 => ?_)
  have ev_10 : v2 = v_10 := (ev_10.trans (by rw [nI_clamp (by omega)]; exact hv2.symm)).symm
  subst ev_10
  have hz9 : gPD G A [zo6 mo (nI Npb) Akd Amo Ast (nI Njg) Aro Atp (nI Ntd) Acd Asr (nI Ntx) (nI Nru) Zhi Air Aih Ass Asq Ace Alw Z19 Z20 Z21 Z22 Awo Ahe Z25 Z26 Z27 Ask Ana Akp Z31 Z32 Z33 Z34 Agb Ago Afa Aga Z39 Z40 Avo, zi G Ast 12 Fst, zi G Aro 12 Fro, zi G Amo 6 Fmo, zi G Akd 6 Fkd, zi G Acd 1200 Fcd, zi G Asr 24 (nF Fsr), zi G Ask 200 Fsk, zi G Ana 6 Fna, zi G Akp 24 Fkp, zi G Asq 4 (nF Fsq), zi G Ace 160 Fce, zi G Ass 4 Fss] H := ⟨hP.sub [61, 64, 65, 63, 62, 67, 68, 77, 78, 79, 72, 73, 71] rfl, hD.sub [61, 64, 65, 63, 62, 67, 68, 77, 78, 79, 72, 73, 71] (by decide +kernel) rfl⟩
  have hPc := hz9.1
  have hDc := hz9.2
  have hFc := gFree hPc hD hS hA [61, 64, 65, 63, 62, 67, 68, 77, 78, 79, 72, 73, 71] rfl
  refine va_calli (va_runV (As := [.int v1, .int v2]) (rest := []) ⟨hx, hb, hml, hown, hts⟩ (c_X6_soled l G mo Akd Amo Ast Aro Atp Acd Asr Air Aih Ass Asq Ace Alw Awo Ahe Ask Ana Akp Agb Ago Afa Aga Avo Npb Njg Ntd Ntx Nru Zhi Z19 Z20 Z21 Z22 Z25 Z26 Z27 Z31 Z32 Z33 Z34 Z39 Z40 Fst Fro Fmo Fkd Fcd Fsr Fsk Fna Fkp Fsq Fce Fss v1 v2 H.size (by first | exact hsq | assumption | omega) (by first | exact hwa | assumption | omega) (by first | exact hpb | assumption | omega) (by first | exact hjg | assumption | omega) (by first | exact htx | assumption | omega) (by first | exact hru | assumption | omega)) (cwV 2 hts gL_law_X6_soled rfl rfl rfl (by decide +kernel) ⟨Nat.le_of_ble_eq_true rfl, Nat.le_of_ble_eq_true rfl⟩) ⟨gPre_blind, va_recv hK hPc (ci := 6) (q0 := 0) rfl rfl, fun U hU hW => gPre_of hU hW hK hPc hDc⟩ rfl rfl hl.1 rfl (lv_room (Nat.le_of_ble_eq_true rfl)) dL_law_1056 ⟨Nat.le_of_ble_eq_true rfl, Nat.le_of_ble_eq_true rfl⟩) hS (fun q _ h => hFc q h) hFc (fun r_11 u t H locs ht hvm w_12 hB hz1 hk1 hS => ?_)
  obtain ⟨ysk_13, yna_14, ykp_15⟩ := u
  obtain ⟨hP1, hK1, hD1⟩ := hB
  rw [ht] at hP1
  have hz9 : gPD G (va_A _ _) [zo6 mo (nI Npb) Akd Amo Ast (nI Njg) Aro Atp (nI Ntd) Acd Asr (nI Ntx) (nI Nru) Zhi Air Aih Ass Asq Ace Alw Z19 Z20 Z21 Z22 Awo Ahe Z25 Z26 Z27 Ask Ana Akp Z31 Z32 Z33 Z34 Agb Ago Afa Aga Z39 Z40 Avo, zi G Ast 12 Fst, zi G Aro 12 (m_X6_soled_ro Npb Njg Nru Fst Fro Fmo Fkd Fcd Fsr Fsq Fce Fss v1 v2), zi G Amo 6 Fmo, zi G Akd 6 Fkd, zi G Acd 1200 Fcd, zi G Asr 24 (nF Fsr), zi G Ask 200 ysk_13, zi G Ana 6 yna_14, zi G Akp 24 ykp_15, zi G Asq 4 (nF Fsq), zi G Ace 160 Fce, zi G Ass 4 Fss] H := ⟨hP1, hD1⟩
  have hP1 := hz9.1
  have hD1 := hz9.2
  have w_12 : r_11 = m_X6_soled Npb Njg Nru Fst Fro Fmo Fkd Fcd Fsr Fsq Fce Fss v1 v2 := w_12
  have hz9 : gPD G A [zo1 rd tt b0 x2 x3 x4 x5 (nI td), zi G b0 160 fb, zo3 tt co en sk wr (nI tx), zr G co 6 fc, zi G c0 160 fcr0, zi G c1 160 fcr1, zi G c2 160 fcr2, zi G c3 160 fcr3, zi G c4 160 fcr4, zi G c5 160 fcr5, zr G en 6 fe, zi G e0 3 (nF fer0), zi G e1 3 (nF fer1), zi G e2 3 (nF fer2), zi G e3 3 (nF fer3), zi G e4 3 (nF fer4), zi G e5 3 (nF fer5), zi G sk 32 fsk, zo0 nw tt n1 n2 n3 n4 n5 n6 n7 n8 (nI jg) (nI pb) (nI lw), zi G n1 6 fnm, zi G n2 4 fso, zi G n3 4 fmi, zi G n4 4 fpa, zi G n5 6 fki, zi G n6 6 fmo, zi G n7 6 fsz, zi G n8 6 frd, zo0 th tt t1 t2 t3 t4 t5 t6 t7 t8 tj tb tl, zi G t1 6 unm, zi G t2 4 uso, zi G t3 4 umi, zi G t4 4 upa, zi G t5 6 uki, zi G t6 6 umo, zi G t7 6 usz, zi G t8 6 urd, zo0 kp tt k1 k2 k3 k4 k5 k6 k7 k8 (nI kj) (nI kb) (nI kl), zi G k1 6 gnm, zi G k2 4 gso, zi G k3 4 gmi, zi G k4 4 gpa, zi G k5 6 gki, zi G k6 6 gmo, zi G k7 6 gsz, zi G k8 6 grd, zr G qn 4 fn, zi G r0 40 fs0, zi G r1 40 fs1, zi G r2 40 fs2, zi G r3 40 fs3, zi G qo 4 fqo, zi G ql 4 (nF fql), zo4 tu tw tr, zr G tw 6 fw, zi G w0 6 fw0, zi G w1 6 fw1, zi G w2 6 fw2, zi G w3 6 fw3, zi G w4 6 fw4, zi G w5 6 fw5, zi G tr 64 ftr, zi G Atp 160 Ftp, zi G Air 24 Fir, zi G Aih 3 Fih, zi G Alw 40 Flw, zi G Awo 96 Fwo, zi G Ahe 200 Fhe, zb G Agb 61 Fgb, zb G Ago 61 Fgo, zi G Afa 36 Ffa, zi G Aga 36 Fga, zi G Avo 64 Fvo, zo5 xo tt rd nw th kp sh tu him, zo2 sh qn qo ql, zo6 mo (nI Npb) Akd Amo Ast (nI Njg) Aro Atp (nI Ntd) Acd Asr (nI Ntx) (nI Nru) Zhi Air Aih Ass Asq Ace Alw Z19 Z20 Z21 Z22 Awo Ahe Z25 Z26 Z27 Ask Ana Akp Z31 Z32 Z33 Z34 Agb Ago Afa Aga Z39 Z40 Avo, zi G Ast 12 Fst, zi G Aro 12 (m_X6_soled_ro Npb Njg Nru Fst Fro Fmo Fkd Fcd Fsr Fsq Fce Fss v1 v2), zi G Amo 6 Fmo, zi G Akd 6 Fkd, zi G Acd 1200 Fcd, zi G Asr 24 (nF Fsr), zi G Ask 200 ysk_13, zi G Ana 6 yna_14, zi G Akp 24 ykp_15, zi G Asq 4 (nF Fsq), zi G Ace 160 Fce, zi G Ass 4 Fss] H := gJoin hP hD hk1 hFc hP1 hD1 [61, 64, 65, 63, 62, 67, 68, 77, 78, 79, 72, 73, 71] [0, 1, 2, 3, 4, 5, 6, 7, 8, 9, 10, 11, 12, 13, 14, 15, 16, 17, 18, 19, 20, 21, 22, 23, 24, 25, 26, 27, 28, 29, 30, 31, 32, 33, 34, 35, 36, 37, 38, 39, 40, 41, 42, 43, 44, 45, 46, 47, 48, 49, 50, 51, 52, 53, 54, 55, 56, 57, 58, 59, 60, 66, 69, 70, 74, 75, 76, 80, 81, 82, 83, 84, 85, 86] rfl rfl rfl (by decide +kernel) (by decide +kernel)
  have hP := hz9.1
  have hD := hz9.2
  subst w_12
  refine lv_pop hx hb dL_law_1059 rfl ?_
  refine lv_goto (tgt := 1614) hx hb dL_law_1060 (by decide +kernel) ?_
  refine lv_iinc (v := nI (7 * (i7 + 1))) (lv' := [zI 3 (nI (7 * (i7 + 1))), zR 2 mo, zR 1 xo, zR 0 b]) hx hb dL_law_1614 hl (k := 0) rfl (by show nI (7 * i7) + 7 = nI (7 * (i7 + 1)); exact nI_add (7 * i7) 7) (by decide +kernel) rfl (fun ls hl => ?_)
  refine lv_goto (tgt := 18) hx hb dL_law_1617 (by decide +kernel) ?_
  exact K him x2 x3 x4 x5 td fb wr fsk jg pb lw fnm fso fmi fpa fki fmo fsz frd tj tb tl unm uso umi upa uki umo usz urd kj kb kl gnm gso gmi gpa gki gmo gsz grd fs0 fs1 fs2 fs3 fqo fql fw0 fw1 fw2 fw3 fw4 fw5 ftr Npb Njg Ntd Ntx Nru Zhi Z19 Z20 Z21 Z22 Z25 Z26 Z27 Z31 Z32 Z33 Z34 Z39 Z40 Fkd Fmo Fst (m_X6_soled_ro Npb Njg Nru Fst Fro Fmo Fkd Fcd Fsr Fsq Fce Fss v1 v2) Ftp Fcd Fsr Fir Fih Fss Fsq Fce Flw Fwo Fhe ysk_13 yna_14 ykp_15 Fgb Fgo Ffa Fga Fvo hFX hFM hRL (rq_soled hRQ) H _ ls (hP.sub [72, 0, 1, 2, 3, 4, 5, 6, 7, 8, 9, 10, 11, 12, 13, 14, 15, 16, 17, 18, 19, 20, 21, 22, 23, 24, 25, 26, 27, 28, 29, 30, 31, 32, 33, 34, 35, 36, 37, 38, 39, 40, 41, 42, 43, 44, 73, 45, 46, 47, 48, 49, 50, 51, 52, 53, 54, 55, 56, 57, 58, 59, 60, 74, 78, 77, 75, 76, 61, 79, 80, 62, 63, 86, 84, 85, 64, 65, 66, 81, 82, 83, 67, 68, 69, 70, 71] rfl) (hD.sub [72, 0, 1, 2, 3, 4, 5, 6, 7, 8, 9, 10, 11, 12, 13, 14, 15, 16, 17, 18, 19, 20, 21, 22, 23, 24, 25, 26, 27, 28, 29, 30, 31, 32, 33, 34, 35, 36, 37, 38, 39, 40, 41, 42, 43, 44, 73, 45, 46, 47, 48, 49, 50, 51, 52, 53, 54, 55, 56, 57, 58, 59, 60, 74, 78, 77, 75, 76, 61, 79, 80, 62, 63, 86, 84, 85, 64, 65, 66, 81, 82, 83, 67, 68, 69, 70, 71] (by decide +kernel) rfl) hS (lv_sub hl [0, 1, 2, 3] rfl)
set_option maxHeartbeats 4000000 in
set_option maxRecDepth 100000 in
theorem lc_sizes_A {p : Program} {l : Launch} {e : Env} {s : State} {m : MethodId} {below : List Frame} {meth : Method} {c : Code} {b L : Nat} {xs : Nat → Int32} {G : gG} {E : gS} {A : Nat → Prop} (C0 : lw_At p s m meth c b L xs) (hE : gE E A s s.heap) (hK : gK G s) (hAe : A = fun q => s.heap.size ≤ q) {xo tt rd nw th kp sh tu b0 co en sk c0 c1 c2 c3 c4 c5 e0 e1 e2 e3 e4 e5 n1 n2 n3 n4 n5 n6 n7 n8 t1 t2 t3 t4 t5 t6 t7 t8 k1 k2 k3 k4 k5 k6 k7 k8 qn qo ql r0 r1 r2 r3 tw tr w0 w1 w2 w3 w4 w5 mo Akd Amo Ast Aro Atp Acd Asr Air Aih Ass Asq Ace Alw Awo Ahe Ask Ana Akp Agb Ago Afa Aga Avo : Nat} {fc fe fn fw : Nat → Option Nat} {tx : Nat} {fcr0 fcr1 fcr2 fcr3 fcr4 fcr5 : Nat → Int32} {fer0 fer1 fer2 fer3 fer4 fer5 : Nat → Nat} {him x2 x3 x4 x5 : Int32} {td : Nat} {fb : Nat → Int32} {wr : Int32} {fsk : Nat → Int32} {jg pb lw : Nat} {fnm fso fmi fpa fki fmo fsz frd : Nat → Int32} {tj tb tl : Int32} {unm uso umi upa uki umo usz urd : Nat → Int32} {kj kb kl : Nat} {gnm gso gmi gpa gki gmo gsz grd fs0 fs1 fs2 fs3 fqo : Nat → Int32} {fql : Nat → Nat} {fw0 fw1 fw2 fw3 fw4 fw5 ftr : Nat → Int32} {Npb Njg Ntd Ntx Nru : Nat} {Zhi Z19 Z20 Z21 Z22 Z25 Z26 Z27 Z31 Z32 Z33 Z34 Z39 Z40 : Int32} {Fkd Fmo Fst Fro Ftp Fcd : Nat → Int32} {Fsr : Nat → Nat} {Fir Fih Fss : Nat → Int32} {Fsq : Nat → Nat} {Fce Flw Fwo Fhe Fsk Fna Fkp Fgb Fgo Ffa Fga Fvo : Nat → Int32} {sn : Nat} {v2 v3 v4 v5 v6 : Int32} {i7 : Nat} (hi : 7 * i7 + 7 ≤ L) (hL : L ≤ 3584) (hv1 : (nI sn) = xs (7 * i7 + 1)) (hv2 : v2 = xs (7 * i7 + 2)) (hv3 : v3 = xs (7 * i7 + 3)) (hv4 : v4 = xs (7 * i7 + 4)) (hv5 : v5 = xs (7 * i7 + 5)) (hv6 : v6 = xs (7 * i7 + 6)) (hsn : sn < 4) (hrw : fn sn = some r0) (hc : fc lw = some c0) (he : fe lw = some e0) (hwx : mWx fcr0 fer0) (K : LawV p l e s m below meth c b G A xo tt rd nw th kp sh tu b0 co en sk c0 c1 c2 c3 c4 c5 e0 e1 e2 e3 e4 e5 n1 n2 n3 n4 n5 n6 n7 n8 t1 t2 t3 t4 t5 t6 t7 t8 k1 k2 k3 k4 k5 k6 k7 k8 qn qo ql r0 r1 r2 r3 tw tr w0 w1 w2 w3 w4 w5 mo Akd Amo Ast Aro Atp Acd Asr Air Aih Ass Asq Ace Alw Awo Ahe Ask Ana Akp Agb Ago Afa Aga Avo fc fe fn fw tx fcr0 fcr1 fcr2 fcr3 fcr4 fcr5 fer0 fer1 fer2 fer3 fer4 fer5 (i7 + 1)) (hFX : FXP jg pb lw kj kb kl tx td him fql) (hFM : FMP Npb Njg Ntd Ntx Nru Zhi Fcd Fsr Fsq Fir Fih) (hRL : RLP False fn r0 r1 r2 r3 jg pb kj kb him fs0 fs1 fs2 fs3 fqo fql Npb Njg Zhi Fss Fsq Fce Fih) (hRQ : RQP fc c0 c1 c2 c3 c4 c5 fcr0 fcr1 fcr2 fcr3 fcr4 fcr5 fer0 fer1 fer2 fer3 fer4 fer5 pb lw tx td kb kl him fb fso fmi fpa fki fmo fsz frd gso gmi gpa gki gmo gsz grd Nru Ntx Ntd Fkd Fmo Fst Fro Ftp Fcd Fsr Fir Fih Fwo) {H : Heap} {locs : List Loc} (hP : va_P G.1 vwCl (WLd G xo tt rd nw th kp sh tu b0 co en sk c0 c1 c2 c3 c4 c5 e0 e1 e2 e3 e4 e5 n1 n2 n3 n4 n5 n6 n7 n8 t1 t2 t3 t4 t5 t6 t7 t8 k1 k2 k3 k4 k5 k6 k7 k8 qn qo ql r0 r1 r2 r3 tw tr w0 w1 w2 w3 w4 w5 mo Akd Amo Ast Aro Atp Acd Asr Air Aih Ass Asq Ace Alw Awo Ahe Ask Ana Akp Agb Ago Afa Aga Avo fc fe fn fw tx fcr0 fcr1 fcr2 fcr3 fcr4 fcr5 fer0 fer1 fer2 fer3 fer4 fer5 him x2 x3 x4 x5 td fb wr fsk jg pb lw fnm fso fmi fpa fki fmo fsz frd tj tb tl unm uso umi upa uki umo usz urd kj kb kl gnm gso gmi gpa gki gmo gsz grd fs0 fs1 fs2 fs3 fqo fql fw0 fw1 fw2 fw3 fw4 fw5 ftr Npb Njg Ntd Ntx Nru Zhi Z19 Z20 Z21 Z22 Z25 Z26 Z27 Z31 Z32 Z33 Z34 Z39 Z40 Fkd Fmo Fst Fro Ftp Fcd Fsr Fir Fih Fss Fsq Fce Flw Fwo Fhe Fsk Fna Fkp Fgb Fgo Ffa Fga Fvo) H) (hD : va_D A (WLd G xo tt rd nw th kp sh tu b0 co en sk c0 c1 c2 c3 c4 c5 e0 e1 e2 e3 e4 e5 n1 n2 n3 n4 n5 n6 n7 n8 t1 t2 t3 t4 t5 t6 t7 t8 k1 k2 k3 k4 k5 k6 k7 k8 qn qo ql r0 r1 r2 r3 tw tr w0 w1 w2 w3 w4 w5 mo Akd Amo Ast Aro Atp Acd Asr Air Aih Ass Asq Ace Alw Awo Ahe Ask Ana Akp Agb Ago Afa Aga Avo fc fe fn fw tx fcr0 fcr1 fcr2 fcr3 fcr4 fcr5 fer0 fer1 fer2 fer3 fer4 fer5 him x2 x3 x4 x5 td fb wr fsk jg pb lw fnm fso fmi fpa fki fmo fsz frd tj tb tl unm uso umi upa uki umo usz urd kj kb kl gnm gso gmi gpa gki gmo gsz grd fs0 fs1 fs2 fs3 fqo fql fw0 fw1 fw2 fw3 fw4 fw5 ftr Npb Njg Ntd Ntx Nru Zhi Z19 Z20 Z21 Z22 Z25 Z26 Z27 Z31 Z32 Z33 Z34 Z39 Z40 Fkd Fmo Fst Fro Ftp Fcd Fsr Fir Fih Fss Fsq Fce Flw Fwo Fhe Fsk Fna Fkp Fgb Fgo Ffa Fga Fvo)) (hS : va_S A s.heap H locs) {ls : Array Slot} (hl : lv_has ls 4 [zI 3 (nI (7 * i7)), zR 2 mo, zR 1 xo, zR 0 b]) : W p l e room_1 s m #[Value.ref b] below meth c H locs 87 4128 (lw_Z below #[Value.ref b] s) (F0 m 1063 ls []) := by
  obtain ⟨hx, hb, hret, hml, hown, hts0, hX, hbl, hlocks, hgv⟩ := id C0
  have hts : ∀ w ∈ wsL_law, w.before #[Value.ref b] s = true := fun w h => hts0 w (wsL_law_in w h)
  have hown : s.vm.findClass RL = some m.cls := hown
  have hA : ∀ q : Nat, s.heap.size ≤ q → A q := fun q h => by rw [hAe]; exact h
  have hbA : ¬ A b := by rw [hAe]; exact Nat.not_le.mpr hbl
  obtain ⟨⟨hjg, hpb, hlw, htx, htd⟩, hkk, hql⟩ := id hFX
  obtain ⟨⟨hNpb, hNjg, hNru, hNtx, hNtd⟩, hwa, hsq, hIM⟩ := id hFM
  have hz9 : gPD G A [zo5 xo tt rd nw th kp sh tu him, zo1 rd tt b0 x2 x3 x4 x5 (nI td), zi G b0 160 fb, zo3 tt co en sk wr (nI tx), zr G co 6 fc, zi G c0 160 fcr0, zi G c1 160 fcr1, zi G c2 160 fcr2, zi G c3 160 fcr3, zi G c4 160 fcr4, zi G c5 160 fcr5, zr G en 6 fe, zi G e0 3 (nF fer0), zi G e1 3 (nF fer1), zi G e2 3 (nF fer2), zi G e3 3 (nF fer3), zi G e4 3 (nF fer4), zi G e5 3 (nF fer5), zi G sk 32 fsk, zo0 nw tt n1 n2 n3 n4 n5 n6 n7 n8 (nI jg) (nI pb) (nI lw), zi G n1 6 fnm, zi G n2 4 fso, zi G n3 4 fmi, zi G n4 4 fpa, zi G n5 6 fki, zi G n6 6 fmo, zi G n7 6 fsz, zi G n8 6 frd, zo0 th tt t1 t2 t3 t4 t5 t6 t7 t8 tj tb tl, zi G t1 6 unm, zi G t2 4 uso, zi G t3 4 umi, zi G t4 4 upa, zi G t5 6 uki, zi G t6 6 umo, zi G t7 6 usz, zi G t8 6 urd, zo0 kp tt k1 k2 k3 k4 k5 k6 k7 k8 (nI kj) (nI kb) (nI kl), zi G k1 6 gnm, zi G k2 4 gso, zi G k3 4 gmi, zi G k4 4 gpa, zi G k5 6 gki, zi G k6 6 gmo, zi G k7 6 gsz, zi G k8 6 grd, zo2 sh qn qo ql, zr G qn 4 fn, zi G r0 40 fs0, zi G r1 40 fs1, zi G r2 40 fs2, zi G r3 40 fs3, zi G qo 4 fqo, zi G ql 4 (nF fql), zo4 tu tw tr, zr G tw 6 fw, zi G w0 6 fw0, zi G w1 6 fw1, zi G w2 6 fw2, zi G w3 6 fw3, zi G w4 6 fw4, zi G w5 6 fw5, zi G tr 64 ftr, zo6 mo (nI Npb) Akd Amo Ast (nI Njg) Aro Atp (nI Ntd) Acd Asr (nI Ntx) (nI Nru) Zhi Air Aih Ass Asq Ace Alw Z19 Z20 Z21 Z22 Awo Ahe Z25 Z26 Z27 Ask Ana Akp Z31 Z32 Z33 Z34 Agb Ago Afa Aga Z39 Z40 Avo, zi G Akd 6 Fkd, zi G Amo 6 Fmo, zi G Ast 12 Fst, zi G Aro 12 Fro, zi G Atp 160 Ftp, zi G Acd 1200 Fcd, zi G Asr 24 (nF Fsr), zi G Air 24 Fir, zi G Aih 3 Fih, zi G Ass 4 Fss, zi G Asq 4 (nF Fsq), zi G Ace 160 Fce, zi G Alw 40 Flw, zi G Awo 96 Fwo, zi G Ahe 200 Fhe, zi G Ask 200 Fsk, zi G Ana 6 Fna, zi G Akp 24 Fkp, zb G Agb 61 Fgb, zb G Ago 61 Fgo, zi G Afa 36 Ffa, zi G Aga 36 Fga, zi G Avo 64 Fvo] H := ⟨hP, hD⟩
  have hP := hz9.1
  have hD := hz9.2
  refine lv_aload_n hx hb dL_law_1063 rfl (lv_at hl 2 rfl) ?_
  refine lv_aload_n hx hb dL_law_1064 rfl (lv_at hl 3 rfl) ?_
  refine lv_iload_n hx hb dL_law_1065 rfl (lv_at hl 0 rfl) ?_
  refine lv_iconst (v := 1) hx hb dL_law_1066 (by decide +kernel) ?_
  refine lv_iadd hx hb dL_law_1067 ?_
  refine lv_topi (fun v_1 ev_1 => ?_)
  have ev_1 : v_1 = nI ((7 * i7) + 1) := ev_1.trans (nI_add (7 * i7) 1)
  subst ev_1
  refine va_sld hx hb hX hbl hbA hS (i := nI ((7 * i7) + 1)) (vp_in_nI (by omega) (by omega)) dL_law_1068 ?_
  refine lv_topi (fun v_2 ev_2 => ?_)
  have ev_2 : (nI sn) = v_2 := (ev_2.trans (by rw [nI_clamp (by omega)]; exact hv1.symm)).symm
  subst ev_2
  refine lv_aload_n hx hb dL_law_1069 rfl (lv_at hl 3 rfl) ?_
  refine lv_iload_n hx hb dL_law_1070 rfl (lv_at hl 0 rfl) ?_
  refine lv_iconst (v := 2) hx hb dL_law_1071 (by decide +kernel) ?_
  refine lv_iadd hx hb dL_law_1072 ?_
  refine lv_topi (fun v_3 ev_3 => ?_)
  have ev_3 : v_3 = nI ((7 * i7) + 2) := ev_3.trans (nI_add (7 * i7) 2)
  subst ev_3
  refine va_sld hx hb hX hbl hbA hS (i := nI ((7 * i7) + 2)) (vp_in_nI (by omega) (by omega)) dL_law_1073 ?_
  refine lv_topi (fun v_4 ev_4 => ?_)
  have ev_4 : v2 = v_4 := (ev_4.trans (by rw [nI_clamp (by omega)]; exact hv2.symm)).symm
  subst ev_4
  refine lv_aload_n hx hb dL_law_1074 rfl (lv_at hl 3 rfl) ?_
  refine lv_iload_n hx hb dL_law_1075 rfl (lv_at hl 0 rfl) ?_
  refine lv_iconst (v := 3) hx hb dL_law_1076 (by decide +kernel) ?_
  refine lv_iadd hx hb dL_law_1077 ?_
  refine lv_topi (fun v_5 ev_5 => ?_)
  have ev_5 : v_5 = nI ((7 * i7) + 3) := ev_5.trans (nI_add (7 * i7) 3)
  subst ev_5
  refine va_sld hx hb hX hbl hbA hS (i := nI ((7 * i7) + 3)) (vp_in_nI (by omega) (by omega)) dL_law_1078 ?_
  refine lv_topi (fun v_6 ev_6 => ?_)
  have ev_6 : v3 = v_6 := (ev_6.trans (by rw [nI_clamp (by omega)]; exact hv3.symm)).symm
  subst ev_6
  refine lv_aload_n hx hb dL_law_1079 rfl (lv_at hl 3 rfl) ?_
  refine lv_iload_n hx hb dL_law_1080 rfl (lv_at hl 0 rfl) ?_
  refine lv_iconst (v := 4) hx hb dL_law_1081 (by decide +kernel) ?_
  refine lv_iadd hx hb dL_law_1082 ?_
  refine lv_topi (fun v_7 ev_7 => ?_)
  have ev_7 : v_7 = nI ((7 * i7) + 4) := ev_7.trans (nI_add (7 * i7) 4)
  subst ev_7
  refine va_sld hx hb hX hbl hbA hS (i := nI ((7 * i7) + 4)) (vp_in_nI (by omega) (by omega)) dL_law_1083 ?_
  refine lv_topi (fun v_8 ev_8 => ?_)
  have ev_8 : v4 = v_8 := (ev_8.trans (by rw [nI_clamp (by omega)]; exact hv4.symm)).symm
  subst ev_8
  have hz9 : gPD G A [zo5 xo tt rd nw th kp sh tu him, zo0 nw tt n1 n2 n3 n4 n5 n6 n7 n8 (nI jg) (nI pb) (nI lw), zi G n2 4 fso, zi G n3 4 fmi, zi G n4 4 fpa, zi G n5 6 fki, zi G n6 6 fmo, zi G n7 6 fsz, zi G n8 6 frd, zo0 th tt t1 t2 t3 t4 t5 t6 t7 t8 tj tb tl, zi G t1 6 unm, zi G t2 4 uso, zi G t3 4 umi, zi G t4 4 upa, zi G t5 6 uki, zi G t6 6 umo, zi G t7 6 usz, zi G t8 6 urd, zo3 tt co en sk wr (nI tx), zr G co 6 fc, zr G en 6 fe, zi G c0 160 fcr0, zi G e0 3 (nF fer0), zi G sk 32 fsk, zo2 sh qn qo ql, zr G qn 4 fn, zi G qo 4 fqo, zi G ql 4 (nF fql), zi G r0 40 fs0] H := ⟨hP.sub [0, 19, 21, 22, 23, 24, 25, 26, 27, 28, 29, 30, 31, 32, 33, 34, 35, 36, 3, 4, 11, 5, 12, 18, 46, 47, 52, 53, 48] rfl, hD.sub [0, 19, 21, 22, 23, 24, 25, 26, 27, 28, 29, 30, 31, 32, 33, 34, 35, 36, 3, 4, 11, 5, 12, 18, 46, 47, 52, 53, 48] (by decide +kernel) rfl⟩
  have hPc := hz9.1
  have hDc := hz9.2
  have hFc := gFree hPc hD hS hA [0, 19, 21, 22, 23, 24, 25, 26, 27, 28, 29, 30, 31, 32, 33, 34, 35, 36, 3, 4, 11, 5, 12, 18, 46, 47, 52, 53, 48] rfl
  refine va_calli (va_runV (As := [.int (nI sn), .int v2, .int v3, .int v4]) (rest := []) ⟨hx, hb, hml, hown, hts⟩ (c_X5_sizes_A l G E xo tt rd nw th kp sh tu n1 n2 n3 n4 n5 n6 n7 n8 t1 t2 t3 t4 t5 t6 t7 t8 co en sk c0 e0 qn qo ql r0 jg pb lw tx him wr tj tb tl fc fe fn fer0 fql fso fmi fpa fki fmo fsz frd unm uso umi upa uki umo usz urd fcr0 fsk fqo fs0 sn v2 v3 v4 H.size (by first | exact hsn | assumption | omega) (by first | exact hrw | assumption | omega) (by first | exact hql | assumption | omega) (by first | exact htn | assumption | omega) (by first | exact hc | assumption | omega) (by first | exact he | assumption | omega) (by first | exact hwx | assumption | omega) (by first | exact hjg | assumption | omega) (by first | exact hpb | assumption | omega)) (cwV 4 hts gL_law_X5_sizes rfl rfl rfl (by decide +kernel) ⟨Nat.le_of_ble_eq_true rfl, Nat.le_of_ble_eq_true rfl⟩) ⟨gPreE_blind, va_recv hK hPc (ci := 5) (q0 := 0) rfl rfl, fun U hU hW => gPreE_of hU hW hK hPc hDc hE hS hFc⟩ rfl rfl hl.1 rfl (lv_room (Nat.le_of_ble_eq_true rfl)) dL_law_1084 ⟨Nat.le_of_ble_eq_true rfl, Nat.le_of_ble_eq_true rfl⟩) hS (fun q _ h => hFc q h) hFc (fun r_9 u t H locs ht hvm w_10 hB hz1 hk1 hS => ?_)
  obtain ⟨zj9_11, zb9_12, zl9_13, yt1_14, yt2_15, yt3_16, yt4_17, yt5_18, yt6_19, yt7_20, yt8_21, ysk_22⟩ := u
  obtain ⟨hP1, hK1, hD1⟩ := hB
  rw [ht] at hP1
  have hz9 : gPD G (va_A _ _) [zo5 xo tt rd nw th kp sh tu him, zo0 nw tt n1 n2 n3 n4 n5 n6 n7 n8 (nI jg) (nI pb) (nI lw), zi G n2 4 fso, zi G n3 4 fmi, zi G n4 4 fpa, zi G n5 6 fki, zi G n6 6 fmo, zi G n7 6 fsz, zi G n8 6 frd, zo0 th tt t1 t2 t3 t4 t5 t6 t7 t8 zj9_11 zb9_12 zl9_13, zi G t1 6 yt1_14, zi G t2 4 yt2_15, zi G t3 4 yt3_16, zi G t4 4 yt4_17, zi G t5 6 yt5_18, zi G t6 6 yt6_19, zi G t7 6 yt7_20, zi G t8 6 yt8_21, zo3 tt co en sk wr (nI tx), zr G co 6 fc, zr G en 6 fe, zi G c0 160 fcr0, zi G e0 3 (nF fer0), zi G sk 32 ysk_22, zo2 sh qn qo ql, zr G qn 4 fn, zi G qo 4 fqo, zi G ql 4 (nF fql), zi G r0 40 fs0] H := ⟨hP1, hD1⟩
  have hP1 := hz9.1
  have hD1 := hz9.2
  have w_10 : r_9 = m_X5_sizes_A jg pb fer0 fql fso fmi fpa fki fmo fsz frd fcr0 fqo fs0 sn v2 v3 v4 := w_10
  have hz9 : gPD G A [zo1 rd tt b0 x2 x3 x4 x5 (nI td), zi G b0 160 fb, zi G c1 160 fcr1, zi G c2 160 fcr2, zi G c3 160 fcr3, zi G c4 160 fcr4, zi G c5 160 fcr5, zi G e1 3 (nF fer1), zi G e2 3 (nF fer2), zi G e3 3 (nF fer3), zi G e4 3 (nF fer4), zi G e5 3 (nF fer5), zi G n1 6 fnm, zo0 kp tt k1 k2 k3 k4 k5 k6 k7 k8 (nI kj) (nI kb) (nI kl), zi G k1 6 gnm, zi G k2 4 gso, zi G k3 4 gmi, zi G k4 4 gpa, zi G k5 6 gki, zi G k6 6 gmo, zi G k7 6 gsz, zi G k8 6 grd, zi G r1 40 fs1, zi G r2 40 fs2, zi G r3 40 fs3, zo4 tu tw tr, zr G tw 6 fw, zi G w0 6 fw0, zi G w1 6 fw1, zi G w2 6 fw2, zi G w3 6 fw3, zi G w4 6 fw4, zi G w5 6 fw5, zi G tr 64 ftr, zo6 mo (nI Npb) Akd Amo Ast (nI Njg) Aro Atp (nI Ntd) Acd Asr (nI Ntx) (nI Nru) Zhi Air Aih Ass Asq Ace Alw Z19 Z20 Z21 Z22 Awo Ahe Z25 Z26 Z27 Ask Ana Akp Z31 Z32 Z33 Z34 Agb Ago Afa Aga Z39 Z40 Avo, zi G Akd 6 Fkd, zi G Amo 6 Fmo, zi G Ast 12 Fst, zi G Aro 12 Fro, zi G Atp 160 Ftp, zi G Acd 1200 Fcd, zi G Asr 24 (nF Fsr), zi G Air 24 Fir, zi G Aih 3 Fih, zi G Ass 4 Fss, zi G Asq 4 (nF Fsq), zi G Ace 160 Fce, zi G Alw 40 Flw, zi G Awo 96 Fwo, zi G Ahe 200 Fhe, zi G Ask 200 Fsk, zi G Ana 6 Fna, zi G Akp 24 Fkp, zb G Agb 61 Fgb, zb G Ago 61 Fgo, zi G Afa 36 Ffa, zi G Aga 36 Fga, zi G Avo 64 Fvo, zo5 xo tt rd nw th kp sh tu him, zo0 nw tt n1 n2 n3 n4 n5 n6 n7 n8 (nI jg) (nI pb) (nI lw), zi G n2 4 fso, zi G n3 4 fmi, zi G n4 4 fpa, zi G n5 6 fki, zi G n6 6 fmo, zi G n7 6 fsz, zi G n8 6 frd, zo0 th tt t1 t2 t3 t4 t5 t6 t7 t8 zj9_11 zb9_12 zl9_13, zi G t1 6 yt1_14, zi G t2 4 yt2_15, zi G t3 4 yt3_16, zi G t4 4 yt4_17, zi G t5 6 yt5_18, zi G t6 6 yt6_19, zi G t7 6 yt7_20, zi G t8 6 yt8_21, zo3 tt co en sk wr (nI tx), zr G co 6 fc, zr G en 6 fe, zi G c0 160 fcr0, zi G e0 3 (nF fer0), zi G sk 32 ysk_22, zo2 sh qn qo ql, zr G qn 4 fn, zi G qo 4 fqo, zi G ql 4 (nF fql), zi G r0 40 fs0] H := gJoin hP hD hk1 hFc hP1 hD1 [0, 19, 21, 22, 23, 24, 25, 26, 27, 28, 29, 30, 31, 32, 33, 34, 35, 36, 3, 4, 11, 5, 12, 18, 46, 47, 52, 53, 48] [1, 2, 6, 7, 8, 9, 10, 13, 14, 15, 16, 17, 20, 37, 38, 39, 40, 41, 42, 43, 44, 45, 49, 50, 51, 54, 55, 56, 57, 58, 59, 60, 61, 62, 63, 64, 65, 66, 67, 68, 69, 70, 71, 72, 73, 74, 75, 76, 77, 78, 79, 80, 81, 82, 83, 84, 85, 86] rfl rfl rfl (by decide +kernel) (by decide +kernel)
  have hP := hz9.1
  have hD := hz9.2
  subst w_10
  refine lv_pop hx hb dL_law_1087 rfl ?_
  refine lv_aload_n hx hb dL_law_1088 rfl (lv_at hl 1 rfl) ?_
  refine lv_aload_n hx hb dL_law_1089 rfl (lv_at hl 3 rfl) ?_
  refine lv_iload_n hx hb dL_law_1090 rfl (lv_at hl 0 rfl) ?_
  refine lv_iconst (v := 1) hx hb dL_law_1091 (by decide +kernel) ?_
  refine lv_iadd hx hb dL_law_1092 ?_
  refine lv_topi (fun v_23 ev_23 => ?_)
  have ev_23 : v_23 = nI ((7 * i7) + 1) := ev_23.trans (nI_add (7 * i7) 1)
  subst ev_23
  refine va_sld hx hb hX hbl hbA hS (i := nI ((7 * i7) + 1)) (vp_in_nI (by omega) (by omega)) dL_law_1093 ?_
  refine lv_topi (fun v_24 ev_24 => ?_)
  have ev_24 : (nI sn) = v_24 := (ev_24.trans (by rw [nI_clamp (by omega)]; exact hv1.symm)).symm
  subst ev_24
  refine lv_aload_n hx hb dL_law_1094 rfl (lv_at hl 3 rfl) ?_
  refine lv_iload_n hx hb dL_law_1095 rfl (lv_at hl 0 rfl) ?_
  refine lv_iconst (v := 2) hx hb dL_law_1096 (by decide +kernel) ?_
  refine lv_iadd hx hb dL_law_1097 ?_
  refine lv_topi (fun v_25 ev_25 => ?_)
  have ev_25 : v_25 = nI ((7 * i7) + 2) := ev_25.trans (nI_add (7 * i7) 2)
  subst ev_25
  refine va_sld hx hb hX hbl hbA hS (i := nI ((7 * i7) + 2)) (vp_in_nI (by omega) (by omega)) dL_law_1098 ?_
  refine lv_topi (fun v_26 ev_26 => ?_)
  have ev_26 : v2 = v_26 := (ev_26.trans (by rw [nI_clamp (by omega)]; exact hv2.symm)).symm
  subst ev_26
  refine lv_aload_n hx hb dL_law_1099 rfl (lv_at hl 3 rfl) ?_
  refine lv_iload_n hx hb dL_law_1100 rfl (lv_at hl 0 rfl) ?_
  refine lv_iconst (v := 3) hx hb dL_law_1101 (by decide +kernel) ?_
  refine lv_iadd hx hb dL_law_1102 ?_
  refine lv_topi (fun v_27 ev_27 => ?_)
  have ev_27 : v_27 = nI ((7 * i7) + 3) := ev_27.trans (nI_add (7 * i7) 3)
  subst ev_27
  refine va_sld hx hb hX hbl hbA hS (i := nI ((7 * i7) + 3)) (vp_in_nI (by omega) (by omega)) dL_law_1103 ?_
  refine lv_topi (fun v_28 ev_28 => ?_)
  have ev_28 : v3 = v_28 := (ev_28.trans (by rw [nI_clamp (by omega)]; exact hv3.symm)).symm
  subst ev_28
  refine lv_aload_n hx hb dL_law_1104 rfl (lv_at hl 3 rfl) ?_
  refine lv_iload_n hx hb dL_law_1105 rfl (lv_at hl 0 rfl) ?_
  refine lv_iconst (v := 4) hx hb dL_law_1106 (by decide +kernel) ?_
  refine lv_iadd hx hb dL_law_1107 ?_
  refine lv_topi (fun v_29 ev_29 => ?_)
  have ev_29 : v_29 = nI ((7 * i7) + 4) := ev_29.trans (nI_add (7 * i7) 4)
  subst ev_29
  refine va_sld hx hb hX hbl hbA hS (i := nI ((7 * i7) + 4)) (vp_in_nI (by omega) (by omega)) dL_law_1108 ?_
  refine lv_topi (fun v_30 ev_30 => ?_)
  have ev_30 : v4 = v_30 := (ev_30.trans (by rw [nI_clamp (by omega)]; exact hv4.symm)).symm
  subst ev_30
  have hz9 : gPD G A [zo6 mo (nI Npb) Akd Amo Ast (nI Njg) Aro Atp (nI Ntd) Acd Asr (nI Ntx) (nI Nru) Zhi Air Aih Ass Asq Ace Alw Z19 Z20 Z21 Z22 Awo Ahe Z25 Z26 Z27 Ask Ana Akp Z31 Z32 Z33 Z34 Agb Ago Afa Aga Z39 Z40 Avo, zi G Ast 12 Fst, zi G Aro 12 Fro, zi G Amo 6 Fmo, zi G Akd 6 Fkd, zi G Acd 1200 Fcd, zi G Asr 24 (nF Fsr), zi G Ask 200 Fsk, zi G Ana 6 Fna, zi G Akp 24 Fkp, zi G Asq 4 (nF Fsq), zi G Ace 160 Fce, zi G Ass 4 Fss] H := ⟨hP.sub [34, 37, 38, 36, 35, 40, 41, 50, 51, 52, 45, 46, 44] rfl, hD.sub [34, 37, 38, 36, 35, 40, 41, 50, 51, 52, 45, 46, 44] (by decide +kernel) rfl⟩
  have hPc := hz9.1
  have hDc := hz9.2
  have hFc := gFree hPc hD hS hA [34, 37, 38, 36, 35, 40, 41, 50, 51, 52, 45, 46, 44] rfl
  refine va_calli (va_runV (As := [.int (nI sn), .int v2, .int v3, .int v4]) (rest := []) ⟨hx, hb, hml, hown, hts⟩ (c_X6_sizes l G mo Akd Amo Ast Aro Atp Acd Asr Air Aih Ass Asq Ace Alw Awo Ahe Ask Ana Akp Agb Ago Afa Aga Avo Npb Njg Ntd Ntx Nru Zhi Z19 Z20 Z21 Z22 Z25 Z26 Z27 Z31 Z32 Z33 Z34 Z39 Z40 Fst Fro Fmo Fkd Fcd Fsr Fsk Fna Fkp Fsq Fce Fss (nI sn) v2 v3 v4 H.size (by first | exact hsq | assumption | omega) (by first | exact hwa | assumption | omega) (by first | exact hpb | assumption | omega) (by first | exact hjg | assumption | omega) (by first | exact htx | assumption | omega) (by first | exact hru | assumption | omega)) (cwV 4 hts gL_law_X6_sizes rfl rfl rfl (by decide +kernel) ⟨Nat.le_of_ble_eq_true rfl, Nat.le_of_ble_eq_true rfl⟩) ⟨gPre_blind, va_recv hK hPc (ci := 6) (q0 := 0) rfl rfl, fun U hU hW => gPre_of hU hW hK hPc hDc⟩ rfl rfl hl.1 rfl (lv_room (Nat.le_of_ble_eq_true rfl)) dL_law_1109 ⟨Nat.le_of_ble_eq_true rfl, Nat.le_of_ble_eq_true rfl⟩) hS (fun q _ h => hFc q h) hFc (fun r_31 u t H locs ht hvm w_32 hB hz1 hk1 hS => ?_)
  obtain ⟨ysk_33, yna_34, ykp_35⟩ := u
  obtain ⟨hP1, hK1, hD1⟩ := hB
  rw [ht] at hP1
  have hz9 : gPD G (va_A _ _) [zo6 mo (nI Npb) Akd Amo Ast (nI Njg) Aro Atp (nI Ntd) Acd Asr (nI Ntx) (nI Nru) Zhi Air Aih Ass Asq Ace Alw Z19 Z20 Z21 Z22 Awo Ahe Z25 Z26 Z27 Ask Ana Akp Z31 Z32 Z33 Z34 Agb Ago Afa Aga Z39 Z40 Avo, zi G Ast 12 (m_X6_sizes_st Npb Njg Nru Fst Fro Fmo Fkd Fcd Fsr Fsq Fce Fss (nI sn) v2 v3 v4), zi G Aro 12 Fro, zi G Amo 6 Fmo, zi G Akd 6 Fkd, zi G Acd 1200 Fcd, zi G Asr 24 (nF Fsr), zi G Ask 200 ysk_33, zi G Ana 6 yna_34, zi G Akp 24 ykp_35, zi G Asq 4 (nF Fsq), zi G Ace 160 Fce, zi G Ass 4 Fss] H := ⟨hP1, hD1⟩
  have hP1 := hz9.1
  have hD1 := hz9.2
  have w_32 : r_31 = m_X6_sizes Npb Njg Nru Fst Fro Fmo Fkd Fcd Fsr Fsq Fce Fss (nI sn) v2 v3 v4 := w_32
  have hz9 : gPD G A [zo1 rd tt b0 x2 x3 x4 x5 (nI td), zi G b0 160 fb, zi G c1 160 fcr1, zi G c2 160 fcr2, zi G c3 160 fcr3, zi G c4 160 fcr4, zi G c5 160 fcr5, zi G e1 3 (nF fer1), zi G e2 3 (nF fer2), zi G e3 3 (nF fer3), zi G e4 3 (nF fer4), zi G e5 3 (nF fer5), zi G n1 6 fnm, zo0 kp tt k1 k2 k3 k4 k5 k6 k7 k8 (nI kj) (nI kb) (nI kl), zi G k1 6 gnm, zi G k2 4 gso, zi G k3 4 gmi, zi G k4 4 gpa, zi G k5 6 gki, zi G k6 6 gmo, zi G k7 6 gsz, zi G k8 6 grd, zi G r1 40 fs1, zi G r2 40 fs2, zi G r3 40 fs3, zo4 tu tw tr, zr G tw 6 fw, zi G w0 6 fw0, zi G w1 6 fw1, zi G w2 6 fw2, zi G w3 6 fw3, zi G w4 6 fw4, zi G w5 6 fw5, zi G tr 64 ftr, zi G Atp 160 Ftp, zi G Air 24 Fir, zi G Aih 3 Fih, zi G Alw 40 Flw, zi G Awo 96 Fwo, zi G Ahe 200 Fhe, zb G Agb 61 Fgb, zb G Ago 61 Fgo, zi G Afa 36 Ffa, zi G Aga 36 Fga, zi G Avo 64 Fvo, zo5 xo tt rd nw th kp sh tu him, zo0 nw tt n1 n2 n3 n4 n5 n6 n7 n8 (nI jg) (nI pb) (nI lw), zi G n2 4 fso, zi G n3 4 fmi, zi G n4 4 fpa, zi G n5 6 fki, zi G n6 6 fmo, zi G n7 6 fsz, zi G n8 6 frd, zo0 th tt t1 t2 t3 t4 t5 t6 t7 t8 zj9_11 zb9_12 zl9_13, zi G t1 6 yt1_14, zi G t2 4 yt2_15, zi G t3 4 yt3_16, zi G t4 4 yt4_17, zi G t5 6 yt5_18, zi G t6 6 yt6_19, zi G t7 6 yt7_20, zi G t8 6 yt8_21, zo3 tt co en sk wr (nI tx), zr G co 6 fc, zr G en 6 fe, zi G c0 160 fcr0, zi G e0 3 (nF fer0), zi G sk 32 ysk_22, zo2 sh qn qo ql, zr G qn 4 fn, zi G qo 4 fqo, zi G ql 4 (nF fql), zi G r0 40 fs0, zo6 mo (nI Npb) Akd Amo Ast (nI Njg) Aro Atp (nI Ntd) Acd Asr (nI Ntx) (nI Nru) Zhi Air Aih Ass Asq Ace Alw Z19 Z20 Z21 Z22 Awo Ahe Z25 Z26 Z27 Ask Ana Akp Z31 Z32 Z33 Z34 Agb Ago Afa Aga Z39 Z40 Avo, zi G Ast 12 (m_X6_sizes_st Npb Njg Nru Fst Fro Fmo Fkd Fcd Fsr Fsq Fce Fss (nI sn) v2 v3 v4), zi G Aro 12 Fro, zi G Amo 6 Fmo, zi G Akd 6 Fkd, zi G Acd 1200 Fcd, zi G Asr 24 (nF Fsr), zi G Ask 200 ysk_33, zi G Ana 6 yna_34, zi G Akp 24 ykp_35, zi G Asq 4 (nF Fsq), zi G Ace 160 Fce, zi G Ass 4 Fss] H := gJoin hP hD hk1 hFc hP1 hD1 [34, 37, 38, 36, 35, 40, 41, 50, 51, 52, 45, 46, 44] [0, 1, 2, 3, 4, 5, 6, 7, 8, 9, 10, 11, 12, 13, 14, 15, 16, 17, 18, 19, 20, 21, 22, 23, 24, 25, 26, 27, 28, 29, 30, 31, 32, 33, 39, 42, 43, 47, 48, 49, 53, 54, 55, 56, 57, 58, 59, 60, 61, 62, 63, 64, 65, 66, 67, 68, 69, 70, 71, 72, 73, 74, 75, 76, 77, 78, 79, 80, 81, 82, 83, 84, 85, 86] rfl rfl rfl (by decide +kernel) (by decide +kernel)
  have hP := hz9.1
  have hD := hz9.2
  subst w_32
  refine lv_pop hx hb dL_law_1112 rfl ?_
  refine lv_goto (tgt := 1614) hx hb dL_law_1113 (by decide +kernel) ?_
  refine lv_iinc (v := nI (7 * (i7 + 1))) (lv' := [zI 3 (nI (7 * (i7 + 1))), zR 2 mo, zR 1 xo, zR 0 b]) hx hb dL_law_1614 hl (k := 0) rfl (by show nI (7 * i7) + 7 = nI (7 * (i7 + 1)); exact nI_add (7 * i7) 7) (by decide +kernel) rfl (fun ls hl => ?_)
  refine lv_goto (tgt := 18) hx hb dL_law_1617 (by decide +kernel) ?_
  exact K him x2 x3 x4 x5 td fb wr ysk_22 jg pb lw fnm fso fmi fpa fki fmo fsz frd zj9_11 zb9_12 zl9_13 yt1_14 yt2_15 yt3_16 yt4_17 yt5_18 yt6_19 yt7_20 yt8_21 kj kb kl gnm gso gmi gpa gki gmo gsz grd fs0 fs1 fs2 fs3 fqo fql fw0 fw1 fw2 fw3 fw4 fw5 ftr Npb Njg Ntd Ntx Nru Zhi Z19 Z20 Z21 Z22 Z25 Z26 Z27 Z31 Z32 Z33 Z34 Z39 Z40 Fkd Fmo (m_X6_sizes_st Npb Njg Nru Fst Fro Fmo Fkd Fcd Fsr Fsq Fce Fss (nI sn) v2 v3 v4) Fro Ftp Fcd Fsr Fir Fih Fss Fsq Fce Flw Fwo Fhe ysk_33 yna_34 ykp_35 Fgb Fgo Ffa Fga Fvo hFX hFM hRL (rq_sizes hRQ) H _ ls (hP.sub [45, 0, 1, 63, 64, 66, 2, 3, 4, 5, 6, 65, 67, 7, 8, 9, 10, 11, 68, 46, 12, 47, 48, 49, 50, 51, 52, 53, 54, 55, 56, 57, 58, 59, 60, 61, 62, 13, 14, 15, 16, 17, 18, 19, 20, 21, 69, 70, 73, 22, 23, 24, 71, 72, 25, 26, 27, 28, 29, 30, 31, 32, 33, 74, 78, 77, 75, 76, 34, 79, 80, 35, 36, 86, 84, 85, 37, 38, 39, 81, 82, 83, 40, 41, 42, 43, 44] rfl) (hD.sub [45, 0, 1, 63, 64, 66, 2, 3, 4, 5, 6, 65, 67, 7, 8, 9, 10, 11, 68, 46, 12, 47, 48, 49, 50, 51, 52, 53, 54, 55, 56, 57, 58, 59, 60, 61, 62, 13, 14, 15, 16, 17, 18, 19, 20, 21, 69, 70, 73, 22, 23, 24, 71, 72, 25, 26, 27, 28, 29, 30, 31, 32, 33, 74, 78, 77, 75, 76, 34, 79, 80, 35, 36, 86, 84, 85, 37, 38, 39, 81, 82, 83, 40, 41, 42, 43, 44] (by decide +kernel) rfl) hS (lv_sub hl [0, 1, 2, 3] rfl)
