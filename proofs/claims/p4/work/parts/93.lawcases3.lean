set_option maxHeartbeats 4000000 in
set_option maxRecDepth 100000 in
theorem lc_sizes_B {p : Program} {l : Launch} {e : Env} {s : State} {m : MethodId} {below : List Frame} {meth : Method} {c : Code} {b L : Nat} {xs : Nat → Int32} {G : gG} {E : gS} {A : Nat → Prop} (C0 : lw_At p s m meth c b L xs) (hE : gE E A s s.heap) (hK : gK G s) (hAe : A = fun q => s.heap.size ≤ q) {xo tt rd nw th kp sh tu b0 co en sk c0 c1 c2 c3 c4 c5 e0 e1 e2 e3 e4 e5 n1 n2 n3 n4 n5 n6 n7 n8 t1 t2 t3 t4 t5 t6 t7 t8 k1 k2 k3 k4 k5 k6 k7 k8 qn qo ql r0 r1 r2 r3 tw tr w0 w1 w2 w3 w4 w5 mo Akd Amo Ast Aro Atp Acd Asr Air Aih Ass Asq Ace Alw Awo Ahe Ask Ana Akp Agb Ago Afa Aga Avo : Nat} {fc fe fn fw : Nat → Option Nat} {tx : Nat} {fcr0 fcr1 fcr2 fcr3 fcr4 fcr5 : Nat → Int32} {fer0 fer1 fer2 fer3 fer4 fer5 : Nat → Nat} {him x2 x3 x4 x5 : Int32} {td : Nat} {fb : Nat → Int32} {wr : Int32} {fsk : Nat → Int32} {jg pb lw : Nat} {fnm fso fmi fpa fki fmo fsz frd : Nat → Int32} {tj tb tl : Int32} {unm uso umi upa uki umo usz urd : Nat → Int32} {kj kb kl : Nat} {gnm gso gmi gpa gki gmo gsz grd fs0 fs1 fs2 fs3 fqo : Nat → Int32} {fql : Nat → Nat} {fw0 fw1 fw2 fw3 fw4 fw5 ftr : Nat → Int32} {Npb Njg Ntd Ntx Nru : Nat} {Zhi Z19 Z20 Z21 Z22 Z25 Z26 Z27 Z31 Z32 Z33 Z34 Z39 Z40 : Int32} {Fkd Fmo Fst Fro Ftp Fcd : Nat → Int32} {Fsr : Nat → Nat} {Fir Fih Fss : Nat → Int32} {Fsq : Nat → Nat} {Fce Flw Fwo Fhe Fsk Fna Fkp Fgb Fgo Ffa Fga Fvo : Nat → Int32}  {v1 v2 v3 v4 v5 v6 : Int32} {i7 : Nat} (hi : 7 * i7 + 7 ≤ L) (hL : L ≤ 3584) (hv1 : v1 = xs (7 * i7 + 1)) (hv2 : v2 = xs (7 * i7 + 2)) (hv3 : v3 = xs (7 * i7 + 3)) (hv4 : v4 = xs (7 * i7 + 4)) (hv5 : v5 = xs (7 * i7 + 5)) (hv6 : v6 = xs (7 * i7 + 6)) (hno : ¬ (0 ≤ v1 ∧ v1 ≤ 3)) (K : LawV p l e s m below meth c b G A xo tt rd nw th kp sh tu b0 co en sk c0 c1 c2 c3 c4 c5 e0 e1 e2 e3 e4 e5 n1 n2 n3 n4 n5 n6 n7 n8 t1 t2 t3 t4 t5 t6 t7 t8 k1 k2 k3 k4 k5 k6 k7 k8 qn qo ql r0 r1 r2 r3 tw tr w0 w1 w2 w3 w4 w5 mo Akd Amo Ast Aro Atp Acd Asr Air Aih Ass Asq Ace Alw Awo Ahe Ask Ana Akp Agb Ago Afa Aga Avo fc fe fn fw tx fcr0 fcr1 fcr2 fcr3 fcr4 fcr5 fer0 fer1 fer2 fer3 fer4 fer5 (i7 + 1)) (hFX : FXP jg pb lw kj kb kl tx td him fql) (hFM : FMP Npb Njg Ntd Ntx Nru Zhi Fcd Fsr Fsq Fir Fih) (hRL : RLP False fn r0 r1 r2 r3 jg pb kj kb him fs0 fs1 fs2 fs3 fqo fql Npb Njg Zhi Fss Fsq Fce Fih) (hRQ : RQP fc c0 c1 c2 c3 c4 c5 fcr0 fcr1 fcr2 fcr3 fcr4 fcr5 fer0 fer1 fer2 fer3 fer4 fer5 pb lw tx td kb kl him fb fso fmi fpa fki fmo fsz frd gso gmi gpa gki gmo gsz grd Nru Ntx Ntd Fkd Fmo Fst Fro Ftp Fcd Fsr Fir Fih Fwo) {H : Heap} {locs : List Loc} (hP : va_P G.1 vwCl (WLd G xo tt rd nw th kp sh tu b0 co en sk c0 c1 c2 c3 c4 c5 e0 e1 e2 e3 e4 e5 n1 n2 n3 n4 n5 n6 n7 n8 t1 t2 t3 t4 t5 t6 t7 t8 k1 k2 k3 k4 k5 k6 k7 k8 qn qo ql r0 r1 r2 r3 tw tr w0 w1 w2 w3 w4 w5 mo Akd Amo Ast Aro Atp Acd Asr Air Aih Ass Asq Ace Alw Awo Ahe Ask Ana Akp Agb Ago Afa Aga Avo fc fe fn fw tx fcr0 fcr1 fcr2 fcr3 fcr4 fcr5 fer0 fer1 fer2 fer3 fer4 fer5 him x2 x3 x4 x5 td fb wr fsk jg pb lw fnm fso fmi fpa fki fmo fsz frd tj tb tl unm uso umi upa uki umo usz urd kj kb kl gnm gso gmi gpa gki gmo gsz grd fs0 fs1 fs2 fs3 fqo fql fw0 fw1 fw2 fw3 fw4 fw5 ftr Npb Njg Ntd Ntx Nru Zhi Z19 Z20 Z21 Z22 Z25 Z26 Z27 Z31 Z32 Z33 Z34 Z39 Z40 Fkd Fmo Fst Fro Ftp Fcd Fsr Fir Fih Fss Fsq Fce Flw Fwo Fhe Fsk Fna Fkp Fgb Fgo Ffa Fga Fvo) H) (hD : va_D A (WLd G xo tt rd nw th kp sh tu b0 co en sk c0 c1 c2 c3 c4 c5 e0 e1 e2 e3 e4 e5 n1 n2 n3 n4 n5 n6 n7 n8 t1 t2 t3 t4 t5 t6 t7 t8 k1 k2 k3 k4 k5 k6 k7 k8 qn qo ql r0 r1 r2 r3 tw tr w0 w1 w2 w3 w4 w5 mo Akd Amo Ast Aro Atp Acd Asr Air Aih Ass Asq Ace Alw Awo Ahe Ask Ana Akp Agb Ago Afa Aga Avo fc fe fn fw tx fcr0 fcr1 fcr2 fcr3 fcr4 fcr5 fer0 fer1 fer2 fer3 fer4 fer5 him x2 x3 x4 x5 td fb wr fsk jg pb lw fnm fso fmi fpa fki fmo fsz frd tj tb tl unm uso umi upa uki umo usz urd kj kb kl gnm gso gmi gpa gki gmo gsz grd fs0 fs1 fs2 fs3 fqo fql fw0 fw1 fw2 fw3 fw4 fw5 ftr Npb Njg Ntd Ntx Nru Zhi Z19 Z20 Z21 Z22 Z25 Z26 Z27 Z31 Z32 Z33 Z34 Z39 Z40 Fkd Fmo Fst Fro Ftp Fcd Fsr Fir Fih Fss Fsq Fce Flw Fwo Fhe Fsk Fna Fkp Fgb Fgo Ffa Fga Fvo)) (hS : va_S A s.heap H locs) {ls : Array Slot} (hl : lv_has ls 4 [zI 3 (nI (7 * i7)), zR 2 mo, zR 1 xo, zR 0 b]) : W p l e room_1 s m #[Value.ref b] below meth c H locs 87 4128 (lw_Z below #[Value.ref b] s) (F0 m 1063 ls []) := by
  obtain ⟨hx, hb, hret, hml, hown, hts0, hX, hbl, hlocks, hgv⟩ := id C0
  have hts : ∀ w ∈ wsL_law, w.before #[Value.ref b] s = true := fun w h => hts0 w (wsL_law_in w h)
  have hown : s.vm.findClass RL = some m.cls := hown
  have hA : ∀ q : Nat, s.heap.size ≤ q → A q := fun q h => by rw [hAe]; exact h
  have hbA : ¬ A b := by rw [hAe]; exact Nat.not_le.mpr hbl
  obtain ⟨⟨hjg, hpb, hlw, htx, htd⟩, hkk, hql⟩ := id hFX
  obtain ⟨⟨hNpb, hNjg, hNru, hNtx, hNtd⟩, hwa, hsq, hIM⟩ := id hFM
  have hz9 : gPD G A [zo5 xo tt rd nw th kp sh tu him, zo1 rd tt b0 x2 x3 x4 x5 (nI td), zi G b0 160 fb, zo3 tt co en sk wr (nI tx), zr G co 6 fc, zi G c0 160 fcr0, zi G c1 160 fcr1, zi G c2 160 fcr2, zi G c3 160 fcr3, zi G c4 160 fcr4, zi G c5 160 fcr5, zr G en 6 fe, zi G e0 3 (nF fer0), zi G e1 3 (nF fer1), zi G e2 3 (nF fer2), zi G e3 3 (nF fer3), zi G e4 3 (nF fer4), zi G e5 3 (nF fer5), zi G sk 32 fsk, zo0 nw tt n1 n2 n3 n4 n5 n6 n7 n8 (nI jg) (nI pb) (nI lw), zi G n1 6 fnm, zi G n2 4 fso, zi G n3 4 fmi, zi G n4 4 fpa, zi G n5 6 fki, zi G n6 6 fmo, zi G n7 6 fsz, zi G n8 6 frd, zo0 th tt t1 t2 t3 t4 t5 t6 t7 t8 tj tb tl, zi G t1 6 unm, zi G t2 4 uso, zi G t3 4 umi, zi G t4 4 upa, zi G t5 6 uki, zi G t6 6 umo, zi G t7 6 usz, zi G t8 6 urd, zo0 kp tt k1 k2 k3 k4 k5 k6 k7 k8 (nI kj) (nI kb) (nI kl), zi G k1 6 gnm, zi G k2 4 gso, zi G k3 4 gmi, zi G k4 4 gpa, zi G k5 6 gki, zi G k6 6 gmo, zi G k7 6 gsz, zi G k8 6 grd, zo2 sh qn qo ql, zr G qn 4 fn, zi G r0 40 fs0, zi G r1 40 fs1, zi G r2 40 fs2, zi G r3 40 fs3, zi G qo 4 fqo, zi G ql 4 (nF fql), zo4 tu tw tr, zr G tw 6 fw, zi G w0 6 fw0, zi G w1 6 fw1, zi G w2 6 fw2, zi G w3 6 fw3, zi G w4 6 fw4, zi G w5 6 fw5, zi G tr 64 ftr, zo6 mo (nI Npb) Akd Amo Ast (nI Njg) Aro Atp (nI Ntd) Acd Asr (nI Ntx) (nI Nru) Zhi Air Aih Ass Asq Ace Alw Z19 Z20 Z21 Z22 Awo Ahe Z25 Z26 Z27 Ask Ana Akp Z31 Z32 Z33 Z34 Agb Ago Afa Aga Z39 Z40 Avo, zi G Akd 6 Fkd, zi G Amo 6 Fmo, zi G Ast 12 Fst, zi G Aro 12 Fro, zi G Atp 160 Ftp, zi G Acd 1200 Fcd, zi G Asr 24 (nF Fsr), zi G Air 24 Fir, zi G Aih 3 Fih, zi G Ass 4 Fss, zi G Asq 4 (nF Fsq), zi G Ace 160 Fce, zi G Alw 40 Flw, zi G Awo 96 Fwo, zi G Ahe 200 Fhe, zi G Ask 200 Fsk, zi G Ana 6 Fna, zi G Akp 24 Fkp, zb G Agb 61 Fgb, zb G Ago 61 Fgo, zi G Afa 36 Ffa, zi G Aga 36 Fga, zi G Avo 64 Fvo] H := ⟨hP, hD⟩
  have hP := hz9.1
  have hD := hz9.2
  refine lv_aload_n hx hb dL_law_1063 rfl (lv_at hl 2 rfl) ?_
  refine lv_aload_n hx hb dL_law_1064 rfl (lv_at hl 3 rfl) ?_
  refine lv_iload_n hx hb dL_law_1065 rfl (lv_at hl 0 rfl) ?_
  refine lv_iconst (v := 1) hx hb dL_law_1066 (by decide +kernel) ?_
  refine lv_iadd hx hb dL_law_1067 ?_
  refine lv_topi (fun v_1 ev_1 => ?_)
  have ev_1 : v_1 = nI ((7 * i7) + 1) := ev_1.trans (nI_add (7 * i7) 1)
  subst ev_1
  refine va_sld hx hb hX hbl hbA hS (i := nI ((7 * i7) + 1)) (vp_in_nI (by omega) (by omega)) dL_law_1068 ?_
  refine lv_topi (fun v_2 ev_2 => ?_)
  have ev_2 : v1 = v_2 := (ev_2.trans (by rw [nI_clamp (by omega)]; exact hv1.symm)).symm
  subst ev_2
  refine lv_aload_n hx hb dL_law_1069 rfl (lv_at hl 3 rfl) ?_
  refine lv_iload_n hx hb dL_law_1070 rfl (lv_at hl 0 rfl) ?_
  refine lv_iconst (v := 2) hx hb dL_law_1071 (by decide +kernel) ?_
  refine lv_iadd hx hb dL_law_1072 ?_
  refine lv_topi (fun v_3 ev_3 => ?_)
  have ev_3 : v_3 = nI ((7 * i7) + 2) := ev_3.trans (nI_add (7 * i7) 2)
  subst ev_3
  refine va_sld hx hb hX hbl hbA hS (i := nI ((7 * i7) + 2)) (vp_in_nI (by omega) (by omega)) dL_law_1073 ?_
  refine lv_topi (fun v_4 ev_4 => ?_)
  have ev_4 : v2 = v_4 := (ev_4.trans (by rw [nI_clamp (by omega)]; exact hv2.symm)).symm
  subst ev_4
  refine lv_aload_n hx hb dL_law_1074 rfl (lv_at hl 3 rfl) ?_
  refine lv_iload_n hx hb dL_law_1075 rfl (lv_at hl 0 rfl) ?_
  refine lv_iconst (v := 3) hx hb dL_law_1076 (by decide +kernel) ?_
  refine lv_iadd hx hb dL_law_1077 ?_
  refine lv_topi (fun v_5 ev_5 => ?_)
  have ev_5 : v_5 = nI ((7 * i7) + 3) := ev_5.trans (nI_add (7 * i7) 3)
  subst ev_5
  refine va_sld hx hb hX hbl hbA hS (i := nI ((7 * i7) + 3)) (vp_in_nI (by omega) (by omega)) dL_law_1078 ?_
  refine lv_topi (fun v_6 ev_6 => ?_)
  have ev_6 : v3 = v_6 := (ev_6.trans (by rw [nI_clamp (by omega)]; exact hv3.symm)).symm
  subst ev_6
  refine lv_aload_n hx hb dL_law_1079 rfl (lv_at hl 3 rfl) ?_
  refine lv_iload_n hx hb dL_law_1080 rfl (lv_at hl 0 rfl) ?_
  refine lv_iconst (v := 4) hx hb dL_law_1081 (by decide +kernel) ?_
  refine lv_iadd hx hb dL_law_1082 ?_
  refine lv_topi (fun v_7 ev_7 => ?_)
  have ev_7 : v_7 = nI ((7 * i7) + 4) := ev_7.trans (nI_add (7 * i7) 4)
  subst ev_7
  refine va_sld hx hb hX hbl hbA hS (i := nI ((7 * i7) + 4)) (vp_in_nI (by omega) (by omega)) dL_law_1083 ?_
  refine lv_topi (fun v_8 ev_8 => ?_)
  have ev_8 : v4 = v_8 := (ev_8.trans (by rw [nI_clamp (by omega)]; exact hv4.symm)).symm
  subst ev_8
  have hz9 : gPD G A [zo5 xo tt rd nw th kp sh tu him, zo2 sh qn qo ql] H := ⟨hP.sub [0, 46] rfl, hD.sub [0, 46] (by decide +kernel) rfl⟩
  have hPc := hz9.1
  have hDc := hz9.2
  have hFc := gFree hPc hD hS hA [0, 46] rfl
  refine va_calli (va_runV (As := [.int v1, .int v2, .int v3, .int v4]) (rest := []) ⟨hx, hb, hml, hown, hts⟩ (c_X5_sizes_B l G E xo tt rd nw th kp sh tu qn qo ql him v1 v2 v3 v4 H.size (by first | exact hno | assumption | omega)) (cwV 4 hts gL_law_X5_sizes rfl rfl rfl (by decide +kernel) ⟨Nat.le_of_ble_eq_true rfl, Nat.le_of_ble_eq_true rfl⟩) ⟨gPreE_blind, va_recv hK hPc (ci := 5) (q0 := 0) rfl rfl, fun U hU hW => gPreE_of hU hW hK hPc hDc hE hS hFc⟩ rfl rfl hl.1 rfl (lv_room (Nat.le_of_ble_eq_true rfl)) dL_law_1084 ⟨Nat.le_of_ble_eq_true rfl, Nat.le_of_ble_eq_true rfl⟩) hS (fun q _ h => hFc q h) hFc (fun r_9 u t H locs ht hvm w_10 hB hz1 hk1 hS => ?_)
  obtain ⟨hP1, hK1, hD1⟩ := hB
  rw [ht] at hP1
  have hz9 : gPD G (va_A _ _) [zo5 xo tt rd nw th kp sh tu him, zo2 sh qn qo ql] H := ⟨hP1, hD1⟩
  have hP1 := hz9.1
  have hD1 := hz9.2
  have w_10 : r_9 = -2 := w_10
  have hz9 : gPD G A [zo1 rd tt b0 x2 x3 x4 x5 (nI td), zi G b0 160 fb, zo3 tt co en sk wr (nI tx), zr G co 6 fc, zi G c0 160 fcr0, zi G c1 160 fcr1, zi G c2 160 fcr2, zi G c3 160 fcr3, zi G c4 160 fcr4, zi G c5 160 fcr5, zr G en 6 fe, zi G e0 3 (nF fer0), zi G e1 3 (nF fer1), zi G e2 3 (nF fer2), zi G e3 3 (nF fer3), zi G e4 3 (nF fer4), zi G e5 3 (nF fer5), zi G sk 32 fsk, zo0 nw tt n1 n2 n3 n4 n5 n6 n7 n8 (nI jg) (nI pb) (nI lw), zi G n1 6 fnm, zi G n2 4 fso, zi G n3 4 fmi, zi G n4 4 fpa, zi G n5 6 fki, zi G n6 6 fmo, zi G n7 6 fsz, zi G n8 6 frd, zo0 th tt t1 t2 t3 t4 t5 t6 t7 t8 tj tb tl, zi G t1 6 unm, zi G t2 4 uso, zi G t3 4 umi, zi G t4 4 upa, zi G t5 6 uki, zi G t6 6 umo, zi G t7 6 usz, zi G t8 6 urd, zo0 kp tt k1 k2 k3 k4 k5 k6 k7 k8 (nI kj) (nI kb) (nI kl), zi G k1 6 gnm, zi G k2 4 gso, zi G k3 4 gmi, zi G k4 4 gpa, zi G k5 6 gki, zi G k6 6 gmo, zi G k7 6 gsz, zi G k8 6 grd, zr G qn 4 fn, zi G r0 40 fs0, zi G r1 40 fs1, zi G r2 40 fs2, zi G r3 40 fs3, zi G qo 4 fqo, zi G ql 4 (nF fql), zo4 tu tw tr, zr G tw 6 fw, zi G w0 6 fw0, zi G w1 6 fw1, zi G w2 6 fw2, zi G w3 6 fw3, zi G w4 6 fw4, zi G w5 6 fw5, zi G tr 64 ftr, zo6 mo (nI Npb) Akd Amo Ast (nI Njg) Aro Atp (nI Ntd) Acd Asr (nI Ntx) (nI Nru) Zhi Air Aih Ass Asq Ace Alw Z19 Z20 Z21 Z22 Awo Ahe Z25 Z26 Z27 Ask Ana Akp Z31 Z32 Z33 Z34 Agb Ago Afa Aga Z39 Z40 Avo, zi G Akd 6 Fkd, zi G Amo 6 Fmo, zi G Ast 12 Fst, zi G Aro 12 Fro, zi G Atp 160 Ftp, zi G Acd 1200 Fcd, zi G Asr 24 (nF Fsr), zi G Air 24 Fir, zi G Aih 3 Fih, zi G Ass 4 Fss, zi G Asq 4 (nF Fsq), zi G Ace 160 Fce, zi G Alw 40 Flw, zi G Awo 96 Fwo, zi G Ahe 200 Fhe, zi G Ask 200 Fsk, zi G Ana 6 Fna, zi G Akp 24 Fkp, zb G Agb 61 Fgb, zb G Ago 61 Fgo, zi G Afa 36 Ffa, zi G Aga 36 Fga, zi G Avo 64 Fvo, zo5 xo tt rd nw th kp sh tu him, zo2 sh qn qo ql] H := gJoin hP hD hk1 hFc hP1 hD1 [0, 46] [1, 2, 3, 4, 5, 6, 7, 8, 9, 10, 11, 12, 13, 14, 15, 16, 17, 18, 19, 20, 21, 22, 23, 24, 25, 26, 27, 28, 29, 30, 31, 32, 33, 34, 35, 36, 37, 38, 39, 40, 41, 42, 43, 44, 45, 47, 48, 49, 50, 51, 52, 53, 54, 55, 56, 57, 58, 59, 60, 61, 62, 63, 64, 65, 66, 67, 68, 69, 70, 71, 72, 73, 74, 75, 76, 77, 78, 79, 80, 81, 82, 83, 84, 85, 86] rfl rfl rfl (by decide +kernel) (by decide +kernel)
  have hP := hz9.1
  have hD := hz9.2
  subst w_10
  refine lv_pop hx hb dL_law_1087 rfl ?_
  refine lv_aload_n hx hb dL_law_1088 rfl (lv_at hl 1 rfl) ?_
  refine lv_aload_n hx hb dL_law_1089 rfl (lv_at hl 3 rfl) ?_
  refine lv_iload_n hx hb dL_law_1090 rfl (lv_at hl 0 rfl) ?_
  refine lv_iconst (v := 1) hx hb dL_law_1091 (by decide +kernel) ?_
  refine lv_iadd hx hb dL_law_1092 ?_
  refine lv_topi (fun v_11 ev_11 => ?_)
  have ev_11 : v_11 = nI ((7 * i7) + 1) := ev_11.trans (nI_add (7 * i7) 1)
  subst ev_11
  refine va_sld hx hb hX hbl hbA hS (i := nI ((7 * i7) + 1)) (vp_in_nI (by omega) (by omega)) dL_law_1093 ?_
  refine lv_topi (fun v_12 ev_12 => ?_)
  have ev_12 : v1 = v_12 := (ev_12.trans (by rw [nI_clamp (by omega)]; exact hv1.symm)).symm
  subst ev_12
  refine lv_aload_n hx hb dL_law_1094 rfl (lv_at hl 3 rfl) ?_
  refine lv_iload_n hx hb dL_law_1095 rfl (lv_at hl 0 rfl) ?_
  refine lv_iconst (v := 2) hx hb dL_law_1096 (by decide +kernel) ?_
  refine lv_iadd hx hb dL_law_1097 ?_
  refine lv_topi (fun v_13 ev_13 => ?_)
  have ev_13 : v_13 = nI ((7 * i7) + 2) := ev_13.trans (nI_add (7 * i7) 2)
  subst ev_13
  refine va_sld hx hb hX hbl hbA hS (i := nI ((7 * i7) + 2)) (vp_in_nI (by omega) (by omega)) dL_law_1098 ?_
  refine lv_topi (fun v_14 ev_14 => ?_)
  have ev_14 : v2 = v_14 := (ev_14.trans (by rw [nI_clamp (by omega)]; exact hv2.symm)).symm
  subst ev_14
  refine lv_aload_n hx hb dL_law_1099 rfl (lv_at hl 3 rfl) ?_
  refine lv_iload_n hx hb dL_law_1100 rfl (lv_at hl 0 rfl) ?_
  refine lv_iconst (v := 3) hx hb dL_law_1101 (by decide +kernel) ?_
  refine lv_iadd hx hb dL_law_1102 ?_
  refine lv_topi (fun v_15 ev_15 => ?_)
  have ev_15 : v_15 = nI ((7 * i7) + 3) := ev_15.trans (nI_add (7 * i7) 3)
  subst ev_15
  refine va_sld hx hb hX hbl hbA hS (i := nI ((7 * i7) + 3)) (vp_in_nI (by omega) (by omega)) dL_law_1103 ?_
  refine lv_topi (fun v_16 ev_16 => ?_)
  have ev_16 : v3 = v_16 := (ev_16.trans (by rw [nI_clamp (by omega)]; exact hv3.symm)).symm
  subst ev_16
  refine lv_aload_n hx hb dL_law_1104 rfl (lv_at hl 3 rfl) ?_
  refine lv_iload_n hx hb dL_law_1105 rfl (lv_at hl 0 rfl) ?_
  refine lv_iconst (v := 4) hx hb dL_law_1106 (by decide +kernel) ?_
  refine lv_iadd hx hb dL_law_1107 ?_
  refine lv_topi (fun v_17 ev_17 => ?_)
  have ev_17 : v_17 = nI ((7 * i7) + 4) := ev_17.trans (nI_add (7 * i7) 4)
  subst ev_17
  refine va_sld hx hb hX hbl hbA hS (i := nI ((7 * i7) + 4)) (vp_in_nI (by omega) (by omega)) dL_law_1108 ?_
  refine lv_topi (fun v_18 ev_18 => ?_)
  have ev_18 : v4 = v_18 := (ev_18.trans (by rw [nI_clamp (by omega)]; exact hv4.symm)).symm
  subst ev_18
  have hz9 : gPD G A [zo6 mo (nI Npb) Akd Amo Ast (nI Njg) Aro Atp (nI Ntd) Acd Asr (nI Ntx) (nI Nru) Zhi Air Aih Ass Asq Ace Alw Z19 Z20 Z21 Z22 Awo Ahe Z25 Z26 Z27 Ask Ana Akp Z31 Z32 Z33 Z34 Agb Ago Afa Aga Z39 Z40 Avo, zi G Ast 12 Fst, zi G Aro 12 Fro, zi G Amo 6 Fmo, zi G Akd 6 Fkd, zi G Acd 1200 Fcd, zi G Asr 24 (nF Fsr), zi G Ask 200 Fsk, zi G Ana 6 Fna, zi G Akp 24 Fkp, zi G Asq 4 (nF Fsq), zi G Ace 160 Fce, zi G Ass 4 Fss] H := ⟨hP.sub [61, 64, 65, 63, 62, 67, 68, 77, 78, 79, 72, 73, 71] rfl, hD.sub [61, 64, 65, 63, 62, 67, 68, 77, 78, 79, 72, 73, 71] (by decide +kernel) rfl⟩
  have hPc := hz9.1
  have hDc := hz9.2
  have hFc := gFree hPc hD hS hA [61, 64, 65, 63, 62, 67, 68, 77, 78, 79, 72, 73, 71] rfl
  refine va_calli (va_runV (As := [.int v1, .int v2, .int v3, .int v4]) (rest := []) ⟨hx, hb, hml, hown, hts⟩ (c_X6_sizes l G mo Akd Amo Ast Aro Atp Acd Asr Air Aih Ass Asq Ace Alw Awo Ahe Ask Ana Akp Agb Ago Afa Aga Avo Npb Njg Ntd Ntx Nru Zhi Z19 Z20 Z21 Z22 Z25 Z26 Z27 Z31 Z32 Z33 Z34 Z39 Z40 Fst Fro Fmo Fkd Fcd Fsr Fsk Fna Fkp Fsq Fce Fss v1 v2 v3 v4 H.size (by first | exact hsq | assumption | omega) (by first | exact hwa | assumption | omega) (by first | exact hpb | assumption | omega) (by first | exact hjg | assumption | omega) (by first | exact htx | assumption | omega) (by first | exact hru | assumption | omega)) (cwV 4 hts gL_law_X6_sizes rfl rfl rfl (by decide +kernel) ⟨Nat.le_of_ble_eq_true rfl, Nat.le_of_ble_eq_true rfl⟩) ⟨gPre_blind, va_recv hK hPc (ci := 6) (q0 := 0) rfl rfl, fun U hU hW => gPre_of hU hW hK hPc hDc⟩ rfl rfl hl.1 rfl (lv_room (Nat.le_of_ble_eq_true rfl)) dL_law_1109 ⟨Nat.le_of_ble_eq_true rfl, Nat.le_of_ble_eq_true rfl⟩) hS (fun q _ h => hFc q h) hFc (fun r_19 u t H locs ht hvm w_20 hB hz1 hk1 hS => ?_)
  obtain ⟨ysk_21, yna_22, ykp_23⟩ := u
  obtain ⟨hP1, hK1, hD1⟩ := hB
  rw [ht] at hP1
  have hz9 : gPD G (va_A _ _) [zo6 mo (nI Npb) Akd Amo Ast (nI Njg) Aro Atp (nI Ntd) Acd Asr (nI Ntx) (nI Nru) Zhi Air Aih Ass Asq Ace Alw Z19 Z20 Z21 Z22 Awo Ahe Z25 Z26 Z27 Ask Ana Akp Z31 Z32 Z33 Z34 Agb Ago Afa Aga Z39 Z40 Avo, zi G Ast 12 (m_X6_sizes_st Npb Njg Nru Fst Fro Fmo Fkd Fcd Fsr Fsq Fce Fss v1 v2 v3 v4), zi G Aro 12 Fro, zi G Amo 6 Fmo, zi G Akd 6 Fkd, zi G Acd 1200 Fcd, zi G Asr 24 (nF Fsr), zi G Ask 200 ysk_21, zi G Ana 6 yna_22, zi G Akp 24 ykp_23, zi G Asq 4 (nF Fsq), zi G Ace 160 Fce, zi G Ass 4 Fss] H := ⟨hP1, hD1⟩
  have hP1 := hz9.1
  have hD1 := hz9.2
  have w_20 : r_19 = m_X6_sizes Npb Njg Nru Fst Fro Fmo Fkd Fcd Fsr Fsq Fce Fss v1 v2 v3 v4 := w_20
  have hz9 : gPD G A [zo1 rd tt b0 x2 x3 x4 x5 (nI td), zi G b0 160 fb, zo3 tt co en sk wr (nI tx), zr G co 6 fc, zi G c0 160 fcr0, zi G c1 160 fcr1, zi G c2 160 fcr2, zi G c3 160 fcr3, zi G c4 160 fcr4, zi G c5 160 fcr5, zr G en 6 fe, zi G e0 3 (nF fer0), zi G e1 3 (nF fer1), zi G e2 3 (nF fer2), zi G e3 3 (nF fer3), zi G e4 3 (nF fer4), zi G e5 3 (nF fer5), zi G sk 32 fsk, zo0 nw tt n1 n2 n3 n4 n5 n6 n7 n8 (nI jg) (nI pb) (nI lw), zi G n1 6 fnm, zi G n2 4 fso, zi G n3 4 fmi, zi G n4 4 fpa, zi G n5 6 fki, zi G n6 6 fmo, zi G n7 6 fsz, zi G n8 6 frd, zo0 th tt t1 t2 t3 t4 t5 t6 t7 t8 tj tb tl, zi G t1 6 unm, zi G t2 4 uso, zi G t3 4 umi, zi G t4 4 upa, zi G t5 6 uki, zi G t6 6 umo, zi G t7 6 usz, zi G t8 6 urd, zo0 kp tt k1 k2 k3 k4 k5 k6 k7 k8 (nI kj) (nI kb) (nI kl), zi G k1 6 gnm, zi G k2 4 gso, zi G k3 4 gmi, zi G k4 4 gpa, zi G k5 6 gki, zi G k6 6 gmo, zi G k7 6 gsz, zi G k8 6 grd, zr G qn 4 fn, zi G r0 40 fs0, zi G r1 40 fs1, zi G r2 40 fs2, zi G r3 40 fs3, zi G qo 4 fqo, zi G ql 4 (nF fql), zo4 tu tw tr, zr G tw 6 fw, zi G w0 6 fw0, zi G w1 6 fw1, zi G w2 6 fw2, zi G w3 6 fw3, zi G w4 6 fw4, zi G w5 6 fw5, zi G tr 64 ftr, zi G Atp 160 Ftp, zi G Air 24 Fir, zi G Aih 3 Fih, zi G Alw 40 Flw, zi G Awo 96 Fwo, zi G Ahe 200 Fhe, zb G Agb 61 Fgb, zb G Ago 61 Fgo, zi G Afa 36 Ffa, zi G Aga 36 Fga, zi G Avo 64 Fvo, zo5 xo tt rd nw th kp sh tu him, zo2 sh qn qo ql, zo6 mo (nI Npb) Akd Amo Ast (nI Njg) Aro Atp (nI Ntd) Acd Asr (nI Ntx) (nI Nru) Zhi Air Aih Ass Asq Ace Alw Z19 Z20 Z21 Z22 Awo Ahe Z25 Z26 Z27 Ask Ana Akp Z31 Z32 Z33 Z34 Agb Ago Afa Aga Z39 Z40 Avo, zi G Ast 12 (m_X6_sizes_st Npb Njg Nru Fst Fro Fmo Fkd Fcd Fsr Fsq Fce Fss v1 v2 v3 v4), zi G Aro 12 Fro, zi G Amo 6 Fmo, zi G Akd 6 Fkd, zi G Acd 1200 Fcd, zi G Asr 24 (nF Fsr), zi G Ask 200 ysk_21, zi G Ana 6 yna_22, zi G Akp 24 ykp_23, zi G Asq 4 (nF Fsq), zi G Ace 160 Fce, zi G Ass 4 Fss] H := gJoin hP hD hk1 hFc hP1 hD1 [61, 64, 65, 63, 62, 67, 68, 77, 78, 79, 72, 73, 71] [0, 1, 2, 3, 4, 5, 6, 7, 8, 9, 10, 11, 12, 13, 14, 15, 16, 17, 18, 19, 20, 21, 22, 23, 24, 25, 26, 27, 28, 29, 30, 31, 32, 33, 34, 35, 36, 37, 38, 39, 40, 41, 42, 43, 44, 45, 46, 47, 48, 49, 50, 51, 52, 53, 54, 55, 56, 57, 58, 59, 60, 66, 69, 70, 74, 75, 76, 80, 81, 82, 83, 84, 85, 86] rfl rfl rfl (by decide +kernel) (by decide +kernel)
  have hP := hz9.1
  have hD := hz9.2
  subst w_20
  refine lv_pop hx hb dL_law_1112 rfl ?_
  refine lv_goto (tgt := 1614) hx hb dL_law_1113 (by decide +kernel) ?_
  refine lv_iinc (v := nI (7 * (i7 + 1))) (lv' := [zI 3 (nI (7 * (i7 + 1))), zR 2 mo, zR 1 xo, zR 0 b]) hx hb dL_law_1614 hl (k := 0) rfl (by show nI (7 * i7) + 7 = nI (7 * (i7 + 1)); exact nI_add (7 * i7) 7) (by decide +kernel) rfl (fun ls hl => ?_)
  refine lv_goto (tgt := 18) hx hb dL_law_1617 (by decide +kernel) ?_
  exact K him x2 x3 x4 x5 td fb wr fsk jg pb lw fnm fso fmi fpa fki fmo fsz frd tj tb tl unm uso umi upa uki umo usz urd kj kb kl gnm gso gmi gpa gki gmo gsz grd fs0 fs1 fs2 fs3 fqo fql fw0 fw1 fw2 fw3 fw4 fw5 ftr Npb Njg Ntd Ntx Nru Zhi Z19 Z20 Z21 Z22 Z25 Z26 Z27 Z31 Z32 Z33 Z34 Z39 Z40 Fkd Fmo (m_X6_sizes_st Npb Njg Nru Fst Fro Fmo Fkd Fcd Fsr Fsq Fce Fss v1 v2 v3 v4) Fro Ftp Fcd Fsr Fir Fih Fss Fsq Fce Flw Fwo Fhe ysk_21 yna_22 ykp_23 Fgb Fgo Ffa Fga Fvo hFX hFM hRL (rq_sizes hRQ) H _ ls (hP.sub [72, 0, 1, 2, 3, 4, 5, 6, 7, 8, 9, 10, 11, 12, 13, 14, 15, 16, 17, 18, 19, 20, 21, 22, 23, 24, 25, 26, 27, 28, 29, 30, 31, 32, 33, 34, 35, 36, 37, 38, 39, 40, 41, 42, 43, 44, 73, 45, 46, 47, 48, 49, 50, 51, 52, 53, 54, 55, 56, 57, 58, 59, 60, 74, 78, 77, 75, 76, 61, 79, 80, 62, 63, 86, 84, 85, 64, 65, 66, 81, 82, 83, 67, 68, 69, 70, 71] rfl) (hD.sub [72, 0, 1, 2, 3, 4, 5, 6, 7, 8, 9, 10, 11, 12, 13, 14, 15, 16, 17, 18, 19, 20, 21, 22, 23, 24, 25, 26, 27, 28, 29, 30, 31, 32, 33, 34, 35, 36, 37, 38, 39, 40, 41, 42, 43, 44, 73, 45, 46, 47, 48, 49, 50, 51, 52, 53, 54, 55, 56, 57, 58, 59, 60, 74, 78, 77, 75, 76, 61, 79, 80, 62, 63, 86, 84, 85, 64, 65, 66, 81, 82, 83, 67, 68, 69, 70, 71] (by decide +kernel) rfl) hS (lv_sub hl [0, 1, 2, 3] rfl)
set_option maxHeartbeats 4000000 in
set_option maxRecDepth 100000 in
theorem lc_whose_A {p : Program} {l : Launch} {e : Env} {s : State} {m : MethodId} {below : List Frame} {meth : Method} {c : Code} {b L : Nat} {xs : Nat → Int32} {G : gG} {E : gS} {A : Nat → Prop} (C0 : lw_At p s m meth c b L xs) (hE : gE E A s s.heap) (hK : gK G s) (hAe : A = fun q => s.heap.size ≤ q) {xo tt rd nw th kp sh tu b0 co en sk c0 c1 c2 c3 c4 c5 e0 e1 e2 e3 e4 e5 n1 n2 n3 n4 n5 n6 n7 n8 t1 t2 t3 t4 t5 t6 t7 t8 k1 k2 k3 k4 k5 k6 k7 k8 qn qo ql r0 r1 r2 r3 tw tr w0 w1 w2 w3 w4 w5 mo Akd Amo Ast Aro Atp Acd Asr Air Aih Ass Asq Ace Alw Awo Ahe Ask Ana Akp Agb Ago Afa Aga Avo : Nat} {fc fe fn fw : Nat → Option Nat} {tx : Nat} {fcr0 fcr1 fcr2 fcr3 fcr4 fcr5 : Nat → Int32} {fer0 fer1 fer2 fer3 fer4 fer5 : Nat → Nat} {him x2 x3 x4 x5 : Int32} {td : Nat} {fb : Nat → Int32} {wr : Int32} {fsk : Nat → Int32} {jg pb lw : Nat} {fnm fso fmi fpa fki fmo fsz frd : Nat → Int32} {tj tb tl : Int32} {unm uso umi upa uki umo usz urd : Nat → Int32} {kj kb kl : Nat} {gnm gso gmi gpa gki gmo gsz grd fs0 fs1 fs2 fs3 fqo : Nat → Int32} {fql : Nat → Nat} {fw0 fw1 fw2 fw3 fw4 fw5 ftr : Nat → Int32} {Npb Njg Ntd Ntx Nru : Nat} {Zhi Z19 Z20 Z21 Z22 Z25 Z26 Z27 Z31 Z32 Z33 Z34 Z39 Z40 : Int32} {Fkd Fmo Fst Fro Ftp Fcd : Nat → Int32} {Fsr : Nat → Nat} {Fir Fih Fss : Nat → Int32} {Fsq : Nat → Nat} {Fce Flw Fwo Fhe Fsk Fna Fkp Fgb Fgo Ffa Fga Fvo : Nat → Int32} {sn : Nat} {v2 v3 v4 v5 v6 : Int32} {i7 : Nat} (hi : 7 * i7 + 7 ≤ L) (hL : L ≤ 3584) (hv1 : (nI sn) = xs (7 * i7 + 1)) (hv2 : v2 = xs (7 * i7 + 2)) (hv3 : v3 = xs (7 * i7 + 3)) (hv4 : v4 = xs (7 * i7 + 4)) (hv5 : v5 = xs (7 * i7 + 5)) (hv6 : v6 = xs (7 * i7 + 6)) (hsn : sn < 4) (hrw : fn sn = some r0) (hc : fc lw = some c0) (he : fe lw = some e0) (hwx : mWx fcr0 fer0) (K : LawV p l e s m below meth c b G A xo tt rd nw th kp sh tu b0 co en sk c0 c1 c2 c3 c4 c5 e0 e1 e2 e3 e4 e5 n1 n2 n3 n4 n5 n6 n7 n8 t1 t2 t3 t4 t5 t6 t7 t8 k1 k2 k3 k4 k5 k6 k7 k8 qn qo ql r0 r1 r2 r3 tw tr w0 w1 w2 w3 w4 w5 mo Akd Amo Ast Aro Atp Acd Asr Air Aih Ass Asq Ace Alw Awo Ahe Ask Ana Akp Agb Ago Afa Aga Avo fc fe fn fw tx fcr0 fcr1 fcr2 fcr3 fcr4 fcr5 fer0 fer1 fer2 fer3 fer4 fer5 (i7 + 1)) (hFX : FXP jg pb lw kj kb kl tx td him fql) (hFM : FMP Npb Njg Ntd Ntx Nru Zhi Fcd Fsr Fsq Fir Fih) (hRL : RLP False fn r0 r1 r2 r3 jg pb kj kb him fs0 fs1 fs2 fs3 fqo fql Npb Njg Zhi Fss Fsq Fce Fih) (hRQ : RQP fc c0 c1 c2 c3 c4 c5 fcr0 fcr1 fcr2 fcr3 fcr4 fcr5 fer0 fer1 fer2 fer3 fer4 fer5 pb lw tx td kb kl him fb fso fmi fpa fki fmo fsz frd gso gmi gpa gki gmo gsz grd Nru Ntx Ntd Fkd Fmo Fst Fro Ftp Fcd Fsr Fir Fih Fwo) {H : Heap} {locs : List Loc} (hP : va_P G.1 vwCl (WLd G xo tt rd nw th kp sh tu b0 co en sk c0 c1 c2 c3 c4 c5 e0 e1 e2 e3 e4 e5 n1 n2 n3 n4 n5 n6 n7 n8 t1 t2 t3 t4 t5 t6 t7 t8 k1 k2 k3 k4 k5 k6 k7 k8 qn qo ql r0 r1 r2 r3 tw tr w0 w1 w2 w3 w4 w5 mo Akd Amo Ast Aro Atp Acd Asr Air Aih Ass Asq Ace Alw Awo Ahe Ask Ana Akp Agb Ago Afa Aga Avo fc fe fn fw tx fcr0 fcr1 fcr2 fcr3 fcr4 fcr5 fer0 fer1 fer2 fer3 fer4 fer5 him x2 x3 x4 x5 td fb wr fsk jg pb lw fnm fso fmi fpa fki fmo fsz frd tj tb tl unm uso umi upa uki umo usz urd kj kb kl gnm gso gmi gpa gki gmo gsz grd fs0 fs1 fs2 fs3 fqo fql fw0 fw1 fw2 fw3 fw4 fw5 ftr Npb Njg Ntd Ntx Nru Zhi Z19 Z20 Z21 Z22 Z25 Z26 Z27 Z31 Z32 Z33 Z34 Z39 Z40 Fkd Fmo Fst Fro Ftp Fcd Fsr Fir Fih Fss Fsq Fce Flw Fwo Fhe Fsk Fna Fkp Fgb Fgo Ffa Fga Fvo) H) (hD : va_D A (WLd G xo tt rd nw th kp sh tu b0 co en sk c0 c1 c2 c3 c4 c5 e0 e1 e2 e3 e4 e5 n1 n2 n3 n4 n5 n6 n7 n8 t1 t2 t3 t4 t5 t6 t7 t8 k1 k2 k3 k4 k5 k6 k7 k8 qn qo ql r0 r1 r2 r3 tw tr w0 w1 w2 w3 w4 w5 mo Akd Amo Ast Aro Atp Acd Asr Air Aih Ass Asq Ace Alw Awo Ahe Ask Ana Akp Agb Ago Afa Aga Avo fc fe fn fw tx fcr0 fcr1 fcr2 fcr3 fcr4 fcr5 fer0 fer1 fer2 fer3 fer4 fer5 him x2 x3 x4 x5 td fb wr fsk jg pb lw fnm fso fmi fpa fki fmo fsz frd tj tb tl unm uso umi upa uki umo usz urd kj kb kl gnm gso gmi gpa gki gmo gsz grd fs0 fs1 fs2 fs3 fqo fql fw0 fw1 fw2 fw3 fw4 fw5 ftr Npb Njg Ntd Ntx Nru Zhi Z19 Z20 Z21 Z22 Z25 Z26 Z27 Z31 Z32 Z33 Z34 Z39 Z40 Fkd Fmo Fst Fro Ftp Fcd Fsr Fir Fih Fss Fsq Fce Flw Fwo Fhe Fsk Fna Fkp Fgb Fgo Ffa Fga Fvo)) (hS : va_S A s.heap H locs) {ls : Array Slot} (hl : lv_has ls 4 [zI 3 (nI (7 * i7)), zR 2 mo, zR 1 xo, zR 0 b]) : W p l e room_1 s m #[Value.ref b] below meth c H locs 87 4128 (lw_Z below #[Value.ref b] s) (F0 m 1116 ls []) := by
  obtain ⟨hx, hb, hret, hml, hown, hts0, hX, hbl, hlocks, hgv⟩ := id C0
  have hts : ∀ w ∈ wsL_law, w.before #[Value.ref b] s = true := fun w h => hts0 w (wsL_law_in w h)
  have hown : s.vm.findClass RL = some m.cls := hown
  have hA : ∀ q : Nat, s.heap.size ≤ q → A q := fun q h => by rw [hAe]; exact h
  have hbA : ¬ A b := by rw [hAe]; exact Nat.not_le.mpr hbl
  obtain ⟨⟨hjg, hpb, hlw, htx, htd⟩, hkk, hql⟩ := id hFX
  obtain ⟨⟨hNpb, hNjg, hNru, hNtx, hNtd⟩, hwa, hsq, hIM⟩ := id hFM
  have hz9 : gPD G A [zo5 xo tt rd nw th kp sh tu him, zo1 rd tt b0 x2 x3 x4 x5 (nI td), zi G b0 160 fb, zo3 tt co en sk wr (nI tx), zr G co 6 fc, zi G c0 160 fcr0, zi G c1 160 fcr1, zi G c2 160 fcr2, zi G c3 160 fcr3, zi G c4 160 fcr4, zi G c5 160 fcr5, zr G en 6 fe, zi G e0 3 (nF fer0), zi G e1 3 (nF fer1), zi G e2 3 (nF fer2), zi G e3 3 (nF fer3), zi G e4 3 (nF fer4), zi G e5 3 (nF fer5), zi G sk 32 fsk, zo0 nw tt n1 n2 n3 n4 n5 n6 n7 n8 (nI jg) (nI pb) (nI lw), zi G n1 6 fnm, zi G n2 4 fso, zi G n3 4 fmi, zi G n4 4 fpa, zi G n5 6 fki, zi G n6 6 fmo, zi G n7 6 fsz, zi G n8 6 frd, zo0 th tt t1 t2 t3 t4 t5 t6 t7 t8 tj tb tl, zi G t1 6 unm, zi G t2 4 uso, zi G t3 4 umi, zi G t4 4 upa, zi G t5 6 uki, zi G t6 6 umo, zi G t7 6 usz, zi G t8 6 urd, zo0 kp tt k1 k2 k3 k4 k5 k6 k7 k8 (nI kj) (nI kb) (nI kl), zi G k1 6 gnm, zi G k2 4 gso, zi G k3 4 gmi, zi G k4 4 gpa, zi G k5 6 gki, zi G k6 6 gmo, zi G k7 6 gsz, zi G k8 6 grd, zo2 sh qn qo ql, zr G qn 4 fn, zi G r0 40 fs0, zi G r1 40 fs1, zi G r2 40 fs2, zi G r3 40 fs3, zi G qo 4 fqo, zi G ql 4 (nF fql), zo4 tu tw tr, zr G tw 6 fw, zi G w0 6 fw0, zi G w1 6 fw1, zi G w2 6 fw2, zi G w3 6 fw3, zi G w4 6 fw4, zi G w5 6 fw5, zi G tr 64 ftr, zo6 mo (nI Npb) Akd Amo Ast (nI Njg) Aro Atp (nI Ntd) Acd Asr (nI Ntx) (nI Nru) Zhi Air Aih Ass Asq Ace Alw Z19 Z20 Z21 Z22 Awo Ahe Z25 Z26 Z27 Ask Ana Akp Z31 Z32 Z33 Z34 Agb Ago Afa Aga Z39 Z40 Avo, zi G Akd 6 Fkd, zi G Amo 6 Fmo, zi G Ast 12 Fst, zi G Aro 12 Fro, zi G Atp 160 Ftp, zi G Acd 1200 Fcd, zi G Asr 24 (nF Fsr), zi G Air 24 Fir, zi G Aih 3 Fih, zi G Ass 4 Fss, zi G Asq 4 (nF Fsq), zi G Ace 160 Fce, zi G Alw 40 Flw, zi G Awo 96 Fwo, zi G Ahe 200 Fhe, zi G Ask 200 Fsk, zi G Ana 6 Fna, zi G Akp 24 Fkp, zb G Agb 61 Fgb, zb G Ago 61 Fgo, zi G Afa 36 Ffa, zi G Aga 36 Fga, zi G Avo 64 Fvo] H := ⟨hP, hD⟩
  have hP := hz9.1
  have hD := hz9.2
  refine lv_aload_n hx hb dL_law_1116 rfl (lv_at hl 2 rfl) ?_
  refine lv_aload_n hx hb dL_law_1117 rfl (lv_at hl 3 rfl) ?_
  refine lv_iload_n hx hb dL_law_1118 rfl (lv_at hl 0 rfl) ?_
  refine lv_iconst (v := 1) hx hb dL_law_1119 (by decide +kernel) ?_
  refine lv_iadd hx hb dL_law_1120 ?_
  refine lv_topi (fun v_1 ev_1 => ?_)
  have ev_1 : v_1 = nI ((7 * i7) + 1) := ev_1.trans (nI_add (7 * i7) 1)
  subst ev_1
  refine va_sld hx hb hX hbl hbA hS (i := nI ((7 * i7) + 1)) (vp_in_nI (by omega) (by omega)) dL_law_1121 ?_
  refine lv_topi (fun v_2 ev_2 => ?_)
  have ev_2 : (nI sn) = v_2 := (ev_2.trans (by rw [nI_clamp (by omega)]; exact hv1.symm)).symm
  subst ev_2
  have hz9 : gPD G A [zo5 xo tt rd nw th kp sh tu him, zo0 nw tt n1 n2 n3 n4 n5 n6 n7 n8 (nI jg) (nI pb) (nI lw), zi G n2 4 fso, zi G n3 4 fmi, zi G n4 4 fpa, zi G n5 6 fki, zi G n6 6 fmo, zi G n7 6 fsz, zi G n8 6 frd, zo0 th tt t1 t2 t3 t4 t5 t6 t7 t8 tj tb tl, zi G t1 6 unm, zi G t2 4 uso, zi G t3 4 umi, zi G t4 4 upa, zi G t5 6 uki, zi G t6 6 umo, zi G t7 6 usz, zi G t8 6 urd, zo3 tt co en sk wr (nI tx), zr G co 6 fc, zr G en 6 fe, zi G c0 160 fcr0, zi G e0 3 (nF fer0), zi G sk 32 fsk, zo2 sh qn qo ql, zr G qn 4 fn, zi G qo 4 fqo, zi G ql 4 (nF fql), zi G r0 40 fs0] H := ⟨hP.sub [0, 19, 21, 22, 23, 24, 25, 26, 27, 28, 29, 30, 31, 32, 33, 34, 35, 36, 3, 4, 11, 5, 12, 18, 46, 47, 52, 53, 48] rfl, hD.sub [0, 19, 21, 22, 23, 24, 25, 26, 27, 28, 29, 30, 31, 32, 33, 34, 35, 36, 3, 4, 11, 5, 12, 18, 46, 47, 52, 53, 48] (by decide +kernel) rfl⟩
  have hPc := hz9.1
  have hDc := hz9.2
  have hFc := gFree hPc hD hS hA [0, 19, 21, 22, 23, 24, 25, 26, 27, 28, 29, 30, 31, 32, 33, 34, 35, 36, 3, 4, 11, 5, 12, 18, 46, 47, 52, 53, 48] rfl
  refine va_calli (va_runV (As := [.int (nI sn)]) (rest := []) ⟨hx, hb, hml, hown, hts⟩ (c_X5_whose_A l G E xo tt rd nw th kp sh tu n1 n2 n3 n4 n5 n6 n7 n8 t1 t2 t3 t4 t5 t6 t7 t8 co en sk c0 e0 qn qo ql r0 jg pb lw tx him wr tj tb tl fc fe fn fer0 fql fso fmi fpa fki fmo fsz frd unm uso umi upa uki umo usz urd fcr0 fsk fqo fs0 sn H.size (by first | exact hsn | assumption | omega) (by first | exact hrw | assumption | omega) (by first | exact hql | assumption | omega) (by first | exact htn | assumption | omega) (by first | exact hc | assumption | omega) (by first | exact he | assumption | omega) (by first | exact hwx | assumption | omega) (by first | exact hjg | assumption | omega) (by first | exact hpb | assumption | omega)) (cwV 1 hts gL_law_X5_whose rfl rfl rfl (by decide +kernel) ⟨Nat.le_of_ble_eq_true rfl, Nat.le_of_ble_eq_true rfl⟩) ⟨gPreE_blind, va_recv hK hPc (ci := 5) (q0 := 0) rfl rfl, fun U hU hW => gPreE_of hU hW hK hPc hDc hE hS hFc⟩ rfl rfl hl.1 rfl (lv_room (Nat.le_of_ble_eq_true rfl)) dL_law_1122 ⟨Nat.le_of_ble_eq_true rfl, Nat.le_of_ble_eq_true rfl⟩) hS (fun q _ h => hFc q h) hFc (fun r_3 u t H locs ht hvm w_4 hB hz1 hk1 hS => ?_)
  obtain ⟨zj9_5, zb9_6, zl9_7, yt1_8, yt2_9, yt3_10, yt4_11, yt5_12, yt6_13, yt7_14, yt8_15, ysk_16⟩ := u
  obtain ⟨hP1, hK1, hD1⟩ := hB
  rw [ht] at hP1
  have hz9 : gPD G (va_A _ _) [zo5 xo tt rd nw th kp sh tu him, zo0 nw tt n1 n2 n3 n4 n5 n6 n7 n8 (nI jg) (nI pb) (nI lw), zi G n2 4 fso, zi G n3 4 fmi, zi G n4 4 fpa, zi G n5 6 fki, zi G n6 6 fmo, zi G n7 6 fsz, zi G n8 6 frd, zo0 th tt t1 t2 t3 t4 t5 t6 t7 t8 zj9_5 zb9_6 zl9_7, zi G t1 6 yt1_8, zi G t2 4 yt2_9, zi G t3 4 yt3_10, zi G t4 4 yt4_11, zi G t5 6 yt5_12, zi G t6 6 yt6_13, zi G t7 6 yt7_14, zi G t8 6 yt8_15, zo3 tt co en sk wr (nI tx), zr G co 6 fc, zr G en 6 fe, zi G c0 160 fcr0, zi G e0 3 (nF fer0), zi G sk 32 ysk_16, zo2 sh qn qo ql, zr G qn 4 fn, zi G qo 4 fqo, zi G ql 4 (nF fql), zi G r0 40 fs0] H := ⟨hP1, hD1⟩
  have hP1 := hz9.1
  have hD1 := hz9.2
  have w_4 : r_3 = m_X5_whose_A jg pb fer0 fql fso fmi fpa fki fmo fsz frd fcr0 fqo fs0 sn := w_4
  have hz9 : gPD G A [zo1 rd tt b0 x2 x3 x4 x5 (nI td), zi G b0 160 fb, zi G c1 160 fcr1, zi G c2 160 fcr2, zi G c3 160 fcr3, zi G c4 160 fcr4, zi G c5 160 fcr5, zi G e1 3 (nF fer1), zi G e2 3 (nF fer2), zi G e3 3 (nF fer3), zi G e4 3 (nF fer4), zi G e5 3 (nF fer5), zi G n1 6 fnm, zo0 kp tt k1 k2 k3 k4 k5 k6 k7 k8 (nI kj) (nI kb) (nI kl), zi G k1 6 gnm, zi G k2 4 gso, zi G k3 4 gmi, zi G k4 4 gpa, zi G k5 6 gki, zi G k6 6 gmo, zi G k7 6 gsz, zi G k8 6 grd, zi G r1 40 fs1, zi G r2 40 fs2, zi G r3 40 fs3, zo4 tu tw tr, zr G tw 6 fw, zi G w0 6 fw0, zi G w1 6 fw1, zi G w2 6 fw2, zi G w3 6 fw3, zi G w4 6 fw4, zi G w5 6 fw5, zi G tr 64 ftr, zo6 mo (nI Npb) Akd Amo Ast (nI Njg) Aro Atp (nI Ntd) Acd Asr (nI Ntx) (nI Nru) Zhi Air Aih Ass Asq Ace Alw Z19 Z20 Z21 Z22 Awo Ahe Z25 Z26 Z27 Ask Ana Akp Z31 Z32 Z33 Z34 Agb Ago Afa Aga Z39 Z40 Avo, zi G Akd 6 Fkd, zi G Amo 6 Fmo, zi G Ast 12 Fst, zi G Aro 12 Fro, zi G Atp 160 Ftp, zi G Acd 1200 Fcd, zi G Asr 24 (nF Fsr), zi G Air 24 Fir, zi G Aih 3 Fih, zi G Ass 4 Fss, zi G Asq 4 (nF Fsq), zi G Ace 160 Fce, zi G Alw 40 Flw, zi G Awo 96 Fwo, zi G Ahe 200 Fhe, zi G Ask 200 Fsk, zi G Ana 6 Fna, zi G Akp 24 Fkp, zb G Agb 61 Fgb, zb G Ago 61 Fgo, zi G Afa 36 Ffa, zi G Aga 36 Fga, zi G Avo 64 Fvo, zo5 xo tt rd nw th kp sh tu him, zo0 nw tt n1 n2 n3 n4 n5 n6 n7 n8 (nI jg) (nI pb) (nI lw), zi G n2 4 fso, zi G n3 4 fmi, zi G n4 4 fpa, zi G n5 6 fki, zi G n6 6 fmo, zi G n7 6 fsz, zi G n8 6 frd, zo0 th tt t1 t2 t3 t4 t5 t6 t7 t8 zj9_5 zb9_6 zl9_7, zi G t1 6 yt1_8, zi G t2 4 yt2_9, zi G t3 4 yt3_10, zi G t4 4 yt4_11, zi G t5 6 yt5_12, zi G t6 6 yt6_13, zi G t7 6 yt7_14, zi G t8 6 yt8_15, zo3 tt co en sk wr (nI tx), zr G co 6 fc, zr G en 6 fe, zi G c0 160 fcr0, zi G e0 3 (nF fer0), zi G sk 32 ysk_16, zo2 sh qn qo ql, zr G qn 4 fn, zi G qo 4 fqo, zi G ql 4 (nF fql), zi G r0 40 fs0] H := gJoin hP hD hk1 hFc hP1 hD1 [0, 19, 21, 22, 23, 24, 25, 26, 27, 28, 29, 30, 31, 32, 33, 34, 35, 36, 3, 4, 11, 5, 12, 18, 46, 47, 52, 53, 48] [1, 2, 6, 7, 8, 9, 10, 13, 14, 15, 16, 17, 20, 37, 38, 39, 40, 41, 42, 43, 44, 45, 49, 50, 51, 54, 55, 56, 57, 58, 59, 60, 61, 62, 63, 64, 65, 66, 67, 68, 69, 70, 71, 72, 73, 74, 75, 76, 77, 78, 79, 80, 81, 82, 83, 84, 85, 86] rfl rfl rfl (by decide +kernel) (by decide +kernel)
  have hP := hz9.1
  have hD := hz9.2
  subst w_4
  refine lv_pop hx hb dL_law_1125 rfl ?_
  refine lv_aload_n hx hb dL_law_1126 rfl (lv_at hl 1 rfl) ?_
  refine lv_aload_n hx hb dL_law_1127 rfl (lv_at hl 3 rfl) ?_
  refine lv_iload_n hx hb dL_law_1128 rfl (lv_at hl 0 rfl) ?_
  refine lv_iconst (v := 1) hx hb dL_law_1129 (by decide +kernel) ?_
  refine lv_iadd hx hb dL_law_1130 ?_
  refine lv_topi (fun v_17 ev_17 => ?_)
  have ev_17 : v_17 = nI ((7 * i7) + 1) := ev_17.trans (nI_add (7 * i7) 1)
  subst ev_17
  refine va_sld hx hb hX hbl hbA hS (i := nI ((7 * i7) + 1)) (vp_in_nI (by omega) (by omega)) dL_law_1131 ?_
  refine lv_topi (fun v_18 ev_18 => ?_)
  have ev_18 : (nI sn) = v_18 := (ev_18.trans (by rw [nI_clamp (by omega)]; exact hv1.symm)).symm
  subst ev_18
  have hz9 : gPD G A [zo6 mo (nI Npb) Akd Amo Ast (nI Njg) Aro Atp (nI Ntd) Acd Asr (nI Ntx) (nI Nru) Zhi Air Aih Ass Asq Ace Alw Z19 Z20 Z21 Z22 Awo Ahe Z25 Z26 Z27 Ask Ana Akp Z31 Z32 Z33 Z34 Agb Ago Afa Aga Z39 Z40 Avo, zi G Ast 12 Fst, zi G Aro 12 Fro, zi G Amo 6 Fmo, zi G Akd 6 Fkd, zi G Acd 1200 Fcd, zi G Asr 24 (nF Fsr), zi G Ask 200 Fsk, zi G Ana 6 Fna, zi G Akp 24 Fkp, zi G Asq 4 (nF Fsq), zi G Ace 160 Fce, zi G Ass 4 Fss] H := ⟨hP.sub [34, 37, 38, 36, 35, 40, 41, 50, 51, 52, 45, 46, 44] rfl, hD.sub [34, 37, 38, 36, 35, 40, 41, 50, 51, 52, 45, 46, 44] (by decide +kernel) rfl⟩
  have hPc := hz9.1
  have hDc := hz9.2
  have hFc := gFree hPc hD hS hA [34, 37, 38, 36, 35, 40, 41, 50, 51, 52, 45, 46, 44] rfl
  refine va_calli (va_runV (As := [.int (nI sn)]) (rest := []) ⟨hx, hb, hml, hown, hts⟩ (c_X6_whose l G mo Akd Amo Ast Aro Atp Acd Asr Air Aih Ass Asq Ace Alw Awo Ahe Ask Ana Akp Agb Ago Afa Aga Avo Npb Njg Ntd Ntx Nru Zhi Z19 Z20 Z21 Z22 Z25 Z26 Z27 Z31 Z32 Z33 Z34 Z39 Z40 Fst Fro Fmo Fkd Fcd Fsr Fsk Fna Fkp Fsq Fce Fss (nI sn) H.size (by first | exact hsq | assumption | omega) (by first | exact hwa | assumption | omega) (by first | exact hpb | assumption | omega) (by first | exact hjg | assumption | omega) (by first | exact htx | assumption | omega) (by first | exact hru | assumption | omega)) (cwV 1 hts gL_law_X6_whose rfl rfl rfl (by decide +kernel) ⟨Nat.le_of_ble_eq_true rfl, Nat.le_of_ble_eq_true rfl⟩) ⟨gPre_blind, va_recv hK hPc (ci := 6) (q0 := 0) rfl rfl, fun U hU hW => gPre_of hU hW hK hPc hDc⟩ rfl rfl hl.1 rfl (lv_room (Nat.le_of_ble_eq_true rfl)) dL_law_1132 ⟨Nat.le_of_ble_eq_true rfl, Nat.le_of_ble_eq_true rfl⟩) hS (fun q _ h => hFc q h) hFc (fun r_19 u t H locs ht hvm w_20 hB hz1 hk1 hS => ?_)
  obtain ⟨ysk_21, yna_22, ykp_23⟩ := u
  obtain ⟨hP1, hK1, hD1⟩ := hB
  rw [ht] at hP1
  have hz9 : gPD G (va_A _ _) [zo6 mo (nI Npb) Akd Amo Ast (nI Njg) Aro Atp (nI Ntd) Acd Asr (nI Ntx) (nI Nru) Zhi Air Aih Ass Asq Ace Alw Z19 Z20 Z21 Z22 Awo Ahe Z25 Z26 Z27 Ask Ana Akp Z31 Z32 Z33 Z34 Agb Ago Afa Aga Z39 Z40 Avo, zi G Ast 12 Fst, zi G Aro 12 Fro, zi G Amo 6 Fmo, zi G Akd 6 Fkd, zi G Acd 1200 Fcd, zi G Asr 24 (nF Fsr), zi G Ask 200 ysk_21, zi G Ana 6 yna_22, zi G Akp 24 ykp_23, zi G Asq 4 (nF Fsq), zi G Ace 160 Fce, zi G Ass 4 Fss] H := ⟨hP1, hD1⟩
  have hP1 := hz9.1
  have hD1 := hz9.2
  have w_20 : r_19 = m_X6_whose Npb Njg Nru Fst Fro Fmo Fkd Fcd Fsr Fsq Fce Fss (nI sn) := w_20
  have hz9 : gPD G A [zo1 rd tt b0 x2 x3 x4 x5 (nI td), zi G b0 160 fb, zi G c1 160 fcr1, zi G c2 160 fcr2, zi G c3 160 fcr3, zi G c4 160 fcr4, zi G c5 160 fcr5, zi G e1 3 (nF fer1), zi G e2 3 (nF fer2), zi G e3 3 (nF fer3), zi G e4 3 (nF fer4), zi G e5 3 (nF fer5), zi G n1 6 fnm, zo0 kp tt k1 k2 k3 k4 k5 k6 k7 k8 (nI kj) (nI kb) (nI kl), zi G k1 6 gnm, zi G k2 4 gso, zi G k3 4 gmi, zi G k4 4 gpa, zi G k5 6 gki, zi G k6 6 gmo, zi G k7 6 gsz, zi G k8 6 grd, zi G r1 40 fs1, zi G r2 40 fs2, zi G r3 40 fs3, zo4 tu tw tr, zr G tw 6 fw, zi G w0 6 fw0, zi G w1 6 fw1, zi G w2 6 fw2, zi G w3 6 fw3, zi G w4 6 fw4, zi G w5 6 fw5, zi G tr 64 ftr, zi G Atp 160 Ftp, zi G Air 24 Fir, zi G Aih 3 Fih, zi G Alw 40 Flw, zi G Awo 96 Fwo, zi G Ahe 200 Fhe, zb G Agb 61 Fgb, zb G Ago 61 Fgo, zi G Afa 36 Ffa, zi G Aga 36 Fga, zi G Avo 64 Fvo, zo5 xo tt rd nw th kp sh tu him, zo0 nw tt n1 n2 n3 n4 n5 n6 n7 n8 (nI jg) (nI pb) (nI lw), zi G n2 4 fso, zi G n3 4 fmi, zi G n4 4 fpa, zi G n5 6 fki, zi G n6 6 fmo, zi G n7 6 fsz, zi G n8 6 frd, zo0 th tt t1 t2 t3 t4 t5 t6 t7 t8 zj9_5 zb9_6 zl9_7, zi G t1 6 yt1_8, zi G t2 4 yt2_9, zi G t3 4 yt3_10, zi G t4 4 yt4_11, zi G t5 6 yt5_12, zi G t6 6 yt6_13, zi G t7 6 yt7_14, zi G t8 6 yt8_15, zo3 tt co en sk wr (nI tx), zr G co 6 fc, zr G en 6 fe, zi G c0 160 fcr0, zi G e0 3 (nF fer0), zi G sk 32 ysk_16, zo2 sh qn qo ql, zr G qn 4 fn, zi G qo 4 fqo, zi G ql 4 (nF fql), zi G r0 40 fs0, zo6 mo (nI Npb) Akd Amo Ast (nI Njg) Aro Atp (nI Ntd) Acd Asr (nI Ntx) (nI Nru) Zhi Air Aih Ass Asq Ace Alw Z19 Z20 Z21 Z22 Awo Ahe Z25 Z26 Z27 Ask Ana Akp Z31 Z32 Z33 Z34 Agb Ago Afa Aga Z39 Z40 Avo, zi G Ast 12 Fst, zi G Aro 12 Fro, zi G Amo 6 Fmo, zi G Akd 6 Fkd, zi G Acd 1200 Fcd, zi G Asr 24 (nF Fsr), zi G Ask 200 ysk_21, zi G Ana 6 yna_22, zi G Akp 24 ykp_23, zi G Asq 4 (nF Fsq), zi G Ace 160 Fce, zi G Ass 4 Fss] H := gJoin hP hD hk1 hFc hP1 hD1 [34, 37, 38, 36, 35, 40, 41, 50, 51, 52, 45, 46, 44] [0, 1, 2, 3, 4, 5, 6, 7, 8, 9, 10, 11, 12, 13, 14, 15, 16, 17, 18, 19, 20, 21, 22, 23, 24, 25, 26, 27, 28, 29, 30, 31, 32, 33, 39, 42, 43, 47, 48, 49, 53, 54, 55, 56, 57, 58, 59, 60, 61, 62, 63, 64, 65, 66, 67, 68, 69, 70, 71, 72, 73, 74, 75, 76, 77, 78, 79, 80, 81, 82, 83, 84, 85, 86] rfl rfl rfl (by decide +kernel) (by decide +kernel)
  have hP := hz9.1
  have hD := hz9.2
  subst w_20
  refine lv_pop hx hb dL_law_1135 rfl ?_
  refine lv_goto (tgt := 1614) hx hb dL_law_1136 (by decide +kernel) ?_
  refine lv_iinc (v := nI (7 * (i7 + 1))) (lv' := [zI 3 (nI (7 * (i7 + 1))), zR 2 mo, zR 1 xo, zR 0 b]) hx hb dL_law_1614 hl (k := 0) rfl (by show nI (7 * i7) + 7 = nI (7 * (i7 + 1)); exact nI_add (7 * i7) 7) (by decide +kernel) rfl (fun ls hl => ?_)
  refine lv_goto (tgt := 18) hx hb dL_law_1617 (by decide +kernel) ?_
  exact K him x2 x3 x4 x5 td fb wr ysk_16 jg pb lw fnm fso fmi fpa fki fmo fsz frd zj9_5 zb9_6 zl9_7 yt1_8 yt2_9 yt3_10 yt4_11 yt5_12 yt6_13 yt7_14 yt8_15 kj kb kl gnm gso gmi gpa gki gmo gsz grd fs0 fs1 fs2 fs3 fqo fql fw0 fw1 fw2 fw3 fw4 fw5 ftr Npb Njg Ntd Ntx Nru Zhi Z19 Z20 Z21 Z22 Z25 Z26 Z27 Z31 Z32 Z33 Z34 Z39 Z40 Fkd Fmo Fst Fro Ftp Fcd Fsr Fir Fih Fss Fsq Fce Flw Fwo Fhe ysk_21 yna_22 ykp_23 Fgb Fgo Ffa Fga Fvo hFX hFM hRL hRQ H _ ls (hP.sub [45, 0, 1, 63, 64, 66, 2, 3, 4, 5, 6, 65, 67, 7, 8, 9, 10, 11, 68, 46, 12, 47, 48, 49, 50, 51, 52, 53, 54, 55, 56, 57, 58, 59, 60, 61, 62, 13, 14, 15, 16, 17, 18, 19, 20, 21, 69, 70, 73, 22, 23, 24, 71, 72, 25, 26, 27, 28, 29, 30, 31, 32, 33, 74, 78, 77, 75, 76, 34, 79, 80, 35, 36, 86, 84, 85, 37, 38, 39, 81, 82, 83, 40, 41, 42, 43, 44] rfl) (hD.sub [45, 0, 1, 63, 64, 66, 2, 3, 4, 5, 6, 65, 67, 7, 8, 9, 10, 11, 68, 46, 12, 47, 48, 49, 50, 51, 52, 53, 54, 55, 56, 57, 58, 59, 60, 61, 62, 13, 14, 15, 16, 17, 18, 19, 20, 21, 69, 70, 73, 22, 23, 24, 71, 72, 25, 26, 27, 28, 29, 30, 31, 32, 33, 74, 78, 77, 75, 76, 34, 79, 80, 35, 36, 86, 84, 85, 37, 38, 39, 81, 82, 83, 40, 41, 42, 43, 44] (by decide +kernel) rfl) hS (lv_sub hl [0, 1, 2, 3] rfl)
set_option maxHeartbeats 4000000 in
set_option maxRecDepth 100000 in
theorem lc_whose_B {p : Program} {l : Launch} {e : Env} {s : State} {m : MethodId} {below : List Frame} {meth : Method} {c : Code} {b L : Nat} {xs : Nat → Int32} {G : gG} {E : gS} {A : Nat → Prop} (C0 : lw_At p s m meth c b L xs) (hE : gE E A s s.heap) (hK : gK G s) (hAe : A = fun q => s.heap.size ≤ q) {xo tt rd nw th kp sh tu b0 co en sk c0 c1 c2 c3 c4 c5 e0 e1 e2 e3 e4 e5 n1 n2 n3 n4 n5 n6 n7 n8 t1 t2 t3 t4 t5 t6 t7 t8 k1 k2 k3 k4 k5 k6 k7 k8 qn qo ql r0 r1 r2 r3 tw tr w0 w1 w2 w3 w4 w5 mo Akd Amo Ast Aro Atp Acd Asr Air Aih Ass Asq Ace Alw Awo Ahe Ask Ana Akp Agb Ago Afa Aga Avo : Nat} {fc fe fn fw : Nat → Option Nat} {tx : Nat} {fcr0 fcr1 fcr2 fcr3 fcr4 fcr5 : Nat → Int32} {fer0 fer1 fer2 fer3 fer4 fer5 : Nat → Nat} {him x2 x3 x4 x5 : Int32} {td : Nat} {fb : Nat → Int32} {wr : Int32} {fsk : Nat → Int32} {jg pb lw : Nat} {fnm fso fmi fpa fki fmo fsz frd : Nat → Int32} {tj tb tl : Int32} {unm uso umi upa uki umo usz urd : Nat → Int32} {kj kb kl : Nat} {gnm gso gmi gpa gki gmo gsz grd fs0 fs1 fs2 fs3 fqo : Nat → Int32} {fql : Nat → Nat} {fw0 fw1 fw2 fw3 fw4 fw5 ftr : Nat → Int32} {Npb Njg Ntd Ntx Nru : Nat} {Zhi Z19 Z20 Z21 Z22 Z25 Z26 Z27 Z31 Z32 Z33 Z34 Z39 Z40 : Int32} {Fkd Fmo Fst Fro Ftp Fcd : Nat → Int32} {Fsr : Nat → Nat} {Fir Fih Fss : Nat → Int32} {Fsq : Nat → Nat} {Fce Flw Fwo Fhe Fsk Fna Fkp Fgb Fgo Ffa Fga Fvo : Nat → Int32}  {v1 v2 v3 v4 v5 v6 : Int32} {i7 : Nat} (hi : 7 * i7 + 7 ≤ L) (hL : L ≤ 3584) (hv1 : v1 = xs (7 * i7 + 1)) (hv2 : v2 = xs (7 * i7 + 2)) (hv3 : v3 = xs (7 * i7 + 3)) (hv4 : v4 = xs (7 * i7 + 4)) (hv5 : v5 = xs (7 * i7 + 5)) (hv6 : v6 = xs (7 * i7 + 6)) (hno : ¬ (0 ≤ v1 ∧ v1 ≤ 3)) (K : LawV p l e s m below meth c b G A xo tt rd nw th kp sh tu b0 co en sk c0 c1 c2 c3 c4 c5 e0 e1 e2 e3 e4 e5 n1 n2 n3 n4 n5 n6 n7 n8 t1 t2 t3 t4 t5 t6 t7 t8 k1 k2 k3 k4 k5 k6 k7 k8 qn qo ql r0 r1 r2 r3 tw tr w0 w1 w2 w3 w4 w5 mo Akd Amo Ast Aro Atp Acd Asr Air Aih Ass Asq Ace Alw Awo Ahe Ask Ana Akp Agb Ago Afa Aga Avo fc fe fn fw tx fcr0 fcr1 fcr2 fcr3 fcr4 fcr5 fer0 fer1 fer2 fer3 fer4 fer5 (i7 + 1)) (hFX : FXP jg pb lw kj kb kl tx td him fql) (hFM : FMP Npb Njg Ntd Ntx Nru Zhi Fcd Fsr Fsq Fir Fih) (hRL : RLP False fn r0 r1 r2 r3 jg pb kj kb him fs0 fs1 fs2 fs3 fqo fql Npb Njg Zhi Fss Fsq Fce Fih) (hRQ : RQP fc c0 c1 c2 c3 c4 c5 fcr0 fcr1 fcr2 fcr3 fcr4 fcr5 fer0 fer1 fer2 fer3 fer4 fer5 pb lw tx td kb kl him fb fso fmi fpa fki fmo fsz frd gso gmi gpa gki gmo gsz grd Nru Ntx Ntd Fkd Fmo Fst Fro Ftp Fcd Fsr Fir Fih Fwo) {H : Heap} {locs : List Loc} (hP : va_P G.1 vwCl (WLd G xo tt rd nw th kp sh tu b0 co en sk c0 c1 c2 c3 c4 c5 e0 e1 e2 e3 e4 e5 n1 n2 n3 n4 n5 n6 n7 n8 t1 t2 t3 t4 t5 t6 t7 t8 k1 k2 k3 k4 k5 k6 k7 k8 qn qo ql r0 r1 r2 r3 tw tr w0 w1 w2 w3 w4 w5 mo Akd Amo Ast Aro Atp Acd Asr Air Aih Ass Asq Ace Alw Awo Ahe Ask Ana Akp Agb Ago Afa Aga Avo fc fe fn fw tx fcr0 fcr1 fcr2 fcr3 fcr4 fcr5 fer0 fer1 fer2 fer3 fer4 fer5 him x2 x3 x4 x5 td fb wr fsk jg pb lw fnm fso fmi fpa fki fmo fsz frd tj tb tl unm uso umi upa uki umo usz urd kj kb kl gnm gso gmi gpa gki gmo gsz grd fs0 fs1 fs2 fs3 fqo fql fw0 fw1 fw2 fw3 fw4 fw5 ftr Npb Njg Ntd Ntx Nru Zhi Z19 Z20 Z21 Z22 Z25 Z26 Z27 Z31 Z32 Z33 Z34 Z39 Z40 Fkd Fmo Fst Fro Ftp Fcd Fsr Fir Fih Fss Fsq Fce Flw Fwo Fhe Fsk Fna Fkp Fgb Fgo Ffa Fga Fvo) H) (hD : va_D A (WLd G xo tt rd nw th kp sh tu b0 co en sk c0 c1 c2 c3 c4 c5 e0 e1 e2 e3 e4 e5 n1 n2 n3 n4 n5 n6 n7 n8 t1 t2 t3 t4 t5 t6 t7 t8 k1 k2 k3 k4 k5 k6 k7 k8 qn qo ql r0 r1 r2 r3 tw tr w0 w1 w2 w3 w4 w5 mo Akd Amo Ast Aro Atp Acd Asr Air Aih Ass Asq Ace Alw Awo Ahe Ask Ana Akp Agb Ago Afa Aga Avo fc fe fn fw tx fcr0 fcr1 fcr2 fcr3 fcr4 fcr5 fer0 fer1 fer2 fer3 fer4 fer5 him x2 x3 x4 x5 td fb wr fsk jg pb lw fnm fso fmi fpa fki fmo fsz frd tj tb tl unm uso umi upa uki umo usz urd kj kb kl gnm gso gmi gpa gki gmo gsz grd fs0 fs1 fs2 fs3 fqo fql fw0 fw1 fw2 fw3 fw4 fw5 ftr Npb Njg Ntd Ntx Nru Zhi Z19 Z20 Z21 Z22 Z25 Z26 Z27 Z31 Z32 Z33 Z34 Z39 Z40 Fkd Fmo Fst Fro Ftp Fcd Fsr Fir Fih Fss Fsq Fce Flw Fwo Fhe Fsk Fna Fkp Fgb Fgo Ffa Fga Fvo)) (hS : va_S A s.heap H locs) {ls : Array Slot} (hl : lv_has ls 4 [zI 3 (nI (7 * i7)), zR 2 mo, zR 1 xo, zR 0 b]) : W p l e room_1 s m #[Value.ref b] below meth c H locs 87 4128 (lw_Z below #[Value.ref b] s) (F0 m 1116 ls []) := by
  obtain ⟨hx, hb, hret, hml, hown, hts0, hX, hbl, hlocks, hgv⟩ := id C0
  have hts : ∀ w ∈ wsL_law, w.before #[Value.ref b] s = true := fun w h => hts0 w (wsL_law_in w h)
  have hown : s.vm.findClass RL = some m.cls := hown
  have hA : ∀ q : Nat, s.heap.size ≤ q → A q := fun q h => by rw [hAe]; exact h
  have hbA : ¬ A b := by rw [hAe]; exact Nat.not_le.mpr hbl
  obtain ⟨⟨hjg, hpb, hlw, htx, htd⟩, hkk, hql⟩ := id hFX
  obtain ⟨⟨hNpb, hNjg, hNru, hNtx, hNtd⟩, hwa, hsq, hIM⟩ := id hFM
  have hz9 : gPD G A [zo5 xo tt rd nw th kp sh tu him, zo1 rd tt b0 x2 x3 x4 x5 (nI td), zi G b0 160 fb, zo3 tt co en sk wr (nI tx), zr G co 6 fc, zi G c0 160 fcr0, zi G c1 160 fcr1, zi G c2 160 fcr2, zi G c3 160 fcr3, zi G c4 160 fcr4, zi G c5 160 fcr5, zr G en 6 fe, zi G e0 3 (nF fer0), zi G e1 3 (nF fer1), zi G e2 3 (nF fer2), zi G e3 3 (nF fer3), zi G e4 3 (nF fer4), zi G e5 3 (nF fer5), zi G sk 32 fsk, zo0 nw tt n1 n2 n3 n4 n5 n6 n7 n8 (nI jg) (nI pb) (nI lw), zi G n1 6 fnm, zi G n2 4 fso, zi G n3 4 fmi, zi G n4 4 fpa, zi G n5 6 fki, zi G n6 6 fmo, zi G n7 6 fsz, zi G n8 6 frd, zo0 th tt t1 t2 t3 t4 t5 t6 t7 t8 tj tb tl, zi G t1 6 unm, zi G t2 4 uso, zi G t3 4 umi, zi G t4 4 upa, zi G t5 6 uki, zi G t6 6 umo, zi G t7 6 usz, zi G t8 6 urd, zo0 kp tt k1 k2 k3 k4 k5 k6 k7 k8 (nI kj) (nI kb) (nI kl), zi G k1 6 gnm, zi G k2 4 gso, zi G k3 4 gmi, zi G k4 4 gpa, zi G k5 6 gki, zi G k6 6 gmo, zi G k7 6 gsz, zi G k8 6 grd, zo2 sh qn qo ql, zr G qn 4 fn, zi G r0 40 fs0, zi G r1 40 fs1, zi G r2 40 fs2, zi G r3 40 fs3, zi G qo 4 fqo, zi G ql 4 (nF fql), zo4 tu tw tr, zr G tw 6 fw, zi G w0 6 fw0, zi G w1 6 fw1, zi G w2 6 fw2, zi G w3 6 fw3, zi G w4 6 fw4, zi G w5 6 fw5, zi G tr 64 ftr, zo6 mo (nI Npb) Akd Amo Ast (nI Njg) Aro Atp (nI Ntd) Acd Asr (nI Ntx) (nI Nru) Zhi Air Aih Ass Asq Ace Alw Z19 Z20 Z21 Z22 Awo Ahe Z25 Z26 Z27 Ask Ana Akp Z31 Z32 Z33 Z34 Agb Ago Afa Aga Z39 Z40 Avo, zi G Akd 6 Fkd, zi G Amo 6 Fmo, zi G Ast 12 Fst, zi G Aro 12 Fro, zi G Atp 160 Ftp, zi G Acd 1200 Fcd, zi G Asr 24 (nF Fsr), zi G Air 24 Fir, zi G Aih 3 Fih, zi G Ass 4 Fss, zi G Asq 4 (nF Fsq), zi G Ace 160 Fce, zi G Alw 40 Flw, zi G Awo 96 Fwo, zi G Ahe 200 Fhe, zi G Ask 200 Fsk, zi G Ana 6 Fna, zi G Akp 24 Fkp, zb G Agb 61 Fgb, zb G Ago 61 Fgo, zi G Afa 36 Ffa, zi G Aga 36 Fga, zi G Avo 64 Fvo] H := ⟨hP, hD⟩
  have hP := hz9.1
  have hD := hz9.2
  refine lv_aload_n hx hb dL_law_1116 rfl (lv_at hl 2 rfl) ?_
  refine lv_aload_n hx hb dL_law_1117 rfl (lv_at hl 3 rfl) ?_
  refine lv_iload_n hx hb dL_law_1118 rfl (lv_at hl 0 rfl) ?_
  refine lv_iconst (v := 1) hx hb dL_law_1119 (by decide +kernel) ?_
  refine lv_iadd hx hb dL_law_1120 ?_
  refine lv_topi (fun v_1 ev_1 => ?_)
  have ev_1 : v_1 = nI ((7 * i7) + 1) := ev_1.trans (nI_add (7 * i7) 1)
  subst ev_1
  refine va_sld hx hb hX hbl hbA hS (i := nI ((7 * i7) + 1)) (vp_in_nI (by omega) (by omega)) dL_law_1121 ?_
  refine lv_topi (fun v_2 ev_2 => ?_)
  have ev_2 : v1 = v_2 := (ev_2.trans (by rw [nI_clamp (by omega)]; exact hv1.symm)).symm
  subst ev_2
  have hz9 : gPD G A [zo5 xo tt rd nw th kp sh tu him, zo2 sh qn qo ql] H := ⟨hP.sub [0, 46] rfl, hD.sub [0, 46] (by decide +kernel) rfl⟩
  have hPc := hz9.1
  have hDc := hz9.2
  have hFc := gFree hPc hD hS hA [0, 46] rfl
  refine va_calli (va_runV (As := [.int v1]) (rest := []) ⟨hx, hb, hml, hown, hts⟩ (c_X5_whose_B l G E xo tt rd nw th kp sh tu qn qo ql him v1 H.size (by first | exact hno | assumption | omega)) (cwV 1 hts gL_law_X5_whose rfl rfl rfl (by decide +kernel) ⟨Nat.le_of_ble_eq_true rfl, Nat.le_of_ble_eq_true rfl⟩) ⟨gPreE_blind, va_recv hK hPc (ci := 5) (q0 := 0) rfl rfl, fun U hU hW => gPreE_of hU hW hK hPc hDc hE hS hFc⟩ rfl rfl hl.1 rfl (lv_room (Nat.le_of_ble_eq_true rfl)) dL_law_1122 ⟨Nat.le_of_ble_eq_true rfl, Nat.le_of_ble_eq_true rfl⟩) hS (fun q _ h => hFc q h) hFc (fun r_3 u t H locs ht hvm w_4 hB hz1 hk1 hS => ?_)
  obtain ⟨hP1, hK1, hD1⟩ := hB
  rw [ht] at hP1
  have hz9 : gPD G (va_A _ _) [zo5 xo tt rd nw th kp sh tu him, zo2 sh qn qo ql] H := ⟨hP1, hD1⟩
  have hP1 := hz9.1
  have hD1 := hz9.2
  have w_4 : r_3 = -2 := w_4
  have hz9 : gPD G A [zo1 rd tt b0 x2 x3 x4 x5 (nI td), zi G b0 160 fb, zo3 tt co en sk wr (nI tx), zr G co 6 fc, zi G c0 160 fcr0, zi G c1 160 fcr1, zi G c2 160 fcr2, zi G c3 160 fcr3, zi G c4 160 fcr4, zi G c5 160 fcr5, zr G en 6 fe, zi G e0 3 (nF fer0), zi G e1 3 (nF fer1), zi G e2 3 (nF fer2), zi G e3 3 (nF fer3), zi G e4 3 (nF fer4), zi G e5 3 (nF fer5), zi G sk 32 fsk, zo0 nw tt n1 n2 n3 n4 n5 n6 n7 n8 (nI jg) (nI pb) (nI lw), zi G n1 6 fnm, zi G n2 4 fso, zi G n3 4 fmi, zi G n4 4 fpa, zi G n5 6 fki, zi G n6 6 fmo, zi G n7 6 fsz, zi G n8 6 frd, zo0 th tt t1 t2 t3 t4 t5 t6 t7 t8 tj tb tl, zi G t1 6 unm, zi G t2 4 uso, zi G t3 4 umi, zi G t4 4 upa, zi G t5 6 uki, zi G t6 6 umo, zi G t7 6 usz, zi G t8 6 urd, zo0 kp tt k1 k2 k3 k4 k5 k6 k7 k8 (nI kj) (nI kb) (nI kl), zi G k1 6 gnm, zi G k2 4 gso, zi G k3 4 gmi, zi G k4 4 gpa, zi G k5 6 gki, zi G k6 6 gmo, zi G k7 6 gsz, zi G k8 6 grd, zr G qn 4 fn, zi G r0 40 fs0, zi G r1 40 fs1, zi G r2 40 fs2, zi G r3 40 fs3, zi G qo 4 fqo, zi G ql 4 (nF fql), zo4 tu tw tr, zr G tw 6 fw, zi G w0 6 fw0, zi G w1 6 fw1, zi G w2 6 fw2, zi G w3 6 fw3, zi G w4 6 fw4, zi G w5 6 fw5, zi G tr 64 ftr, zo6 mo (nI Npb) Akd Amo Ast (nI Njg) Aro Atp (nI Ntd) Acd Asr (nI Ntx) (nI Nru) Zhi Air Aih Ass Asq Ace Alw Z19 Z20 Z21 Z22 Awo Ahe Z25 Z26 Z27 Ask Ana Akp Z31 Z32 Z33 Z34 Agb Ago Afa Aga Z39 Z40 Avo, zi G Akd 6 Fkd, zi G Amo 6 Fmo, zi G Ast 12 Fst, zi G Aro 12 Fro, zi G Atp 160 Ftp, zi G Acd 1200 Fcd, zi G Asr 24 (nF Fsr), zi G Air 24 Fir, zi G Aih 3 Fih, zi G Ass 4 Fss, zi G Asq 4 (nF Fsq), zi G Ace 160 Fce, zi G Alw 40 Flw, zi G Awo 96 Fwo, zi G Ahe 200 Fhe, zi G Ask 200 Fsk, zi G Ana 6 Fna, zi G Akp 24 Fkp, zb G Agb 61 Fgb, zb G Ago 61 Fgo, zi G Afa 36 Ffa, zi G Aga 36 Fga, zi G Avo 64 Fvo, zo5 xo tt rd nw th kp sh tu him, zo2 sh qn qo ql] H := gJoin hP hD hk1 hFc hP1 hD1 [0, 46] [1, 2, 3, 4, 5, 6, 7, 8, 9, 10, 11, 12, 13, 14, 15, 16, 17, 18, 19, 20, 21, 22, 23, 24, 25, 26, 27, 28, 29, 30, 31, 32, 33, 34, 35, 36, 37, 38, 39, 40, 41, 42, 43, 44, 45, 47, 48, 49, 50, 51, 52, 53, 54, 55, 56, 57, 58, 59, 60, 61, 62, 63, 64, 65, 66, 67, 68, 69, 70, 71, 72, 73, 74, 75, 76, 77, 78, 79, 80, 81, 82, 83, 84, 85, 86] rfl rfl rfl (by decide +kernel) (by decide +kernel)
  have hP := hz9.1
  have hD := hz9.2
  subst w_4
  refine lv_pop hx hb dL_law_1125 rfl ?_
  refine lv_aload_n hx hb dL_law_1126 rfl (lv_at hl 1 rfl) ?_
  refine lv_aload_n hx hb dL_law_1127 rfl (lv_at hl 3 rfl) ?_
  refine lv_iload_n hx hb dL_law_1128 rfl (lv_at hl 0 rfl) ?_
  refine lv_iconst (v := 1) hx hb dL_law_1129 (by decide +kernel) ?_
  refine lv_iadd hx hb dL_law_1130 ?_
  refine lv_topi (fun v_5 ev_5 => ?_)
  have ev_5 : v_5 = nI ((7 * i7) + 1) := ev_5.trans (nI_add (7 * i7) 1)
  subst ev_5
  refine va_sld hx hb hX hbl hbA hS (i := nI ((7 * i7) + 1)) (vp_in_nI (by omega) (by omega)) dL_law_1131 ?_
  refine lv_topi (fun v_6 ev_6 => ?_)
  have ev_6 : v1 = v_6 := (ev_6.trans (by rw [nI_clamp (by omega)]; exact hv1.symm)).symm
  subst ev_6
  have hz9 : gPD G A [zo6 mo (nI Npb) Akd Amo Ast (nI Njg) Aro Atp (nI Ntd) Acd Asr (nI Ntx) (nI Nru) Zhi Air Aih Ass Asq Ace Alw Z19 Z20 Z21 Z22 Awo Ahe Z25 Z26 Z27 Ask Ana Akp Z31 Z32 Z33 Z34 Agb Ago Afa Aga Z39 Z40 Avo, zi G Ast 12 Fst, zi G Aro 12 Fro, zi G Amo 6 Fmo, zi G Akd 6 Fkd, zi G Acd 1200 Fcd, zi G Asr 24 (nF Fsr), zi G Ask 200 Fsk, zi G Ana 6 Fna, zi G Akp 24 Fkp, zi G Asq 4 (nF Fsq), zi G Ace 160 Fce, zi G Ass 4 Fss] H := ⟨hP.sub [61, 64, 65, 63, 62, 67, 68, 77, 78, 79, 72, 73, 71] rfl, hD.sub [61, 64, 65, 63, 62, 67, 68, 77, 78, 79, 72, 73, 71] (by decide +kernel) rfl⟩
  have hPc := hz9.1
  have hDc := hz9.2
  have hFc := gFree hPc hD hS hA [61, 64, 65, 63, 62, 67, 68, 77, 78, 79, 72, 73, 71] rfl
  refine va_calli (va_runV (As := [.int v1]) (rest := []) ⟨hx, hb, hml, hown, hts⟩ (c_X6_whose l G mo Akd Amo Ast Aro Atp Acd Asr Air Aih Ass Asq Ace Alw Awo Ahe Ask Ana Akp Agb Ago Afa Aga Avo Npb Njg Ntd Ntx Nru Zhi Z19 Z20 Z21 Z22 Z25 Z26 Z27 Z31 Z32 Z33 Z34 Z39 Z40 Fst Fro Fmo Fkd Fcd Fsr Fsk Fna Fkp Fsq Fce Fss v1 H.size (by first | exact hsq | assumption | omega) (by first | exact hwa | assumption | omega) (by first | exact hpb | assumption | omega) (by first | exact hjg | assumption | omega) (by first | exact htx | assumption | omega) (by first | exact hru | assumption | omega)) (cwV 1 hts gL_law_X6_whose rfl rfl rfl (by decide +kernel) ⟨Nat.le_of_ble_eq_true rfl, Nat.le_of_ble_eq_true rfl⟩) ⟨gPre_blind, va_recv hK hPc (ci := 6) (q0 := 0) rfl rfl, fun U hU hW => gPre_of hU hW hK hPc hDc⟩ rfl rfl hl.1 rfl (lv_room (Nat.le_of_ble_eq_true rfl)) dL_law_1132 ⟨Nat.le_of_ble_eq_true rfl, Nat.le_of_ble_eq_true rfl⟩) hS (fun q _ h => hFc q h) hFc (fun r_7 u t H locs ht hvm w_8 hB hz1 hk1 hS => ?_)
  obtain ⟨ysk_9, yna_10, ykp_11⟩ := u
  obtain ⟨hP1, hK1, hD1⟩ := hB
  rw [ht] at hP1
  have hz9 : gPD G (va_A _ _) [zo6 mo (nI Npb) Akd Amo Ast (nI Njg) Aro Atp (nI Ntd) Acd Asr (nI Ntx) (nI Nru) Zhi Air Aih Ass Asq Ace Alw Z19 Z20 Z21 Z22 Awo Ahe Z25 Z26 Z27 Ask Ana Akp Z31 Z32 Z33 Z34 Agb Ago Afa Aga Z39 Z40 Avo, zi G Ast 12 Fst, zi G Aro 12 Fro, zi G Amo 6 Fmo, zi G Akd 6 Fkd, zi G Acd 1200 Fcd, zi G Asr 24 (nF Fsr), zi G Ask 200 ysk_9, zi G Ana 6 yna_10, zi G Akp 24 ykp_11, zi G Asq 4 (nF Fsq), zi G Ace 160 Fce, zi G Ass 4 Fss] H := ⟨hP1, hD1⟩
  have hP1 := hz9.1
  have hD1 := hz9.2
  have w_8 : r_7 = m_X6_whose Npb Njg Nru Fst Fro Fmo Fkd Fcd Fsr Fsq Fce Fss v1 := w_8
  have hz9 : gPD G A [zo1 rd tt b0 x2 x3 x4 x5 (nI td), zi G b0 160 fb, zo3 tt co en sk wr (nI tx), zr G co 6 fc, zi G c0 160 fcr0, zi G c1 160 fcr1, zi G c2 160 fcr2, zi G c3 160 fcr3, zi G c4 160 fcr4, zi G c5 160 fcr5, zr G en 6 fe, zi G e0 3 (nF fer0), zi G e1 3 (nF fer1), zi G e2 3 (nF fer2), zi G e3 3 (nF fer3), zi G e4 3 (nF fer4), zi G e5 3 (nF fer5), zi G sk 32 fsk, zo0 nw tt n1 n2 n3 n4 n5 n6 n7 n8 (nI jg) (nI pb) (nI lw), zi G n1 6 fnm, zi G n2 4 fso, zi G n3 4 fmi, zi G n4 4 fpa, zi G n5 6 fki, zi G n6 6 fmo, zi G n7 6 fsz, zi G n8 6 frd, zo0 th tt t1 t2 t3 t4 t5 t6 t7 t8 tj tb tl, zi G t1 6 unm, zi G t2 4 uso, zi G t3 4 umi, zi G t4 4 upa, zi G t5 6 uki, zi G t6 6 umo, zi G t7 6 usz, zi G t8 6 urd, zo0 kp tt k1 k2 k3 k4 k5 k6 k7 k8 (nI kj) (nI kb) (nI kl), zi G k1 6 gnm, zi G k2 4 gso, zi G k3 4 gmi, zi G k4 4 gpa, zi G k5 6 gki, zi G k6 6 gmo, zi G k7 6 gsz, zi G k8 6 grd, zr G qn 4 fn, zi G r0 40 fs0, zi G r1 40 fs1, zi G r2 40 fs2, zi G r3 40 fs3, zi G qo 4 fqo, zi G ql 4 (nF fql), zo4 tu tw tr, zr G tw 6 fw, zi G w0 6 fw0, zi G w1 6 fw1, zi G w2 6 fw2, zi G w3 6 fw3, zi G w4 6 fw4, zi G w5 6 fw5, zi G tr 64 ftr, zi G Atp 160 Ftp, zi G Air 24 Fir, zi G Aih 3 Fih, zi G Alw 40 Flw, zi G Awo 96 Fwo, zi G Ahe 200 Fhe, zb G Agb 61 Fgb, zb G Ago 61 Fgo, zi G Afa 36 Ffa, zi G Aga 36 Fga, zi G Avo 64 Fvo, zo5 xo tt rd nw th kp sh tu him, zo2 sh qn qo ql, zo6 mo (nI Npb) Akd Amo Ast (nI Njg) Aro Atp (nI Ntd) Acd Asr (nI Ntx) (nI Nru) Zhi Air Aih Ass Asq Ace Alw Z19 Z20 Z21 Z22 Awo Ahe Z25 Z26 Z27 Ask Ana Akp Z31 Z32 Z33 Z34 Agb Ago Afa Aga Z39 Z40 Avo, zi G Ast 12 Fst, zi G Aro 12 Fro, zi G Amo 6 Fmo, zi G Akd 6 Fkd, zi G Acd 1200 Fcd, zi G Asr 24 (nF Fsr), zi G Ask 200 ysk_9, zi G Ana 6 yna_10, zi G Akp 24 ykp_11, zi G Asq 4 (nF Fsq), zi G Ace 160 Fce, zi G Ass 4 Fss] H := gJoin hP hD hk1 hFc hP1 hD1 [61, 64, 65, 63, 62, 67, 68, 77, 78, 79, 72, 73, 71] [0, 1, 2, 3, 4, 5, 6, 7, 8, 9, 10, 11, 12, 13, 14, 15, 16, 17, 18, 19, 20, 21, 22, 23, 24, 25, 26, 27, 28, 29, 30, 31, 32, 33, 34, 35, 36, 37, 38, 39, 40, 41, 42, 43, 44, 45, 46, 47, 48, 49, 50, 51, 52, 53, 54, 55, 56, 57, 58, 59, 60, 66, 69, 70, 74, 75, 76, 80, 81, 82, 83, 84, 85, 86] rfl rfl rfl (by decide +kernel) (by decide +kernel)
  have hP := hz9.1
  have hD := hz9.2
  subst w_8
  refine lv_pop hx hb dL_law_1135 rfl ?_
  refine lv_goto (tgt := 1614) hx hb dL_law_1136 (by decide +kernel) ?_
  refine lv_iinc (v := nI (7 * (i7 + 1))) (lv' := [zI 3 (nI (7 * (i7 + 1))), zR 2 mo, zR 1 xo, zR 0 b]) hx hb dL_law_1614 hl (k := 0) rfl (by show nI (7 * i7) + 7 = nI (7 * (i7 + 1)); exact nI_add (7 * i7) 7) (by decide +kernel) rfl (fun ls hl => ?_)
  refine lv_goto (tgt := 18) hx hb dL_law_1617 (by decide +kernel) ?_
  exact K him x2 x3 x4 x5 td fb wr fsk jg pb lw fnm fso fmi fpa fki fmo fsz frd tj tb tl unm uso umi upa uki umo usz urd kj kb kl gnm gso gmi gpa gki gmo gsz grd fs0 fs1 fs2 fs3 fqo fql fw0 fw1 fw2 fw3 fw4 fw5 ftr Npb Njg Ntd Ntx Nru Zhi Z19 Z20 Z21 Z22 Z25 Z26 Z27 Z31 Z32 Z33 Z34 Z39 Z40 Fkd Fmo Fst Fro Ftp Fcd Fsr Fir Fih Fss Fsq Fce Flw Fwo Fhe ysk_9 yna_10 ykp_11 Fgb Fgo Ffa Fga Fvo hFX hFM hRL hRQ H _ ls (hP.sub [72, 0, 1, 2, 3, 4, 5, 6, 7, 8, 9, 10, 11, 12, 13, 14, 15, 16, 17, 18, 19, 20, 21, 22, 23, 24, 25, 26, 27, 28, 29, 30, 31, 32, 33, 34, 35, 36, 37, 38, 39, 40, 41, 42, 43, 44, 73, 45, 46, 47, 48, 49, 50, 51, 52, 53, 54, 55, 56, 57, 58, 59, 60, 74, 78, 77, 75, 76, 61, 79, 80, 62, 63, 86, 84, 85, 64, 65, 66, 81, 82, 83, 67, 68, 69, 70, 71] rfl) (hD.sub [72, 0, 1, 2, 3, 4, 5, 6, 7, 8, 9, 10, 11, 12, 13, 14, 15, 16, 17, 18, 19, 20, 21, 22, 23, 24, 25, 26, 27, 28, 29, 30, 31, 32, 33, 34, 35, 36, 37, 38, 39, 40, 41, 42, 43, 44, 73, 45, 46, 47, 48, 49, 50, 51, 52, 53, 54, 55, 56, 57, 58, 59, 60, 74, 78, 77, 75, 76, 61, 79, 80, 62, 63, 86, 84, 85, 64, 65, 66, 81, 82, 83, 67, 68, 69, 70, 71] (by decide +kernel) rfl) hS (lv_sub hl [0, 1, 2, 3] rfl)
set_option maxHeartbeats 4000000 in
set_option maxRecDepth 100000 in
theorem lc_laws_A {p : Program} {l : Launch} {e : Env} {s : State} {m : MethodId} {below : List Frame} {meth : Method} {c : Code} {b L : Nat} {xs : Nat → Int32} {G : gG} {E : gS} {A : Nat → Prop} (C0 : lw_At p s m meth c b L xs) (hE : gE E A s s.heap) (hK : gK G s) (hAe : A = fun q => s.heap.size ≤ q) {xo tt rd nw th kp sh tu b0 co en sk c0 c1 c2 c3 c4 c5 e0 e1 e2 e3 e4 e5 n1 n2 n3 n4 n5 n6 n7 n8 t1 t2 t3 t4 t5 t6 t7 t8 k1 k2 k3 k4 k5 k6 k7 k8 qn qo ql r0 r1 r2 r3 tw tr w0 w1 w2 w3 w4 w5 mo Akd Amo Ast Aro Atp Acd Asr Air Aih Ass Asq Ace Alw Awo Ahe Ask Ana Akp Agb Ago Afa Aga Avo : Nat} {fc fe fn fw : Nat → Option Nat} {tx : Nat} {fcr0 fcr1 fcr2 fcr3 fcr4 fcr5 : Nat → Int32} {fer0 fer1 fer2 fer3 fer4 fer5 : Nat → Nat} {him x2 x3 x4 x5 : Int32} {td : Nat} {fb : Nat → Int32} {wr : Int32} {fsk : Nat → Int32} {jg pb lw : Nat} {fnm fso fmi fpa fki fmo fsz frd : Nat → Int32} {tj tb tl : Int32} {unm uso umi upa uki umo usz urd : Nat → Int32} {kj kb kl : Nat} {gnm gso gmi gpa gki gmo gsz grd fs0 fs1 fs2 fs3 fqo : Nat → Int32} {fql : Nat → Nat} {fw0 fw1 fw2 fw3 fw4 fw5 ftr : Nat → Int32} {Npb Njg Ntd Ntx Nru : Nat} {Zhi Z19 Z20 Z21 Z22 Z25 Z26 Z27 Z31 Z32 Z33 Z34 Z39 Z40 : Int32} {Fkd Fmo Fst Fro Ftp Fcd : Nat → Int32} {Fsr : Nat → Nat} {Fir Fih Fss : Nat → Int32} {Fsq : Nat → Nat} {Fce Flw Fwo Fhe Fsk Fna Fkp Fgb Fgo Ffa Fga Fvo : Nat → Int32} {sn : Nat} {v2 v3 v4 v5 v6 : Int32} {i7 : Nat} (hi : 7 * i7 + 7 ≤ L) (hL : L ≤ 3584) (hv1 : (nI sn) = xs (7 * i7 + 1)) (hv2 : v2 = xs (7 * i7 + 2)) (hv3 : v3 = xs (7 * i7 + 3)) (hv4 : v4 = xs (7 * i7 + 4)) (hv5 : v5 = xs (7 * i7 + 5)) (hv6 : v6 = xs (7 * i7 + 6)) (hsn : sn < 4) (hrw : fn sn = some r0) (hc0 : fc 0 = some c0) (he0 : fe 0 = some e0) (hw0 : 0 < tx → mWx fcr0 fer0) (hc1 : fc 1 = some c1) (he1 : fe 1 = some e1) (hw1 : 1 < tx → mWx fcr1 fer1) (hc2 : fc 2 = some c2) (he2 : fe 2 = some e2) (hw2 : 2 < tx → mWx fcr2 fer2) (hc3 : fc 3 = some c3) (he3 : fe 3 = some e3) (hw3 : 3 < tx → mWx fcr3 fer3) (hc4 : fc 4 = some c4) (he4 : fe 4 = some e4) (hw4 : 4 < tx → mWx fcr4 fer4) (hc5 : fc 5 = some c5) (he5 : fe 5 = some e5) (hw5 : 5 < tx → mWx fcr5 fer5) (K : LawV p l e s m below meth c b G A xo tt rd nw th kp sh tu b0 co en sk c0 c1 c2 c3 c4 c5 e0 e1 e2 e3 e4 e5 n1 n2 n3 n4 n5 n6 n7 n8 t1 t2 t3 t4 t5 t6 t7 t8 k1 k2 k3 k4 k5 k6 k7 k8 qn qo ql r0 r1 r2 r3 tw tr w0 w1 w2 w3 w4 w5 mo Akd Amo Ast Aro Atp Acd Asr Air Aih Ass Asq Ace Alw Awo Ahe Ask Ana Akp Agb Ago Afa Aga Avo fc fe fn fw tx fcr0 fcr1 fcr2 fcr3 fcr4 fcr5 fer0 fer1 fer2 fer3 fer4 fer5 (i7 + 1)) (hFX : FXP jg pb lw kj kb kl tx td him fql) (hFM : FMP Npb Njg Ntd Ntx Nru Zhi Fcd Fsr Fsq Fir Fih) (hRL : RLP False fn r0 r1 r2 r3 jg pb kj kb him fs0 fs1 fs2 fs3 fqo fql Npb Njg Zhi Fss Fsq Fce Fih) (hRQ : RQP fc c0 c1 c2 c3 c4 c5 fcr0 fcr1 fcr2 fcr3 fcr4 fcr5 fer0 fer1 fer2 fer3 fer4 fer5 pb lw tx td kb kl him fb fso fmi fpa fki fmo fsz frd gso gmi gpa gki gmo gsz grd Nru Ntx Ntd Fkd Fmo Fst Fro Ftp Fcd Fsr Fir Fih Fwo) {H : Heap} {locs : List Loc} (hP : va_P G.1 vwCl (WLd G xo tt rd nw th kp sh tu b0 co en sk c0 c1 c2 c3 c4 c5 e0 e1 e2 e3 e4 e5 n1 n2 n3 n4 n5 n6 n7 n8 t1 t2 t3 t4 t5 t6 t7 t8 k1 k2 k3 k4 k5 k6 k7 k8 qn qo ql r0 r1 r2 r3 tw tr w0 w1 w2 w3 w4 w5 mo Akd Amo Ast Aro Atp Acd Asr Air Aih Ass Asq Ace Alw Awo Ahe Ask Ana Akp Agb Ago Afa Aga Avo fc fe fn fw tx fcr0 fcr1 fcr2 fcr3 fcr4 fcr5 fer0 fer1 fer2 fer3 fer4 fer5 him x2 x3 x4 x5 td fb wr fsk jg pb lw fnm fso fmi fpa fki fmo fsz frd tj tb tl unm uso umi upa uki umo usz urd kj kb kl gnm gso gmi gpa gki gmo gsz grd fs0 fs1 fs2 fs3 fqo fql fw0 fw1 fw2 fw3 fw4 fw5 ftr Npb Njg Ntd Ntx Nru Zhi Z19 Z20 Z21 Z22 Z25 Z26 Z27 Z31 Z32 Z33 Z34 Z39 Z40 Fkd Fmo Fst Fro Ftp Fcd Fsr Fir Fih Fss Fsq Fce Flw Fwo Fhe Fsk Fna Fkp Fgb Fgo Ffa Fga Fvo) H) (hD : va_D A (WLd G xo tt rd nw th kp sh tu b0 co en sk c0 c1 c2 c3 c4 c5 e0 e1 e2 e3 e4 e5 n1 n2 n3 n4 n5 n6 n7 n8 t1 t2 t3 t4 t5 t6 t7 t8 k1 k2 k3 k4 k5 k6 k7 k8 qn qo ql r0 r1 r2 r3 tw tr w0 w1 w2 w3 w4 w5 mo Akd Amo Ast Aro Atp Acd Asr Air Aih Ass Asq Ace Alw Awo Ahe Ask Ana Akp Agb Ago Afa Aga Avo fc fe fn fw tx fcr0 fcr1 fcr2 fcr3 fcr4 fcr5 fer0 fer1 fer2 fer3 fer4 fer5 him x2 x3 x4 x5 td fb wr fsk jg pb lw fnm fso fmi fpa fki fmo fsz frd tj tb tl unm uso umi upa uki umo usz urd kj kb kl gnm gso gmi gpa gki gmo gsz grd fs0 fs1 fs2 fs3 fqo fql fw0 fw1 fw2 fw3 fw4 fw5 ftr Npb Njg Ntd Ntx Nru Zhi Z19 Z20 Z21 Z22 Z25 Z26 Z27 Z31 Z32 Z33 Z34 Z39 Z40 Fkd Fmo Fst Fro Ftp Fcd Fsr Fir Fih Fss Fsq Fce Flw Fwo Fhe Fsk Fna Fkp Fgb Fgo Ffa Fga Fvo)) (hS : va_S A s.heap H locs) {ls : Array Slot} (hl : lv_has ls 4 [zI 3 (nI (7 * i7)), zR 2 mo, zR 1 xo, zR 0 b]) : W p l e room_1 s m #[Value.ref b] below meth c H locs 87 4128 (lw_Z below #[Value.ref b] s) (F0 m 1139 ls []) := by
  obtain ⟨hx, hb, hret, hml, hown, hts0, hX, hbl, hlocks, hgv⟩ := id C0
  have hts : ∀ w ∈ wsL_law, w.before #[Value.ref b] s = true := fun w h => hts0 w (wsL_law_in w h)
  have hown : s.vm.findClass RL = some m.cls := hown
  have hA : ∀ q : Nat, s.heap.size ≤ q → A q := fun q h => by rw [hAe]; exact h
  have hbA : ¬ A b := by rw [hAe]; exact Nat.not_le.mpr hbl
  obtain ⟨⟨hjg, hpb, hlw, htx, htd⟩, hkk, hql⟩ := id hFX
  obtain ⟨⟨hNpb, hNjg, hNru, hNtx, hNtd⟩, hwa, hsq, hIM⟩ := id hFM
  have hz9 : gPD G A [zo5 xo tt rd nw th kp sh tu him, zo1 rd tt b0 x2 x3 x4 x5 (nI td), zi G b0 160 fb, zo3 tt co en sk wr (nI tx), zr G co 6 fc, zi G c0 160 fcr0, zi G c1 160 fcr1, zi G c2 160 fcr2, zi G c3 160 fcr3, zi G c4 160 fcr4, zi G c5 160 fcr5, zr G en 6 fe, zi G e0 3 (nF fer0), zi G e1 3 (nF fer1), zi G e2 3 (nF fer2), zi G e3 3 (nF fer3), zi G e4 3 (nF fer4), zi G e5 3 (nF fer5), zi G sk 32 fsk, zo0 nw tt n1 n2 n3 n4 n5 n6 n7 n8 (nI jg) (nI pb) (nI lw), zi G n1 6 fnm, zi G n2 4 fso, zi G n3 4 fmi, zi G n4 4 fpa, zi G n5 6 fki, zi G n6 6 fmo, zi G n7 6 fsz, zi G n8 6 frd, zo0 th tt t1 t2 t3 t4 t5 t6 t7 t8 tj tb tl, zi G t1 6 unm, zi G t2 4 uso, zi G t3 4 umi, zi G t4 4 upa, zi G t5 6 uki, zi G t6 6 umo, zi G t7 6 usz, zi G t8 6 urd, zo0 kp tt k1 k2 k3 k4 k5 k6 k7 k8 (nI kj) (nI kb) (nI kl), zi G k1 6 gnm, zi G k2 4 gso, zi G k3 4 gmi, zi G k4 4 gpa, zi G k5 6 gki, zi G k6 6 gmo, zi G k7 6 gsz, zi G k8 6 grd, zo2 sh qn qo ql, zr G qn 4 fn, zi G r0 40 fs0, zi G r1 40 fs1, zi G r2 40 fs2, zi G r3 40 fs3, zi G qo 4 fqo, zi G ql 4 (nF fql), zo4 tu tw tr, zr G tw 6 fw, zi G w0 6 fw0, zi G w1 6 fw1, zi G w2 6 fw2, zi G w3 6 fw3, zi G w4 6 fw4, zi G w5 6 fw5, zi G tr 64 ftr, zo6 mo (nI Npb) Akd Amo Ast (nI Njg) Aro Atp (nI Ntd) Acd Asr (nI Ntx) (nI Nru) Zhi Air Aih Ass Asq Ace Alw Z19 Z20 Z21 Z22 Awo Ahe Z25 Z26 Z27 Ask Ana Akp Z31 Z32 Z33 Z34 Agb Ago Afa Aga Z39 Z40 Avo, zi G Akd 6 Fkd, zi G Amo 6 Fmo, zi G Ast 12 Fst, zi G Aro 12 Fro, zi G Atp 160 Ftp, zi G Acd 1200 Fcd, zi G Asr 24 (nF Fsr), zi G Air 24 Fir, zi G Aih 3 Fih, zi G Ass 4 Fss, zi G Asq 4 (nF Fsq), zi G Ace 160 Fce, zi G Alw 40 Flw, zi G Awo 96 Fwo, zi G Ahe 200 Fhe, zi G Ask 200 Fsk, zi G Ana 6 Fna, zi G Akp 24 Fkp, zb G Agb 61 Fgb, zb G Ago 61 Fgo, zi G Afa 36 Ffa, zi G Aga 36 Fga, zi G Avo 64 Fvo] H := ⟨hP, hD⟩
  have hP := hz9.1
  have hD := hz9.2
  refine lv_aload_n hx hb dL_law_1139 rfl (lv_at hl 2 rfl) ?_
  refine lv_aload_n hx hb dL_law_1140 rfl (lv_at hl 3 rfl) ?_
  refine lv_iload_n hx hb dL_law_1141 rfl (lv_at hl 0 rfl) ?_
  refine lv_iconst (v := 1) hx hb dL_law_1142 (by decide +kernel) ?_
  refine lv_iadd hx hb dL_law_1143 ?_
  refine lv_topi (fun v_1 ev_1 => ?_)
  have ev_1 : v_1 = nI ((7 * i7) + 1) := ev_1.trans (nI_add (7 * i7) 1)
  subst ev_1
  refine va_sld hx hb hX hbl hbA hS (i := nI ((7 * i7) + 1)) (vp_in_nI (by omega) (by omega)) dL_law_1144 ?_
  refine lv_topi (fun v_2 ev_2 => ?_)
  have ev_2 : (nI sn) = v_2 := (ev_2.trans (by rw [nI_clamp (by omega)]; exact hv1.symm)).symm
  subst ev_2
  refine lv_aload_n hx hb dL_law_1145 rfl (lv_at hl 3 rfl) ?_
  refine lv_iload_n hx hb dL_law_1146 rfl (lv_at hl 0 rfl) ?_
  refine lv_iconst (v := 2) hx hb dL_law_1147 (by decide +kernel) ?_
  refine lv_iadd hx hb dL_law_1148 ?_
  refine lv_topi (fun v_3 ev_3 => ?_)
  have ev_3 : v_3 = nI ((7 * i7) + 2) := ev_3.trans (nI_add (7 * i7) 2)
  subst ev_3
  refine va_sld hx hb hX hbl hbA hS (i := nI ((7 * i7) + 2)) (vp_in_nI (by omega) (by omega)) dL_law_1149 ?_
  refine lv_topi (fun v_4 ev_4 => ?_)
  have ev_4 : v2 = v_4 := (ev_4.trans (by rw [nI_clamp (by omega)]; exact hv2.symm)).symm
  subst ev_4
  have hz9 : gPD G A [zo5 xo tt rd nw th kp sh tu him, zo0 nw tt n1 n2 n3 n4 n5 n6 n7 n8 (nI jg) (nI pb) (nI lw), zi G n2 4 fso, zi G n3 4 fmi, zi G n4 4 fpa, zi G n5 6 fki, zi G n6 6 fmo, zi G n7 6 fsz, zi G n8 6 frd, zo0 th tt t1 t2 t3 t4 t5 t6 t7 t8 tj tb tl, zi G t1 6 unm, zi G t2 4 uso, zi G t3 4 umi, zi G t4 4 upa, zi G t5 6 uki, zi G t6 6 umo, zi G t7 6 usz, zi G t8 6 urd, zo3 tt co en sk wr (nI tx), zr G co 6 fc, zr G en 6 fe, zi G c0 160 fcr0, zi G c1 160 fcr1, zi G c2 160 fcr2, zi G c3 160 fcr3, zi G c4 160 fcr4, zi G c5 160 fcr5, zi G e0 3 (nF fer0), zi G e1 3 (nF fer1), zi G e2 3 (nF fer2), zi G e3 3 (nF fer3), zi G e4 3 (nF fer4), zi G e5 3 (nF fer5), zi G sk 32 fsk, zo2 sh qn qo ql, zr G qn 4 fn, zi G qo 4 fqo, zi G ql 4 (nF fql), zi G r0 40 fs0] H := ⟨hP.sub [0, 19, 21, 22, 23, 24, 25, 26, 27, 28, 29, 30, 31, 32, 33, 34, 35, 36, 3, 4, 11, 5, 6, 7, 8, 9, 10, 12, 13, 14, 15, 16, 17, 18, 46, 47, 52, 53, 48] rfl, hD.sub [0, 19, 21, 22, 23, 24, 25, 26, 27, 28, 29, 30, 31, 32, 33, 34, 35, 36, 3, 4, 11, 5, 6, 7, 8, 9, 10, 12, 13, 14, 15, 16, 17, 18, 46, 47, 52, 53, 48] (by decide +kernel) rfl⟩
  have hPc := hz9.1
  have hDc := hz9.2
  have hFc := gFree hPc hD hS hA [0, 19, 21, 22, 23, 24, 25, 26, 27, 28, 29, 30, 31, 32, 33, 34, 35, 36, 3, 4, 11, 5, 6, 7, 8, 9, 10, 12, 13, 14, 15, 16, 17, 18, 46, 47, 52, 53, 48] rfl
  refine va_calli (va_runV (As := [.int (nI sn), .int v2]) (rest := []) ⟨hx, hb, hml, hown, hts⟩ (c_X5_laws_A l G E xo tt rd nw th kp sh tu n1 n2 n3 n4 n5 n6 n7 n8 t1 t2 t3 t4 t5 t6 t7 t8 co en sk c0 c1 c2 c3 c4 c5 e0 e1 e2 e3 e4 e5 qn qo ql r0 jg pb lw tx him wr tj tb tl fc fe fn fql fso fmi fpa fki fmo fsz frd unm uso umi upa uki umo usz urd fer0 fcr0 fer1 fcr1 fer2 fcr2 fer3 fcr3 fer4 fcr4 fer5 fcr5 fsk fqo fs0 sn v2 H.size (by first | exact hsn | assumption | omega) (by first | exact hrw | assumption | omega) (by first | exact hql | assumption | omega) (by first | exact hc0 | assumption | omega) (by first | exact hc1 | assumption | omega) (by first | exact hc2 | assumption | omega) (by first | exact hc3 | assumption | omega) (by first | exact hc4 | assumption | omega) (by first | exact hc5 | assumption | omega) (by first | exact he0 | assumption | omega) (by first | exact he1 | assumption | omega) (by first | exact he2 | assumption | omega) (by first | exact he3 | assumption | omega) (by first | exact he4 | assumption | omega) (by first | exact he5 | assumption | omega) (by first | exact hw0 | assumption | omega) (by first | exact hw1 | assumption | omega) (by first | exact hw2 | assumption | omega) (by first | exact hw3 | assumption | omega) (by first | exact hw4 | assumption | omega) (by first | exact hw5 | assumption | omega) (by first | exact htx | assumption | omega) (by first | exact hjg | assumption | omega) (by first | exact hpb | assumption | omega)) (cwV 2 hts gL_law_X5_laws rfl rfl rfl (by decide +kernel) ⟨Nat.le_of_ble_eq_true rfl, Nat.le_of_ble_eq_true rfl⟩) ⟨gPreE_blind, va_recv hK hPc (ci := 5) (q0 := 0) rfl rfl, fun U hU hW => gPreE_of hU hW hK hPc hDc hE hS hFc⟩ rfl rfl hl.1 rfl (lv_room (Nat.le_of_ble_eq_true rfl)) dL_law_1150 ⟨Nat.le_of_ble_eq_true rfl, Nat.le_of_ble_eq_true rfl⟩) hS (fun q _ h => hFc q h) hFc (fun r_5 u t H locs ht hvm w_6 hB hz1 hk1 hS => ?_)
  obtain ⟨zj9_7, zb9_8, zl9_9, yt1_10, yt2_11, yt3_12, yt4_13, yt5_14, yt6_15, yt7_16, yt8_17, ysk_18⟩ := u
  obtain ⟨hP1, hK1, hD1⟩ := hB
  rw [ht] at hP1
  have hz9 : gPD G (va_A _ _) [zo5 xo tt rd nw th kp sh tu him, zo0 nw tt n1 n2 n3 n4 n5 n6 n7 n8 (nI jg) (nI pb) (nI lw), zi G n2 4 fso, zi G n3 4 fmi, zi G n4 4 fpa, zi G n5 6 fki, zi G n6 6 fmo, zi G n7 6 fsz, zi G n8 6 frd, zo0 th tt t1 t2 t3 t4 t5 t6 t7 t8 zj9_7 zb9_8 zl9_9, zi G t1 6 yt1_10, zi G t2 4 yt2_11, zi G t3 4 yt3_12, zi G t4 4 yt4_13, zi G t5 6 yt5_14, zi G t6 6 yt6_15, zi G t7 6 yt7_16, zi G t8 6 yt8_17, zo3 tt co en sk wr (nI tx), zr G co 6 fc, zr G en 6 fe, zi G c0 160 fcr0, zi G c1 160 fcr1, zi G c2 160 fcr2, zi G c3 160 fcr3, zi G c4 160 fcr4, zi G c5 160 fcr5, zi G e0 3 (nF fer0), zi G e1 3 (nF fer1), zi G e2 3 (nF fer2), zi G e3 3 (nF fer3), zi G e4 3 (nF fer4), zi G e5 3 (nF fer5), zi G sk 32 ysk_18, zo2 sh qn qo ql, zr G qn 4 fn, zi G qo 4 fqo, zi G ql 4 (nF fql), zi G r0 40 fs0] H := ⟨hP1, hD1⟩
  have hP1 := hz9.1
  have hD1 := hz9.2
  have w_6 : r_5 = m_X5_laws_A jg pb tx fql fso fmi fpa fki fmo fsz frd fer0 fcr0 fer1 fcr1 fer2 fcr2 fer3 fcr3 fer4 fcr4 fer5 fcr5 fqo fs0 sn v2 := w_6
  have hz9 : gPD G A [zo1 rd tt b0 x2 x3 x4 x5 (nI td), zi G b0 160 fb, zi G n1 6 fnm, zo0 kp tt k1 k2 k3 k4 k5 k6 k7 k8 (nI kj) (nI kb) (nI kl), zi G k1 6 gnm, zi G k2 4 gso, zi G k3 4 gmi, zi G k4 4 gpa, zi G k5 6 gki, zi G k6 6 gmo, zi G k7 6 gsz, zi G k8 6 grd, zi G r1 40 fs1, zi G r2 40 fs2, zi G r3 40 fs3, zo4 tu tw tr, zr G tw 6 fw, zi G w0 6 fw0, zi G w1 6 fw1, zi G w2 6 fw2, zi G w3 6 fw3, zi G w4 6 fw4, zi G w5 6 fw5, zi G tr 64 ftr, zo6 mo (nI Npb) Akd Amo Ast (nI Njg) Aro Atp (nI Ntd) Acd Asr (nI Ntx) (nI Nru) Zhi Air Aih Ass Asq Ace Alw Z19 Z20 Z21 Z22 Awo Ahe Z25 Z26 Z27 Ask Ana Akp Z31 Z32 Z33 Z34 Agb Ago Afa Aga Z39 Z40 Avo, zi G Akd 6 Fkd, zi G Amo 6 Fmo, zi G Ast 12 Fst, zi G Aro 12 Fro, zi G Atp 160 Ftp, zi G Acd 1200 Fcd, zi G Asr 24 (nF Fsr), zi G Air 24 Fir, zi G Aih 3 Fih, zi G Ass 4 Fss, zi G Asq 4 (nF Fsq), zi G Ace 160 Fce, zi G Alw 40 Flw, zi G Awo 96 Fwo, zi G Ahe 200 Fhe, zi G Ask 200 Fsk, zi G Ana 6 Fna, zi G Akp 24 Fkp, zb G Agb 61 Fgb, zb G Ago 61 Fgo, zi G Afa 36 Ffa, zi G Aga 36 Fga, zi G Avo 64 Fvo, zo5 xo tt rd nw th kp sh tu him, zo0 nw tt n1 n2 n3 n4 n5 n6 n7 n8 (nI jg) (nI pb) (nI lw), zi G n2 4 fso, zi G n3 4 fmi, zi G n4 4 fpa, zi G n5 6 fki, zi G n6 6 fmo, zi G n7 6 fsz, zi G n8 6 frd, zo0 th tt t1 t2 t3 t4 t5 t6 t7 t8 zj9_7 zb9_8 zl9_9, zi G t1 6 yt1_10, zi G t2 4 yt2_11, zi G t3 4 yt3_12, zi G t4 4 yt4_13, zi G t5 6 yt5_14, zi G t6 6 yt6_15, zi G t7 6 yt7_16, zi G t8 6 yt8_17, zo3 tt co en sk wr (nI tx), zr G co 6 fc, zr G en 6 fe, zi G c0 160 fcr0, zi G c1 160 fcr1, zi G c2 160 fcr2, zi G c3 160 fcr3, zi G c4 160 fcr4, zi G c5 160 fcr5, zi G e0 3 (nF fer0), zi G e1 3 (nF fer1), zi G e2 3 (nF fer2), zi G e3 3 (nF fer3), zi G e4 3 (nF fer4), zi G e5 3 (nF fer5), zi G sk 32 ysk_18, zo2 sh qn qo ql, zr G qn 4 fn, zi G qo 4 fqo, zi G ql 4 (nF fql), zi G r0 40 fs0] H := gJoin hP hD hk1 hFc hP1 hD1 [0, 19, 21, 22, 23, 24, 25, 26, 27, 28, 29, 30, 31, 32, 33, 34, 35, 36, 3, 4, 11, 5, 6, 7, 8, 9, 10, 12, 13, 14, 15, 16, 17, 18, 46, 47, 52, 53, 48] [1, 2, 20, 37, 38, 39, 40, 41, 42, 43, 44, 45, 49, 50, 51, 54, 55, 56, 57, 58, 59, 60, 61, 62, 63, 64, 65, 66, 67, 68, 69, 70, 71, 72, 73, 74, 75, 76, 77, 78, 79, 80, 81, 82, 83, 84, 85, 86] rfl rfl rfl (by decide +kernel) (by decide +kernel)
  have hP := hz9.1
  have hD := hz9.2
  subst w_6
  refine lv_pop hx hb dL_law_1153 rfl ?_
  refine lv_aload_n hx hb dL_law_1154 rfl (lv_at hl 1 rfl) ?_
  refine lv_aload_n hx hb dL_law_1155 rfl (lv_at hl 3 rfl) ?_
  refine lv_iload_n hx hb dL_law_1156 rfl (lv_at hl 0 rfl) ?_
  refine lv_iconst (v := 1) hx hb dL_law_1157 (by decide +kernel) ?_
  refine lv_iadd hx hb dL_law_1158 ?_
  refine lv_topi (fun v_19 ev_19 => ?_)
  have ev_19 : v_19 = nI ((7 * i7) + 1) := ev_19.trans (nI_add (7 * i7) 1)
  subst ev_19
  refine va_sld hx hb hX hbl hbA hS (i := nI ((7 * i7) + 1)) (vp_in_nI (by omega) (by omega)) dL_law_1159 ?_
  refine lv_topi (fun v_20 ev_20 => ?_)
  have ev_20 : (nI sn) = v_20 := (ev_20.trans (by rw [nI_clamp (by omega)]; exact hv1.symm)).symm
  subst ev_20
  refine lv_aload_n hx hb dL_law_1160 rfl (lv_at hl 3 rfl) ?_
  refine lv_iload_n hx hb dL_law_1161 rfl (lv_at hl 0 rfl) ?_
  refine lv_iconst (v := 2) hx hb dL_law_1162 (by decide +kernel) ?_
  refine lv_iadd hx hb dL_law_1163 ?_
  refine lv_topi (fun v_21 ev_21 => ?_)
  have ev_21 : v_21 = nI ((7 * i7) + 2) := ev_21.trans (nI_add (7 * i7) 2)
  subst ev_21
  refine va_sld hx hb hX hbl hbA hS (i := nI ((7 * i7) + 2)) (vp_in_nI (by omega) (by omega)) dL_law_1164 ?_
  refine lv_topi (fun v_22 ev_22 => ?_)
  have ev_22 : v2 = v_22 := (ev_22.trans (by rw [nI_clamp (by omega)]; exact hv2.symm)).symm
  subst ev_22
  have hz9 : gPD G A [zo6 mo (nI Npb) Akd Amo Ast (nI Njg) Aro Atp (nI Ntd) Acd Asr (nI Ntx) (nI Nru) Zhi Air Aih Ass Asq Ace Alw Z19 Z20 Z21 Z22 Awo Ahe Z25 Z26 Z27 Ask Ana Akp Z31 Z32 Z33 Z34 Agb Ago Afa Aga Z39 Z40 Avo, zi G Ast 12 Fst, zi G Aro 12 Fro, zi G Amo 6 Fmo, zi G Akd 6 Fkd, zi G Acd 1200 Fcd, zi G Asr 24 (nF Fsr), zi G Ask 200 Fsk, zi G Ana 6 Fna, zi G Akp 24 Fkp, zi G Asq 4 (nF Fsq), zi G Ace 160 Fce, zi G Ass 4 Fss] H := ⟨hP.sub [24, 27, 28, 26, 25, 30, 31, 40, 41, 42, 35, 36, 34] rfl, hD.sub [24, 27, 28, 26, 25, 30, 31, 40, 41, 42, 35, 36, 34] (by decide +kernel) rfl⟩
  have hPc := hz9.1
  have hDc := hz9.2
  have hFc := gFree hPc hD hS hA [24, 27, 28, 26, 25, 30, 31, 40, 41, 42, 35, 36, 34] rfl
  refine va_calli (va_runV (As := [.int (nI sn), .int v2]) (rest := []) ⟨hx, hb, hml, hown, hts⟩ (c_X6_laws l G mo Akd Amo Ast Aro Atp Acd Asr Air Aih Ass Asq Ace Alw Awo Ahe Ask Ana Akp Agb Ago Afa Aga Avo Npb Njg Ntd Ntx Nru Zhi Z19 Z20 Z21 Z22 Z25 Z26 Z27 Z31 Z32 Z33 Z34 Z39 Z40 Fst Fro Fmo Fkd Fcd Fsr Fsk Fna Fkp Fsq Fce Fss (nI sn) v2 H.size (by first | exact hsq | assumption | omega) (by first | exact hwa | assumption | omega) (by first | exact hpb | assumption | omega) (by first | exact hjg | assumption | omega) (by first | exact htx | assumption | omega) (by first | exact hru | assumption | omega)) (cwV 2 hts gL_law_X6_laws rfl rfl rfl (by decide +kernel) ⟨Nat.le_of_ble_eq_true rfl, Nat.le_of_ble_eq_true rfl⟩) ⟨gPre_blind, va_recv hK hPc (ci := 6) (q0 := 0) rfl rfl, fun U hU hW => gPre_of hU hW hK hPc hDc⟩ rfl rfl hl.1 rfl (lv_room (Nat.le_of_ble_eq_true rfl)) dL_law_1165 ⟨Nat.le_of_ble_eq_true rfl, Nat.le_of_ble_eq_true rfl⟩) hS (fun q _ h => hFc q h) hFc (fun r_23 u t H locs ht hvm w_24 hB hz1 hk1 hS => ?_)
  obtain ⟨ysk_25, yna_26, ykp_27⟩ := u
  obtain ⟨hP1, hK1, hD1⟩ := hB
  rw [ht] at hP1
  have hz9 : gPD G (va_A _ _) [zo6 mo (nI Npb) Akd Amo Ast (nI Njg) Aro Atp (nI Ntd) Acd Asr (nI Ntx) (nI Nru) Zhi Air Aih Ass Asq Ace Alw Z19 Z20 Z21 Z22 Awo Ahe Z25 Z26 Z27 Ask Ana Akp Z31 Z32 Z33 Z34 Agb Ago Afa Aga Z39 Z40 Avo, zi G Ast 12 Fst, zi G Aro 12 Fro, zi G Amo 6 Fmo, zi G Akd 6 Fkd, zi G Acd 1200 Fcd, zi G Asr 24 (nF Fsr), zi G Ask 200 ysk_25, zi G Ana 6 yna_26, zi G Akp 24 ykp_27, zi G Asq 4 (nF Fsq), zi G Ace 160 Fce, zi G Ass 4 Fss] H := ⟨hP1, hD1⟩
  have hP1 := hz9.1
  have hD1 := hz9.2
  have w_24 : r_23 = m_X6_laws Npb Njg Ntx Fst Fro Fmo Fkd Fcd Fsr Fsq Fce Fss (nI sn) v2 := w_24
  have hz9 : gPD G A [zo1 rd tt b0 x2 x3 x4 x5 (nI td), zi G b0 160 fb, zi G n1 6 fnm, zo0 kp tt k1 k2 k3 k4 k5 k6 k7 k8 (nI kj) (nI kb) (nI kl), zi G k1 6 gnm, zi G k2 4 gso, zi G k3 4 gmi, zi G k4 4 gpa, zi G k5 6 gki, zi G k6 6 gmo, zi G k7 6 gsz, zi G k8 6 grd, zi G r1 40 fs1, zi G r2 40 fs2, zi G r3 40 fs3, zo4 tu tw tr, zr G tw 6 fw, zi G w0 6 fw0, zi G w1 6 fw1, zi G w2 6 fw2, zi G w3 6 fw3, zi G w4 6 fw4, zi G w5 6 fw5, zi G tr 64 ftr, zi G Atp 160 Ftp, zi G Air 24 Fir, zi G Aih 3 Fih, zi G Alw 40 Flw, zi G Awo 96 Fwo, zi G Ahe 200 Fhe, zb G Agb 61 Fgb, zb G Ago 61 Fgo, zi G Afa 36 Ffa, zi G Aga 36 Fga, zi G Avo 64 Fvo, zo5 xo tt rd nw th kp sh tu him, zo0 nw tt n1 n2 n3 n4 n5 n6 n7 n8 (nI jg) (nI pb) (nI lw), zi G n2 4 fso, zi G n3 4 fmi, zi G n4 4 fpa, zi G n5 6 fki, zi G n6 6 fmo, zi G n7 6 fsz, zi G n8 6 frd, zo0 th tt t1 t2 t3 t4 t5 t6 t7 t8 zj9_7 zb9_8 zl9_9, zi G t1 6 yt1_10, zi G t2 4 yt2_11, zi G t3 4 yt3_12, zi G t4 4 yt4_13, zi G t5 6 yt5_14, zi G t6 6 yt6_15, zi G t7 6 yt7_16, zi G t8 6 yt8_17, zo3 tt co en sk wr (nI tx), zr G co 6 fc, zr G en 6 fe, zi G c0 160 fcr0, zi G c1 160 fcr1, zi G c2 160 fcr2, zi G c3 160 fcr3, zi G c4 160 fcr4, zi G c5 160 fcr5, zi G e0 3 (nF fer0), zi G e1 3 (nF fer1), zi G e2 3 (nF fer2), zi G e3 3 (nF fer3), zi G e4 3 (nF fer4), zi G e5 3 (nF fer5), zi G sk 32 ysk_18, zo2 sh qn qo ql, zr G qn 4 fn, zi G qo 4 fqo, zi G ql 4 (nF fql), zi G r0 40 fs0, zo6 mo (nI Npb) Akd Amo Ast (nI Njg) Aro Atp (nI Ntd) Acd Asr (nI Ntx) (nI Nru) Zhi Air Aih Ass Asq Ace Alw Z19 Z20 Z21 Z22 Awo Ahe Z25 Z26 Z27 Ask Ana Akp Z31 Z32 Z33 Z34 Agb Ago Afa Aga Z39 Z40 Avo, zi G Ast 12 Fst, zi G Aro 12 Fro, zi G Amo 6 Fmo, zi G Akd 6 Fkd, zi G Acd 1200 Fcd, zi G Asr 24 (nF Fsr), zi G Ask 200 ysk_25, zi G Ana 6 yna_26, zi G Akp 24 ykp_27, zi G Asq 4 (nF Fsq), zi G Ace 160 Fce, zi G Ass 4 Fss] H := gJoin hP hD hk1 hFc hP1 hD1 [24, 27, 28, 26, 25, 30, 31, 40, 41, 42, 35, 36, 34] [0, 1, 2, 3, 4, 5, 6, 7, 8, 9, 10, 11, 12, 13, 14, 15, 16, 17, 18, 19, 20, 21, 22, 23, 29, 32, 33, 37, 38, 39, 43, 44, 45, 46, 47, 48, 49, 50, 51, 52, 53, 54, 55, 56, 57, 58, 59, 60, 61, 62, 63, 64, 65, 66, 67, 68, 69, 70, 71, 72, 73, 74, 75, 76, 77, 78, 79, 80, 81, 82, 83, 84, 85, 86] rfl rfl rfl (by decide +kernel) (by decide +kernel)
  have hP := hz9.1
  have hD := hz9.2
  subst w_24
  refine lv_pop hx hb dL_law_1168 rfl ?_
  refine lv_goto (tgt := 1614) hx hb dL_law_1169 (by decide +kernel) ?_
  refine lv_iinc (v := nI (7 * (i7 + 1))) (lv' := [zI 3 (nI (7 * (i7 + 1))), zR 2 mo, zR 1 xo, zR 0 b]) hx hb dL_law_1614 hl (k := 0) rfl (by show nI (7 * i7) + 7 = nI (7 * (i7 + 1)); exact nI_add (7 * i7) 7) (by decide +kernel) rfl (fun ls hl => ?_)
  refine lv_goto (tgt := 18) hx hb dL_law_1617 (by decide +kernel) ?_
  exact K him x2 x3 x4 x5 td fb wr ysk_18 jg pb lw fnm fso fmi fpa fki fmo fsz frd zj9_7 zb9_8 zl9_9 yt1_10 yt2_11 yt3_12 yt4_13 yt5_14 yt6_15 yt7_16 yt8_17 kj kb kl gnm gso gmi gpa gki gmo gsz grd fs0 fs1 fs2 fs3 fqo fql fw0 fw1 fw2 fw3 fw4 fw5 ftr Npb Njg Ntd Ntx Nru Zhi Z19 Z20 Z21 Z22 Z25 Z26 Z27 Z31 Z32 Z33 Z34 Z39 Z40 Fkd Fmo Fst Fro Ftp Fcd Fsr Fir Fih Fss Fsq Fce Flw Fwo Fhe ysk_25 yna_26 ykp_27 Fgb Fgo Ffa Fga Fvo hFX hFM hRL hRQ H _ ls (hP.sub [35, 0, 1, 53, 54, 56, 57, 58, 59, 60, 61, 55, 62, 63, 64, 65, 66, 67, 68, 36, 2, 37, 38, 39, 40, 41, 42, 43, 44, 45, 46, 47, 48, 49, 50, 51, 52, 3, 4, 5, 6, 7, 8, 9, 10, 11, 69, 70, 73, 12, 13, 14, 71, 72, 15, 16, 17, 18, 19, 20, 21, 22, 23, 74, 78, 77, 75, 76, 24, 79, 80, 25, 26, 86, 84, 85, 27, 28, 29, 81, 82, 83, 30, 31, 32, 33, 34] rfl) (hD.sub [35, 0, 1, 53, 54, 56, 57, 58, 59, 60, 61, 55, 62, 63, 64, 65, 66, 67, 68, 36, 2, 37, 38, 39, 40, 41, 42, 43, 44, 45, 46, 47, 48, 49, 50, 51, 52, 3, 4, 5, 6, 7, 8, 9, 10, 11, 69, 70, 73, 12, 13, 14, 71, 72, 15, 16, 17, 18, 19, 20, 21, 22, 23, 74, 78, 77, 75, 76, 24, 79, 80, 25, 26, 86, 84, 85, 27, 28, 29, 81, 82, 83, 30, 31, 32, 33, 34] (by decide +kernel) rfl) hS (lv_sub hl [0, 1, 2, 3] rfl)
set_option maxHeartbeats 4000000 in
set_option maxRecDepth 100000 in
theorem lc_laws_B {p : Program} {l : Launch} {e : Env} {s : State} {m : MethodId} {below : List Frame} {meth : Method} {c : Code} {b L : Nat} {xs : Nat → Int32} {G : gG} {E : gS} {A : Nat → Prop} (C0 : lw_At p s m meth c b L xs) (hE : gE E A s s.heap) (hK : gK G s) (hAe : A = fun q => s.heap.size ≤ q) {xo tt rd nw th kp sh tu b0 co en sk c0 c1 c2 c3 c4 c5 e0 e1 e2 e3 e4 e5 n1 n2 n3 n4 n5 n6 n7 n8 t1 t2 t3 t4 t5 t6 t7 t8 k1 k2 k3 k4 k5 k6 k7 k8 qn qo ql r0 r1 r2 r3 tw tr w0 w1 w2 w3 w4 w5 mo Akd Amo Ast Aro Atp Acd Asr Air Aih Ass Asq Ace Alw Awo Ahe Ask Ana Akp Agb Ago Afa Aga Avo : Nat} {fc fe fn fw : Nat → Option Nat} {tx : Nat} {fcr0 fcr1 fcr2 fcr3 fcr4 fcr5 : Nat → Int32} {fer0 fer1 fer2 fer3 fer4 fer5 : Nat → Nat} {him x2 x3 x4 x5 : Int32} {td : Nat} {fb : Nat → Int32} {wr : Int32} {fsk : Nat → Int32} {jg pb lw : Nat} {fnm fso fmi fpa fki fmo fsz frd : Nat → Int32} {tj tb tl : Int32} {unm uso umi upa uki umo usz urd : Nat → Int32} {kj kb kl : Nat} {gnm gso gmi gpa gki gmo gsz grd fs0 fs1 fs2 fs3 fqo : Nat → Int32} {fql : Nat → Nat} {fw0 fw1 fw2 fw3 fw4 fw5 ftr : Nat → Int32} {Npb Njg Ntd Ntx Nru : Nat} {Zhi Z19 Z20 Z21 Z22 Z25 Z26 Z27 Z31 Z32 Z33 Z34 Z39 Z40 : Int32} {Fkd Fmo Fst Fro Ftp Fcd : Nat → Int32} {Fsr : Nat → Nat} {Fir Fih Fss : Nat → Int32} {Fsq : Nat → Nat} {Fce Flw Fwo Fhe Fsk Fna Fkp Fgb Fgo Ffa Fga Fvo : Nat → Int32}  {v1 v2 v3 v4 v5 v6 : Int32} {i7 : Nat} (hi : 7 * i7 + 7 ≤ L) (hL : L ≤ 3584) (hv1 : v1 = xs (7 * i7 + 1)) (hv2 : v2 = xs (7 * i7 + 2)) (hv3 : v3 = xs (7 * i7 + 3)) (hv4 : v4 = xs (7 * i7 + 4)) (hv5 : v5 = xs (7 * i7 + 5)) (hv6 : v6 = xs (7 * i7 + 6)) (hno : ¬ (0 ≤ v1 ∧ v1 ≤ 3)) (K : LawV p l e s m below meth c b G A xo tt rd nw th kp sh tu b0 co en sk c0 c1 c2 c3 c4 c5 e0 e1 e2 e3 e4 e5 n1 n2 n3 n4 n5 n6 n7 n8 t1 t2 t3 t4 t5 t6 t7 t8 k1 k2 k3 k4 k5 k6 k7 k8 qn qo ql r0 r1 r2 r3 tw tr w0 w1 w2 w3 w4 w5 mo Akd Amo Ast Aro Atp Acd Asr Air Aih Ass Asq Ace Alw Awo Ahe Ask Ana Akp Agb Ago Afa Aga Avo fc fe fn fw tx fcr0 fcr1 fcr2 fcr3 fcr4 fcr5 fer0 fer1 fer2 fer3 fer4 fer5 (i7 + 1)) (hFX : FXP jg pb lw kj kb kl tx td him fql) (hFM : FMP Npb Njg Ntd Ntx Nru Zhi Fcd Fsr Fsq Fir Fih) (hRL : RLP False fn r0 r1 r2 r3 jg pb kj kb him fs0 fs1 fs2 fs3 fqo fql Npb Njg Zhi Fss Fsq Fce Fih) (hRQ : RQP fc c0 c1 c2 c3 c4 c5 fcr0 fcr1 fcr2 fcr3 fcr4 fcr5 fer0 fer1 fer2 fer3 fer4 fer5 pb lw tx td kb kl him fb fso fmi fpa fki fmo fsz frd gso gmi gpa gki gmo gsz grd Nru Ntx Ntd Fkd Fmo Fst Fro Ftp Fcd Fsr Fir Fih Fwo) {H : Heap} {locs : List Loc} (hP : va_P G.1 vwCl (WLd G xo tt rd nw th kp sh tu b0 co en sk c0 c1 c2 c3 c4 c5 e0 e1 e2 e3 e4 e5 n1 n2 n3 n4 n5 n6 n7 n8 t1 t2 t3 t4 t5 t6 t7 t8 k1 k2 k3 k4 k5 k6 k7 k8 qn qo ql r0 r1 r2 r3 tw tr w0 w1 w2 w3 w4 w5 mo Akd Amo Ast Aro Atp Acd Asr Air Aih Ass Asq Ace Alw Awo Ahe Ask Ana Akp Agb Ago Afa Aga Avo fc fe fn fw tx fcr0 fcr1 fcr2 fcr3 fcr4 fcr5 fer0 fer1 fer2 fer3 fer4 fer5 him x2 x3 x4 x5 td fb wr fsk jg pb lw fnm fso fmi fpa fki fmo fsz frd tj tb tl unm uso umi upa uki umo usz urd kj kb kl gnm gso gmi gpa gki gmo gsz grd fs0 fs1 fs2 fs3 fqo fql fw0 fw1 fw2 fw3 fw4 fw5 ftr Npb Njg Ntd Ntx Nru Zhi Z19 Z20 Z21 Z22 Z25 Z26 Z27 Z31 Z32 Z33 Z34 Z39 Z40 Fkd Fmo Fst Fro Ftp Fcd Fsr Fir Fih Fss Fsq Fce Flw Fwo Fhe Fsk Fna Fkp Fgb Fgo Ffa Fga Fvo) H) (hD : va_D A (WLd G xo tt rd nw th kp sh tu b0 co en sk c0 c1 c2 c3 c4 c5 e0 e1 e2 e3 e4 e5 n1 n2 n3 n4 n5 n6 n7 n8 t1 t2 t3 t4 t5 t6 t7 t8 k1 k2 k3 k4 k5 k6 k7 k8 qn qo ql r0 r1 r2 r3 tw tr w0 w1 w2 w3 w4 w5 mo Akd Amo Ast Aro Atp Acd Asr Air Aih Ass Asq Ace Alw Awo Ahe Ask Ana Akp Agb Ago Afa Aga Avo fc fe fn fw tx fcr0 fcr1 fcr2 fcr3 fcr4 fcr5 fer0 fer1 fer2 fer3 fer4 fer5 him x2 x3 x4 x5 td fb wr fsk jg pb lw fnm fso fmi fpa fki fmo fsz frd tj tb tl unm uso umi upa uki umo usz urd kj kb kl gnm gso gmi gpa gki gmo gsz grd fs0 fs1 fs2 fs3 fqo fql fw0 fw1 fw2 fw3 fw4 fw5 ftr Npb Njg Ntd Ntx Nru Zhi Z19 Z20 Z21 Z22 Z25 Z26 Z27 Z31 Z32 Z33 Z34 Z39 Z40 Fkd Fmo Fst Fro Ftp Fcd Fsr Fir Fih Fss Fsq Fce Flw Fwo Fhe Fsk Fna Fkp Fgb Fgo Ffa Fga Fvo)) (hS : va_S A s.heap H locs) {ls : Array Slot} (hl : lv_has ls 4 [zI 3 (nI (7 * i7)), zR 2 mo, zR 1 xo, zR 0 b]) : W p l e room_1 s m #[Value.ref b] below meth c H locs 87 4128 (lw_Z below #[Value.ref b] s) (F0 m 1139 ls []) := by
  obtain ⟨hx, hb, hret, hml, hown, hts0, hX, hbl, hlocks, hgv⟩ := id C0
  have hts : ∀ w ∈ wsL_law, w.before #[Value.ref b] s = true := fun w h => hts0 w (wsL_law_in w h)
  have hown : s.vm.findClass RL = some m.cls := hown
  have hA : ∀ q : Nat, s.heap.size ≤ q → A q := fun q h => by rw [hAe]; exact h
  have hbA : ¬ A b := by rw [hAe]; exact Nat.not_le.mpr hbl
  obtain ⟨⟨hjg, hpb, hlw, htx, htd⟩, hkk, hql⟩ := id hFX
  obtain ⟨⟨hNpb, hNjg, hNru, hNtx, hNtd⟩, hwa, hsq, hIM⟩ := id hFM
  have hz9 : gPD G A [zo5 xo tt rd nw th kp sh tu him, zo1 rd tt b0 x2 x3 x4 x5 (nI td), zi G b0 160 fb, zo3 tt co en sk wr (nI tx), zr G co 6 fc, zi G c0 160 fcr0, zi G c1 160 fcr1, zi G c2 160 fcr2, zi G c3 160 fcr3, zi G c4 160 fcr4, zi G c5 160 fcr5, zr G en 6 fe, zi G e0 3 (nF fer0), zi G e1 3 (nF fer1), zi G e2 3 (nF fer2), zi G e3 3 (nF fer3), zi G e4 3 (nF fer4), zi G e5 3 (nF fer5), zi G sk 32 fsk, zo0 nw tt n1 n2 n3 n4 n5 n6 n7 n8 (nI jg) (nI pb) (nI lw), zi G n1 6 fnm, zi G n2 4 fso, zi G n3 4 fmi, zi G n4 4 fpa, zi G n5 6 fki, zi G n6 6 fmo, zi G n7 6 fsz, zi G n8 6 frd, zo0 th tt t1 t2 t3 t4 t5 t6 t7 t8 tj tb tl, zi G t1 6 unm, zi G t2 4 uso, zi G t3 4 umi, zi G t4 4 upa, zi G t5 6 uki, zi G t6 6 umo, zi G t7 6 usz, zi G t8 6 urd, zo0 kp tt k1 k2 k3 k4 k5 k6 k7 k8 (nI kj) (nI kb) (nI kl), zi G k1 6 gnm, zi G k2 4 gso, zi G k3 4 gmi, zi G k4 4 gpa, zi G k5 6 gki, zi G k6 6 gmo, zi G k7 6 gsz, zi G k8 6 grd, zo2 sh qn qo ql, zr G qn 4 fn, zi G r0 40 fs0, zi G r1 40 fs1, zi G r2 40 fs2, zi G r3 40 fs3, zi G qo 4 fqo, zi G ql 4 (nF fql), zo4 tu tw tr, zr G tw 6 fw, zi G w0 6 fw0, zi G w1 6 fw1, zi G w2 6 fw2, zi G w3 6 fw3, zi G w4 6 fw4, zi G w5 6 fw5, zi G tr 64 ftr, zo6 mo (nI Npb) Akd Amo Ast (nI Njg) Aro Atp (nI Ntd) Acd Asr (nI Ntx) (nI Nru) Zhi Air Aih Ass Asq Ace Alw Z19 Z20 Z21 Z22 Awo Ahe Z25 Z26 Z27 Ask Ana Akp Z31 Z32 Z33 Z34 Agb Ago Afa Aga Z39 Z40 Avo, zi G Akd 6 Fkd, zi G Amo 6 Fmo, zi G Ast 12 Fst, zi G Aro 12 Fro, zi G Atp 160 Ftp, zi G Acd 1200 Fcd, zi G Asr 24 (nF Fsr), zi G Air 24 Fir, zi G Aih 3 Fih, zi G Ass 4 Fss, zi G Asq 4 (nF Fsq), zi G Ace 160 Fce, zi G Alw 40 Flw, zi G Awo 96 Fwo, zi G Ahe 200 Fhe, zi G Ask 200 Fsk, zi G Ana 6 Fna, zi G Akp 24 Fkp, zb G Agb 61 Fgb, zb G Ago 61 Fgo, zi G Afa 36 Ffa, zi G Aga 36 Fga, zi G Avo 64 Fvo] H := ⟨hP, hD⟩
  have hP := hz9.1
  have hD := hz9.2
  refine lv_aload_n hx hb dL_law_1139 rfl (lv_at hl 2 rfl) ?_
  refine lv_aload_n hx hb dL_law_1140 rfl (lv_at hl 3 rfl) ?_
  refine lv_iload_n hx hb dL_law_1141 rfl (lv_at hl 0 rfl) ?_
  refine lv_iconst (v := 1) hx hb dL_law_1142 (by decide +kernel) ?_
  refine lv_iadd hx hb dL_law_1143 ?_
  refine lv_topi (fun v_1 ev_1 => ?_)
  have ev_1 : v_1 = nI ((7 * i7) + 1) := ev_1.trans (nI_add (7 * i7) 1)
  subst ev_1
  refine va_sld hx hb hX hbl hbA hS (i := nI ((7 * i7) + 1)) (vp_in_nI (by omega) (by omega)) dL_law_1144 ?_
  refine lv_topi (fun v_2 ev_2 => ?_)
  have ev_2 : v1 = v_2 := (ev_2.trans (by rw [nI_clamp (by omega)]; exact hv1.symm)).symm
  subst ev_2
  refine lv_aload_n hx hb dL_law_1145 rfl (lv_at hl 3 rfl) ?_
  refine lv_iload_n hx hb dL_law_1146 rfl (lv_at hl 0 rfl) ?_
  refine lv_iconst (v := 2) hx hb dL_law_1147 (by decide +kernel) ?_
  refine lv_iadd hx hb dL_law_1148 ?_
  refine lv_topi (fun v_3 ev_3 => ?_)
  have ev_3 : v_3 = nI ((7 * i7) + 2) := ev_3.trans (nI_add (7 * i7) 2)
  subst ev_3
  refine va_sld hx hb hX hbl hbA hS (i := nI ((7 * i7) + 2)) (vp_in_nI (by omega) (by omega)) dL_law_1149 ?_
  refine lv_topi (fun v_4 ev_4 => ?_)
  have ev_4 : v2 = v_4 := (ev_4.trans (by rw [nI_clamp (by omega)]; exact hv2.symm)).symm
  subst ev_4
  have hz9 : gPD G A [zo5 xo tt rd nw th kp sh tu him, zo2 sh qn qo ql] H := ⟨hP.sub [0, 46] rfl, hD.sub [0, 46] (by decide +kernel) rfl⟩
  have hPc := hz9.1
  have hDc := hz9.2
  have hFc := gFree hPc hD hS hA [0, 46] rfl
  refine va_calli (va_runV (As := [.int v1, .int v2]) (rest := []) ⟨hx, hb, hml, hown, hts⟩ (c_X5_laws_B l G E xo tt rd nw th kp sh tu qn qo ql him v1 v2 H.size (by first | exact hno | assumption | omega)) (cwV 2 hts gL_law_X5_laws rfl rfl rfl (by decide +kernel) ⟨Nat.le_of_ble_eq_true rfl, Nat.le_of_ble_eq_true rfl⟩) ⟨gPreE_blind, va_recv hK hPc (ci := 5) (q0 := 0) rfl rfl, fun U hU hW => gPreE_of hU hW hK hPc hDc hE hS hFc⟩ rfl rfl hl.1 rfl (lv_room (Nat.le_of_ble_eq_true rfl)) dL_law_1150 ⟨Nat.le_of_ble_eq_true rfl, Nat.le_of_ble_eq_true rfl⟩) hS (fun q _ h => hFc q h) hFc (fun r_5 u t H locs ht hvm w_6 hB hz1 hk1 hS => ?_)
  obtain ⟨hP1, hK1, hD1⟩ := hB
  rw [ht] at hP1
  have hz9 : gPD G (va_A _ _) [zo5 xo tt rd nw th kp sh tu him, zo2 sh qn qo ql] H := ⟨hP1, hD1⟩
  have hP1 := hz9.1
  have hD1 := hz9.2
  have w_6 : r_5 = -2 := w_6
  have hz9 : gPD G A [zo1 rd tt b0 x2 x3 x4 x5 (nI td), zi G b0 160 fb, zo3 tt co en sk wr (nI tx), zr G co 6 fc, zi G c0 160 fcr0, zi G c1 160 fcr1, zi G c2 160 fcr2, zi G c3 160 fcr3, zi G c4 160 fcr4, zi G c5 160 fcr5, zr G en 6 fe, zi G e0 3 (nF fer0), zi G e1 3 (nF fer1), zi G e2 3 (nF fer2), zi G e3 3 (nF fer3), zi G e4 3 (nF fer4), zi G e5 3 (nF fer5), zi G sk 32 fsk, zo0 nw tt n1 n2 n3 n4 n5 n6 n7 n8 (nI jg) (nI pb) (nI lw), zi G n1 6 fnm, zi G n2 4 fso, zi G n3 4 fmi, zi G n4 4 fpa, zi G n5 6 fki, zi G n6 6 fmo, zi G n7 6 fsz, zi G n8 6 frd, zo0 th tt t1 t2 t3 t4 t5 t6 t7 t8 tj tb tl, zi G t1 6 unm, zi G t2 4 uso, zi G t3 4 umi, zi G t4 4 upa, zi G t5 6 uki, zi G t6 6 umo, zi G t7 6 usz, zi G t8 6 urd, zo0 kp tt k1 k2 k3 k4 k5 k6 k7 k8 (nI kj) (nI kb) (nI kl), zi G k1 6 gnm, zi G k2 4 gso, zi G k3 4 gmi, zi G k4 4 gpa, zi G k5 6 gki, zi G k6 6 gmo, zi G k7 6 gsz, zi G k8 6 grd, zr G qn 4 fn, zi G r0 40 fs0, zi G r1 40 fs1, zi G r2 40 fs2, zi G r3 40 fs3, zi G qo 4 fqo, zi G ql 4 (nF fql), zo4 tu tw tr, zr G tw 6 fw, zi G w0 6 fw0, zi G w1 6 fw1, zi G w2 6 fw2, zi G w3 6 fw3, zi G w4 6 fw4, zi G w5 6 fw5, zi G tr 64 ftr, zo6 mo (nI Npb) Akd Amo Ast (nI Njg) Aro Atp (nI Ntd) Acd Asr (nI Ntx) (nI Nru) Zhi Air Aih Ass Asq Ace Alw Z19 Z20 Z21 Z22 Awo Ahe Z25 Z26 Z27 Ask Ana Akp Z31 Z32 Z33 Z34 Agb Ago Afa Aga Z39 Z40 Avo, zi G Akd 6 Fkd, zi G Amo 6 Fmo, zi G Ast 12 Fst, zi G Aro 12 Fro, zi G Atp 160 Ftp, zi G Acd 1200 Fcd, zi G Asr 24 (nF Fsr), zi G Air 24 Fir, zi G Aih 3 Fih, zi G Ass 4 Fss, zi G Asq 4 (nF Fsq), zi G Ace 160 Fce, zi G Alw 40 Flw, zi G Awo 96 Fwo, zi G Ahe 200 Fhe, zi G Ask 200 Fsk, zi G Ana 6 Fna, zi G Akp 24 Fkp, zb G Agb 61 Fgb, zb G Ago 61 Fgo, zi G Afa 36 Ffa, zi G Aga 36 Fga, zi G Avo 64 Fvo, zo5 xo tt rd nw th kp sh tu him, zo2 sh qn qo ql] H := gJoin hP hD hk1 hFc hP1 hD1 [0, 46] [1, 2, 3, 4, 5, 6, 7, 8, 9, 10, 11, 12, 13, 14, 15, 16, 17, 18, 19, 20, 21, 22, 23, 24, 25, 26, 27, 28, 29, 30, 31, 32, 33, 34, 35, 36, 37, 38, 39, 40, 41, 42, 43, 44, 45, 47, 48, 49, 50, 51, 52, 53, 54, 55, 56, 57, 58, 59, 60, 61, 62, 63, 64, 65, 66, 67, 68, 69, 70, 71, 72, 73, 74, 75, 76, 77, 78, 79, 80, 81, 82, 83, 84, 85, 86] rfl rfl rfl (by decide +kernel) (by decide +kernel)
  have hP := hz9.1
  have hD := hz9.2
  subst w_6
  refine lv_pop hx hb dL_law_1153 rfl ?_
  refine lv_aload_n hx hb dL_law_1154 rfl (lv_at hl 1 rfl) ?_
  refine lv_aload_n hx hb dL_law_1155 rfl (lv_at hl 3 rfl) ?_
  refine lv_iload_n hx hb dL_law_1156 rfl (lv_at hl 0 rfl) ?_
  refine lv_iconst (v := 1) hx hb dL_law_1157 (by decide +kernel) ?_
  refine lv_iadd hx hb dL_law_1158 ?_
  refine lv_topi (fun v_7 ev_7 => ?_)
  have ev_7 : v_7 = nI ((7 * i7) + 1) := ev_7.trans (nI_add (7 * i7) 1)
  subst ev_7
  refine va_sld hx hb hX hbl hbA hS (i := nI ((7 * i7) + 1)) (vp_in_nI (by omega) (by omega)) dL_law_1159 ?_
  refine lv_topi (fun v_8 ev_8 => ?_)
  have ev_8 : v1 = v_8 := (ev_8.trans (by rw [nI_clamp (by omega)]; exact hv1.symm)).symm
  subst ev_8
  refine lv_aload_n hx hb dL_law_1160 rfl (lv_at hl 3 rfl) ?_
  refine lv_iload_n hx hb dL_law_1161 rfl (lv_at hl 0 rfl) ?_
  refine lv_iconst (v := 2) hx hb dL_law_1162 (by decide +kernel) ?_
  refine lv_iadd hx hb dL_law_1163 ?_
  refine lv_topi (fun v_9 ev_9 => ?_)
  have ev_9 : v_9 = nI ((7 * i7) + 2) := ev_9.trans (nI_add (7 * i7) 2)
  subst ev_9
  refine va_sld hx hb hX hbl hbA hS (i := nI ((7 * i7) + 2)) (vp_in_nI (by omega) (by omega)) dL_law_1164 ?_
  refine lv_topi (fun v_10 ev_10 => ?_)
  have ev_10 : v2 = v_10 := (ev_10.trans (by rw [nI_clamp (by omega)]; exact hv2.symm)).symm
  subst ev_10
  have hz9 : gPD G A [zo6 mo (nI Npb) Akd Amo Ast (nI Njg) Aro Atp (nI Ntd) Acd Asr (nI Ntx) (nI Nru) Zhi Air Aih Ass Asq Ace Alw Z19 Z20 Z21 Z22 Awo Ahe Z25 Z26 Z27 Ask Ana Akp Z31 Z32 Z33 Z34 Agb Ago Afa Aga Z39 Z40 Avo, zi G Ast 12 Fst, zi G Aro 12 Fro, zi G Amo 6 Fmo, zi G Akd 6 Fkd, zi G Acd 1200 Fcd, zi G Asr 24 (nF Fsr), zi G Ask 200 Fsk, zi G Ana 6 Fna, zi G Akp 24 Fkp, zi G Asq 4 (nF Fsq), zi G Ace 160 Fce, zi G Ass 4 Fss] H := ⟨hP.sub [61, 64, 65, 63, 62, 67, 68, 77, 78, 79, 72, 73, 71] rfl, hD.sub [61, 64, 65, 63, 62, 67, 68, 77, 78, 79, 72, 73, 71] (by decide +kernel) rfl⟩
  have hPc := hz9.1
  have hDc := hz9.2
  have hFc := gFree hPc hD hS hA [61, 64, 65, 63, 62, 67, 68, 77, 78, 79, 72, 73, 71] rfl
  refine va_calli (va_runV (As := [.int v1, .int v2]) (rest := []) ⟨hx, hb, hml, hown, hts⟩ (c_X6_laws l G mo Akd Amo Ast Aro Atp Acd Asr Air Aih Ass Asq Ace Alw Awo Ahe Ask Ana Akp Agb Ago Afa Aga Avo Npb Njg Ntd Ntx Nru Zhi Z19 Z20 Z21 Z22 Z25 Z26 Z27 Z31 Z32 Z33 Z34 Z39 Z40 Fst Fro Fmo Fkd Fcd Fsr Fsk Fna Fkp Fsq Fce Fss v1 v2 H.size (by first | exact hsq | assumption | omega) (by first | exact hwa | assumption | omega) (by first | exact hpb | assumption | omega) (by first | exact hjg | assumption | omega) (by first | exact htx | assumption | omega) (by first | exact hru | assumption | omega)) (cwV 2 hts gL_law_X6_laws rfl rfl rfl (by decide +kernel) ⟨Nat.le_of_ble_eq_true rfl, Nat.le_of_ble_eq_true rfl⟩) ⟨gPre_blind, va_recv hK hPc (ci := 6) (q0 := 0) rfl rfl, fun U hU hW => gPre_of hU hW hK hPc hDc⟩ rfl rfl hl.1 rfl (lv_room (Nat.le_of_ble_eq_true rfl)) dL_law_1165 ⟨Nat.le_of_ble_eq_true rfl, Nat.le_of_ble_eq_true rfl⟩) hS (fun q _ h => hFc q h) hFc (fun r_11 u t H locs ht hvm w_12 hB hz1 hk1 hS => ?_)
  obtain ⟨ysk_13, yna_14, ykp_15⟩ := u
  obtain ⟨hP1, hK1, hD1⟩ := hB
  rw [ht] at hP1
  have hz9 : gPD G (va_A _ _) [zo6 mo (nI Npb) Akd Amo Ast (nI Njg) Aro Atp (nI Ntd) Acd Asr (nI Ntx) (nI Nru) Zhi Air Aih Ass Asq Ace Alw Z19 Z20 Z21 Z22 Awo Ahe Z25 Z26 Z27 Ask Ana Akp Z31 Z32 Z33 Z34 Agb Ago Afa Aga Z39 Z40 Avo, zi G Ast 12 Fst, zi G Aro 12 Fro, zi G Amo 6 Fmo, zi G Akd 6 Fkd, zi G Acd 1200 Fcd, zi G Asr 24 (nF Fsr), zi G Ask 200 ysk_13, zi G Ana 6 yna_14, zi G Akp 24 ykp_15, zi G Asq 4 (nF Fsq), zi G Ace 160 Fce, zi G Ass 4 Fss] H := ⟨hP1, hD1⟩
  have hP1 := hz9.1
  have hD1 := hz9.2
  have w_12 : r_11 = m_X6_laws Npb Njg Ntx Fst Fro Fmo Fkd Fcd Fsr Fsq Fce Fss v1 v2 := w_12
  have hz9 : gPD G A [zo1 rd tt b0 x2 x3 x4 x5 (nI td), zi G b0 160 fb, zo3 tt co en sk wr (nI tx), zr G co 6 fc, zi G c0 160 fcr0, zi G c1 160 fcr1, zi G c2 160 fcr2, zi G c3 160 fcr3, zi G c4 160 fcr4, zi G c5 160 fcr5, zr G en 6 fe, zi G e0 3 (nF fer0), zi G e1 3 (nF fer1), zi G e2 3 (nF fer2), zi G e3 3 (nF fer3), zi G e4 3 (nF fer4), zi G e5 3 (nF fer5), zi G sk 32 fsk, zo0 nw tt n1 n2 n3 n4 n5 n6 n7 n8 (nI jg) (nI pb) (nI lw), zi G n1 6 fnm, zi G n2 4 fso, zi G n3 4 fmi, zi G n4 4 fpa, zi G n5 6 fki, zi G n6 6 fmo, zi G n7 6 fsz, zi G n8 6 frd, zo0 th tt t1 t2 t3 t4 t5 t6 t7 t8 tj tb tl, zi G t1 6 unm, zi G t2 4 uso, zi G t3 4 umi, zi G t4 4 upa, zi G t5 6 uki, zi G t6 6 umo, zi G t7 6 usz, zi G t8 6 urd, zo0 kp tt k1 k2 k3 k4 k5 k6 k7 k8 (nI kj) (nI kb) (nI kl), zi G k1 6 gnm, zi G k2 4 gso, zi G k3 4 gmi, zi G k4 4 gpa, zi G k5 6 gki, zi G k6 6 gmo, zi G k7 6 gsz, zi G k8 6 grd, zr G qn 4 fn, zi G r0 40 fs0, zi G r1 40 fs1, zi G r2 40 fs2, zi G r3 40 fs3, zi G qo 4 fqo, zi G ql 4 (nF fql), zo4 tu tw tr, zr G tw 6 fw, zi G w0 6 fw0, zi G w1 6 fw1, zi G w2 6 fw2, zi G w3 6 fw3, zi G w4 6 fw4, zi G w5 6 fw5, zi G tr 64 ftr, zi G Atp 160 Ftp, zi G Air 24 Fir, zi G Aih 3 Fih, zi G Alw 40 Flw, zi G Awo 96 Fwo, zi G Ahe 200 Fhe, zb G Agb 61 Fgb, zb G Ago 61 Fgo, zi G Afa 36 Ffa, zi G Aga 36 Fga, zi G Avo 64 Fvo, zo5 xo tt rd nw th kp sh tu him, zo2 sh qn qo ql, zo6 mo (nI Npb) Akd Amo Ast (nI Njg) Aro Atp (nI Ntd) Acd Asr (nI Ntx) (nI Nru) Zhi Air Aih Ass Asq Ace Alw Z19 Z20 Z21 Z22 Awo Ahe Z25 Z26 Z27 Ask Ana Akp Z31 Z32 Z33 Z34 Agb Ago Afa Aga Z39 Z40 Avo, zi G Ast 12 Fst, zi G Aro 12 Fro, zi G Amo 6 Fmo, zi G Akd 6 Fkd, zi G Acd 1200 Fcd, zi G Asr 24 (nF Fsr), zi G Ask 200 ysk_13, zi G Ana 6 yna_14, zi G Akp 24 ykp_15, zi G Asq 4 (nF Fsq), zi G Ace 160 Fce, zi G Ass 4 Fss] H := gJoin hP hD hk1 hFc hP1 hD1 [61, 64, 65, 63, 62, 67, 68, 77, 78, 79, 72, 73, 71] [0, 1, 2, 3, 4, 5, 6, 7, 8, 9, 10, 11, 12, 13, 14, 15, 16, 17, 18, 19, 20, 21, 22, 23, 24, 25, 26, 27, 28, 29, 30, 31, 32, 33, 34, 35, 36, 37, 38, 39, 40, 41, 42, 43, 44, 45, 46, 47, 48, 49, 50, 51, 52, 53, 54, 55, 56, 57, 58, 59, 60, 66, 69, 70, 74, 75, 76, 80, 81, 82, 83, 84, 85, 86] rfl rfl rfl (by decide +kernel) (by decide +kernel)
  have hP := hz9.1
  have hD := hz9.2
  subst w_12
  refine lv_pop hx hb dL_law_1168 rfl ?_
  refine lv_goto (tgt := 1614) hx hb dL_law_1169 (by decide +kernel) ?_
  refine lv_iinc (v := nI (7 * (i7 + 1))) (lv' := [zI 3 (nI (7 * (i7 + 1))), zR 2 mo, zR 1 xo, zR 0 b]) hx hb dL_law_1614 hl (k := 0) rfl (by show nI (7 * i7) + 7 = nI (7 * (i7 + 1)); exact nI_add (7 * i7) 7) (by decide +kernel) rfl (fun ls hl => ?_)
  refine lv_goto (tgt := 18) hx hb dL_law_1617 (by decide +kernel) ?_
  exact K him x2 x3 x4 x5 td fb wr fsk jg pb lw fnm fso fmi fpa fki fmo fsz frd tj tb tl unm uso umi upa uki umo usz urd kj kb kl gnm gso gmi gpa gki gmo gsz grd fs0 fs1 fs2 fs3 fqo fql fw0 fw1 fw2 fw3 fw4 fw5 ftr Npb Njg Ntd Ntx Nru Zhi Z19 Z20 Z21 Z22 Z25 Z26 Z27 Z31 Z32 Z33 Z34 Z39 Z40 Fkd Fmo Fst Fro Ftp Fcd Fsr Fir Fih Fss Fsq Fce Flw Fwo Fhe ysk_13 yna_14 ykp_15 Fgb Fgo Ffa Fga Fvo hFX hFM hRL hRQ H _ ls (hP.sub [72, 0, 1, 2, 3, 4, 5, 6, 7, 8, 9, 10, 11, 12, 13, 14, 15, 16, 17, 18, 19, 20, 21, 22, 23, 24, 25, 26, 27, 28, 29, 30, 31, 32, 33, 34, 35, 36, 37, 38, 39, 40, 41, 42, 43, 44, 73, 45, 46, 47, 48, 49, 50, 51, 52, 53, 54, 55, 56, 57, 58, 59, 60, 74, 78, 77, 75, 76, 61, 79, 80, 62, 63, 86, 84, 85, 64, 65, 66, 81, 82, 83, 67, 68, 69, 70, 71] rfl) (hD.sub [72, 0, 1, 2, 3, 4, 5, 6, 7, 8, 9, 10, 11, 12, 13, 14, 15, 16, 17, 18, 19, 20, 21, 22, 23, 24, 25, 26, 27, 28, 29, 30, 31, 32, 33, 34, 35, 36, 37, 38, 39, 40, 41, 42, 43, 44, 73, 45, 46, 47, 48, 49, 50, 51, 52, 53, 54, 55, 56, 57, 58, 59, 60, 74, 78, 77, 75, 76, 61, 79, 80, 62, 63, 86, 84, 85, 64, 65, 66, 81, 82, 83, 67, 68, 69, 70, 71] (by decide +kernel) rfl) hS (lv_sub hl [0, 1, 2, 3] rfl)
set_option maxHeartbeats 4000000 in
set_option maxRecDepth 100000 in
theorem lc_film_A {p : Program} {l : Launch} {e : Env} {s : State} {m : MethodId} {below : List Frame} {meth : Method} {c : Code} {b L : Nat} {xs : Nat → Int32} {G : gG} {E : gS} {A : Nat → Prop} (C0 : lw_At p s m meth c b L xs) (hE : gE E A s s.heap) (hK : gK G s) (hAe : A = fun q => s.heap.size ≤ q) {xo tt rd nw th kp sh tu b0 co en sk c0 c1 c2 c3 c4 c5 e0 e1 e2 e3 e4 e5 n1 n2 n3 n4 n5 n6 n7 n8 t1 t2 t3 t4 t5 t6 t7 t8 k1 k2 k3 k4 k5 k6 k7 k8 qn qo ql r0 r1 r2 r3 tw tr w0 w1 w2 w3 w4 w5 mo Akd Amo Ast Aro Atp Acd Asr Air Aih Ass Asq Ace Alw Awo Ahe Ask Ana Akp Agb Ago Afa Aga Avo : Nat} {fc fe fn fw : Nat → Option Nat} {tx : Nat} {fcr0 fcr1 fcr2 fcr3 fcr4 fcr5 : Nat → Int32} {fer0 fer1 fer2 fer3 fer4 fer5 : Nat → Nat} {him x2 x3 x4 x5 : Int32} {td : Nat} {fb : Nat → Int32} {wr : Int32} {fsk : Nat → Int32} {jg pb lw : Nat} {fnm fso fmi fpa fki fmo fsz frd : Nat → Int32} {tj tb tl : Int32} {unm uso umi upa uki umo usz urd : Nat → Int32} {kj kb kl : Nat} {gnm gso gmi gpa gki gmo gsz grd fs0 fs1 fs2 fs3 fqo : Nat → Int32} {fql : Nat → Nat} {fw0 fw1 fw2 fw3 fw4 fw5 ftr : Nat → Int32} {Npb Njg Ntd Ntx Nru : Nat} {Zhi Z19 Z20 Z21 Z22 Z25 Z26 Z27 Z31 Z32 Z33 Z34 Z39 Z40 : Int32} {Fkd Fmo Fst Fro Ftp Fcd : Nat → Int32} {Fsr : Nat → Nat} {Fir Fih Fss : Nat → Int32} {Fsq : Nat → Nat} {Fce Flw Fwo Fhe Fsk Fna Fkp Fgb Fgo Ffa Fga Fvo : Nat → Int32} {sn : Nat} {v2 v3 v4 v5 v6 : Int32} {i7 : Nat} (hi : 7 * i7 + 7 ≤ L) (hL : L ≤ 3584) (hv1 : (nI sn) = xs (7 * i7 + 1)) (hv2 : v2 = xs (7 * i7 + 2)) (hv3 : v3 = xs (7 * i7 + 3)) (hv4 : v4 = xs (7 * i7 + 4)) (hv5 : v5 = xs (7 * i7 + 5)) (hv6 : v6 = xs (7 * i7 + 6)) (hsn : sn < 4) (hrw : fn sn = some r0) (hc : fc lw = some c0) (he : fe lw = some e0) (hwx : mWx fcr0 fer0) (K : LawV p l e s m below meth c b G A xo tt rd nw th kp sh tu b0 co en sk c0 c1 c2 c3 c4 c5 e0 e1 e2 e3 e4 e5 n1 n2 n3 n4 n5 n6 n7 n8 t1 t2 t3 t4 t5 t6 t7 t8 k1 k2 k3 k4 k5 k6 k7 k8 qn qo ql r0 r1 r2 r3 tw tr w0 w1 w2 w3 w4 w5 mo Akd Amo Ast Aro Atp Acd Asr Air Aih Ass Asq Ace Alw Awo Ahe Ask Ana Akp Agb Ago Afa Aga Avo fc fe fn fw tx fcr0 fcr1 fcr2 fcr3 fcr4 fcr5 fer0 fer1 fer2 fer3 fer4 fer5 (i7 + 1)) (hFX : FXP jg pb lw kj kb kl tx td him fql) (hFM : FMP Npb Njg Ntd Ntx Nru Zhi Fcd Fsr Fsq Fir Fih) (hRL : RLP False fn r0 r1 r2 r3 jg pb kj kb him fs0 fs1 fs2 fs3 fqo fql Npb Njg Zhi Fss Fsq Fce Fih) (hRQ : RQP fc c0 c1 c2 c3 c4 c5 fcr0 fcr1 fcr2 fcr3 fcr4 fcr5 fer0 fer1 fer2 fer3 fer4 fer5 pb lw tx td kb kl him fb fso fmi fpa fki fmo fsz frd gso gmi gpa gki gmo gsz grd Nru Ntx Ntd Fkd Fmo Fst Fro Ftp Fcd Fsr Fir Fih Fwo) {H : Heap} {locs : List Loc} (hP : va_P G.1 vwCl (WLd G xo tt rd nw th kp sh tu b0 co en sk c0 c1 c2 c3 c4 c5 e0 e1 e2 e3 e4 e5 n1 n2 n3 n4 n5 n6 n7 n8 t1 t2 t3 t4 t5 t6 t7 t8 k1 k2 k3 k4 k5 k6 k7 k8 qn qo ql r0 r1 r2 r3 tw tr w0 w1 w2 w3 w4 w5 mo Akd Amo Ast Aro Atp Acd Asr Air Aih Ass Asq Ace Alw Awo Ahe Ask Ana Akp Agb Ago Afa Aga Avo fc fe fn fw tx fcr0 fcr1 fcr2 fcr3 fcr4 fcr5 fer0 fer1 fer2 fer3 fer4 fer5 him x2 x3 x4 x5 td fb wr fsk jg pb lw fnm fso fmi fpa fki fmo fsz frd tj tb tl unm uso umi upa uki umo usz urd kj kb kl gnm gso gmi gpa gki gmo gsz grd fs0 fs1 fs2 fs3 fqo fql fw0 fw1 fw2 fw3 fw4 fw5 ftr Npb Njg Ntd Ntx Nru Zhi Z19 Z20 Z21 Z22 Z25 Z26 Z27 Z31 Z32 Z33 Z34 Z39 Z40 Fkd Fmo Fst Fro Ftp Fcd Fsr Fir Fih Fss Fsq Fce Flw Fwo Fhe Fsk Fna Fkp Fgb Fgo Ffa Fga Fvo) H) (hD : va_D A (WLd G xo tt rd nw th kp sh tu b0 co en sk c0 c1 c2 c3 c4 c5 e0 e1 e2 e3 e4 e5 n1 n2 n3 n4 n5 n6 n7 n8 t1 t2 t3 t4 t5 t6 t7 t8 k1 k2 k3 k4 k5 k6 k7 k8 qn qo ql r0 r1 r2 r3 tw tr w0 w1 w2 w3 w4 w5 mo Akd Amo Ast Aro Atp Acd Asr Air Aih Ass Asq Ace Alw Awo Ahe Ask Ana Akp Agb Ago Afa Aga Avo fc fe fn fw tx fcr0 fcr1 fcr2 fcr3 fcr4 fcr5 fer0 fer1 fer2 fer3 fer4 fer5 him x2 x3 x4 x5 td fb wr fsk jg pb lw fnm fso fmi fpa fki fmo fsz frd tj tb tl unm uso umi upa uki umo usz urd kj kb kl gnm gso gmi gpa gki gmo gsz grd fs0 fs1 fs2 fs3 fqo fql fw0 fw1 fw2 fw3 fw4 fw5 ftr Npb Njg Ntd Ntx Nru Zhi Z19 Z20 Z21 Z22 Z25 Z26 Z27 Z31 Z32 Z33 Z34 Z39 Z40 Fkd Fmo Fst Fro Ftp Fcd Fsr Fir Fih Fss Fsq Fce Flw Fwo Fhe Fsk Fna Fkp Fgb Fgo Ffa Fga Fvo)) (hS : va_S A s.heap H locs) {ls : Array Slot} (hl : lv_has ls 4 [zI 3 (nI (7 * i7)), zR 2 mo, zR 1 xo, zR 0 b]) : W p l e room_1 s m #[Value.ref b] below meth c H locs 87 4128 (lw_Z below #[Value.ref b] s) (F0 m 1172 ls []) := by
  obtain ⟨hx, hb, hret, hml, hown, hts0, hX, hbl, hlocks, hgv⟩ := id C0
  have hts : ∀ w ∈ wsL_law, w.before #[Value.ref b] s = true := fun w h => hts0 w (wsL_law_in w h)
  have hown : s.vm.findClass RL = some m.cls := hown
  have hA : ∀ q : Nat, s.heap.size ≤ q → A q := fun q h => by rw [hAe]; exact h
  have hbA : ¬ A b := by rw [hAe]; exact Nat.not_le.mpr hbl
  obtain ⟨⟨hjg, hpb, hlw, htx, htd⟩, hkk, hql⟩ := id hFX
  obtain ⟨⟨hNpb, hNjg, hNru, hNtx, hNtd⟩, hwa, hsq, hIM⟩ := id hFM
  have hz9 : gPD G A [zo5 xo tt rd nw th kp sh tu him, zo1 rd tt b0 x2 x3 x4 x5 (nI td), zi G b0 160 fb, zo3 tt co en sk wr (nI tx), zr G co 6 fc, zi G c0 160 fcr0, zi G c1 160 fcr1, zi G c2 160 fcr2, zi G c3 160 fcr3, zi G c4 160 fcr4, zi G c5 160 fcr5, zr G en 6 fe, zi G e0 3 (nF fer0), zi G e1 3 (nF fer1), zi G e2 3 (nF fer2), zi G e3 3 (nF fer3), zi G e4 3 (nF fer4), zi G e5 3 (nF fer5), zi G sk 32 fsk, zo0 nw tt n1 n2 n3 n4 n5 n6 n7 n8 (nI jg) (nI pb) (nI lw), zi G n1 6 fnm, zi G n2 4 fso, zi G n3 4 fmi, zi G n4 4 fpa, zi G n5 6 fki, zi G n6 6 fmo, zi G n7 6 fsz, zi G n8 6 frd, zo0 th tt t1 t2 t3 t4 t5 t6 t7 t8 tj tb tl, zi G t1 6 unm, zi G t2 4 uso, zi G t3 4 umi, zi G t4 4 upa, zi G t5 6 uki, zi G t6 6 umo, zi G t7 6 usz, zi G t8 6 urd, zo0 kp tt k1 k2 k3 k4 k5 k6 k7 k8 (nI kj) (nI kb) (nI kl), zi G k1 6 gnm, zi G k2 4 gso, zi G k3 4 gmi, zi G k4 4 gpa, zi G k5 6 gki, zi G k6 6 gmo, zi G k7 6 gsz, zi G k8 6 grd, zo2 sh qn qo ql, zr G qn 4 fn, zi G r0 40 fs0, zi G r1 40 fs1, zi G r2 40 fs2, zi G r3 40 fs3, zi G qo 4 fqo, zi G ql 4 (nF fql), zo4 tu tw tr, zr G tw 6 fw, zi G w0 6 fw0, zi G w1 6 fw1, zi G w2 6 fw2, zi G w3 6 fw3, zi G w4 6 fw4, zi G w5 6 fw5, zi G tr 64 ftr, zo6 mo (nI Npb) Akd Amo Ast (nI Njg) Aro Atp (nI Ntd) Acd Asr (nI Ntx) (nI Nru) Zhi Air Aih Ass Asq Ace Alw Z19 Z20 Z21 Z22 Awo Ahe Z25 Z26 Z27 Ask Ana Akp Z31 Z32 Z33 Z34 Agb Ago Afa Aga Z39 Z40 Avo, zi G Akd 6 Fkd, zi G Amo 6 Fmo, zi G Ast 12 Fst, zi G Aro 12 Fro, zi G Atp 160 Ftp, zi G Acd 1200 Fcd, zi G Asr 24 (nF Fsr), zi G Air 24 Fir, zi G Aih 3 Fih, zi G Ass 4 Fss, zi G Asq 4 (nF Fsq), zi G Ace 160 Fce, zi G Alw 40 Flw, zi G Awo 96 Fwo, zi G Ahe 200 Fhe, zi G Ask 200 Fsk, zi G Ana 6 Fna, zi G Akp 24 Fkp, zb G Agb 61 Fgb, zb G Ago 61 Fgo, zi G Afa 36 Ffa, zi G Aga 36 Fga, zi G Avo 64 Fvo] H := ⟨hP, hD⟩
  have hP := hz9.1
  have hD := hz9.2
  have n01 : r0 ≠ r1 := fun z => absurd (hD.1 48 49 _ _ rfl rfl z) (by decide +kernel)
  have n02 : r0 ≠ r2 := fun z => absurd (hD.1 48 50 _ _ rfl rfl z) (by decide +kernel)
  have n03 : r0 ≠ r3 := fun z => absurd (hD.1 48 51 _ _ rfl rfl z) (by decide +kernel)
  refine lv_aload_n hx hb dL_law_1172 rfl (lv_at hl 2 rfl) ?_
  refine lv_aload_n hx hb dL_law_1173 rfl (lv_at hl 3 rfl) ?_
  refine lv_iload_n hx hb dL_law_1174 rfl (lv_at hl 0 rfl) ?_
  refine lv_iconst (v := 1) hx hb dL_law_1175 (by decide +kernel) ?_
  refine lv_iadd hx hb dL_law_1176 ?_
  refine lv_topi (fun v_1 ev_1 => ?_)
  have ev_1 : v_1 = nI ((7 * i7) + 1) := ev_1.trans (nI_add (7 * i7) 1)
  subst ev_1
  refine va_sld hx hb hX hbl hbA hS (i := nI ((7 * i7) + 1)) (vp_in_nI (by omega) (by omega)) dL_law_1177 ?_
  refine lv_topi (fun v_2 ev_2 => ?_)
  have ev_2 : (nI sn) = v_2 := (ev_2.trans (by rw [nI_clamp (by omega)]; exact hv1.symm)).symm
  subst ev_2
  refine lv_aload_n hx hb dL_law_1178 rfl (lv_at hl 3 rfl) ?_
  refine lv_iload_n hx hb dL_law_1179 rfl (lv_at hl 0 rfl) ?_
  refine lv_iconst (v := 2) hx hb dL_law_1180 (by decide +kernel) ?_
  refine lv_iadd hx hb dL_law_1181 ?_
  refine lv_topi (fun v_3 ev_3 => ?_)
  have ev_3 : v_3 = nI ((7 * i7) + 2) := ev_3.trans (nI_add (7 * i7) 2)
  subst ev_3
  refine va_sld hx hb hX hbl hbA hS (i := nI ((7 * i7) + 2)) (vp_in_nI (by omega) (by omega)) dL_law_1182 ?_
  refine lv_topi (fun v_4 ev_4 => ?_)
  have ev_4 : v2 = v_4 := (ev_4.trans (by rw [nI_clamp (by omega)]; exact hv2.symm)).symm
  subst ev_4
  refine lv_aload_n hx hb dL_law_1183 rfl (lv_at hl 3 rfl) ?_
  refine lv_iload_n hx hb dL_law_1184 rfl (lv_at hl 0 rfl) ?_
  refine lv_iconst (v := 3) hx hb dL_law_1185 (by decide +kernel) ?_
  refine lv_iadd hx hb dL_law_1186 ?_
  refine lv_topi (fun v_5 ev_5 => ?_)
  have ev_5 : v_5 = nI ((7 * i7) + 3) := ev_5.trans (nI_add (7 * i7) 3)
  subst ev_5
  refine va_sld hx hb hX hbl hbA hS (i := nI ((7 * i7) + 3)) (vp_in_nI (by omega) (by omega)) dL_law_1187 ?_
  refine lv_topi (fun v_6 ev_6 => ?_)
  have ev_6 : v3 = v_6 := (ev_6.trans (by rw [nI_clamp (by omega)]; exact hv3.symm)).symm
  subst ev_6
  have hz9 : gPD G A [zo5 xo tt rd nw th kp sh tu him, zo0 nw tt n1 n2 n3 n4 n5 n6 n7 n8 (nI jg) (nI pb) (nI lw), zi G n2 4 fso, zi G n3 4 fmi, zi G n4 4 fpa, zi G n5 6 fki, zi G n6 6 fmo, zi G n7 6 fsz, zi G n8 6 frd, zo0 th tt t1 t2 t3 t4 t5 t6 t7 t8 tj tb tl, zi G t1 6 unm, zi G t2 4 uso, zi G t3 4 umi, zi G t4 4 upa, zi G t5 6 uki, zi G t6 6 umo, zi G t7 6 usz, zi G t8 6 urd, zo3 tt co en sk wr (nI tx), zr G co 6 fc, zr G en 6 fe, zi G c0 160 fcr0, zi G e0 3 (nF fer0), zi G sk 32 fsk, zo2 sh qn qo ql, zr G qn 4 fn, zi G qo 4 fqo, zi G ql 4 (nF fql), zi G r0 40 fs0] H := ⟨hP.sub [0, 19, 21, 22, 23, 24, 25, 26, 27, 28, 29, 30, 31, 32, 33, 34, 35, 36, 3, 4, 11, 5, 12, 18, 46, 47, 52, 53, 48] rfl, hD.sub [0, 19, 21, 22, 23, 24, 25, 26, 27, 28, 29, 30, 31, 32, 33, 34, 35, 36, 3, 4, 11, 5, 12, 18, 46, 47, 52, 53, 48] (by decide +kernel) rfl⟩
  have hPc := hz9.1
  have hDc := hz9.2
  have hFc := gFree hPc hD hS hA [0, 19, 21, 22, 23, 24, 25, 26, 27, 28, 29, 30, 31, 32, 33, 34, 35, 36, 3, 4, 11, 5, 12, 18, 46, 47, 52, 53, 48] rfl
  refine va_calli (va_runV (As := [.int (nI sn), .int v2, .int v3]) (rest := []) ⟨hx, hb, hml, hown, hts⟩ (c_X5_film_A l G E xo tt rd nw th kp sh tu n1 n2 n3 n4 n5 n6 n7 n8 t1 t2 t3 t4 t5 t6 t7 t8 co en sk c0 e0 qn qo ql r0 jg pb lw tx him wr tj tb tl fc fe fn fer0 fql fso fmi fpa fki fmo fsz frd unm uso umi upa uki umo usz urd fcr0 fsk fqo fs0 sn v2 v3 H.size (by first | exact hsn | assumption | omega) (by first | exact hrw | assumption | omega) (by first | exact hql | assumption | omega) (by first | exact htn | assumption | omega) (by first | exact hc | assumption | omega) (by first | exact he | assumption | omega) (by first | exact hwx | assumption | omega) (by first | exact hjg | assumption | omega) (by first | exact hpb | assumption | omega)) (cwV 3 hts gL_law_X5_film rfl rfl rfl (by decide +kernel) ⟨Nat.le_of_ble_eq_true rfl, Nat.le_of_ble_eq_true rfl⟩) ⟨gPreE_blind, va_recv hK hPc (ci := 5) (q0 := 0) rfl rfl, fun U hU hW => gPreE_of hU hW hK hPc hDc hE hS hFc⟩ rfl rfl hl.1 rfl (lv_room (Nat.le_of_ble_eq_true rfl)) dL_law_1188 ⟨Nat.le_of_ble_eq_true rfl, Nat.le_of_ble_eq_true rfl⟩) hS (fun q _ h => hFc q h) hFc (fun r_7 u t H locs ht hvm w_8 hB hz1 hk1 hS => ?_)
  obtain ⟨zj9_9, zb9_10, zl9_11, yt1_12, yt2_13, yt3_14, yt4_15, yt5_16, yt6_17, yt7_18, yt8_19, ysk_20⟩ := u
  obtain ⟨hP1, hK1, hD1⟩ := hB
  rw [ht] at hP1
  have hz9 : gPD G (va_A _ _) [zo5 xo tt rd nw th kp sh tu him, zo0 nw tt n1 n2 n3 n4 n5 n6 n7 n8 (nI jg) (nI pb) (nI lw), zi G n2 4 fso, zi G n3 4 fmi, zi G n4 4 fpa, zi G n5 6 fki, zi G n6 6 fmo, zi G n7 6 fsz, zi G n8 6 frd, zo0 th tt t1 t2 t3 t4 t5 t6 t7 t8 zj9_9 zb9_10 zl9_11, zi G t1 6 yt1_12, zi G t2 4 yt2_13, zi G t3 4 yt3_14, zi G t4 4 yt4_15, zi G t5 6 yt5_16, zi G t6 6 yt6_17, zi G t7 6 yt7_18, zi G t8 6 yt8_19, zo3 tt co en sk wr (nI tx), zr G co 6 fc, zr G en 6 fe, zi G c0 160 fcr0, zi G e0 3 (nF fer0), zi G sk 32 ysk_20, zo2 sh qn qo ql, zr G qn 4 fn, zi G qo 4 (m_X5_film_A_qo jg fqo sn v2 v3), zi G ql 4 (nF (m_X5_film_A_ql jg pb fql sn v2 v3)), zi G r0 40 (m_X5_film_A_rr jg pb fer0 fso fmi fpa fki fmo fsz frd fcr0 fqo fs0 sn v2 v3)] H := ⟨hP1, hD1⟩
  have hP1 := hz9.1
  have hD1 := hz9.2
  have w_8 : r_7 = m_X5_film_A jg pb fer0 fso fmi fpa fki fmo fsz frd fcr0 fqo sn v2 v3 := w_8
  have hz9 : gPD G A [zo1 rd tt b0 x2 x3 x4 x5 (nI td), zi G b0 160 fb, zi G c1 160 fcr1, zi G c2 160 fcr2, zi G c3 160 fcr3, zi G c4 160 fcr4, zi G c5 160 fcr5, zi G e1 3 (nF fer1), zi G e2 3 (nF fer2), zi G e3 3 (nF fer3), zi G e4 3 (nF fer4), zi G e5 3 (nF fer5), zi G n1 6 fnm, zo0 kp tt k1 k2 k3 k4 k5 k6 k7 k8 (nI kj) (nI kb) (nI kl), zi G k1 6 gnm, zi G k2 4 gso, zi G k3 4 gmi, zi G k4 4 gpa, zi G k5 6 gki, zi G k6 6 gmo, zi G k7 6 gsz, zi G k8 6 grd, zi G r1 40 fs1, zi G r2 40 fs2, zi G r3 40 fs3, zo4 tu tw tr, zr G tw 6 fw, zi G w0 6 fw0, zi G w1 6 fw1, zi G w2 6 fw2, zi G w3 6 fw3, zi G w4 6 fw4, zi G w5 6 fw5, zi G tr 64 ftr, zo6 mo (nI Npb) Akd Amo Ast (nI Njg) Aro Atp (nI Ntd) Acd Asr (nI Ntx) (nI Nru) Zhi Air Aih Ass Asq Ace Alw Z19 Z20 Z21 Z22 Awo Ahe Z25 Z26 Z27 Ask Ana Akp Z31 Z32 Z33 Z34 Agb Ago Afa Aga Z39 Z40 Avo, zi G Akd 6 Fkd, zi G Amo 6 Fmo, zi G Ast 12 Fst, zi G Aro 12 Fro, zi G Atp 160 Ftp, zi G Acd 1200 Fcd, zi G Asr 24 (nF Fsr), zi G Air 24 Fir, zi G Aih 3 Fih, zi G Ass 4 Fss, zi G Asq 4 (nF Fsq), zi G Ace 160 Fce, zi G Alw 40 Flw, zi G Awo 96 Fwo, zi G Ahe 200 Fhe, zi G Ask 200 Fsk, zi G Ana 6 Fna, zi G Akp 24 Fkp, zb G Agb 61 Fgb, zb G Ago 61 Fgo, zi G Afa 36 Ffa, zi G Aga 36 Fga, zi G Avo 64 Fvo, zo5 xo tt rd nw th kp sh tu him, zo0 nw tt n1 n2 n3 n4 n5 n6 n7 n8 (nI jg) (nI pb) (nI lw), zi G n2 4 fso, zi G n3 4 fmi, zi G n4 4 fpa, zi G n5 6 fki, zi G n6 6 fmo, zi G n7 6 fsz, zi G n8 6 frd, zo0 th tt t1 t2 t3 t4 t5 t6 t7 t8 zj9_9 zb9_10 zl9_11, zi G t1 6 yt1_12, zi G t2 4 yt2_13, zi G t3 4 yt3_14, zi G t4 4 yt4_15, zi G t5 6 yt5_16, zi G t6 6 yt6_17, zi G t7 6 yt7_18, zi G t8 6 yt8_19, zo3 tt co en sk wr (nI tx), zr G co 6 fc, zr G en 6 fe, zi G c0 160 fcr0, zi G e0 3 (nF fer0), zi G sk 32 ysk_20, zo2 sh qn qo ql, zr G qn 4 fn, zi G qo 4 (m_X5_film_A_qo jg fqo sn v2 v3), zi G ql 4 (nF (m_X5_film_A_ql jg pb fql sn v2 v3)), zi G r0 40 (m_X5_film_A_rr jg pb fer0 fso fmi fpa fki fmo fsz frd fcr0 fqo fs0 sn v2 v3)] H := gJoin hP hD hk1 hFc hP1 hD1 [0, 19, 21, 22, 23, 24, 25, 26, 27, 28, 29, 30, 31, 32, 33, 34, 35, 36, 3, 4, 11, 5, 12, 18, 46, 47, 52, 53, 48] [1, 2, 6, 7, 8, 9, 10, 13, 14, 15, 16, 17, 20, 37, 38, 39, 40, 41, 42, 43, 44, 45, 49, 50, 51, 54, 55, 56, 57, 58, 59, 60, 61, 62, 63, 64, 65, 66, 67, 68, 69, 70, 71, 72, 73, 74, 75, 76, 77, 78, 79, 80, 81, 82, 83, 84, 85, 86] rfl rfl rfl (by decide +kernel) (by decide +kernel)
  have hP := hz9.1
  have hD := hz9.2
  subst w_8
  refine lv_pop hx hb dL_law_1191 rfl ?_
  refine lv_aload_n hx hb dL_law_1192 rfl (lv_at hl 1 rfl) ?_
  refine lv_aload_n hx hb dL_law_1193 rfl (lv_at hl 3 rfl) ?_
  refine lv_iload_n hx hb dL_law_1194 rfl (lv_at hl 0 rfl) ?_
  refine lv_iconst (v := 1) hx hb dL_law_1195 (by decide +kernel) ?_
  refine lv_iadd hx hb dL_law_1196 ?_
  refine lv_topi (fun v_21 ev_21 => ?_)
  have ev_21 : v_21 = nI ((7 * i7) + 1) := ev_21.trans (nI_add (7 * i7) 1)
  subst ev_21
  refine va_sld hx hb hX hbl hbA hS (i := nI ((7 * i7) + 1)) (vp_in_nI (by omega) (by omega)) dL_law_1197 ?_
  refine lv_topi (fun v_22 ev_22 => ?_)
  have ev_22 : (nI sn) = v_22 := (ev_22.trans (by rw [nI_clamp (by omega)]; exact hv1.symm)).symm
  subst ev_22
  refine lv_aload_n hx hb dL_law_1198 rfl (lv_at hl 3 rfl) ?_
  refine lv_iload_n hx hb dL_law_1199 rfl (lv_at hl 0 rfl) ?_
  refine lv_iconst (v := 2) hx hb dL_law_1200 (by decide +kernel) ?_
  refine lv_iadd hx hb dL_law_1201 ?_
  refine lv_topi (fun v_23 ev_23 => ?_)
  have ev_23 : v_23 = nI ((7 * i7) + 2) := ev_23.trans (nI_add (7 * i7) 2)
  subst ev_23
  refine va_sld hx hb hX hbl hbA hS (i := nI ((7 * i7) + 2)) (vp_in_nI (by omega) (by omega)) dL_law_1202 ?_
  refine lv_topi (fun v_24 ev_24 => ?_)
  have ev_24 : v2 = v_24 := (ev_24.trans (by rw [nI_clamp (by omega)]; exact hv2.symm)).symm
  subst ev_24
  refine lv_aload_n hx hb dL_law_1203 rfl (lv_at hl 3 rfl) ?_
  refine lv_iload_n hx hb dL_law_1204 rfl (lv_at hl 0 rfl) ?_
  refine lv_iconst (v := 3) hx hb dL_law_1205 (by decide +kernel) ?_
  refine lv_iadd hx hb dL_law_1206 ?_
  refine lv_topi (fun v_25 ev_25 => ?_)
  have ev_25 : v_25 = nI ((7 * i7) + 3) := ev_25.trans (nI_add (7 * i7) 3)
  subst ev_25
  refine va_sld hx hb hX hbl hbA hS (i := nI ((7 * i7) + 3)) (vp_in_nI (by omega) (by omega)) dL_law_1207 ?_
  refine lv_topi (fun v_26 ev_26 => ?_)
  have ev_26 : v3 = v_26 := (ev_26.trans (by rw [nI_clamp (by omega)]; exact hv3.symm)).symm
  subst ev_26
  have hz9 : gPD G A [zo6 mo (nI Npb) Akd Amo Ast (nI Njg) Aro Atp (nI Ntd) Acd Asr (nI Ntx) (nI Nru) Zhi Air Aih Ass Asq Ace Alw Z19 Z20 Z21 Z22 Awo Ahe Z25 Z26 Z27 Ask Ana Akp Z31 Z32 Z33 Z34 Agb Ago Afa Aga Z39 Z40 Avo, zi G Ast 12 Fst, zi G Aro 12 Fro, zi G Amo 6 Fmo, zi G Akd 6 Fkd, zi G Acd 1200 Fcd, zi G Asr 24 (nF Fsr), zi G Ask 200 Fsk, zi G Ana 6 Fna, zi G Akp 24 Fkp, zi G Asq 4 (nF Fsq), zi G Ace 160 Fce, zi G Ass 4 Fss] H := ⟨hP.sub [34, 37, 38, 36, 35, 40, 41, 50, 51, 52, 45, 46, 44] rfl, hD.sub [34, 37, 38, 36, 35, 40, 41, 50, 51, 52, 45, 46, 44] (by decide +kernel) rfl⟩
  have hPc := hz9.1
  have hDc := hz9.2
  have hFc := gFree hPc hD hS hA [34, 37, 38, 36, 35, 40, 41, 50, 51, 52, 45, 46, 44] rfl
  refine va_calli (va_runV (As := [.int (nI sn), .int v2, .int v3]) (rest := []) ⟨hx, hb, hml, hown, hts⟩ (c_X6_film l G mo Akd Amo Ast Aro Atp Acd Asr Air Aih Ass Asq Ace Alw Awo Ahe Ask Ana Akp Agb Ago Afa Aga Avo Npb Njg Ntd Ntx Nru Zhi Z19 Z20 Z21 Z22 Z25 Z26 Z27 Z31 Z32 Z33 Z34 Z39 Z40 Fst Fro Fmo Fkd Fcd Fsr Fsk Fna Fkp Fsq Fce Fss (nI sn) v2 v3 H.size (by first | exact hsq | assumption | omega) (by first | exact hwa | assumption | omega) (by first | exact hpb | assumption | omega) (by first | exact hjg | assumption | omega) (by first | exact htx | assumption | omega) (by first | exact hru | assumption | omega)) (cwV 3 hts gL_law_X6_film rfl rfl rfl (by decide +kernel) ⟨Nat.le_of_ble_eq_true rfl, Nat.le_of_ble_eq_true rfl⟩) ⟨gPre_blind, va_recv hK hPc (ci := 6) (q0 := 0) rfl rfl, fun U hU hW => gPre_of hU hW hK hPc hDc⟩ rfl rfl hl.1 rfl (lv_room (Nat.le_of_ble_eq_true rfl)) dL_law_1208 ⟨Nat.le_of_ble_eq_true rfl, Nat.le_of_ble_eq_true rfl⟩) hS (fun q _ h => hFc q h) hFc (fun r_27 u t H locs ht hvm w_28 hB hz1 hk1 hS => ?_)
  obtain ⟨ysk_29, yna_30, ykp_31⟩ := u
  obtain ⟨hP1, hK1, hD1⟩ := hB
  rw [ht] at hP1
  have hz9 : gPD G (va_A _ _) [zo6 mo (nI Npb) Akd Amo Ast (nI Njg) Aro Atp (nI Ntd) Acd Asr (nI Ntx) (nI Nru) Zhi Air Aih Ass Asq Ace Alw Z19 Z20 Z21 Z22 Awo Ahe Z25 Z26 Z27 Ask Ana Akp Z31 Z32 Z33 Z34 Agb Ago Afa Aga Z39 Z40 Avo, zi G Ast 12 Fst, zi G Aro 12 Fro, zi G Amo 6 Fmo, zi G Akd 6 Fkd, zi G Acd 1200 Fcd, zi G Asr 24 (nF Fsr), zi G Ask 200 ysk_29, zi G Ana 6 yna_30, zi G Akp 24 ykp_31, zi G Asq 4 (nF (m_X6_film_sq Npb Njg Fsq (nI sn) v2 v3)), zi G Ace 160 (m_X6_film_ce Npb Njg Nru Fst Fro Fmo Fkd Fcd Fsr Fce (nI sn) v2 v3), zi G Ass 4 (m_X6_film_ss Njg Fss (nI sn) v2 v3)] H := ⟨hP1, hD1⟩
  have hP1 := hz9.1
  have hD1 := hz9.2
  have w_28 : r_27 = m_X6_film Npb Njg Nru Fst Fro Fmo Fkd Fcd Fsr Fce (nI sn) v2 v3 := w_28
  have hz9 : gPD G A [zo1 rd tt b0 x2 x3 x4 x5 (nI td), zi G b0 160 fb, zi G c1 160 fcr1, zi G c2 160 fcr2, zi G c3 160 fcr3, zi G c4 160 fcr4, zi G c5 160 fcr5, zi G e1 3 (nF fer1), zi G e2 3 (nF fer2), zi G e3 3 (nF fer3), zi G e4 3 (nF fer4), zi G e5 3 (nF fer5), zi G n1 6 fnm, zo0 kp tt k1 k2 k3 k4 k5 k6 k7 k8 (nI kj) (nI kb) (nI kl), zi G k1 6 gnm, zi G k2 4 gso, zi G k3 4 gmi, zi G k4 4 gpa, zi G k5 6 gki, zi G k6 6 gmo, zi G k7 6 gsz, zi G k8 6 grd, zi G r1 40 fs1, zi G r2 40 fs2, zi G r3 40 fs3, zo4 tu tw tr, zr G tw 6 fw, zi G w0 6 fw0, zi G w1 6 fw1, zi G w2 6 fw2, zi G w3 6 fw3, zi G w4 6 fw4, zi G w5 6 fw5, zi G tr 64 ftr, zi G Atp 160 Ftp, zi G Air 24 Fir, zi G Aih 3 Fih, zi G Alw 40 Flw, zi G Awo 96 Fwo, zi G Ahe 200 Fhe, zb G Agb 61 Fgb, zb G Ago 61 Fgo, zi G Afa 36 Ffa, zi G Aga 36 Fga, zi G Avo 64 Fvo, zo5 xo tt rd nw th kp sh tu him, zo0 nw tt n1 n2 n3 n4 n5 n6 n7 n8 (nI jg) (nI pb) (nI lw), zi G n2 4 fso, zi G n3 4 fmi, zi G n4 4 fpa, zi G n5 6 fki, zi G n6 6 fmo, zi G n7 6 fsz, zi G n8 6 frd, zo0 th tt t1 t2 t3 t4 t5 t6 t7 t8 zj9_9 zb9_10 zl9_11, zi G t1 6 yt1_12, zi G t2 4 yt2_13, zi G t3 4 yt3_14, zi G t4 4 yt4_15, zi G t5 6 yt5_16, zi G t6 6 yt6_17, zi G t7 6 yt7_18, zi G t8 6 yt8_19, zo3 tt co en sk wr (nI tx), zr G co 6 fc, zr G en 6 fe, zi G c0 160 fcr0, zi G e0 3 (nF fer0), zi G sk 32 ysk_20, zo2 sh qn qo ql, zr G qn 4 fn, zi G qo 4 (m_X5_film_A_qo jg fqo sn v2 v3), zi G ql 4 (nF (m_X5_film_A_ql jg pb fql sn v2 v3)), zi G r0 40 (m_X5_film_A_rr jg pb fer0 fso fmi fpa fki fmo fsz frd fcr0 fqo fs0 sn v2 v3), zo6 mo (nI Npb) Akd Amo Ast (nI Njg) Aro Atp (nI Ntd) Acd Asr (nI Ntx) (nI Nru) Zhi Air Aih Ass Asq Ace Alw Z19 Z20 Z21 Z22 Awo Ahe Z25 Z26 Z27 Ask Ana Akp Z31 Z32 Z33 Z34 Agb Ago Afa Aga Z39 Z40 Avo, zi G Ast 12 Fst, zi G Aro 12 Fro, zi G Amo 6 Fmo, zi G Akd 6 Fkd, zi G Acd 1200 Fcd, zi G Asr 24 (nF Fsr), zi G Ask 200 ysk_29, zi G Ana 6 yna_30, zi G Akp 24 ykp_31, zi G Asq 4 (nF (m_X6_film_sq Npb Njg Fsq (nI sn) v2 v3)), zi G Ace 160 (m_X6_film_ce Npb Njg Nru Fst Fro Fmo Fkd Fcd Fsr Fce (nI sn) v2 v3), zi G Ass 4 (m_X6_film_ss Njg Fss (nI sn) v2 v3)] H := gJoin hP hD hk1 hFc hP1 hD1 [34, 37, 38, 36, 35, 40, 41, 50, 51, 52, 45, 46, 44] [0, 1, 2, 3, 4, 5, 6, 7, 8, 9, 10, 11, 12, 13, 14, 15, 16, 17, 18, 19, 20, 21, 22, 23, 24, 25, 26, 27, 28, 29, 30, 31, 32, 33, 39, 42, 43, 47, 48, 49, 53, 54, 55, 56, 57, 58, 59, 60, 61, 62, 63, 64, 65, 66, 67, 68, 69, 70, 71, 72, 73, 74, 75, 76, 77, 78, 79, 80, 81, 82, 83, 84, 85, 86] rfl rfl rfl (by decide +kernel) (by decide +kernel)
  have hP := hz9.1
  have hD := hz9.2
  subst w_28
  refine lv_pop hx hb dL_law_1211 rfl ?_
  refine lv_goto (tgt := 1614) hx hb dL_law_1212 (by decide +kernel) ?_
  refine lv_iinc (v := nI (7 * (i7 + 1))) (lv' := [zI 3 (nI (7 * (i7 + 1))), zR 2 mo, zR 1 xo, zR 0 b]) hx hb dL_law_1614 hl (k := 0) rfl (by show nI (7 * i7) + 7 = nI (7 * (i7 + 1)); exact nI_add (7 * i7) 7) (by decide +kernel) rfl (fun ls hl => ?_)
  refine lv_goto (tgt := 18) hx hb dL_law_1617 (by decide +kernel) ?_
  exact K him x2 x3 x4 x5 td fb wr ysk_20 jg pb lw fnm fso fmi fpa fki fmo fsz frd zj9_9 zb9_10 zl9_11 yt1_12 yt2_13 yt3_14 yt4_15 yt5_16 yt6_17 yt7_18 yt8_19 kj kb kl gnm gso gmi gpa gki gmo gsz grd (m_X5_film_A_rr jg pb fer0 fso fmi fpa fki fmo fsz frd fcr0 fqo fs0 sn v2 v3) fs1 fs2 fs3 (m_X5_film_A_qo jg fqo sn v2 v3) (m_X5_film_A_ql jg pb fql sn v2 v3) fw0 fw1 fw2 fw3 fw4 fw5 ftr Npb Njg Ntd Ntx Nru Zhi Z19 Z20 Z21 Z22 Z25 Z26 Z27 Z31 Z32 Z33 Z34 Z39 Z40 Fkd Fmo Fst Fro Ftp Fcd Fsr Fir Fih (m_X6_film_ss Njg Fss (nI sn) v2 v3) (m_X6_film_sq Npb Njg Fsq (nI sn) v2 v3) (m_X6_film_ce Npb Njg Nru Fst Fro Fmo Fkd Fcd Fsr Fce (nI sn) v2 v3) Flw Fwo Fhe ysk_29 yna_30 ykp_31 Fgb Fgo Ffa Fga Fvo (fx_film hFX) (fm_film hFM) (rl_filmQ hwx (rq_T hRQ.2.2.2.2.2.2.2.1 hRQ.1.1 hlw hc) hRQ.2.2.2.1.1 hRQ.2.2.2.2.1.1 hRQ.2.2.2.1.2 hRQ.2.2.2.2.1.2.1 hjg hpb hsn hrw n01 n02 n03 hRL) hRQ H _ ls (hP.sub [45, 0, 1, 63, 64, 66, 2, 3, 4, 5, 6, 65, 67, 7, 8, 9, 10, 11, 68, 46, 12, 47, 48, 49, 50, 51, 52, 53, 54, 55, 56, 57, 58, 59, 60, 61, 62, 13, 14, 15, 16, 17, 18, 19, 20, 21, 69, 70, 73, 22, 23, 24, 71, 72, 25, 26, 27, 28, 29, 30, 31, 32, 33, 74, 78, 77, 75, 76, 34, 79, 80, 35, 36, 86, 84, 85, 37, 38, 39, 81, 82, 83, 40, 41, 42, 43, 44] rfl) (hD.sub [45, 0, 1, 63, 64, 66, 2, 3, 4, 5, 6, 65, 67, 7, 8, 9, 10, 11, 68, 46, 12, 47, 48, 49, 50, 51, 52, 53, 54, 55, 56, 57, 58, 59, 60, 61, 62, 13, 14, 15, 16, 17, 18, 19, 20, 21, 69, 70, 73, 22, 23, 24, 71, 72, 25, 26, 27, 28, 29, 30, 31, 32, 33, 74, 78, 77, 75, 76, 34, 79, 80, 35, 36, 86, 84, 85, 37, 38, 39, 81, 82, 83, 40, 41, 42, 43, 44] (by decide +kernel) rfl) hS (lv_sub hl [0, 1, 2, 3] rfl)
set_option maxHeartbeats 4000000 in
set_option maxRecDepth 100000 in
theorem lc_film_B {p : Program} {l : Launch} {e : Env} {s : State} {m : MethodId} {below : List Frame} {meth : Method} {c : Code} {b L : Nat} {xs : Nat → Int32} {G : gG} {E : gS} {A : Nat → Prop} (C0 : lw_At p s m meth c b L xs) (hE : gE E A s s.heap) (hK : gK G s) (hAe : A = fun q => s.heap.size ≤ q) {xo tt rd nw th kp sh tu b0 co en sk c0 c1 c2 c3 c4 c5 e0 e1 e2 e3 e4 e5 n1 n2 n3 n4 n5 n6 n7 n8 t1 t2 t3 t4 t5 t6 t7 t8 k1 k2 k3 k4 k5 k6 k7 k8 qn qo ql r0 r1 r2 r3 tw tr w0 w1 w2 w3 w4 w5 mo Akd Amo Ast Aro Atp Acd Asr Air Aih Ass Asq Ace Alw Awo Ahe Ask Ana Akp Agb Ago Afa Aga Avo : Nat} {fc fe fn fw : Nat → Option Nat} {tx : Nat} {fcr0 fcr1 fcr2 fcr3 fcr4 fcr5 : Nat → Int32} {fer0 fer1 fer2 fer3 fer4 fer5 : Nat → Nat} {him x2 x3 x4 x5 : Int32} {td : Nat} {fb : Nat → Int32} {wr : Int32} {fsk : Nat → Int32} {jg pb lw : Nat} {fnm fso fmi fpa fki fmo fsz frd : Nat → Int32} {tj tb tl : Int32} {unm uso umi upa uki umo usz urd : Nat → Int32} {kj kb kl : Nat} {gnm gso gmi gpa gki gmo gsz grd fs0 fs1 fs2 fs3 fqo : Nat → Int32} {fql : Nat → Nat} {fw0 fw1 fw2 fw3 fw4 fw5 ftr : Nat → Int32} {Npb Njg Ntd Ntx Nru : Nat} {Zhi Z19 Z20 Z21 Z22 Z25 Z26 Z27 Z31 Z32 Z33 Z34 Z39 Z40 : Int32} {Fkd Fmo Fst Fro Ftp Fcd : Nat → Int32} {Fsr : Nat → Nat} {Fir Fih Fss : Nat → Int32} {Fsq : Nat → Nat} {Fce Flw Fwo Fhe Fsk Fna Fkp Fgb Fgo Ffa Fga Fvo : Nat → Int32}  {v1 v2 v3 v4 v5 v6 : Int32} {i7 : Nat} (hi : 7 * i7 + 7 ≤ L) (hL : L ≤ 3584) (hv1 : v1 = xs (7 * i7 + 1)) (hv2 : v2 = xs (7 * i7 + 2)) (hv3 : v3 = xs (7 * i7 + 3)) (hv4 : v4 = xs (7 * i7 + 4)) (hv5 : v5 = xs (7 * i7 + 5)) (hv6 : v6 = xs (7 * i7 + 6)) (hno : ¬ (0 ≤ v1 ∧ v1 ≤ 3)) (K : LawV p l e s m below meth c b G A xo tt rd nw th kp sh tu b0 co en sk c0 c1 c2 c3 c4 c5 e0 e1 e2 e3 e4 e5 n1 n2 n3 n4 n5 n6 n7 n8 t1 t2 t3 t4 t5 t6 t7 t8 k1 k2 k3 k4 k5 k6 k7 k8 qn qo ql r0 r1 r2 r3 tw tr w0 w1 w2 w3 w4 w5 mo Akd Amo Ast Aro Atp Acd Asr Air Aih Ass Asq Ace Alw Awo Ahe Ask Ana Akp Agb Ago Afa Aga Avo fc fe fn fw tx fcr0 fcr1 fcr2 fcr3 fcr4 fcr5 fer0 fer1 fer2 fer3 fer4 fer5 (i7 + 1)) (hFX : FXP jg pb lw kj kb kl tx td him fql) (hFM : FMP Npb Njg Ntd Ntx Nru Zhi Fcd Fsr Fsq Fir Fih) (hRL : RLP False fn r0 r1 r2 r3 jg pb kj kb him fs0 fs1 fs2 fs3 fqo fql Npb Njg Zhi Fss Fsq Fce Fih) (hRQ : RQP fc c0 c1 c2 c3 c4 c5 fcr0 fcr1 fcr2 fcr3 fcr4 fcr5 fer0 fer1 fer2 fer3 fer4 fer5 pb lw tx td kb kl him fb fso fmi fpa fki fmo fsz frd gso gmi gpa gki gmo gsz grd Nru Ntx Ntd Fkd Fmo Fst Fro Ftp Fcd Fsr Fir Fih Fwo) {H : Heap} {locs : List Loc} (hP : va_P G.1 vwCl (WLd G xo tt rd nw th kp sh tu b0 co en sk c0 c1 c2 c3 c4 c5 e0 e1 e2 e3 e4 e5 n1 n2 n3 n4 n5 n6 n7 n8 t1 t2 t3 t4 t5 t6 t7 t8 k1 k2 k3 k4 k5 k6 k7 k8 qn qo ql r0 r1 r2 r3 tw tr w0 w1 w2 w3 w4 w5 mo Akd Amo Ast Aro Atp Acd Asr Air Aih Ass Asq Ace Alw Awo Ahe Ask Ana Akp Agb Ago Afa Aga Avo fc fe fn fw tx fcr0 fcr1 fcr2 fcr3 fcr4 fcr5 fer0 fer1 fer2 fer3 fer4 fer5 him x2 x3 x4 x5 td fb wr fsk jg pb lw fnm fso fmi fpa fki fmo fsz frd tj tb tl unm uso umi upa uki umo usz urd kj kb kl gnm gso gmi gpa gki gmo gsz grd fs0 fs1 fs2 fs3 fqo fql fw0 fw1 fw2 fw3 fw4 fw5 ftr Npb Njg Ntd Ntx Nru Zhi Z19 Z20 Z21 Z22 Z25 Z26 Z27 Z31 Z32 Z33 Z34 Z39 Z40 Fkd Fmo Fst Fro Ftp Fcd Fsr Fir Fih Fss Fsq Fce Flw Fwo Fhe Fsk Fna Fkp Fgb Fgo Ffa Fga Fvo) H) (hD : va_D A (WLd G xo tt rd nw th kp sh tu b0 co en sk c0 c1 c2 c3 c4 c5 e0 e1 e2 e3 e4 e5 n1 n2 n3 n4 n5 n6 n7 n8 t1 t2 t3 t4 t5 t6 t7 t8 k1 k2 k3 k4 k5 k6 k7 k8 qn qo ql r0 r1 r2 r3 tw tr w0 w1 w2 w3 w4 w5 mo Akd Amo Ast Aro Atp Acd Asr Air Aih Ass Asq Ace Alw Awo Ahe Ask Ana Akp Agb Ago Afa Aga Avo fc fe fn fw tx fcr0 fcr1 fcr2 fcr3 fcr4 fcr5 fer0 fer1 fer2 fer3 fer4 fer5 him x2 x3 x4 x5 td fb wr fsk jg pb lw fnm fso fmi fpa fki fmo fsz frd tj tb tl unm uso umi upa uki umo usz urd kj kb kl gnm gso gmi gpa gki gmo gsz grd fs0 fs1 fs2 fs3 fqo fql fw0 fw1 fw2 fw3 fw4 fw5 ftr Npb Njg Ntd Ntx Nru Zhi Z19 Z20 Z21 Z22 Z25 Z26 Z27 Z31 Z32 Z33 Z34 Z39 Z40 Fkd Fmo Fst Fro Ftp Fcd Fsr Fir Fih Fss Fsq Fce Flw Fwo Fhe Fsk Fna Fkp Fgb Fgo Ffa Fga Fvo)) (hS : va_S A s.heap H locs) {ls : Array Slot} (hl : lv_has ls 4 [zI 3 (nI (7 * i7)), zR 2 mo, zR 1 xo, zR 0 b]) : W p l e room_1 s m #[Value.ref b] below meth c H locs 87 4128 (lw_Z below #[Value.ref b] s) (F0 m 1172 ls []) := by
  obtain ⟨hx, hb, hret, hml, hown, hts0, hX, hbl, hlocks, hgv⟩ := id C0
  have hts : ∀ w ∈ wsL_law, w.before #[Value.ref b] s = true := fun w h => hts0 w (wsL_law_in w h)
  have hown : s.vm.findClass RL = some m.cls := hown
  have hA : ∀ q : Nat, s.heap.size ≤ q → A q := fun q h => by rw [hAe]; exact h
  have hbA : ¬ A b := by rw [hAe]; exact Nat.not_le.mpr hbl
  obtain ⟨⟨hjg, hpb, hlw, htx, htd⟩, hkk, hql⟩ := id hFX
  obtain ⟨⟨hNpb, hNjg, hNru, hNtx, hNtd⟩, hwa, hsq, hIM⟩ := id hFM
  have hz9 : gPD G A [zo5 xo tt rd nw th kp sh tu him, zo1 rd tt b0 x2 x3 x4 x5 (nI td), zi G b0 160 fb, zo3 tt co en sk wr (nI tx), zr G co 6 fc, zi G c0 160 fcr0, zi G c1 160 fcr1, zi G c2 160 fcr2, zi G c3 160 fcr3, zi G c4 160 fcr4, zi G c5 160 fcr5, zr G en 6 fe, zi G e0 3 (nF fer0), zi G e1 3 (nF fer1), zi G e2 3 (nF fer2), zi G e3 3 (nF fer3), zi G e4 3 (nF fer4), zi G e5 3 (nF fer5), zi G sk 32 fsk, zo0 nw tt n1 n2 n3 n4 n5 n6 n7 n8 (nI jg) (nI pb) (nI lw), zi G n1 6 fnm, zi G n2 4 fso, zi G n3 4 fmi, zi G n4 4 fpa, zi G n5 6 fki, zi G n6 6 fmo, zi G n7 6 fsz, zi G n8 6 frd, zo0 th tt t1 t2 t3 t4 t5 t6 t7 t8 tj tb tl, zi G t1 6 unm, zi G t2 4 uso, zi G t3 4 umi, zi G t4 4 upa, zi G t5 6 uki, zi G t6 6 umo, zi G t7 6 usz, zi G t8 6 urd, zo0 kp tt k1 k2 k3 k4 k5 k6 k7 k8 (nI kj) (nI kb) (nI kl), zi G k1 6 gnm, zi G k2 4 gso, zi G k3 4 gmi, zi G k4 4 gpa, zi G k5 6 gki, zi G k6 6 gmo, zi G k7 6 gsz, zi G k8 6 grd, zo2 sh qn qo ql, zr G qn 4 fn, zi G r0 40 fs0, zi G r1 40 fs1, zi G r2 40 fs2, zi G r3 40 fs3, zi G qo 4 fqo, zi G ql 4 (nF fql), zo4 tu tw tr, zr G tw 6 fw, zi G w0 6 fw0, zi G w1 6 fw1, zi G w2 6 fw2, zi G w3 6 fw3, zi G w4 6 fw4, zi G w5 6 fw5, zi G tr 64 ftr, zo6 mo (nI Npb) Akd Amo Ast (nI Njg) Aro Atp (nI Ntd) Acd Asr (nI Ntx) (nI Nru) Zhi Air Aih Ass Asq Ace Alw Z19 Z20 Z21 Z22 Awo Ahe Z25 Z26 Z27 Ask Ana Akp Z31 Z32 Z33 Z34 Agb Ago Afa Aga Z39 Z40 Avo, zi G Akd 6 Fkd, zi G Amo 6 Fmo, zi G Ast 12 Fst, zi G Aro 12 Fro, zi G Atp 160 Ftp, zi G Acd 1200 Fcd, zi G Asr 24 (nF Fsr), zi G Air 24 Fir, zi G Aih 3 Fih, zi G Ass 4 Fss, zi G Asq 4 (nF Fsq), zi G Ace 160 Fce, zi G Alw 40 Flw, zi G Awo 96 Fwo, zi G Ahe 200 Fhe, zi G Ask 200 Fsk, zi G Ana 6 Fna, zi G Akp 24 Fkp, zb G Agb 61 Fgb, zb G Ago 61 Fgo, zi G Afa 36 Ffa, zi G Aga 36 Fga, zi G Avo 64 Fvo] H := ⟨hP, hD⟩
  have hP := hz9.1
  have hD := hz9.2
  refine lv_aload_n hx hb dL_law_1172 rfl (lv_at hl 2 rfl) ?_
  refine lv_aload_n hx hb dL_law_1173 rfl (lv_at hl 3 rfl) ?_
  refine lv_iload_n hx hb dL_law_1174 rfl (lv_at hl 0 rfl) ?_
  refine lv_iconst (v := 1) hx hb dL_law_1175 (by decide +kernel) ?_
  refine lv_iadd hx hb dL_law_1176 ?_
  refine lv_topi (fun v_1 ev_1 => ?_)
  have ev_1 : v_1 = nI ((7 * i7) + 1) := ev_1.trans (nI_add (7 * i7) 1)
  subst ev_1
  refine va_sld hx hb hX hbl hbA hS (i := nI ((7 * i7) + 1)) (vp_in_nI (by omega) (by omega)) dL_law_1177 ?_
  refine lv_topi (fun v_2 ev_2 => ?_)
  have ev_2 : v1 = v_2 := (ev_2.trans (by rw [nI_clamp (by omega)]; exact hv1.symm)).symm
  subst ev_2
  refine lv_aload_n hx hb dL_law_1178 rfl (lv_at hl 3 rfl) ?_
  refine lv_iload_n hx hb dL_law_1179 rfl (lv_at hl 0 rfl) ?_
  refine lv_iconst (v := 2) hx hb dL_law_1180 (by decide +kernel) ?_
  refine lv_iadd hx hb dL_law_1181 ?_
  refine lv_topi (fun v_3 ev_3 => ?_)
  have ev_3 : v_3 = nI ((7 * i7) + 2) := ev_3.trans (nI_add (7 * i7) 2)
  subst ev_3
  refine va_sld hx hb hX hbl hbA hS (i := nI ((7 * i7) + 2)) (vp_in_nI (by omega) (by omega)) dL_law_1182 ?_
  refine lv_topi (fun v_4 ev_4 => ?_)
  have ev_4 : v2 = v_4 := (ev_4.trans (by rw [nI_clamp (by omega)]; exact hv2.symm)).symm
  subst ev_4
  refine lv_aload_n hx hb dL_law_1183 rfl (lv_at hl 3 rfl) ?_
  refine lv_iload_n hx hb dL_law_1184 rfl (lv_at hl 0 rfl) ?_
  refine lv_iconst (v := 3) hx hb dL_law_1185 (by decide +kernel) ?_
  refine lv_iadd hx hb dL_law_1186 ?_
  refine lv_topi (fun v_5 ev_5 => ?_)
  have ev_5 : v_5 = nI ((7 * i7) + 3) := ev_5.trans (nI_add (7 * i7) 3)
  subst ev_5
  refine va_sld hx hb hX hbl hbA hS (i := nI ((7 * i7) + 3)) (vp_in_nI (by omega) (by omega)) dL_law_1187 ?_
  refine lv_topi (fun v_6 ev_6 => ?_)
  have ev_6 : v3 = v_6 := (ev_6.trans (by rw [nI_clamp (by omega)]; exact hv3.symm)).symm
  subst ev_6
  have hz9 : gPD G A [zo5 xo tt rd nw th kp sh tu him, zo2 sh qn qo ql] H := ⟨hP.sub [0, 46] rfl, hD.sub [0, 46] (by decide +kernel) rfl⟩
  have hPc := hz9.1
  have hDc := hz9.2
  have hFc := gFree hPc hD hS hA [0, 46] rfl
  refine va_calli (va_runV (As := [.int v1, .int v2, .int v3]) (rest := []) ⟨hx, hb, hml, hown, hts⟩ (c_X5_film_B l G E xo tt rd nw th kp sh tu qn qo ql him v1 v2 v3 H.size (by first | exact hno | assumption | omega)) (cwV 3 hts gL_law_X5_film rfl rfl rfl (by decide +kernel) ⟨Nat.le_of_ble_eq_true rfl, Nat.le_of_ble_eq_true rfl⟩) ⟨gPreE_blind, va_recv hK hPc (ci := 5) (q0 := 0) rfl rfl, fun U hU hW => gPreE_of hU hW hK hPc hDc hE hS hFc⟩ rfl rfl hl.1 rfl (lv_room (Nat.le_of_ble_eq_true rfl)) dL_law_1188 ⟨Nat.le_of_ble_eq_true rfl, Nat.le_of_ble_eq_true rfl⟩) hS (fun q _ h => hFc q h) hFc (fun r_7 u t H locs ht hvm w_8 hB hz1 hk1 hS => ?_)
  obtain ⟨hP1, hK1, hD1⟩ := hB
  rw [ht] at hP1
  have hz9 : gPD G (va_A _ _) [zo5 xo tt rd nw th kp sh tu him, zo2 sh qn qo ql] H := ⟨hP1, hD1⟩
  have hP1 := hz9.1
  have hD1 := hz9.2
  have w_8 : r_7 = -2 := w_8
  have hz9 : gPD G A [zo1 rd tt b0 x2 x3 x4 x5 (nI td), zi G b0 160 fb, zo3 tt co en sk wr (nI tx), zr G co 6 fc, zi G c0 160 fcr0, zi G c1 160 fcr1, zi G c2 160 fcr2, zi G c3 160 fcr3, zi G c4 160 fcr4, zi G c5 160 fcr5, zr G en 6 fe, zi G e0 3 (nF fer0), zi G e1 3 (nF fer1), zi G e2 3 (nF fer2), zi G e3 3 (nF fer3), zi G e4 3 (nF fer4), zi G e5 3 (nF fer5), zi G sk 32 fsk, zo0 nw tt n1 n2 n3 n4 n5 n6 n7 n8 (nI jg) (nI pb) (nI lw), zi G n1 6 fnm, zi G n2 4 fso, zi G n3 4 fmi, zi G n4 4 fpa, zi G n5 6 fki, zi G n6 6 fmo, zi G n7 6 fsz, zi G n8 6 frd, zo0 th tt t1 t2 t3 t4 t5 t6 t7 t8 tj tb tl, zi G t1 6 unm, zi G t2 4 uso, zi G t3 4 umi, zi G t4 4 upa, zi G t5 6 uki, zi G t6 6 umo, zi G t7 6 usz, zi G t8 6 urd, zo0 kp tt k1 k2 k3 k4 k5 k6 k7 k8 (nI kj) (nI kb) (nI kl), zi G k1 6 gnm, zi G k2 4 gso, zi G k3 4 gmi, zi G k4 4 gpa, zi G k5 6 gki, zi G k6 6 gmo, zi G k7 6 gsz, zi G k8 6 grd, zr G qn 4 fn, zi G r0 40 fs0, zi G r1 40 fs1, zi G r2 40 fs2, zi G r3 40 fs3, zi G qo 4 fqo, zi G ql 4 (nF fql), zo4 tu tw tr, zr G tw 6 fw, zi G w0 6 fw0, zi G w1 6 fw1, zi G w2 6 fw2, zi G w3 6 fw3, zi G w4 6 fw4, zi G w5 6 fw5, zi G tr 64 ftr, zo6 mo (nI Npb) Akd Amo Ast (nI Njg) Aro Atp (nI Ntd) Acd Asr (nI Ntx) (nI Nru) Zhi Air Aih Ass Asq Ace Alw Z19 Z20 Z21 Z22 Awo Ahe Z25 Z26 Z27 Ask Ana Akp Z31 Z32 Z33 Z34 Agb Ago Afa Aga Z39 Z40 Avo, zi G Akd 6 Fkd, zi G Amo 6 Fmo, zi G Ast 12 Fst, zi G Aro 12 Fro, zi G Atp 160 Ftp, zi G Acd 1200 Fcd, zi G Asr 24 (nF Fsr), zi G Air 24 Fir, zi G Aih 3 Fih, zi G Ass 4 Fss, zi G Asq 4 (nF Fsq), zi G Ace 160 Fce, zi G Alw 40 Flw, zi G Awo 96 Fwo, zi G Ahe 200 Fhe, zi G Ask 200 Fsk, zi G Ana 6 Fna, zi G Akp 24 Fkp, zb G Agb 61 Fgb, zb G Ago 61 Fgo, zi G Afa 36 Ffa, zi G Aga 36 Fga, zi G Avo 64 Fvo, zo5 xo tt rd nw th kp sh tu him, zo2 sh qn qo ql] H := gJoin hP hD hk1 hFc hP1 hD1 [0, 46] [1, 2, 3, 4, 5, 6, 7, 8, 9, 10, 11, 12, 13, 14, 15, 16, 17, 18, 19, 20, 21, 22, 23, 24, 25, 26, 27, 28, 29, 30, 31, 32, 33, 34, 35, 36, 37, 38, 39, 40, 41, 42, 43, 44, 45, 47, 48, 49, 50, 51, 52, 53, 54, 55, 56, 57, 58, 59, 60, 61, 62, 63, 64, 65, 66, 67, 68, 69, 70, 71, 72, 73, 74, 75, 76, 77, 78, 79, 80, 81, 82, 83, 84, 85, 86] rfl rfl rfl (by decide +kernel) (by decide +kernel)
  have hP := hz9.1
  have hD := hz9.2
  subst w_8
  refine lv_pop hx hb dL_law_1191 rfl ?_
  refine lv_aload_n hx hb dL_law_1192 rfl (lv_at hl 1 rfl) ?_
  refine lv_aload_n hx hb dL_law_1193 rfl (lv_at hl 3 rfl) ?_
  refine lv_iload_n hx hb dL_law_1194 rfl (lv_at hl 0 rfl) ?_
  refine lv_iconst (v := 1) hx hb dL_law_1195 (by decide +kernel) ?_
  refine lv_iadd hx hb dL_law_1196 ?_
  refine lv_topi (fun v_9 ev_9 => ?_)
  have ev_9 : v_9 = nI ((7 * i7) + 1) := ev_9.trans (nI_add (7 * i7) 1)
  subst ev_9
  refine va_sld hx hb hX hbl hbA hS (i := nI ((7 * i7) + 1)) (vp_in_nI (by omega) (by omega)) dL_law_1197 ?_
  refine lv_topi (fun v_10 ev_10 => ?_)
  have ev_10 : v1 = v_10 := (ev_10.trans (by rw [nI_clamp (by omega)]; exact hv1.symm)).symm
  subst ev_10
  refine lv_aload_n hx hb dL_law_1198 rfl (lv_at hl 3 rfl) ?_
  refine lv_iload_n hx hb dL_law_1199 rfl (lv_at hl 0 rfl) ?_
  refine lv_iconst (v := 2) hx hb dL_law_1200 (by decide +kernel) ?_
  refine lv_iadd hx hb dL_law_1201 ?_
  refine lv_topi (fun v_11 ev_11 => ?_)
  have ev_11 : v_11 = nI ((7 * i7) + 2) := ev_11.trans (nI_add (7 * i7) 2)
  subst ev_11
  refine va_sld hx hb hX hbl hbA hS (i := nI ((7 * i7) + 2)) (vp_in_nI (by omega) (by omega)) dL_law_1202 ?_
  refine lv_topi (fun v_12 ev_12 => ?_)
  have ev_12 : v2 = v_12 := (ev_12.trans (by rw [nI_clamp (by omega)]; exact hv2.symm)).symm
  subst ev_12
  refine lv_aload_n hx hb dL_law_1203 rfl (lv_at hl 3 rfl) ?_
  refine lv_iload_n hx hb dL_law_1204 rfl (lv_at hl 0 rfl) ?_
  refine lv_iconst (v := 3) hx hb dL_law_1205 (by decide +kernel) ?_
  refine lv_iadd hx hb dL_law_1206 ?_
  refine lv_topi (fun v_13 ev_13 => ?_)
  have ev_13 : v_13 = nI ((7 * i7) + 3) := ev_13.trans (nI_add (7 * i7) 3)
  subst ev_13
  refine va_sld hx hb hX hbl hbA hS (i := nI ((7 * i7) + 3)) (vp_in_nI (by omega) (by omega)) dL_law_1207 ?_
  refine lv_topi (fun v_14 ev_14 => ?_)
  have ev_14 : v3 = v_14 := (ev_14.trans (by rw [nI_clamp (by omega)]; exact hv3.symm)).symm
  subst ev_14
  have hz9 : gPD G A [zo6 mo (nI Npb) Akd Amo Ast (nI Njg) Aro Atp (nI Ntd) Acd Asr (nI Ntx) (nI Nru) Zhi Air Aih Ass Asq Ace Alw Z19 Z20 Z21 Z22 Awo Ahe Z25 Z26 Z27 Ask Ana Akp Z31 Z32 Z33 Z34 Agb Ago Afa Aga Z39 Z40 Avo, zi G Ast 12 Fst, zi G Aro 12 Fro, zi G Amo 6 Fmo, zi G Akd 6 Fkd, zi G Acd 1200 Fcd, zi G Asr 24 (nF Fsr), zi G Ask 200 Fsk, zi G Ana 6 Fna, zi G Akp 24 Fkp, zi G Asq 4 (nF Fsq), zi G Ace 160 Fce, zi G Ass 4 Fss] H := ⟨hP.sub [61, 64, 65, 63, 62, 67, 68, 77, 78, 79, 72, 73, 71] rfl, hD.sub [61, 64, 65, 63, 62, 67, 68, 77, 78, 79, 72, 73, 71] (by decide +kernel) rfl⟩
  have hPc := hz9.1
  have hDc := hz9.2
  have hFc := gFree hPc hD hS hA [61, 64, 65, 63, 62, 67, 68, 77, 78, 79, 72, 73, 71] rfl
  refine va_calli (va_runV (As := [.int v1, .int v2, .int v3]) (rest := []) ⟨hx, hb, hml, hown, hts⟩ (c_X6_film l G mo Akd Amo Ast Aro Atp Acd Asr Air Aih Ass Asq Ace Alw Awo Ahe Ask Ana Akp Agb Ago Afa Aga Avo Npb Njg Ntd Ntx Nru Zhi Z19 Z20 Z21 Z22 Z25 Z26 Z27 Z31 Z32 Z33 Z34 Z39 Z40 Fst Fro Fmo Fkd Fcd Fsr Fsk Fna Fkp Fsq Fce Fss v1 v2 v3 H.size (by first | exact hsq | assumption | omega) (by first | exact hwa | assumption | omega) (by first | exact hpb | assumption | omega) (by first | exact hjg | assumption | omega) (by first | exact htx | assumption | omega) (by first | exact hru | assumption | omega)) (cwV 3 hts gL_law_X6_film rfl rfl rfl (by decide +kernel) ⟨Nat.le_of_ble_eq_true rfl, Nat.le_of_ble_eq_true rfl⟩) ⟨gPre_blind, va_recv hK hPc (ci := 6) (q0 := 0) rfl rfl, fun U hU hW => gPre_of hU hW hK hPc hDc⟩ rfl rfl hl.1 rfl (lv_room (Nat.le_of_ble_eq_true rfl)) dL_law_1208 ⟨Nat.le_of_ble_eq_true rfl, Nat.le_of_ble_eq_true rfl⟩) hS (fun q _ h => hFc q h) hFc (fun r_15 u t H locs ht hvm w_16 hB hz1 hk1 hS => ?_)
  obtain ⟨ysk_17, yna_18, ykp_19⟩ := u
  obtain ⟨hP1, hK1, hD1⟩ := hB
  rw [ht] at hP1
  have hz9 : gPD G (va_A _ _) [zo6 mo (nI Npb) Akd Amo Ast (nI Njg) Aro Atp (nI Ntd) Acd Asr (nI Ntx) (nI Nru) Zhi Air Aih Ass Asq Ace Alw Z19 Z20 Z21 Z22 Awo Ahe Z25 Z26 Z27 Ask Ana Akp Z31 Z32 Z33 Z34 Agb Ago Afa Aga Z39 Z40 Avo, zi G Ast 12 Fst, zi G Aro 12 Fro, zi G Amo 6 Fmo, zi G Akd 6 Fkd, zi G Acd 1200 Fcd, zi G Asr 24 (nF Fsr), zi G Ask 200 ysk_17, zi G Ana 6 yna_18, zi G Akp 24 ykp_19, zi G Asq 4 (nF (m_X6_film_sq Npb Njg Fsq v1 v2 v3)), zi G Ace 160 (m_X6_film_ce Npb Njg Nru Fst Fro Fmo Fkd Fcd Fsr Fce v1 v2 v3), zi G Ass 4 (m_X6_film_ss Njg Fss v1 v2 v3)] H := ⟨hP1, hD1⟩
  have hP1 := hz9.1
  have hD1 := hz9.2
  have w_16 : r_15 = m_X6_film Npb Njg Nru Fst Fro Fmo Fkd Fcd Fsr Fce v1 v2 v3 := w_16
  have hz9 : gPD G A [zo1 rd tt b0 x2 x3 x4 x5 (nI td), zi G b0 160 fb, zo3 tt co en sk wr (nI tx), zr G co 6 fc, zi G c0 160 fcr0, zi G c1 160 fcr1, zi G c2 160 fcr2, zi G c3 160 fcr3, zi G c4 160 fcr4, zi G c5 160 fcr5, zr G en 6 fe, zi G e0 3 (nF fer0), zi G e1 3 (nF fer1), zi G e2 3 (nF fer2), zi G e3 3 (nF fer3), zi G e4 3 (nF fer4), zi G e5 3 (nF fer5), zi G sk 32 fsk, zo0 nw tt n1 n2 n3 n4 n5 n6 n7 n8 (nI jg) (nI pb) (nI lw), zi G n1 6 fnm, zi G n2 4 fso, zi G n3 4 fmi, zi G n4 4 fpa, zi G n5 6 fki, zi G n6 6 fmo, zi G n7 6 fsz, zi G n8 6 frd, zo0 th tt t1 t2 t3 t4 t5 t6 t7 t8 tj tb tl, zi G t1 6 unm, zi G t2 4 uso, zi G t3 4 umi, zi G t4 4 upa, zi G t5 6 uki, zi G t6 6 umo, zi G t7 6 usz, zi G t8 6 urd, zo0 kp tt k1 k2 k3 k4 k5 k6 k7 k8 (nI kj) (nI kb) (nI kl), zi G k1 6 gnm, zi G k2 4 gso, zi G k3 4 gmi, zi G k4 4 gpa, zi G k5 6 gki, zi G k6 6 gmo, zi G k7 6 gsz, zi G k8 6 grd, zr G qn 4 fn, zi G r0 40 fs0, zi G r1 40 fs1, zi G r2 40 fs2, zi G r3 40 fs3, zi G qo 4 fqo, zi G ql 4 (nF fql), zo4 tu tw tr, zr G tw 6 fw, zi G w0 6 fw0, zi G w1 6 fw1, zi G w2 6 fw2, zi G w3 6 fw3, zi G w4 6 fw4, zi G w5 6 fw5, zi G tr 64 ftr, zi G Atp 160 Ftp, zi G Air 24 Fir, zi G Aih 3 Fih, zi G Alw 40 Flw, zi G Awo 96 Fwo, zi G Ahe 200 Fhe, zb G Agb 61 Fgb, zb G Ago 61 Fgo, zi G Afa 36 Ffa, zi G Aga 36 Fga, zi G Avo 64 Fvo, zo5 xo tt rd nw th kp sh tu him, zo2 sh qn qo ql, zo6 mo (nI Npb) Akd Amo Ast (nI Njg) Aro Atp (nI Ntd) Acd Asr (nI Ntx) (nI Nru) Zhi Air Aih Ass Asq Ace Alw Z19 Z20 Z21 Z22 Awo Ahe Z25 Z26 Z27 Ask Ana Akp Z31 Z32 Z33 Z34 Agb Ago Afa Aga Z39 Z40 Avo, zi G Ast 12 Fst, zi G Aro 12 Fro, zi G Amo 6 Fmo, zi G Akd 6 Fkd, zi G Acd 1200 Fcd, zi G Asr 24 (nF Fsr), zi G Ask 200 ysk_17, zi G Ana 6 yna_18, zi G Akp 24 ykp_19, zi G Asq 4 (nF (m_X6_film_sq Npb Njg Fsq v1 v2 v3)), zi G Ace 160 (m_X6_film_ce Npb Njg Nru Fst Fro Fmo Fkd Fcd Fsr Fce v1 v2 v3), zi G Ass 4 (m_X6_film_ss Njg Fss v1 v2 v3)] H := gJoin hP hD hk1 hFc hP1 hD1 [61, 64, 65, 63, 62, 67, 68, 77, 78, 79, 72, 73, 71] [0, 1, 2, 3, 4, 5, 6, 7, 8, 9, 10, 11, 12, 13, 14, 15, 16, 17, 18, 19, 20, 21, 22, 23, 24, 25, 26, 27, 28, 29, 30, 31, 32, 33, 34, 35, 36, 37, 38, 39, 40, 41, 42, 43, 44, 45, 46, 47, 48, 49, 50, 51, 52, 53, 54, 55, 56, 57, 58, 59, 60, 66, 69, 70, 74, 75, 76, 80, 81, 82, 83, 84, 85, 86] rfl rfl rfl (by decide +kernel) (by decide +kernel)
  have hP := hz9.1
  have hD := hz9.2
  subst w_16
  refine lv_pop hx hb dL_law_1211 rfl ?_
  refine lv_goto (tgt := 1614) hx hb dL_law_1212 (by decide +kernel) ?_
  refine lv_iinc (v := nI (7 * (i7 + 1))) (lv' := [zI 3 (nI (7 * (i7 + 1))), zR 2 mo, zR 1 xo, zR 0 b]) hx hb dL_law_1614 hl (k := 0) rfl (by show nI (7 * i7) + 7 = nI (7 * (i7 + 1)); exact nI_add (7 * i7) 7) (by decide +kernel) rfl (fun ls hl => ?_)
  refine lv_goto (tgt := 18) hx hb dL_law_1617 (by decide +kernel) ?_
  exact K him x2 x3 x4 x5 td fb wr fsk jg pb lw fnm fso fmi fpa fki fmo fsz frd tj tb tl unm uso umi upa uki umo usz urd kj kb kl gnm gso gmi gpa gki gmo gsz grd fs0 fs1 fs2 fs3 fqo fql fw0 fw1 fw2 fw3 fw4 fw5 ftr Npb Njg Ntd Ntx Nru Zhi Z19 Z20 Z21 Z22 Z25 Z26 Z27 Z31 Z32 Z33 Z34 Z39 Z40 Fkd Fmo Fst Fro Ftp Fcd Fsr Fir Fih (m_X6_film_ss Njg Fss v1 v2 v3) (m_X6_film_sq Npb Njg Fsq v1 v2 v3) (m_X6_film_ce Npb Njg Nru Fst Fro Fmo Fkd Fcd Fsr Fce v1 v2 v3) Flw Fwo Fhe ysk_17 yna_18 ykp_19 Fgb Fgo Ffa Fga Fvo hFX (fm_film hFM) (rl_film_B hno hRL) hRQ H _ ls (hP.sub [72, 0, 1, 2, 3, 4, 5, 6, 7, 8, 9, 10, 11, 12, 13, 14, 15, 16, 17, 18, 19, 20, 21, 22, 23, 24, 25, 26, 27, 28, 29, 30, 31, 32, 33, 34, 35, 36, 37, 38, 39, 40, 41, 42, 43, 44, 73, 45, 46, 47, 48, 49, 50, 51, 52, 53, 54, 55, 56, 57, 58, 59, 60, 74, 78, 77, 75, 76, 61, 79, 80, 62, 63, 86, 84, 85, 64, 65, 66, 81, 82, 83, 67, 68, 69, 70, 71] rfl) (hD.sub [72, 0, 1, 2, 3, 4, 5, 6, 7, 8, 9, 10, 11, 12, 13, 14, 15, 16, 17, 18, 19, 20, 21, 22, 23, 24, 25, 26, 27, 28, 29, 30, 31, 32, 33, 34, 35, 36, 37, 38, 39, 40, 41, 42, 43, 44, 73, 45, 46, 47, 48, 49, 50, 51, 52, 53, 54, 55, 56, 57, 58, 59, 60, 74, 78, 77, 75, 76, 61, 79, 80, 62, 63, 86, 84, 85, 64, 65, 66, 81, 82, 83, 67, 68, 69, 70, 71] (by decide +kernel) rfl) hS (lv_sub hl [0, 1, 2, 3] rfl)
set_option maxHeartbeats 4000000 in
set_option maxRecDepth 100000 in
theorem lc_drawn {p : Program} {l : Launch} {e : Env} {s : State} {m : MethodId} {below : List Frame} {meth : Method} {c : Code} {b L : Nat} {xs : Nat → Int32} {G : gG} {E : gS} {A : Nat → Prop} (C0 : lw_At p s m meth c b L xs) (hE : gE E A s s.heap) (hK : gK G s) (hAe : A = fun q => s.heap.size ≤ q) {xo tt rd nw th kp sh tu b0 co en sk c0 c1 c2 c3 c4 c5 e0 e1 e2 e3 e4 e5 n1 n2 n3 n4 n5 n6 n7 n8 t1 t2 t3 t4 t5 t6 t7 t8 k1 k2 k3 k4 k5 k6 k7 k8 qn qo ql r0 r1 r2 r3 tw tr w0 w1 w2 w3 w4 w5 mo Akd Amo Ast Aro Atp Acd Asr Air Aih Ass Asq Ace Alw Awo Ahe Ask Ana Akp Agb Ago Afa Aga Avo : Nat} {fc fe fn fw : Nat → Option Nat} {tx : Nat} {fcr0 fcr1 fcr2 fcr3 fcr4 fcr5 : Nat → Int32} {fer0 fer1 fer2 fer3 fer4 fer5 : Nat → Nat} {him x2 x3 x4 x5 : Int32} {td : Nat} {fb : Nat → Int32} {wr : Int32} {fsk : Nat → Int32} {jg pb lw : Nat} {fnm fso fmi fpa fki fmo fsz frd : Nat → Int32} {tj tb tl : Int32} {unm uso umi upa uki umo usz urd : Nat → Int32} {kj kb kl : Nat} {gnm gso gmi gpa gki gmo gsz grd fs0 fs1 fs2 fs3 fqo : Nat → Int32} {fql : Nat → Nat} {fw0 fw1 fw2 fw3 fw4 fw5 ftr : Nat → Int32} {Npb Njg Ntd Ntx Nru : Nat} {Zhi Z19 Z20 Z21 Z22 Z25 Z26 Z27 Z31 Z32 Z33 Z34 Z39 Z40 : Int32} {Fkd Fmo Fst Fro Ftp Fcd : Nat → Int32} {Fsr : Nat → Nat} {Fir Fih Fss : Nat → Int32} {Fsq : Nat → Nat} {Fce Flw Fwo Fhe Fsk Fna Fkp Fgb Fgo Ffa Fga Fvo : Nat → Int32}  {v1 v2 v3 v4 v5 v6 : Int32} {i7 : Nat} (hi : 7 * i7 + 7 ≤ L) (hL : L ≤ 3584) (hv1 : v1 = xs (7 * i7 + 1)) (hv2 : v2 = xs (7 * i7 + 2)) (hv3 : v3 = xs (7 * i7 + 3)) (hv4 : v4 = xs (7 * i7 + 4)) (hv5 : v5 = xs (7 * i7 + 5)) (hv6 : v6 = xs (7 * i7 + 6)) (hc : fc lw = some c0) (he : fe lw = some e0) (hwx : mWx fcr0 fer0) (K : LawV p l e s m below meth c b G A xo tt rd nw th kp sh tu b0 co en sk c0 c1 c2 c3 c4 c5 e0 e1 e2 e3 e4 e5 n1 n2 n3 n4 n5 n6 n7 n8 t1 t2 t3 t4 t5 t6 t7 t8 k1 k2 k3 k4 k5 k6 k7 k8 qn qo ql r0 r1 r2 r3 tw tr w0 w1 w2 w3 w4 w5 mo Akd Amo Ast Aro Atp Acd Asr Air Aih Ass Asq Ace Alw Awo Ahe Ask Ana Akp Agb Ago Afa Aga Avo fc fe fn fw tx fcr0 fcr1 fcr2 fcr3 fcr4 fcr5 fer0 fer1 fer2 fer3 fer4 fer5 (i7 + 1)) (hFX : FXP jg pb lw kj kb kl tx td him fql) (hFM : FMP Npb Njg Ntd Ntx Nru Zhi Fcd Fsr Fsq Fir Fih) (hRL : RLP False fn r0 r1 r2 r3 jg pb kj kb him fs0 fs1 fs2 fs3 fqo fql Npb Njg Zhi Fss Fsq Fce Fih) (hRQ : RQP fc c0 c1 c2 c3 c4 c5 fcr0 fcr1 fcr2 fcr3 fcr4 fcr5 fer0 fer1 fer2 fer3 fer4 fer5 pb lw tx td kb kl him fb fso fmi fpa fki fmo fsz frd gso gmi gpa gki gmo gsz grd Nru Ntx Ntd Fkd Fmo Fst Fro Ftp Fcd Fsr Fir Fih Fwo) {H : Heap} {locs : List Loc} (hP : va_P G.1 vwCl (WLd G xo tt rd nw th kp sh tu b0 co en sk c0 c1 c2 c3 c4 c5 e0 e1 e2 e3 e4 e5 n1 n2 n3 n4 n5 n6 n7 n8 t1 t2 t3 t4 t5 t6 t7 t8 k1 k2 k3 k4 k5 k6 k7 k8 qn qo ql r0 r1 r2 r3 tw tr w0 w1 w2 w3 w4 w5 mo Akd Amo Ast Aro Atp Acd Asr Air Aih Ass Asq Ace Alw Awo Ahe Ask Ana Akp Agb Ago Afa Aga Avo fc fe fn fw tx fcr0 fcr1 fcr2 fcr3 fcr4 fcr5 fer0 fer1 fer2 fer3 fer4 fer5 him x2 x3 x4 x5 td fb wr fsk jg pb lw fnm fso fmi fpa fki fmo fsz frd tj tb tl unm uso umi upa uki umo usz urd kj kb kl gnm gso gmi gpa gki gmo gsz grd fs0 fs1 fs2 fs3 fqo fql fw0 fw1 fw2 fw3 fw4 fw5 ftr Npb Njg Ntd Ntx Nru Zhi Z19 Z20 Z21 Z22 Z25 Z26 Z27 Z31 Z32 Z33 Z34 Z39 Z40 Fkd Fmo Fst Fro Ftp Fcd Fsr Fir Fih Fss Fsq Fce Flw Fwo Fhe Fsk Fna Fkp Fgb Fgo Ffa Fga Fvo) H) (hD : va_D A (WLd G xo tt rd nw th kp sh tu b0 co en sk c0 c1 c2 c3 c4 c5 e0 e1 e2 e3 e4 e5 n1 n2 n3 n4 n5 n6 n7 n8 t1 t2 t3 t4 t5 t6 t7 t8 k1 k2 k3 k4 k5 k6 k7 k8 qn qo ql r0 r1 r2 r3 tw tr w0 w1 w2 w3 w4 w5 mo Akd Amo Ast Aro Atp Acd Asr Air Aih Ass Asq Ace Alw Awo Ahe Ask Ana Akp Agb Ago Afa Aga Avo fc fe fn fw tx fcr0 fcr1 fcr2 fcr3 fcr4 fcr5 fer0 fer1 fer2 fer3 fer4 fer5 him x2 x3 x4 x5 td fb wr fsk jg pb lw fnm fso fmi fpa fki fmo fsz frd tj tb tl unm uso umi upa uki umo usz urd kj kb kl gnm gso gmi gpa gki gmo gsz grd fs0 fs1 fs2 fs3 fqo fql fw0 fw1 fw2 fw3 fw4 fw5 ftr Npb Njg Ntd Ntx Nru Zhi Z19 Z20 Z21 Z22 Z25 Z26 Z27 Z31 Z32 Z33 Z34 Z39 Z40 Fkd Fmo Fst Fro Ftp Fcd Fsr Fir Fih Fss Fsq Fce Flw Fwo Fhe Fsk Fna Fkp Fgb Fgo Ffa Fga Fvo)) (hS : va_S A s.heap H locs) {ls : Array Slot} (hl : lv_has ls 4 [zI 3 (nI (7 * i7)), zR 2 mo, zR 1 xo, zR 0 b]) : W p l e room_1 s m #[Value.ref b] below meth c H locs 87 4128 (lw_Z below #[Value.ref b] s) (F0 m 1215 ls []) := by
  obtain ⟨hx, hb, hret, hml, hown, hts0, hX, hbl, hlocks, hgv⟩ := id C0
  have hts : ∀ w ∈ wsL_law, w.before #[Value.ref b] s = true := fun w h => hts0 w (wsL_law_in w h)
  have hown : s.vm.findClass RL = some m.cls := hown
  have hA : ∀ q : Nat, s.heap.size ≤ q → A q := fun q h => by rw [hAe]; exact h
  have hbA : ¬ A b := by rw [hAe]; exact Nat.not_le.mpr hbl
  obtain ⟨⟨hjg, hpb, hlw, htx, htd⟩, hkk, hql⟩ := id hFX
  obtain ⟨⟨hNpb, hNjg, hNru, hNtx, hNtd⟩, hwa, hsq, hIM⟩ := id hFM
  have hz9 : gPD G A [zo5 xo tt rd nw th kp sh tu him, zo1 rd tt b0 x2 x3 x4 x5 (nI td), zi G b0 160 fb, zo3 tt co en sk wr (nI tx), zr G co 6 fc, zi G c0 160 fcr0, zi G c1 160 fcr1, zi G c2 160 fcr2, zi G c3 160 fcr3, zi G c4 160 fcr4, zi G c5 160 fcr5, zr G en 6 fe, zi G e0 3 (nF fer0), zi G e1 3 (nF fer1), zi G e2 3 (nF fer2), zi G e3 3 (nF fer3), zi G e4 3 (nF fer4), zi G e5 3 (nF fer5), zi G sk 32 fsk, zo0 nw tt n1 n2 n3 n4 n5 n6 n7 n8 (nI jg) (nI pb) (nI lw), zi G n1 6 fnm, zi G n2 4 fso, zi G n3 4 fmi, zi G n4 4 fpa, zi G n5 6 fki, zi G n6 6 fmo, zi G n7 6 fsz, zi G n8 6 frd, zo0 th tt t1 t2 t3 t4 t5 t6 t7 t8 tj tb tl, zi G t1 6 unm, zi G t2 4 uso, zi G t3 4 umi, zi G t4 4 upa, zi G t5 6 uki, zi G t6 6 umo, zi G t7 6 usz, zi G t8 6 urd, zo0 kp tt k1 k2 k3 k4 k5 k6 k7 k8 (nI kj) (nI kb) (nI kl), zi G k1 6 gnm, zi G k2 4 gso, zi G k3 4 gmi, zi G k4 4 gpa, zi G k5 6 gki, zi G k6 6 gmo, zi G k7 6 gsz, zi G k8 6 grd, zo2 sh qn qo ql, zr G qn 4 fn, zi G r0 40 fs0, zi G r1 40 fs1, zi G r2 40 fs2, zi G r3 40 fs3, zi G qo 4 fqo, zi G ql 4 (nF fql), zo4 tu tw tr, zr G tw 6 fw, zi G w0 6 fw0, zi G w1 6 fw1, zi G w2 6 fw2, zi G w3 6 fw3, zi G w4 6 fw4, zi G w5 6 fw5, zi G tr 64 ftr, zo6 mo (nI Npb) Akd Amo Ast (nI Njg) Aro Atp (nI Ntd) Acd Asr (nI Ntx) (nI Nru) Zhi Air Aih Ass Asq Ace Alw Z19 Z20 Z21 Z22 Awo Ahe Z25 Z26 Z27 Ask Ana Akp Z31 Z32 Z33 Z34 Agb Ago Afa Aga Z39 Z40 Avo, zi G Akd 6 Fkd, zi G Amo 6 Fmo, zi G Ast 12 Fst, zi G Aro 12 Fro, zi G Atp 160 Ftp, zi G Acd 1200 Fcd, zi G Asr 24 (nF Fsr), zi G Air 24 Fir, zi G Aih 3 Fih, zi G Ass 4 Fss, zi G Asq 4 (nF Fsq), zi G Ace 160 Fce, zi G Alw 40 Flw, zi G Awo 96 Fwo, zi G Ahe 200 Fhe, zi G Ask 200 Fsk, zi G Ana 6 Fna, zi G Akp 24 Fkp, zb G Agb 61 Fgb, zb G Ago 61 Fgo, zi G Afa 36 Ffa, zi G Aga 36 Fga, zi G Avo 64 Fvo] H := ⟨hP, hD⟩
  have hP := hz9.1
  have hD := hz9.2
  refine lv_aload_n hx hb dL_law_1215 rfl (lv_at hl 2 rfl) ?_
  refine lv_aload_n hx hb dL_law_1216 rfl (lv_at hl 3 rfl) ?_
  refine lv_iload_n hx hb dL_law_1217 rfl (lv_at hl 0 rfl) ?_
  refine lv_iconst (v := 1) hx hb dL_law_1218 (by decide +kernel) ?_
  refine lv_iadd hx hb dL_law_1219 ?_
  refine lv_topi (fun v_1 ev_1 => ?_)
  have ev_1 : v_1 = nI ((7 * i7) + 1) := ev_1.trans (nI_add (7 * i7) 1)
  subst ev_1
  refine va_sld hx hb hX hbl hbA hS (i := nI ((7 * i7) + 1)) (vp_in_nI (by omega) (by omega)) dL_law_1220 ?_
  refine lv_topi (fun v_2 ev_2 => ?_)
  have ev_2 : v1 = v_2 := (ev_2.trans (by rw [nI_clamp (by omega)]; exact hv1.symm)).symm
  subst ev_2
  refine lv_aload_n hx hb dL_law_1221 rfl (lv_at hl 3 rfl) ?_
  refine lv_iload_n hx hb dL_law_1222 rfl (lv_at hl 0 rfl) ?_
  refine lv_iconst (v := 2) hx hb dL_law_1223 (by decide +kernel) ?_
  refine lv_iadd hx hb dL_law_1224 ?_
  refine lv_topi (fun v_3 ev_3 => ?_)
  have ev_3 : v_3 = nI ((7 * i7) + 2) := ev_3.trans (nI_add (7 * i7) 2)
  subst ev_3
  refine va_sld hx hb hX hbl hbA hS (i := nI ((7 * i7) + 2)) (vp_in_nI (by omega) (by omega)) dL_law_1225 ?_
  refine lv_topi (fun v_4 ev_4 => ?_)
  have ev_4 : v2 = v_4 := (ev_4.trans (by rw [nI_clamp (by omega)]; exact hv2.symm)).symm
  subst ev_4
  refine lv_aload_n hx hb dL_law_1226 rfl (lv_at hl 3 rfl) ?_
  refine lv_iload_n hx hb dL_law_1227 rfl (lv_at hl 0 rfl) ?_
  refine lv_iconst (v := 3) hx hb dL_law_1228 (by decide +kernel) ?_
  refine lv_iadd hx hb dL_law_1229 ?_
  refine lv_topi (fun v_5 ev_5 => ?_)
  have ev_5 : v_5 = nI ((7 * i7) + 3) := ev_5.trans (nI_add (7 * i7) 3)
  subst ev_5
  refine va_sld hx hb hX hbl hbA hS (i := nI ((7 * i7) + 3)) (vp_in_nI (by omega) (by omega)) dL_law_1230 ?_
  refine lv_topi (fun v_6 ev_6 => ?_)
  have ev_6 : v3 = v_6 := (ev_6.trans (by rw [nI_clamp (by omega)]; exact hv3.symm)).symm
  subst ev_6
  refine lv_aload_n hx hb dL_law_1231 rfl (lv_at hl 3 rfl) ?_
  refine lv_iload_n hx hb dL_law_1232 rfl (lv_at hl 0 rfl) ?_
  refine lv_iconst (v := 4) hx hb dL_law_1233 (by decide +kernel) ?_
  refine lv_iadd hx hb dL_law_1234 ?_
  refine lv_topi (fun v_7 ev_7 => ?_)
  have ev_7 : v_7 = nI ((7 * i7) + 4) := ev_7.trans (nI_add (7 * i7) 4)
  subst ev_7
  refine va_sld hx hb hX hbl hbA hS (i := nI ((7 * i7) + 4)) (vp_in_nI (by omega) (by omega)) dL_law_1235 ?_
  refine lv_topi (fun v_8 ev_8 => ?_)
  have ev_8 : v4 = v_8 := (ev_8.trans (by rw [nI_clamp (by omega)]; exact hv4.symm)).symm
  subst ev_8
  refine lv_aload_n hx hb dL_law_1236 rfl (lv_at hl 3 rfl) ?_
  refine lv_iload_n hx hb dL_law_1237 rfl (lv_at hl 0 rfl) ?_
  refine lv_iconst (v := 5) hx hb dL_law_1238 (by decide +kernel) ?_
  refine lv_iadd hx hb dL_law_1239 ?_
  refine lv_topi (fun v_9 ev_9 => ?_)
  have ev_9 : v_9 = nI ((7 * i7) + 5) := ev_9.trans (nI_add (7 * i7) 5)
  subst ev_9
  refine va_sld hx hb hX hbl hbA hS (i := nI ((7 * i7) + 5)) (vp_in_nI (by omega) (by omega)) dL_law_1240 ?_
  refine lv_topi (fun v_10 ev_10 => ?_)
  have ev_10 : v5 = v_10 := (ev_10.trans (by rw [nI_clamp (by omega)]; exact hv5.symm)).symm
  subst ev_10
  have hz9 : gPD G A [zo5 xo tt rd nw th kp sh tu him, zo0 nw tt n1 n2 n3 n4 n5 n6 n7 n8 (nI jg) (nI pb) (nI lw), zi G n2 4 fso, zi G n3 4 fmi, zi G n4 4 fpa, zi G n5 6 fki, zi G n6 6 fmo, zi G n7 6 fsz, zi G n8 6 frd, zo0 th tt t1 t2 t3 t4 t5 t6 t7 t8 tj tb tl, zi G t1 6 unm, zi G t2 4 uso, zi G t3 4 umi, zi G t4 4 upa, zi G t5 6 uki, zi G t6 6 umo, zi G t7 6 usz, zi G t8 6 urd, zo3 tt co en sk wr (nI tx), zr G co 6 fc, zr G en 6 fe, zi G c0 160 fcr0, zi G e0 3 (nF fer0), zi G sk 32 fsk] H := ⟨hP.sub [0, 19, 21, 22, 23, 24, 25, 26, 27, 28, 29, 30, 31, 32, 33, 34, 35, 36, 3, 4, 11, 5, 12, 18] rfl, hD.sub [0, 19, 21, 22, 23, 24, 25, 26, 27, 28, 29, 30, 31, 32, 33, 34, 35, 36, 3, 4, 11, 5, 12, 18] (by decide +kernel) rfl⟩
  have hPc := hz9.1
  have hDc := hz9.2
  have hFc := gFree hPc hD hS hA [0, 19, 21, 22, 23, 24, 25, 26, 27, 28, 29, 30, 31, 32, 33, 34, 35, 36, 3, 4, 11, 5, 12, 18] rfl
  refine va_calli (va_runV (As := [.int v1, .int v2, .int v3, .int v4, .int v5]) (rest := []) ⟨hx, hb, hml, hown, hts⟩ (c_X5_drawn l G xo tt rd nw th kp sh tu n1 n2 n3 n4 n5 n6 n7 n8 t1 t2 t3 t4 t5 t6 t7 t8 co en sk c0 e0 jg pb lw tx him wr tj tb tl fc fe fer0 fso fmi fpa fki fmo fsz frd unm uso umi upa uki umo usz urd fcr0 fsk v1 v2 v3 v4 v5 H.size (by first | exact htn | assumption | omega) (by first | exact hc | assumption | omega) (by first | exact he | assumption | omega) (by first | exact hwx | assumption | omega) (by first | exact hjg | assumption | omega) (by first | exact hpb | assumption | omega)) (cwV 5 hts gL_law_X5_drawn rfl rfl rfl (by decide +kernel) ⟨Nat.le_of_ble_eq_true rfl, Nat.le_of_ble_eq_true rfl⟩) ⟨gPre_blind, va_recv hK hPc (ci := 5) (q0 := 0) rfl rfl, fun U hU hW => gPre_of hU hW hK hPc hDc⟩ rfl rfl hl.1 rfl (lv_room (Nat.le_of_ble_eq_true rfl)) dL_law_1241 ⟨Nat.le_of_ble_eq_true rfl, Nat.le_of_ble_eq_true rfl⟩) hS (fun q _ h => hFc q h) hFc (fun r_11 u t H locs ht hvm w_12 hB hz1 hk1 hS => ?_)
  obtain ⟨yt1_13, yt2_14, yt3_15, yt4_16, yt5_17, yt6_18, yt7_19, yt8_20, ysk_21⟩ := u
  obtain ⟨hP1, hK1, hD1⟩ := hB
  rw [ht] at hP1
  have hz9 : gPD G (va_A _ _) [zo5 xo tt rd nw th kp sh tu him, zo0 nw tt n1 n2 n3 n4 n5 n6 n7 n8 (nI jg) (nI pb) (nI lw), zi G n2 4 fso, zi G n3 4 fmi, zi G n4 4 fpa, zi G n5 6 fki, zi G n6 6 fmo, zi G n7 6 fsz, zi G n8 6 frd, zo0 th tt t1 t2 t3 t4 t5 t6 t7 t8 (m_X5_drawn_th9 jg pb tj v1 v2 v3 v4 v5) (m_X5_drawn_th10 jg pb tb v1 v2 v3 v4 v5) (m_X5_drawn_th11 jg pb lw tl v1 v2 v3 v4 v5), zi G t1 6 yt1_13, zi G t2 4 yt2_14, zi G t3 4 yt3_15, zi G t4 4 yt4_16, zi G t5 6 yt5_17, zi G t6 6 yt6_18, zi G t7 6 yt7_19, zi G t8 6 yt8_20, zo3 tt co en sk wr (nI tx), zr G co 6 fc, zr G en 6 fe, zi G c0 160 fcr0, zi G e0 3 (nF fer0), zi G sk 32 ysk_21] H := ⟨hP1, hD1⟩
  have hP1 := hz9.1
  have hD1 := hz9.2
  have w_12 : r_11 = m_X5_drawn jg pb fer0 fso fmi fpa fki fmo fsz frd fcr0 v1 v2 v3 v4 v5 := w_12
  have hz9 : gPD G A [zo1 rd tt b0 x2 x3 x4 x5 (nI td), zi G b0 160 fb, zi G c1 160 fcr1, zi G c2 160 fcr2, zi G c3 160 fcr3, zi G c4 160 fcr4, zi G c5 160 fcr5, zi G e1 3 (nF fer1), zi G e2 3 (nF fer2), zi G e3 3 (nF fer3), zi G e4 3 (nF fer4), zi G e5 3 (nF fer5), zi G n1 6 fnm, zo0 kp tt k1 k2 k3 k4 k5 k6 k7 k8 (nI kj) (nI kb) (nI kl), zi G k1 6 gnm, zi G k2 4 gso, zi G k3 4 gmi, zi G k4 4 gpa, zi G k5 6 gki, zi G k6 6 gmo, zi G k7 6 gsz, zi G k8 6 grd, zo2 sh qn qo ql, zr G qn 4 fn, zi G r0 40 fs0, zi G r1 40 fs1, zi G r2 40 fs2, zi G r3 40 fs3, zi G qo 4 fqo, zi G ql 4 (nF fql), zo4 tu tw tr, zr G tw 6 fw, zi G w0 6 fw0, zi G w1 6 fw1, zi G w2 6 fw2, zi G w3 6 fw3, zi G w4 6 fw4, zi G w5 6 fw5, zi G tr 64 ftr, zo6 mo (nI Npb) Akd Amo Ast (nI Njg) Aro Atp (nI Ntd) Acd Asr (nI Ntx) (nI Nru) Zhi Air Aih Ass Asq Ace Alw Z19 Z20 Z21 Z22 Awo Ahe Z25 Z26 Z27 Ask Ana Akp Z31 Z32 Z33 Z34 Agb Ago Afa Aga Z39 Z40 Avo, zi G Akd 6 Fkd, zi G Amo 6 Fmo, zi G Ast 12 Fst, zi G Aro 12 Fro, zi G Atp 160 Ftp, zi G Acd 1200 Fcd, zi G Asr 24 (nF Fsr), zi G Air 24 Fir, zi G Aih 3 Fih, zi G Ass 4 Fss, zi G Asq 4 (nF Fsq), zi G Ace 160 Fce, zi G Alw 40 Flw, zi G Awo 96 Fwo, zi G Ahe 200 Fhe, zi G Ask 200 Fsk, zi G Ana 6 Fna, zi G Akp 24 Fkp, zb G Agb 61 Fgb, zb G Ago 61 Fgo, zi G Afa 36 Ffa, zi G Aga 36 Fga, zi G Avo 64 Fvo, zo5 xo tt rd nw th kp sh tu him, zo0 nw tt n1 n2 n3 n4 n5 n6 n7 n8 (nI jg) (nI pb) (nI lw), zi G n2 4 fso, zi G n3 4 fmi, zi G n4 4 fpa, zi G n5 6 fki, zi G n6 6 fmo, zi G n7 6 fsz, zi G n8 6 frd, zo0 th tt t1 t2 t3 t4 t5 t6 t7 t8 (m_X5_drawn_th9 jg pb tj v1 v2 v3 v4 v5) (m_X5_drawn_th10 jg pb tb v1 v2 v3 v4 v5) (m_X5_drawn_th11 jg pb lw tl v1 v2 v3 v4 v5), zi G t1 6 yt1_13, zi G t2 4 yt2_14, zi G t3 4 yt3_15, zi G t4 4 yt4_16, zi G t5 6 yt5_17, zi G t6 6 yt6_18, zi G t7 6 yt7_19, zi G t8 6 yt8_20, zo3 tt co en sk wr (nI tx), zr G co 6 fc, zr G en 6 fe, zi G c0 160 fcr0, zi G e0 3 (nF fer0), zi G sk 32 ysk_21] H := gJoin hP hD hk1 hFc hP1 hD1 [0, 19, 21, 22, 23, 24, 25, 26, 27, 28, 29, 30, 31, 32, 33, 34, 35, 36, 3, 4, 11, 5, 12, 18] [1, 2, 6, 7, 8, 9, 10, 13, 14, 15, 16, 17, 20, 37, 38, 39, 40, 41, 42, 43, 44, 45, 46, 47, 48, 49, 50, 51, 52, 53, 54, 55, 56, 57, 58, 59, 60, 61, 62, 63, 64, 65, 66, 67, 68, 69, 70, 71, 72, 73, 74, 75, 76, 77, 78, 79, 80, 81, 82, 83, 84, 85, 86] rfl rfl rfl (by decide +kernel) (by decide +kernel)
  have hP := hz9.1
  have hD := hz9.2
  subst w_12
  refine lv_pop hx hb dL_law_1244 rfl ?_
  refine lv_aload_n hx hb dL_law_1245 rfl (lv_at hl 1 rfl) ?_
  refine lv_aload_n hx hb dL_law_1246 rfl (lv_at hl 3 rfl) ?_
  refine lv_iload_n hx hb dL_law_1247 rfl (lv_at hl 0 rfl) ?_
  refine lv_iconst (v := 1) hx hb dL_law_1248 (by decide +kernel) ?_
  refine lv_iadd hx hb dL_law_1249 ?_
  refine lv_topi (fun v_22 ev_22 => ?_)
  have ev_22 : v_22 = nI ((7 * i7) + 1) := ev_22.trans (nI_add (7 * i7) 1)
  subst ev_22
  refine va_sld hx hb hX hbl hbA hS (i := nI ((7 * i7) + 1)) (vp_in_nI (by omega) (by omega)) dL_law_1250 ?_
  refine lv_topi (fun v_23 ev_23 => ?_)
  have ev_23 : v1 = v_23 := (ev_23.trans (by rw [nI_clamp (by omega)]; exact hv1.symm)).symm
  subst ev_23
  refine lv_aload_n hx hb dL_law_1251 rfl (lv_at hl 3 rfl) ?_
  refine lv_iload_n hx hb dL_law_1252 rfl (lv_at hl 0 rfl) ?_
  refine lv_iconst (v := 2) hx hb dL_law_1253 (by decide +kernel) ?_
  refine lv_iadd hx hb dL_law_1254 ?_
  refine lv_topi (fun v_24 ev_24 => ?_)
  have ev_24 : v_24 = nI ((7 * i7) + 2) := ev_24.trans (nI_add (7 * i7) 2)
  subst ev_24
  refine va_sld hx hb hX hbl hbA hS (i := nI ((7 * i7) + 2)) (vp_in_nI (by omega) (by omega)) dL_law_1255 ?_
  refine lv_topi (fun v_25 ev_25 => ?_)
  have ev_25 : v2 = v_25 := (ev_25.trans (by rw [nI_clamp (by omega)]; exact hv2.symm)).symm
  subst ev_25
  refine lv_aload_n hx hb dL_law_1256 rfl (lv_at hl 3 rfl) ?_
  refine lv_iload_n hx hb dL_law_1257 rfl (lv_at hl 0 rfl) ?_
  refine lv_iconst (v := 3) hx hb dL_law_1258 (by decide +kernel) ?_
  refine lv_iadd hx hb dL_law_1259 ?_
  refine lv_topi (fun v_26 ev_26 => ?_)
  have ev_26 : v_26 = nI ((7 * i7) + 3) := ev_26.trans (nI_add (7 * i7) 3)
  subst ev_26
  refine va_sld hx hb hX hbl hbA hS (i := nI ((7 * i7) + 3)) (vp_in_nI (by omega) (by omega)) dL_law_1260 ?_
  refine lv_topi (fun v_27 ev_27 => ?_)
  have ev_27 : v3 = v_27 := (ev_27.trans (by rw [nI_clamp (by omega)]; exact hv3.symm)).symm
  subst ev_27
  refine lv_aload_n hx hb dL_law_1261 rfl (lv_at hl 3 rfl) ?_
  refine lv_iload_n hx hb dL_law_1262 rfl (lv_at hl 0 rfl) ?_
  refine lv_iconst (v := 4) hx hb dL_law_1263 (by decide +kernel) ?_
  refine lv_iadd hx hb dL_law_1264 ?_
  refine lv_topi (fun v_28 ev_28 => ?_)
  have ev_28 : v_28 = nI ((7 * i7) + 4) := ev_28.trans (nI_add (7 * i7) 4)
  subst ev_28
  refine va_sld hx hb hX hbl hbA hS (i := nI ((7 * i7) + 4)) (vp_in_nI (by omega) (by omega)) dL_law_1265 ?_
  refine lv_topi (fun v_29 ev_29 => ?_)
  have ev_29 : v4 = v_29 := (ev_29.trans (by rw [nI_clamp (by omega)]; exact hv4.symm)).symm
  subst ev_29
  refine lv_aload_n hx hb dL_law_1266 rfl (lv_at hl 3 rfl) ?_
  refine lv_iload_n hx hb dL_law_1267 rfl (lv_at hl 0 rfl) ?_
  refine lv_iconst (v := 5) hx hb dL_law_1268 (by decide +kernel) ?_
  refine lv_iadd hx hb dL_law_1269 ?_
  refine lv_topi (fun v_30 ev_30 => ?_)
  have ev_30 : v_30 = nI ((7 * i7) + 5) := ev_30.trans (nI_add (7 * i7) 5)
  subst ev_30
  refine va_sld hx hb hX hbl hbA hS (i := nI ((7 * i7) + 5)) (vp_in_nI (by omega) (by omega)) dL_law_1270 ?_
  refine lv_topi (fun v_31 ev_31 => ?_)
  have ev_31 : v5 = v_31 := (ev_31.trans (by rw [nI_clamp (by omega)]; exact hv5.symm)).symm
  subst ev_31
  have hz9 : gPD G A [zo6 mo (nI Npb) Akd Amo Ast (nI Njg) Aro Atp (nI Ntd) Acd Asr (nI Ntx) (nI Nru) Zhi Air Aih Ass Asq Ace Alw Z19 Z20 Z21 Z22 Awo Ahe Z25 Z26 Z27 Ask Ana Akp Z31 Z32 Z33 Z34 Agb Ago Afa Aga Z39 Z40 Avo, zi G Ast 12 Fst, zi G Aro 12 Fro, zi G Amo 6 Fmo, zi G Akd 6 Fkd, zi G Acd 1200 Fcd, zi G Asr 24 (nF Fsr), zi G Ask 200 Fsk, zi G Ana 6 Fna, zi G Akp 24 Fkp] H := ⟨hP.sub [39, 42, 43, 41, 40, 45, 46, 55, 56, 57] rfl, hD.sub [39, 42, 43, 41, 40, 45, 46, 55, 56, 57] (by decide +kernel) rfl⟩
  have hPc := hz9.1
  have hDc := hz9.2
  have hFc := gFree hPc hD hS hA [39, 42, 43, 41, 40, 45, 46, 55, 56, 57] rfl
  refine va_calli (va_runV (As := [.int v1, .int v2, .int v3, .int v4, .int v5]) (rest := []) ⟨hx, hb, hml, hown, hts⟩ (c_X6_drawn l G mo Akd Amo Ast Aro Atp Acd Asr Air Aih Ass Asq Ace Alw Awo Ahe Ask Ana Akp Agb Ago Afa Aga Avo Npb Njg Ntd Ntx Nru Zhi Z19 Z20 Z21 Z22 Z25 Z26 Z27 Z31 Z32 Z33 Z34 Z39 Z40 Fst Fro Fmo Fkd Fcd Fsr Fsk Fna Fkp v1 v2 v3 v4 v5 H.size (by first | exact hwa | assumption | omega) (by first | exact hpb | assumption | omega) (by first | exact hjg | assumption | omega) (by first | exact htx | assumption | omega) (by first | exact hru | assumption | omega)) (cwV 5 hts gL_law_X6_drawn rfl rfl rfl (by decide +kernel) ⟨Nat.le_of_ble_eq_true rfl, Nat.le_of_ble_eq_true rfl⟩) ⟨gPre_blind, va_recv hK hPc (ci := 6) (q0 := 0) rfl rfl, fun U hU hW => gPre_of hU hW hK hPc hDc⟩ rfl rfl hl.1 rfl (lv_room (Nat.le_of_ble_eq_true rfl)) dL_law_1271 ⟨Nat.le_of_ble_eq_true rfl, Nat.le_of_ble_eq_true rfl⟩) hS (fun q _ h => hFc q h) hFc (fun r_32 u t H locs ht hvm w_33 hB hz1 hk1 hS => ?_)
  obtain ⟨z31_34, z32_35, z33_36, z34_37, ysk_38, yna_39, ykp_40⟩ := u
  obtain ⟨hP1, hK1, hD1⟩ := hB
  rw [ht] at hP1
  have hz9 : gPD G (va_A _ _) [zo6 mo (nI Npb) Akd Amo Ast (nI Njg) Aro Atp (nI Ntd) Acd Asr (nI Ntx) (nI Nru) Zhi Air Aih Ass Asq Ace Alw Z19 Z20 Z21 Z22 Awo Ahe Z25 Z26 Z27 Ask Ana Akp z31_34 z32_35 z33_36 z34_37 Agb Ago Afa Aga Z39 Z40 Avo, zi G Ast 12 Fst, zi G Aro 12 Fro, zi G Amo 6 Fmo, zi G Akd 6 Fkd, zi G Acd 1200 Fcd, zi G Asr 24 (nF Fsr), zi G Ask 200 ysk_38, zi G Ana 6 yna_39, zi G Akp 24 ykp_40] H := ⟨hP1, hD1⟩
  have hP1 := hz9.1
  have hD1 := hz9.2
  have w_33 : r_32 = m_X6_drawn Npb Njg Nru Z33 Fst Fro Fmo Fkd Fcd Fsr v1 v2 v3 v4 v5 := w_33
  have hz9 : gPD G A [zo1 rd tt b0 x2 x3 x4 x5 (nI td), zi G b0 160 fb, zi G c1 160 fcr1, zi G c2 160 fcr2, zi G c3 160 fcr3, zi G c4 160 fcr4, zi G c5 160 fcr5, zi G e1 3 (nF fer1), zi G e2 3 (nF fer2), zi G e3 3 (nF fer3), zi G e4 3 (nF fer4), zi G e5 3 (nF fer5), zi G n1 6 fnm, zo0 kp tt k1 k2 k3 k4 k5 k6 k7 k8 (nI kj) (nI kb) (nI kl), zi G k1 6 gnm, zi G k2 4 gso, zi G k3 4 gmi, zi G k4 4 gpa, zi G k5 6 gki, zi G k6 6 gmo, zi G k7 6 gsz, zi G k8 6 grd, zo2 sh qn qo ql, zr G qn 4 fn, zi G r0 40 fs0, zi G r1 40 fs1, zi G r2 40 fs2, zi G r3 40 fs3, zi G qo 4 fqo, zi G ql 4 (nF fql), zo4 tu tw tr, zr G tw 6 fw, zi G w0 6 fw0, zi G w1 6 fw1, zi G w2 6 fw2, zi G w3 6 fw3, zi G w4 6 fw4, zi G w5 6 fw5, zi G tr 64 ftr, zi G Atp 160 Ftp, zi G Air 24 Fir, zi G Aih 3 Fih, zi G Ass 4 Fss, zi G Asq 4 (nF Fsq), zi G Ace 160 Fce, zi G Alw 40 Flw, zi G Awo 96 Fwo, zi G Ahe 200 Fhe, zb G Agb 61 Fgb, zb G Ago 61 Fgo, zi G Afa 36 Ffa, zi G Aga 36 Fga, zi G Avo 64 Fvo, zo5 xo tt rd nw th kp sh tu him, zo0 nw tt n1 n2 n3 n4 n5 n6 n7 n8 (nI jg) (nI pb) (nI lw), zi G n2 4 fso, zi G n3 4 fmi, zi G n4 4 fpa, zi G n5 6 fki, zi G n6 6 fmo, zi G n7 6 fsz, zi G n8 6 frd, zo0 th tt t1 t2 t3 t4 t5 t6 t7 t8 (m_X5_drawn_th9 jg pb tj v1 v2 v3 v4 v5) (m_X5_drawn_th10 jg pb tb v1 v2 v3 v4 v5) (m_X5_drawn_th11 jg pb lw tl v1 v2 v3 v4 v5), zi G t1 6 yt1_13, zi G t2 4 yt2_14, zi G t3 4 yt3_15, zi G t4 4 yt4_16, zi G t5 6 yt5_17, zi G t6 6 yt6_18, zi G t7 6 yt7_19, zi G t8 6 yt8_20, zo3 tt co en sk wr (nI tx), zr G co 6 fc, zr G en 6 fe, zi G c0 160 fcr0, zi G e0 3 (nF fer0), zi G sk 32 ysk_21, zo6 mo (nI Npb) Akd Amo Ast (nI Njg) Aro Atp (nI Ntd) Acd Asr (nI Ntx) (nI Nru) Zhi Air Aih Ass Asq Ace Alw Z19 Z20 Z21 Z22 Awo Ahe Z25 Z26 Z27 Ask Ana Akp z31_34 z32_35 z33_36 z34_37 Agb Ago Afa Aga Z39 Z40 Avo, zi G Ast 12 Fst, zi G Aro 12 Fro, zi G Amo 6 Fmo, zi G Akd 6 Fkd, zi G Acd 1200 Fcd, zi G Asr 24 (nF Fsr), zi G Ask 200 ysk_38, zi G Ana 6 yna_39, zi G Akp 24 ykp_40] H := gJoin hP hD hk1 hFc hP1 hD1 [39, 42, 43, 41, 40, 45, 46, 55, 56, 57] [0, 1, 2, 3, 4, 5, 6, 7, 8, 9, 10, 11, 12, 13, 14, 15, 16, 17, 18, 19, 20, 21, 22, 23, 24, 25, 26, 27, 28, 29, 30, 31, 32, 33, 34, 35, 36, 37, 38, 44, 47, 48, 49, 50, 51, 52, 53, 54, 58, 59, 60, 61, 62, 63, 64, 65, 66, 67, 68, 69, 70, 71, 72, 73, 74, 75, 76, 77, 78, 79, 80, 81, 82, 83, 84, 85, 86] rfl rfl rfl (by decide +kernel) (by decide +kernel)
  have hP := hz9.1
  have hD := hz9.2
  subst w_33
  refine lv_pop hx hb dL_law_1274 rfl ?_
  refine lv_goto (tgt := 1614) hx hb dL_law_1275 (by decide +kernel) ?_
  refine lv_iinc (v := nI (7 * (i7 + 1))) (lv' := [zI 3 (nI (7 * (i7 + 1))), zR 2 mo, zR 1 xo, zR 0 b]) hx hb dL_law_1614 hl (k := 0) rfl (by show nI (7 * i7) + 7 = nI (7 * (i7 + 1)); exact nI_add (7 * i7) 7) (by decide +kernel) rfl (fun ls hl => ?_)
  refine lv_goto (tgt := 18) hx hb dL_law_1617 (by decide +kernel) ?_
  exact K him x2 x3 x4 x5 td fb wr ysk_21 jg pb lw fnm fso fmi fpa fki fmo fsz frd (m_X5_drawn_th9 jg pb tj v1 v2 v3 v4 v5) (m_X5_drawn_th10 jg pb tb v1 v2 v3 v4 v5) (m_X5_drawn_th11 jg pb lw tl v1 v2 v3 v4 v5) yt1_13 yt2_14 yt3_15 yt4_16 yt5_17 yt6_18 yt7_19 yt8_20 kj kb kl gnm gso gmi gpa gki gmo gsz grd fs0 fs1 fs2 fs3 fqo fql fw0 fw1 fw2 fw3 fw4 fw5 ftr Npb Njg Ntd Ntx Nru Zhi Z19 Z20 Z21 Z22 Z25 Z26 Z27 z31_34 z32_35 z33_36 z34_37 Z39 Z40 Fkd Fmo Fst Fro Ftp Fcd Fsr Fir Fih Fss Fsq Fce Flw Fwo Fhe ysk_38 yna_39 ykp_40 Fgb Fgo Ffa Fga Fvo hFX hFM hRL hRQ H _ ls (hP.sub [53, 0, 1, 71, 72, 74, 2, 3, 4, 5, 6, 73, 75, 7, 8, 9, 10, 11, 76, 54, 12, 55, 56, 57, 58, 59, 60, 61, 62, 63, 64, 65, 66, 67, 68, 69, 70, 13, 14, 15, 16, 17, 18, 19, 20, 21, 22, 23, 24, 25, 26, 27, 28, 29, 30, 31, 32, 33, 34, 35, 36, 37, 38, 77, 81, 80, 78, 79, 39, 82, 83, 40, 41, 42, 43, 44, 45, 46, 47, 84, 85, 86, 48, 49, 50, 51, 52] rfl) (hD.sub [53, 0, 1, 71, 72, 74, 2, 3, 4, 5, 6, 73, 75, 7, 8, 9, 10, 11, 76, 54, 12, 55, 56, 57, 58, 59, 60, 61, 62, 63, 64, 65, 66, 67, 68, 69, 70, 13, 14, 15, 16, 17, 18, 19, 20, 21, 22, 23, 24, 25, 26, 27, 28, 29, 30, 31, 32, 33, 34, 35, 36, 37, 38, 77, 81, 80, 78, 79, 39, 82, 83, 40, 41, 42, 43, 44, 45, 46, 47, 84, 85, 86, 48, 49, 50, 51, 52] (by decide +kernel) rfl) hS (lv_sub hl [0, 1, 2, 3] rfl)
set_option maxHeartbeats 4000000 in
set_option maxRecDepth 100000 in
theorem lc_odds {p : Program} {l : Launch} {e : Env} {s : State} {m : MethodId} {below : List Frame} {meth : Method} {c : Code} {b L : Nat} {xs : Nat → Int32} {G : gG} {E : gS} {A : Nat → Prop} (C0 : lw_At p s m meth c b L xs) (hE : gE E A s s.heap) (hK : gK G s) (hAe : A = fun q => s.heap.size ≤ q) {xo tt rd nw th kp sh tu b0 co en sk c0 c1 c2 c3 c4 c5 e0 e1 e2 e3 e4 e5 n1 n2 n3 n4 n5 n6 n7 n8 t1 t2 t3 t4 t5 t6 t7 t8 k1 k2 k3 k4 k5 k6 k7 k8 qn qo ql r0 r1 r2 r3 tw tr w0 w1 w2 w3 w4 w5 mo Akd Amo Ast Aro Atp Acd Asr Air Aih Ass Asq Ace Alw Awo Ahe Ask Ana Akp Agb Ago Afa Aga Avo : Nat} {fc fe fn fw : Nat → Option Nat} {tx : Nat} {fcr0 fcr1 fcr2 fcr3 fcr4 fcr5 : Nat → Int32} {fer0 fer1 fer2 fer3 fer4 fer5 : Nat → Nat} {him x2 x3 x4 x5 : Int32} {td : Nat} {fb : Nat → Int32} {wr : Int32} {fsk : Nat → Int32} {jg pb lw : Nat} {fnm fso fmi fpa fki fmo fsz frd : Nat → Int32} {tj tb tl : Int32} {unm uso umi upa uki umo usz urd : Nat → Int32} {kj kb kl : Nat} {gnm gso gmi gpa gki gmo gsz grd fs0 fs1 fs2 fs3 fqo : Nat → Int32} {fql : Nat → Nat} {fw0 fw1 fw2 fw3 fw4 fw5 ftr : Nat → Int32} {Npb Njg Ntd Ntx Nru : Nat} {Zhi Z19 Z20 Z21 Z22 Z25 Z26 Z27 Z31 Z32 Z33 Z34 Z39 Z40 : Int32} {Fkd Fmo Fst Fro Ftp Fcd : Nat → Int32} {Fsr : Nat → Nat} {Fir Fih Fss : Nat → Int32} {Fsq : Nat → Nat} {Fce Flw Fwo Fhe Fsk Fna Fkp Fgb Fgo Ffa Fga Fvo : Nat → Int32}  {v1 v2 v3 v4 v5 v6 : Int32} {i7 : Nat} (hi : 7 * i7 + 7 ≤ L) (hL : L ≤ 3584) (hv1 : v1 = xs (7 * i7 + 1)) (hv2 : v2 = xs (7 * i7 + 2)) (hv3 : v3 = xs (7 * i7 + 3)) (hv4 : v4 = xs (7 * i7 + 4)) (hv5 : v5 = xs (7 * i7 + 5)) (hv6 : v6 = xs (7 * i7 + 6)) (hc : fc lw = some c0) (he : fe lw = some e0) (hwx : mWx fcr0 fer0) (K : LawV p l e s m below meth c b G A xo tt rd nw th kp sh tu b0 co en sk c0 c1 c2 c3 c4 c5 e0 e1 e2 e3 e4 e5 n1 n2 n3 n4 n5 n6 n7 n8 t1 t2 t3 t4 t5 t6 t7 t8 k1 k2 k3 k4 k5 k6 k7 k8 qn qo ql r0 r1 r2 r3 tw tr w0 w1 w2 w3 w4 w5 mo Akd Amo Ast Aro Atp Acd Asr Air Aih Ass Asq Ace Alw Awo Ahe Ask Ana Akp Agb Ago Afa Aga Avo fc fe fn fw tx fcr0 fcr1 fcr2 fcr3 fcr4 fcr5 fer0 fer1 fer2 fer3 fer4 fer5 (i7 + 1)) (hFX : FXP jg pb lw kj kb kl tx td him fql) (hFM : FMP Npb Njg Ntd Ntx Nru Zhi Fcd Fsr Fsq Fir Fih) (hRL : RLP False fn r0 r1 r2 r3 jg pb kj kb him fs0 fs1 fs2 fs3 fqo fql Npb Njg Zhi Fss Fsq Fce Fih) (hRQ : RQP fc c0 c1 c2 c3 c4 c5 fcr0 fcr1 fcr2 fcr3 fcr4 fcr5 fer0 fer1 fer2 fer3 fer4 fer5 pb lw tx td kb kl him fb fso fmi fpa fki fmo fsz frd gso gmi gpa gki gmo gsz grd Nru Ntx Ntd Fkd Fmo Fst Fro Ftp Fcd Fsr Fir Fih Fwo) {H : Heap} {locs : List Loc} (hP : va_P G.1 vwCl (WLd G xo tt rd nw th kp sh tu b0 co en sk c0 c1 c2 c3 c4 c5 e0 e1 e2 e3 e4 e5 n1 n2 n3 n4 n5 n6 n7 n8 t1 t2 t3 t4 t5 t6 t7 t8 k1 k2 k3 k4 k5 k6 k7 k8 qn qo ql r0 r1 r2 r3 tw tr w0 w1 w2 w3 w4 w5 mo Akd Amo Ast Aro Atp Acd Asr Air Aih Ass Asq Ace Alw Awo Ahe Ask Ana Akp Agb Ago Afa Aga Avo fc fe fn fw tx fcr0 fcr1 fcr2 fcr3 fcr4 fcr5 fer0 fer1 fer2 fer3 fer4 fer5 him x2 x3 x4 x5 td fb wr fsk jg pb lw fnm fso fmi fpa fki fmo fsz frd tj tb tl unm uso umi upa uki umo usz urd kj kb kl gnm gso gmi gpa gki gmo gsz grd fs0 fs1 fs2 fs3 fqo fql fw0 fw1 fw2 fw3 fw4 fw5 ftr Npb Njg Ntd Ntx Nru Zhi Z19 Z20 Z21 Z22 Z25 Z26 Z27 Z31 Z32 Z33 Z34 Z39 Z40 Fkd Fmo Fst Fro Ftp Fcd Fsr Fir Fih Fss Fsq Fce Flw Fwo Fhe Fsk Fna Fkp Fgb Fgo Ffa Fga Fvo) H) (hD : va_D A (WLd G xo tt rd nw th kp sh tu b0 co en sk c0 c1 c2 c3 c4 c5 e0 e1 e2 e3 e4 e5 n1 n2 n3 n4 n5 n6 n7 n8 t1 t2 t3 t4 t5 t6 t7 t8 k1 k2 k3 k4 k5 k6 k7 k8 qn qo ql r0 r1 r2 r3 tw tr w0 w1 w2 w3 w4 w5 mo Akd Amo Ast Aro Atp Acd Asr Air Aih Ass Asq Ace Alw Awo Ahe Ask Ana Akp Agb Ago Afa Aga Avo fc fe fn fw tx fcr0 fcr1 fcr2 fcr3 fcr4 fcr5 fer0 fer1 fer2 fer3 fer4 fer5 him x2 x3 x4 x5 td fb wr fsk jg pb lw fnm fso fmi fpa fki fmo fsz frd tj tb tl unm uso umi upa uki umo usz urd kj kb kl gnm gso gmi gpa gki gmo gsz grd fs0 fs1 fs2 fs3 fqo fql fw0 fw1 fw2 fw3 fw4 fw5 ftr Npb Njg Ntd Ntx Nru Zhi Z19 Z20 Z21 Z22 Z25 Z26 Z27 Z31 Z32 Z33 Z34 Z39 Z40 Fkd Fmo Fst Fro Ftp Fcd Fsr Fir Fih Fss Fsq Fce Flw Fwo Fhe Fsk Fna Fkp Fgb Fgo Ffa Fga Fvo)) (hS : va_S A s.heap H locs) {ls : Array Slot} (hl : lv_has ls 4 [zI 3 (nI (7 * i7)), zR 2 mo, zR 1 xo, zR 0 b]) : W p l e room_1 s m #[Value.ref b] below meth c H locs 87 4128 (lw_Z below #[Value.ref b] s) (F0 m 1278 ls []) := by
  obtain ⟨hx, hb, hret, hml, hown, hts0, hX, hbl, hlocks, hgv⟩ := id C0
  have hts : ∀ w ∈ wsL_law, w.before #[Value.ref b] s = true := fun w h => hts0 w (wsL_law_in w h)
  have hown : s.vm.findClass RL = some m.cls := hown
  have hA : ∀ q : Nat, s.heap.size ≤ q → A q := fun q h => by rw [hAe]; exact h
  have hbA : ¬ A b := by rw [hAe]; exact Nat.not_le.mpr hbl
  obtain ⟨⟨hjg, hpb, hlw, htx, htd⟩, hkk, hql⟩ := id hFX
  obtain ⟨⟨hNpb, hNjg, hNru, hNtx, hNtd⟩, hwa, hsq, hIM⟩ := id hFM
  have hz9 : gPD G A [zo5 xo tt rd nw th kp sh tu him, zo1 rd tt b0 x2 x3 x4 x5 (nI td), zi G b0 160 fb, zo3 tt co en sk wr (nI tx), zr G co 6 fc, zi G c0 160 fcr0, zi G c1 160 fcr1, zi G c2 160 fcr2, zi G c3 160 fcr3, zi G c4 160 fcr4, zi G c5 160 fcr5, zr G en 6 fe, zi G e0 3 (nF fer0), zi G e1 3 (nF fer1), zi G e2 3 (nF fer2), zi G e3 3 (nF fer3), zi G e4 3 (nF fer4), zi G e5 3 (nF fer5), zi G sk 32 fsk, zo0 nw tt n1 n2 n3 n4 n5 n6 n7 n8 (nI jg) (nI pb) (nI lw), zi G n1 6 fnm, zi G n2 4 fso, zi G n3 4 fmi, zi G n4 4 fpa, zi G n5 6 fki, zi G n6 6 fmo, zi G n7 6 fsz, zi G n8 6 frd, zo0 th tt t1 t2 t3 t4 t5 t6 t7 t8 tj tb tl, zi G t1 6 unm, zi G t2 4 uso, zi G t3 4 umi, zi G t4 4 upa, zi G t5 6 uki, zi G t6 6 umo, zi G t7 6 usz, zi G t8 6 urd, zo0 kp tt k1 k2 k3 k4 k5 k6 k7 k8 (nI kj) (nI kb) (nI kl), zi G k1 6 gnm, zi G k2 4 gso, zi G k3 4 gmi, zi G k4 4 gpa, zi G k5 6 gki, zi G k6 6 gmo, zi G k7 6 gsz, zi G k8 6 grd, zo2 sh qn qo ql, zr G qn 4 fn, zi G r0 40 fs0, zi G r1 40 fs1, zi G r2 40 fs2, zi G r3 40 fs3, zi G qo 4 fqo, zi G ql 4 (nF fql), zo4 tu tw tr, zr G tw 6 fw, zi G w0 6 fw0, zi G w1 6 fw1, zi G w2 6 fw2, zi G w3 6 fw3, zi G w4 6 fw4, zi G w5 6 fw5, zi G tr 64 ftr, zo6 mo (nI Npb) Akd Amo Ast (nI Njg) Aro Atp (nI Ntd) Acd Asr (nI Ntx) (nI Nru) Zhi Air Aih Ass Asq Ace Alw Z19 Z20 Z21 Z22 Awo Ahe Z25 Z26 Z27 Ask Ana Akp Z31 Z32 Z33 Z34 Agb Ago Afa Aga Z39 Z40 Avo, zi G Akd 6 Fkd, zi G Amo 6 Fmo, zi G Ast 12 Fst, zi G Aro 12 Fro, zi G Atp 160 Ftp, zi G Acd 1200 Fcd, zi G Asr 24 (nF Fsr), zi G Air 24 Fir, zi G Aih 3 Fih, zi G Ass 4 Fss, zi G Asq 4 (nF Fsq), zi G Ace 160 Fce, zi G Alw 40 Flw, zi G Awo 96 Fwo, zi G Ahe 200 Fhe, zi G Ask 200 Fsk, zi G Ana 6 Fna, zi G Akp 24 Fkp, zb G Agb 61 Fgb, zb G Ago 61 Fgo, zi G Afa 36 Ffa, zi G Aga 36 Fga, zi G Avo 64 Fvo] H := ⟨hP, hD⟩
  have hP := hz9.1
  have hD := hz9.2
  refine lv_aload_n hx hb dL_law_1278 rfl (lv_at hl 2 rfl) ?_
  refine lv_aload_n hx hb dL_law_1279 rfl (lv_at hl 3 rfl) ?_
  refine lv_iload_n hx hb dL_law_1280 rfl (lv_at hl 0 rfl) ?_
  refine lv_iconst (v := 1) hx hb dL_law_1281 (by decide +kernel) ?_
  refine lv_iadd hx hb dL_law_1282 ?_
  refine lv_topi (fun v_1 ev_1 => ?_)
  have ev_1 : v_1 = nI ((7 * i7) + 1) := ev_1.trans (nI_add (7 * i7) 1)
  subst ev_1
  refine va_sld hx hb hX hbl hbA hS (i := nI ((7 * i7) + 1)) (vp_in_nI (by omega) (by omega)) dL_law_1283 ?_
  refine lv_topi (fun v_2 ev_2 => ?_)
  have ev_2 : v1 = v_2 := (ev_2.trans (by rw [nI_clamp (by omega)]; exact hv1.symm)).symm
  subst ev_2
  refine lv_aload_n hx hb dL_law_1284 rfl (lv_at hl 3 rfl) ?_
  refine lv_iload_n hx hb dL_law_1285 rfl (lv_at hl 0 rfl) ?_
  refine lv_iconst (v := 2) hx hb dL_law_1286 (by decide +kernel) ?_
  refine lv_iadd hx hb dL_law_1287 ?_
  refine lv_topi (fun v_3 ev_3 => ?_)
  have ev_3 : v_3 = nI ((7 * i7) + 2) := ev_3.trans (nI_add (7 * i7) 2)
  subst ev_3
  refine va_sld hx hb hX hbl hbA hS (i := nI ((7 * i7) + 2)) (vp_in_nI (by omega) (by omega)) dL_law_1288 ?_
  refine lv_topi (fun v_4 ev_4 => ?_)
  have ev_4 : v2 = v_4 := (ev_4.trans (by rw [nI_clamp (by omega)]; exact hv2.symm)).symm
  subst ev_4
  refine lv_aload_n hx hb dL_law_1289 rfl (lv_at hl 3 rfl) ?_
  refine lv_iload_n hx hb dL_law_1290 rfl (lv_at hl 0 rfl) ?_
  refine lv_iconst (v := 3) hx hb dL_law_1291 (by decide +kernel) ?_
  refine lv_iadd hx hb dL_law_1292 ?_
  refine lv_topi (fun v_5 ev_5 => ?_)
  have ev_5 : v_5 = nI ((7 * i7) + 3) := ev_5.trans (nI_add (7 * i7) 3)
  subst ev_5
  refine va_sld hx hb hX hbl hbA hS (i := nI ((7 * i7) + 3)) (vp_in_nI (by omega) (by omega)) dL_law_1293 ?_
  refine lv_topi (fun v_6 ev_6 => ?_)
  have ev_6 : v3 = v_6 := (ev_6.trans (by rw [nI_clamp (by omega)]; exact hv3.symm)).symm
  subst ev_6
  refine lv_aload_n hx hb dL_law_1294 rfl (lv_at hl 3 rfl) ?_
  refine lv_iload_n hx hb dL_law_1295 rfl (lv_at hl 0 rfl) ?_
  refine lv_iconst (v := 4) hx hb dL_law_1296 (by decide +kernel) ?_
  refine lv_iadd hx hb dL_law_1297 ?_
  refine lv_topi (fun v_7 ev_7 => ?_)
  have ev_7 : v_7 = nI ((7 * i7) + 4) := ev_7.trans (nI_add (7 * i7) 4)
  subst ev_7
  refine va_sld hx hb hX hbl hbA hS (i := nI ((7 * i7) + 4)) (vp_in_nI (by omega) (by omega)) dL_law_1298 ?_
  refine lv_topi (fun v_8 ev_8 => ?_)
  have ev_8 : v4 = v_8 := (ev_8.trans (by rw [nI_clamp (by omega)]; exact hv4.symm)).symm
  subst ev_8
  refine lv_aload_n hx hb dL_law_1299 rfl (lv_at hl 3 rfl) ?_
  refine lv_iload_n hx hb dL_law_1300 rfl (lv_at hl 0 rfl) ?_
  refine lv_iconst (v := 5) hx hb dL_law_1301 (by decide +kernel) ?_
  refine lv_iadd hx hb dL_law_1302 ?_
  refine lv_topi (fun v_9 ev_9 => ?_)
  have ev_9 : v_9 = nI ((7 * i7) + 5) := ev_9.trans (nI_add (7 * i7) 5)
  subst ev_9
  refine va_sld hx hb hX hbl hbA hS (i := nI ((7 * i7) + 5)) (vp_in_nI (by omega) (by omega)) dL_law_1303 ?_
  refine lv_topi (fun v_10 ev_10 => ?_)
  have ev_10 : v5 = v_10 := (ev_10.trans (by rw [nI_clamp (by omega)]; exact hv5.symm)).symm
  subst ev_10
  refine lv_aload_n hx hb dL_law_1304 rfl (lv_at hl 3 rfl) ?_
  refine lv_iload_n hx hb dL_law_1305 rfl (lv_at hl 0 rfl) ?_
  refine lv_bipush (v := 6) hx hb dL_law_1306 (by decide +kernel) ?_
  refine lv_iadd hx hb dL_law_1308 ?_
  refine lv_topi (fun v_11 ev_11 => ?_)
  have ev_11 : v_11 = nI ((7 * i7) + 6) := ev_11.trans (nI_add (7 * i7) 6)
  subst ev_11
  refine va_sld hx hb hX hbl hbA hS (i := nI ((7 * i7) + 6)) (vp_in_nI (by omega) (by omega)) dL_law_1309 ?_
  refine lv_topi (fun v_12 ev_12 => ?_)
  have ev_12 : v6 = v_12 := (ev_12.trans (by rw [nI_clamp (by omega)]; exact hv6.symm)).symm
  subst ev_12
  have hz9 : gPD G A [zo5 xo tt rd nw th kp sh tu him, zo0 nw tt n1 n2 n3 n4 n5 n6 n7 n8 (nI jg) (nI pb) (nI lw), zi G n2 4 fso, zi G n3 4 fmi, zi G n4 4 fpa, zi G n5 6 fki, zi G n6 6 fmo, zi G n7 6 fsz, zi G n8 6 frd, zo0 th tt t1 t2 t3 t4 t5 t6 t7 t8 tj tb tl, zi G t1 6 unm, zi G t2 4 uso, zi G t3 4 umi, zi G t4 4 upa, zi G t5 6 uki, zi G t6 6 umo, zi G t7 6 usz, zi G t8 6 urd, zo3 tt co en sk wr (nI tx), zr G co 6 fc, zr G en 6 fe, zi G c0 160 fcr0, zi G e0 3 (nF fer0), zi G sk 32 fsk] H := ⟨hP.sub [0, 19, 21, 22, 23, 24, 25, 26, 27, 28, 29, 30, 31, 32, 33, 34, 35, 36, 3, 4, 11, 5, 12, 18] rfl, hD.sub [0, 19, 21, 22, 23, 24, 25, 26, 27, 28, 29, 30, 31, 32, 33, 34, 35, 36, 3, 4, 11, 5, 12, 18] (by decide +kernel) rfl⟩
  have hPc := hz9.1
  have hDc := hz9.2
  have hFc := gFree hPc hD hS hA [0, 19, 21, 22, 23, 24, 25, 26, 27, 28, 29, 30, 31, 32, 33, 34, 35, 36, 3, 4, 11, 5, 12, 18] rfl
  refine va_calll (va_runV (As := [.int v1, .int v2, .int v3, .int v4, .int v5, .int v6]) (rest := []) ⟨hx, hb, hml, hown, hts⟩ (c_X5_odds l G xo tt rd nw th kp sh tu n1 n2 n3 n4 n5 n6 n7 n8 t1 t2 t3 t4 t5 t6 t7 t8 co en sk c0 e0 jg pb lw tx him wr tj tb tl fc fe fer0 fso fmi fpa fki fmo fsz frd unm uso umi upa uki umo usz urd fcr0 fsk v1 v2 v3 v4 v5 v6 H.size (by first | exact htn | assumption | omega) (by first | exact hc | assumption | omega) (by first | exact he | assumption | omega) (by first | exact hwx | assumption | omega) (by first | exact hjg | assumption | omega) (by first | exact hpb | assumption | omega)) (cwV 6 hts gL_law_X5_odds rfl rfl rfl (by decide +kernel) ⟨Nat.le_of_ble_eq_true rfl, Nat.le_of_ble_eq_true rfl⟩) ⟨gPre_blind, va_recv hK hPc (ci := 5) (q0 := 0) rfl rfl, fun U hU hW => gPre_of hU hW hK hPc hDc⟩ rfl rfl hl.1 rfl (lv_room (Nat.le_of_ble_eq_true rfl)) dL_law_1310 ⟨Nat.le_of_ble_eq_true rfl, Nat.le_of_ble_eq_true rfl⟩) hS (fun q _ h => hFc q h) hFc (fun r_13 u t H locs ht hvm w_14 hB hz1 hk1 hS => ?_)
  obtain ⟨zj9_15, zb9_16, zl9_17, yt1_18, yt2_19, yt3_20, yt4_21, yt5_22, yt6_23, yt7_24, yt8_25, ysk_26⟩ := u
  obtain ⟨hP1, hK1, hD1⟩ := hB
  rw [ht] at hP1
  have hz9 : gPD G (va_A _ _) [zo5 xo tt rd nw th kp sh tu him, zo0 nw tt n1 n2 n3 n4 n5 n6 n7 n8 (nI jg) (nI pb) (nI lw), zi G n2 4 fso, zi G n3 4 fmi, zi G n4 4 fpa, zi G n5 6 fki, zi G n6 6 fmo, zi G n7 6 fsz, zi G n8 6 frd, zo0 th tt t1 t2 t3 t4 t5 t6 t7 t8 zj9_15 zb9_16 zl9_17, zi G t1 6 yt1_18, zi G t2 4 yt2_19, zi G t3 4 yt3_20, zi G t4 4 yt4_21, zi G t5 6 yt5_22, zi G t6 6 yt6_23, zi G t7 6 yt7_24, zi G t8 6 yt8_25, zo3 tt co en sk wr (nI tx), zr G co 6 fc, zr G en 6 fe, zi G c0 160 fcr0, zi G e0 3 (nF fer0), zi G sk 32 ysk_26] H := ⟨hP1, hD1⟩
  have hP1 := hz9.1
  have hD1 := hz9.2
  have w_14 : r_13 = m_X5_odds jg pb fer0 fso fmi fpa fki fmo fsz frd fcr0 v1 v2 v3 v4 v5 v6 := w_14
  have hz9 : gPD G A [zo1 rd tt b0 x2 x3 x4 x5 (nI td), zi G b0 160 fb, zi G c1 160 fcr1, zi G c2 160 fcr2, zi G c3 160 fcr3, zi G c4 160 fcr4, zi G c5 160 fcr5, zi G e1 3 (nF fer1), zi G e2 3 (nF fer2), zi G e3 3 (nF fer3), zi G e4 3 (nF fer4), zi G e5 3 (nF fer5), zi G n1 6 fnm, zo0 kp tt k1 k2 k3 k4 k5 k6 k7 k8 (nI kj) (nI kb) (nI kl), zi G k1 6 gnm, zi G k2 4 gso, zi G k3 4 gmi, zi G k4 4 gpa, zi G k5 6 gki, zi G k6 6 gmo, zi G k7 6 gsz, zi G k8 6 grd, zo2 sh qn qo ql, zr G qn 4 fn, zi G r0 40 fs0, zi G r1 40 fs1, zi G r2 40 fs2, zi G r3 40 fs3, zi G qo 4 fqo, zi G ql 4 (nF fql), zo4 tu tw tr, zr G tw 6 fw, zi G w0 6 fw0, zi G w1 6 fw1, zi G w2 6 fw2, zi G w3 6 fw3, zi G w4 6 fw4, zi G w5 6 fw5, zi G tr 64 ftr, zo6 mo (nI Npb) Akd Amo Ast (nI Njg) Aro Atp (nI Ntd) Acd Asr (nI Ntx) (nI Nru) Zhi Air Aih Ass Asq Ace Alw Z19 Z20 Z21 Z22 Awo Ahe Z25 Z26 Z27 Ask Ana Akp Z31 Z32 Z33 Z34 Agb Ago Afa Aga Z39 Z40 Avo, zi G Akd 6 Fkd, zi G Amo 6 Fmo, zi G Ast 12 Fst, zi G Aro 12 Fro, zi G Atp 160 Ftp, zi G Acd 1200 Fcd, zi G Asr 24 (nF Fsr), zi G Air 24 Fir, zi G Aih 3 Fih, zi G Ass 4 Fss, zi G Asq 4 (nF Fsq), zi G Ace 160 Fce, zi G Alw 40 Flw, zi G Awo 96 Fwo, zi G Ahe 200 Fhe, zi G Ask 200 Fsk, zi G Ana 6 Fna, zi G Akp 24 Fkp, zb G Agb 61 Fgb, zb G Ago 61 Fgo, zi G Afa 36 Ffa, zi G Aga 36 Fga, zi G Avo 64 Fvo, zo5 xo tt rd nw th kp sh tu him, zo0 nw tt n1 n2 n3 n4 n5 n6 n7 n8 (nI jg) (nI pb) (nI lw), zi G n2 4 fso, zi G n3 4 fmi, zi G n4 4 fpa, zi G n5 6 fki, zi G n6 6 fmo, zi G n7 6 fsz, zi G n8 6 frd, zo0 th tt t1 t2 t3 t4 t5 t6 t7 t8 zj9_15 zb9_16 zl9_17, zi G t1 6 yt1_18, zi G t2 4 yt2_19, zi G t3 4 yt3_20, zi G t4 4 yt4_21, zi G t5 6 yt5_22, zi G t6 6 yt6_23, zi G t7 6 yt7_24, zi G t8 6 yt8_25, zo3 tt co en sk wr (nI tx), zr G co 6 fc, zr G en 6 fe, zi G c0 160 fcr0, zi G e0 3 (nF fer0), zi G sk 32 ysk_26] H := gJoin hP hD hk1 hFc hP1 hD1 [0, 19, 21, 22, 23, 24, 25, 26, 27, 28, 29, 30, 31, 32, 33, 34, 35, 36, 3, 4, 11, 5, 12, 18] [1, 2, 6, 7, 8, 9, 10, 13, 14, 15, 16, 17, 20, 37, 38, 39, 40, 41, 42, 43, 44, 45, 46, 47, 48, 49, 50, 51, 52, 53, 54, 55, 56, 57, 58, 59, 60, 61, 62, 63, 64, 65, 66, 67, 68, 69, 70, 71, 72, 73, 74, 75, 76, 77, 78, 79, 80, 81, 82, 83, 84, 85, 86] rfl rfl rfl (by decide +kernel) (by decide +kernel)
  have hP := hz9.1
  have hD := hz9.2
  subst w_14
  refine lv_pop2_2 hx hb dL_law_1313 rfl ?_
  refine lv_aload_n hx hb dL_law_1314 rfl (lv_at hl 1 rfl) ?_
  refine lv_aload_n hx hb dL_law_1315 rfl (lv_at hl 3 rfl) ?_
  refine lv_iload_n hx hb dL_law_1316 rfl (lv_at hl 0 rfl) ?_
  refine lv_iconst (v := 1) hx hb dL_law_1317 (by decide +kernel) ?_
  refine lv_iadd hx hb dL_law_1318 ?_
  refine lv_topi (fun v_27 ev_27 => ?_)
  have ev_27 : v_27 = nI ((7 * i7) + 1) := ev_27.trans (nI_add (7 * i7) 1)
  subst ev_27
  refine va_sld hx hb hX hbl hbA hS (i := nI ((7 * i7) + 1)) (vp_in_nI (by omega) (by omega)) dL_law_1319 ?_
  refine lv_topi (fun v_28 ev_28 => ?_)
  have ev_28 : v1 = v_28 := (ev_28.trans (by rw [nI_clamp (by omega)]; exact hv1.symm)).symm
  subst ev_28
  refine lv_aload_n hx hb dL_law_1320 rfl (lv_at hl 3 rfl) ?_
  refine lv_iload_n hx hb dL_law_1321 rfl (lv_at hl 0 rfl) ?_
  refine lv_iconst (v := 2) hx hb dL_law_1322 (by decide +kernel) ?_
  refine lv_iadd hx hb dL_law_1323 ?_
  refine lv_topi (fun v_29 ev_29 => ?_)
  have ev_29 : v_29 = nI ((7 * i7) + 2) := ev_29.trans (nI_add (7 * i7) 2)
  subst ev_29
  refine va_sld hx hb hX hbl hbA hS (i := nI ((7 * i7) + 2)) (vp_in_nI (by omega) (by omega)) dL_law_1324 ?_
  refine lv_topi (fun v_30 ev_30 => ?_)
  have ev_30 : v2 = v_30 := (ev_30.trans (by rw [nI_clamp (by omega)]; exact hv2.symm)).symm
  subst ev_30
  refine lv_aload_n hx hb dL_law_1325 rfl (lv_at hl 3 rfl) ?_
  refine lv_iload_n hx hb dL_law_1326 rfl (lv_at hl 0 rfl) ?_
  refine lv_iconst (v := 3) hx hb dL_law_1327 (by decide +kernel) ?_
  refine lv_iadd hx hb dL_law_1328 ?_
  refine lv_topi (fun v_31 ev_31 => ?_)
  have ev_31 : v_31 = nI ((7 * i7) + 3) := ev_31.trans (nI_add (7 * i7) 3)
  subst ev_31
  refine va_sld hx hb hX hbl hbA hS (i := nI ((7 * i7) + 3)) (vp_in_nI (by omega) (by omega)) dL_law_1329 ?_
  refine lv_topi (fun v_32 ev_32 => ?_)
  have ev_32 : v3 = v_32 := (ev_32.trans (by rw [nI_clamp (by omega)]; exact hv3.symm)).symm
  subst ev_32
  refine lv_aload_n hx hb dL_law_1330 rfl (lv_at hl 3 rfl) ?_
  refine lv_iload_n hx hb dL_law_1331 rfl (lv_at hl 0 rfl) ?_
  refine lv_iconst (v := 4) hx hb dL_law_1332 (by decide +kernel) ?_
  refine lv_iadd hx hb dL_law_1333 ?_
  refine lv_topi (fun v_33 ev_33 => ?_)
  have ev_33 : v_33 = nI ((7 * i7) + 4) := ev_33.trans (nI_add (7 * i7) 4)
  subst ev_33
  refine va_sld hx hb hX hbl hbA hS (i := nI ((7 * i7) + 4)) (vp_in_nI (by omega) (by omega)) dL_law_1334 ?_
  refine lv_topi (fun v_34 ev_34 => ?_)
  have ev_34 : v4 = v_34 := (ev_34.trans (by rw [nI_clamp (by omega)]; exact hv4.symm)).symm
  subst ev_34
  refine lv_aload_n hx hb dL_law_1335 rfl (lv_at hl 3 rfl) ?_
  refine lv_iload_n hx hb dL_law_1336 rfl (lv_at hl 0 rfl) ?_
  refine lv_iconst (v := 5) hx hb dL_law_1337 (by decide +kernel) ?_
  refine lv_iadd hx hb dL_law_1338 ?_
  refine lv_topi (fun v_35 ev_35 => ?_)
  have ev_35 : v_35 = nI ((7 * i7) + 5) := ev_35.trans (nI_add (7 * i7) 5)
  subst ev_35
  refine va_sld hx hb hX hbl hbA hS (i := nI ((7 * i7) + 5)) (vp_in_nI (by omega) (by omega)) dL_law_1339 ?_
  refine lv_topi (fun v_36 ev_36 => ?_)
  have ev_36 : v5 = v_36 := (ev_36.trans (by rw [nI_clamp (by omega)]; exact hv5.symm)).symm
  subst ev_36
  refine lv_aload_n hx hb dL_law_1340 rfl (lv_at hl 3 rfl) ?_
  refine lv_iload_n hx hb dL_law_1341 rfl (lv_at hl 0 rfl) ?_
  refine lv_bipush (v := 6) hx hb dL_law_1342 (by decide +kernel) ?_
  refine lv_iadd hx hb dL_law_1344 ?_
  refine lv_topi (fun v_37 ev_37 => ?_)
  have ev_37 : v_37 = nI ((7 * i7) + 6) := ev_37.trans (nI_add (7 * i7) 6)
  subst ev_37
  refine va_sld hx hb hX hbl hbA hS (i := nI ((7 * i7) + 6)) (vp_in_nI (by omega) (by omega)) dL_law_1345 ?_
  refine lv_topi (fun v_38 ev_38 => ?_)
  have ev_38 : v6 = v_38 := (ev_38.trans (by rw [nI_clamp (by omega)]; exact hv6.symm)).symm
  subst ev_38
  have hz9 : gPD G A [zo6 mo (nI Npb) Akd Amo Ast (nI Njg) Aro Atp (nI Ntd) Acd Asr (nI Ntx) (nI Nru) Zhi Air Aih Ass Asq Ace Alw Z19 Z20 Z21 Z22 Awo Ahe Z25 Z26 Z27 Ask Ana Akp Z31 Z32 Z33 Z34 Agb Ago Afa Aga Z39 Z40 Avo, zi G Ast 12 Fst, zi G Aro 12 Fro, zi G Amo 6 Fmo, zi G Akd 6 Fkd, zi G Acd 1200 Fcd, zi G Asr 24 (nF Fsr), zi G Ask 200 Fsk, zi G Ana 6 Fna, zi G Akp 24 Fkp] H := ⟨hP.sub [39, 42, 43, 41, 40, 45, 46, 55, 56, 57] rfl, hD.sub [39, 42, 43, 41, 40, 45, 46, 55, 56, 57] (by decide +kernel) rfl⟩
  have hPc := hz9.1
  have hDc := hz9.2
  have hFc := gFree hPc hD hS hA [39, 42, 43, 41, 40, 45, 46, 55, 56, 57] rfl
  refine va_calll (va_runV (As := [.int v1, .int v2, .int v3, .int v4, .int v5, .int v6]) (rest := []) ⟨hx, hb, hml, hown, hts⟩ (c_X6_odds l G mo Akd Amo Ast Aro Atp Acd Asr Air Aih Ass Asq Ace Alw Awo Ahe Ask Ana Akp Agb Ago Afa Aga Avo Npb Njg Ntd Ntx Nru Zhi Z19 Z20 Z21 Z22 Z25 Z26 Z27 Z31 Z32 Z33 Z34 Z39 Z40 Fst Fro Fmo Fkd Fcd Fsr Fsk Fna Fkp v1 v2 v3 v4 v5 v6 H.size (by first | exact hwa | assumption | omega) (by first | exact hpb | assumption | omega) (by first | exact hjg | assumption | omega) (by first | exact htx | assumption | omega) (by first | exact hru | assumption | omega)) (cwV 6 hts gL_law_X6_odds rfl rfl rfl (by decide +kernel) ⟨Nat.le_of_ble_eq_true rfl, Nat.le_of_ble_eq_true rfl⟩) ⟨gPre_blind, va_recv hK hPc (ci := 6) (q0 := 0) rfl rfl, fun U hU hW => gPre_of hU hW hK hPc hDc⟩ rfl rfl hl.1 rfl (lv_room (Nat.le_of_ble_eq_true rfl)) dL_law_1346 ⟨Nat.le_of_ble_eq_true rfl, Nat.le_of_ble_eq_true rfl⟩) hS (fun q _ h => hFc q h) hFc (fun r_39 u t H locs ht hvm w_40 hB hz1 hk1 hS => ?_)
  obtain ⟨z31_41, z32_42, z33_43, z34_44, ysk_45, yna_46, ykp_47⟩ := u
  obtain ⟨hP1, hK1, hD1⟩ := hB
  rw [ht] at hP1
  have hz9 : gPD G (va_A _ _) [zo6 mo (nI Npb) Akd Amo Ast (nI Njg) Aro Atp (nI Ntd) Acd Asr (nI Ntx) (nI Nru) Zhi Air Aih Ass Asq Ace Alw Z19 Z20 Z21 Z22 Awo Ahe Z25 Z26 Z27 Ask Ana Akp z31_41 z32_42 z33_43 z34_44 Agb Ago Afa Aga Z39 Z40 Avo, zi G Ast 12 Fst, zi G Aro 12 Fro, zi G Amo 6 Fmo, zi G Akd 6 Fkd, zi G Acd 1200 Fcd, zi G Asr 24 (nF Fsr), zi G Ask 200 ysk_45, zi G Ana 6 yna_46, zi G Akp 24 ykp_47] H := ⟨hP1, hD1⟩
  have hP1 := hz9.1
  have hD1 := hz9.2
  have w_40 : r_39 = m_X6_odds Npb Njg Nru Fst Fro Fmo Fkd Fcd Fsr v1 v2 v3 v4 v5 v6 := w_40
  have hz9 : gPD G A [zo1 rd tt b0 x2 x3 x4 x5 (nI td), zi G b0 160 fb, zi G c1 160 fcr1, zi G c2 160 fcr2, zi G c3 160 fcr3, zi G c4 160 fcr4, zi G c5 160 fcr5, zi G e1 3 (nF fer1), zi G e2 3 (nF fer2), zi G e3 3 (nF fer3), zi G e4 3 (nF fer4), zi G e5 3 (nF fer5), zi G n1 6 fnm, zo0 kp tt k1 k2 k3 k4 k5 k6 k7 k8 (nI kj) (nI kb) (nI kl), zi G k1 6 gnm, zi G k2 4 gso, zi G k3 4 gmi, zi G k4 4 gpa, zi G k5 6 gki, zi G k6 6 gmo, zi G k7 6 gsz, zi G k8 6 grd, zo2 sh qn qo ql, zr G qn 4 fn, zi G r0 40 fs0, zi G r1 40 fs1, zi G r2 40 fs2, zi G r3 40 fs3, zi G qo 4 fqo, zi G ql 4 (nF fql), zo4 tu tw tr, zr G tw 6 fw, zi G w0 6 fw0, zi G w1 6 fw1, zi G w2 6 fw2, zi G w3 6 fw3, zi G w4 6 fw4, zi G w5 6 fw5, zi G tr 64 ftr, zi G Atp 160 Ftp, zi G Air 24 Fir, zi G Aih 3 Fih, zi G Ass 4 Fss, zi G Asq 4 (nF Fsq), zi G Ace 160 Fce, zi G Alw 40 Flw, zi G Awo 96 Fwo, zi G Ahe 200 Fhe, zb G Agb 61 Fgb, zb G Ago 61 Fgo, zi G Afa 36 Ffa, zi G Aga 36 Fga, zi G Avo 64 Fvo, zo5 xo tt rd nw th kp sh tu him, zo0 nw tt n1 n2 n3 n4 n5 n6 n7 n8 (nI jg) (nI pb) (nI lw), zi G n2 4 fso, zi G n3 4 fmi, zi G n4 4 fpa, zi G n5 6 fki, zi G n6 6 fmo, zi G n7 6 fsz, zi G n8 6 frd, zo0 th tt t1 t2 t3 t4 t5 t6 t7 t8 zj9_15 zb9_16 zl9_17, zi G t1 6 yt1_18, zi G t2 4 yt2_19, zi G t3 4 yt3_20, zi G t4 4 yt4_21, zi G t5 6 yt5_22, zi G t6 6 yt6_23, zi G t7 6 yt7_24, zi G t8 6 yt8_25, zo3 tt co en sk wr (nI tx), zr G co 6 fc, zr G en 6 fe, zi G c0 160 fcr0, zi G e0 3 (nF fer0), zi G sk 32 ysk_26, zo6 mo (nI Npb) Akd Amo Ast (nI Njg) Aro Atp (nI Ntd) Acd Asr (nI Ntx) (nI Nru) Zhi Air Aih Ass Asq Ace Alw Z19 Z20 Z21 Z22 Awo Ahe Z25 Z26 Z27 Ask Ana Akp z31_41 z32_42 z33_43 z34_44 Agb Ago Afa Aga Z39 Z40 Avo, zi G Ast 12 Fst, zi G Aro 12 Fro, zi G Amo 6 Fmo, zi G Akd 6 Fkd, zi G Acd 1200 Fcd, zi G Asr 24 (nF Fsr), zi G Ask 200 ysk_45, zi G Ana 6 yna_46, zi G Akp 24 ykp_47] H := gJoin hP hD hk1 hFc hP1 hD1 [39, 42, 43, 41, 40, 45, 46, 55, 56, 57] [0, 1, 2, 3, 4, 5, 6, 7, 8, 9, 10, 11, 12, 13, 14, 15, 16, 17, 18, 19, 20, 21, 22, 23, 24, 25, 26, 27, 28, 29, 30, 31, 32, 33, 34, 35, 36, 37, 38, 44, 47, 48, 49, 50, 51, 52, 53, 54, 58, 59, 60, 61, 62, 63, 64, 65, 66, 67, 68, 69, 70, 71, 72, 73, 74, 75, 76, 77, 78, 79, 80, 81, 82, 83, 84, 85, 86] rfl rfl rfl (by decide +kernel) (by decide +kernel)
  have hP := hz9.1
  have hD := hz9.2
  subst w_40
  refine lv_pop2_2 hx hb dL_law_1349 rfl ?_
  refine lv_goto (tgt := 1614) hx hb dL_law_1350 (by decide +kernel) ?_
  refine lv_iinc (v := nI (7 * (i7 + 1))) (lv' := [zI 3 (nI (7 * (i7 + 1))), zR 2 mo, zR 1 xo, zR 0 b]) hx hb dL_law_1614 hl (k := 0) rfl (by show nI (7 * i7) + 7 = nI (7 * (i7 + 1)); exact nI_add (7 * i7) 7) (by decide +kernel) rfl (fun ls hl => ?_)
  refine lv_goto (tgt := 18) hx hb dL_law_1617 (by decide +kernel) ?_
  exact K him x2 x3 x4 x5 td fb wr ysk_26 jg pb lw fnm fso fmi fpa fki fmo fsz frd zj9_15 zb9_16 zl9_17 yt1_18 yt2_19 yt3_20 yt4_21 yt5_22 yt6_23 yt7_24 yt8_25 kj kb kl gnm gso gmi gpa gki gmo gsz grd fs0 fs1 fs2 fs3 fqo fql fw0 fw1 fw2 fw3 fw4 fw5 ftr Npb Njg Ntd Ntx Nru Zhi Z19 Z20 Z21 Z22 Z25 Z26 Z27 z31_41 z32_42 z33_43 z34_44 Z39 Z40 Fkd Fmo Fst Fro Ftp Fcd Fsr Fir Fih Fss Fsq Fce Flw Fwo Fhe ysk_45 yna_46 ykp_47 Fgb Fgo Ffa Fga Fvo hFX hFM hRL hRQ H _ ls (hP.sub [53, 0, 1, 71, 72, 74, 2, 3, 4, 5, 6, 73, 75, 7, 8, 9, 10, 11, 76, 54, 12, 55, 56, 57, 58, 59, 60, 61, 62, 63, 64, 65, 66, 67, 68, 69, 70, 13, 14, 15, 16, 17, 18, 19, 20, 21, 22, 23, 24, 25, 26, 27, 28, 29, 30, 31, 32, 33, 34, 35, 36, 37, 38, 77, 81, 80, 78, 79, 39, 82, 83, 40, 41, 42, 43, 44, 45, 46, 47, 84, 85, 86, 48, 49, 50, 51, 52] rfl) (hD.sub [53, 0, 1, 71, 72, 74, 2, 3, 4, 5, 6, 73, 75, 7, 8, 9, 10, 11, 76, 54, 12, 55, 56, 57, 58, 59, 60, 61, 62, 63, 64, 65, 66, 67, 68, 69, 70, 13, 14, 15, 16, 17, 18, 19, 20, 21, 22, 23, 24, 25, 26, 27, 28, 29, 30, 31, 32, 33, 34, 35, 36, 37, 38, 77, 81, 80, 78, 79, 39, 82, 83, 40, 41, 42, 43, 44, 45, 46, 47, 84, 85, 86, 48, 49, 50, 51, 52] (by decide +kernel) rfl) hS (lv_sub hl [0, 1, 2, 3] rfl)
set_option maxHeartbeats 4000000 in
set_option maxRecDepth 100000 in
theorem lc_image {p : Program} {l : Launch} {e : Env} {s : State} {m : MethodId} {below : List Frame} {meth : Method} {c : Code} {b L : Nat} {xs : Nat → Int32} {G : gG} {E : gS} {A : Nat → Prop} (C0 : lw_At p s m meth c b L xs) (hE : gE E A s s.heap) (hK : gK G s) (hAe : A = fun q => s.heap.size ≤ q) {xo tt rd nw th kp sh tu b0 co en sk c0 c1 c2 c3 c4 c5 e0 e1 e2 e3 e4 e5 n1 n2 n3 n4 n5 n6 n7 n8 t1 t2 t3 t4 t5 t6 t7 t8 k1 k2 k3 k4 k5 k6 k7 k8 qn qo ql r0 r1 r2 r3 tw tr w0 w1 w2 w3 w4 w5 mo Akd Amo Ast Aro Atp Acd Asr Air Aih Ass Asq Ace Alw Awo Ahe Ask Ana Akp Agb Ago Afa Aga Avo : Nat} {fc fe fn fw : Nat → Option Nat} {tx : Nat} {fcr0 fcr1 fcr2 fcr3 fcr4 fcr5 : Nat → Int32} {fer0 fer1 fer2 fer3 fer4 fer5 : Nat → Nat} {him x2 x3 x4 x5 : Int32} {td : Nat} {fb : Nat → Int32} {wr : Int32} {fsk : Nat → Int32} {jg pb lw : Nat} {fnm fso fmi fpa fki fmo fsz frd : Nat → Int32} {tj tb tl : Int32} {unm uso umi upa uki umo usz urd : Nat → Int32} {kj kb kl : Nat} {gnm gso gmi gpa gki gmo gsz grd fs0 fs1 fs2 fs3 fqo : Nat → Int32} {fql : Nat → Nat} {fw0 fw1 fw2 fw3 fw4 fw5 ftr : Nat → Int32} {Npb Njg Ntd Ntx Nru : Nat} {Zhi Z19 Z20 Z21 Z22 Z25 Z26 Z27 Z31 Z32 Z33 Z34 Z39 Z40 : Int32} {Fkd Fmo Fst Fro Ftp Fcd : Nat → Int32} {Fsr : Nat → Nat} {Fir Fih Fss : Nat → Int32} {Fsq : Nat → Nat} {Fce Flw Fwo Fhe Fsk Fna Fkp Fgb Fgo Ffa Fga Fvo : Nat → Int32}  {v1 v2 v3 v4 v5 v6 : Int32} {i7 : Nat} (hi : 7 * i7 + 7 ≤ L) (hL : L ≤ 3584) (hv1 : v1 = xs (7 * i7 + 1)) (hv2 : v2 = xs (7 * i7 + 2)) (hv3 : v3 = xs (7 * i7 + 3)) (hv4 : v4 = xs (7 * i7 + 4)) (hv5 : v5 = xs (7 * i7 + 5)) (hv6 : v6 = xs (7 * i7 + 6))  (K : LawV p l e s m below meth c b G A xo tt rd nw th kp sh tu b0 co en sk c0 c1 c2 c3 c4 c5 e0 e1 e2 e3 e4 e5 n1 n2 n3 n4 n5 n6 n7 n8 t1 t2 t3 t4 t5 t6 t7 t8 k1 k2 k3 k4 k5 k6 k7 k8 qn qo ql r0 r1 r2 r3 tw tr w0 w1 w2 w3 w4 w5 mo Akd Amo Ast Aro Atp Acd Asr Air Aih Ass Asq Ace Alw Awo Ahe Ask Ana Akp Agb Ago Afa Aga Avo fc fe fn fw tx fcr0 fcr1 fcr2 fcr3 fcr4 fcr5 fer0 fer1 fer2 fer3 fer4 fer5 (i7 + 1)) (hFX : FXP jg pb lw kj kb kl tx td him fql) (hFM : FMP Npb Njg Ntd Ntx Nru Zhi Fcd Fsr Fsq Fir Fih) (hRL : RLP False fn r0 r1 r2 r3 jg pb kj kb him fs0 fs1 fs2 fs3 fqo fql Npb Njg Zhi Fss Fsq Fce Fih) (hRQ : RQP fc c0 c1 c2 c3 c4 c5 fcr0 fcr1 fcr2 fcr3 fcr4 fcr5 fer0 fer1 fer2 fer3 fer4 fer5 pb lw tx td kb kl him fb fso fmi fpa fki fmo fsz frd gso gmi gpa gki gmo gsz grd Nru Ntx Ntd Fkd Fmo Fst Fro Ftp Fcd Fsr Fir Fih Fwo) {H : Heap} {locs : List Loc} (hP : va_P G.1 vwCl (WLd G xo tt rd nw th kp sh tu b0 co en sk c0 c1 c2 c3 c4 c5 e0 e1 e2 e3 e4 e5 n1 n2 n3 n4 n5 n6 n7 n8 t1 t2 t3 t4 t5 t6 t7 t8 k1 k2 k3 k4 k5 k6 k7 k8 qn qo ql r0 r1 r2 r3 tw tr w0 w1 w2 w3 w4 w5 mo Akd Amo Ast Aro Atp Acd Asr Air Aih Ass Asq Ace Alw Awo Ahe Ask Ana Akp Agb Ago Afa Aga Avo fc fe fn fw tx fcr0 fcr1 fcr2 fcr3 fcr4 fcr5 fer0 fer1 fer2 fer3 fer4 fer5 him x2 x3 x4 x5 td fb wr fsk jg pb lw fnm fso fmi fpa fki fmo fsz frd tj tb tl unm uso umi upa uki umo usz urd kj kb kl gnm gso gmi gpa gki gmo gsz grd fs0 fs1 fs2 fs3 fqo fql fw0 fw1 fw2 fw3 fw4 fw5 ftr Npb Njg Ntd Ntx Nru Zhi Z19 Z20 Z21 Z22 Z25 Z26 Z27 Z31 Z32 Z33 Z34 Z39 Z40 Fkd Fmo Fst Fro Ftp Fcd Fsr Fir Fih Fss Fsq Fce Flw Fwo Fhe Fsk Fna Fkp Fgb Fgo Ffa Fga Fvo) H) (hD : va_D A (WLd G xo tt rd nw th kp sh tu b0 co en sk c0 c1 c2 c3 c4 c5 e0 e1 e2 e3 e4 e5 n1 n2 n3 n4 n5 n6 n7 n8 t1 t2 t3 t4 t5 t6 t7 t8 k1 k2 k3 k4 k5 k6 k7 k8 qn qo ql r0 r1 r2 r3 tw tr w0 w1 w2 w3 w4 w5 mo Akd Amo Ast Aro Atp Acd Asr Air Aih Ass Asq Ace Alw Awo Ahe Ask Ana Akp Agb Ago Afa Aga Avo fc fe fn fw tx fcr0 fcr1 fcr2 fcr3 fcr4 fcr5 fer0 fer1 fer2 fer3 fer4 fer5 him x2 x3 x4 x5 td fb wr fsk jg pb lw fnm fso fmi fpa fki fmo fsz frd tj tb tl unm uso umi upa uki umo usz urd kj kb kl gnm gso gmi gpa gki gmo gsz grd fs0 fs1 fs2 fs3 fqo fql fw0 fw1 fw2 fw3 fw4 fw5 ftr Npb Njg Ntd Ntx Nru Zhi Z19 Z20 Z21 Z22 Z25 Z26 Z27 Z31 Z32 Z33 Z34 Z39 Z40 Fkd Fmo Fst Fro Ftp Fcd Fsr Fir Fih Fss Fsq Fce Flw Fwo Fhe Fsk Fna Fkp Fgb Fgo Ffa Fga Fvo)) (hS : va_S A s.heap H locs) {ls : Array Slot} (hl : lv_has ls 4 [zI 3 (nI (7 * i7)), zR 2 mo, zR 1 xo, zR 0 b]) : W p l e room_1 s m #[Value.ref b] below meth c H locs 87 4128 (lw_Z below #[Value.ref b] s) (F0 m 1353 ls []) := by
  obtain ⟨hx, hb, hret, hml, hown, hts0, hX, hbl, hlocks, hgv⟩ := id C0
  have hts : ∀ w ∈ wsL_law, w.before #[Value.ref b] s = true := fun w h => hts0 w (wsL_law_in w h)
  have hown : s.vm.findClass RL = some m.cls := hown
  have hA : ∀ q : Nat, s.heap.size ≤ q → A q := fun q h => by rw [hAe]; exact h
  have hbA : ¬ A b := by rw [hAe]; exact Nat.not_le.mpr hbl
  obtain ⟨⟨hjg, hpb, hlw, htx, htd⟩, hkk, hql⟩ := id hFX
  obtain ⟨⟨hNpb, hNjg, hNru, hNtx, hNtd⟩, hwa, hsq, hIM⟩ := id hFM
  have hz9 : gPD G A [zo5 xo tt rd nw th kp sh tu him, zo1 rd tt b0 x2 x3 x4 x5 (nI td), zi G b0 160 fb, zo3 tt co en sk wr (nI tx), zr G co 6 fc, zi G c0 160 fcr0, zi G c1 160 fcr1, zi G c2 160 fcr2, zi G c3 160 fcr3, zi G c4 160 fcr4, zi G c5 160 fcr5, zr G en 6 fe, zi G e0 3 (nF fer0), zi G e1 3 (nF fer1), zi G e2 3 (nF fer2), zi G e3 3 (nF fer3), zi G e4 3 (nF fer4), zi G e5 3 (nF fer5), zi G sk 32 fsk, zo0 nw tt n1 n2 n3 n4 n5 n6 n7 n8 (nI jg) (nI pb) (nI lw), zi G n1 6 fnm, zi G n2 4 fso, zi G n3 4 fmi, zi G n4 4 fpa, zi G n5 6 fki, zi G n6 6 fmo, zi G n7 6 fsz, zi G n8 6 frd, zo0 th tt t1 t2 t3 t4 t5 t6 t7 t8 tj tb tl, zi G t1 6 unm, zi G t2 4 uso, zi G t3 4 umi, zi G t4 4 upa, zi G t5 6 uki, zi G t6 6 umo, zi G t7 6 usz, zi G t8 6 urd, zo0 kp tt k1 k2 k3 k4 k5 k6 k7 k8 (nI kj) (nI kb) (nI kl), zi G k1 6 gnm, zi G k2 4 gso, zi G k3 4 gmi, zi G k4 4 gpa, zi G k5 6 gki, zi G k6 6 gmo, zi G k7 6 gsz, zi G k8 6 grd, zo2 sh qn qo ql, zr G qn 4 fn, zi G r0 40 fs0, zi G r1 40 fs1, zi G r2 40 fs2, zi G r3 40 fs3, zi G qo 4 fqo, zi G ql 4 (nF fql), zo4 tu tw tr, zr G tw 6 fw, zi G w0 6 fw0, zi G w1 6 fw1, zi G w2 6 fw2, zi G w3 6 fw3, zi G w4 6 fw4, zi G w5 6 fw5, zi G tr 64 ftr, zo6 mo (nI Npb) Akd Amo Ast (nI Njg) Aro Atp (nI Ntd) Acd Asr (nI Ntx) (nI Nru) Zhi Air Aih Ass Asq Ace Alw Z19 Z20 Z21 Z22 Awo Ahe Z25 Z26 Z27 Ask Ana Akp Z31 Z32 Z33 Z34 Agb Ago Afa Aga Z39 Z40 Avo, zi G Akd 6 Fkd, zi G Amo 6 Fmo, zi G Ast 12 Fst, zi G Aro 12 Fro, zi G Atp 160 Ftp, zi G Acd 1200 Fcd, zi G Asr 24 (nF Fsr), zi G Air 24 Fir, zi G Aih 3 Fih, zi G Ass 4 Fss, zi G Asq 4 (nF Fsq), zi G Ace 160 Fce, zi G Alw 40 Flw, zi G Awo 96 Fwo, zi G Ahe 200 Fhe, zi G Ask 200 Fsk, zi G Ana 6 Fna, zi G Akp 24 Fkp, zb G Agb 61 Fgb, zb G Ago 61 Fgo, zi G Afa 36 Ffa, zi G Aga 36 Fga, zi G Avo 64 Fvo] H := ⟨hP, hD⟩
  have hP := hz9.1
  have hD := hz9.2
  refine lv_aload_n hx hb dL_law_1353 rfl (lv_at hl 2 rfl) ?_
  have hz9 : gPD G A [zo5 xo tt rd nw th kp sh tu him, zo0 nw tt n1 n2 n3 n4 n5 n6 n7 n8 (nI jg) (nI pb) (nI lw), zi G n2 4 fso, zi G n3 4 fmi, zi G n4 4 fpa, zi G n5 6 fki, zi G n6 6 fmo, zi G n7 6 fsz, zi G n8 6 frd, zo0 kp tt k1 k2 k3 k4 k5 k6 k7 k8 (nI kj) (nI kb) (nI kl), zi G k2 4 gso, zi G k3 4 gmi, zi G k4 4 gpa, zi G k5 6 gki, zi G k6 6 gmo, zi G k7 6 gsz, zi G k8 6 grd] H := ⟨hP.sub [0, 19, 21, 22, 23, 24, 25, 26, 27, 37, 39, 40, 41, 42, 43, 44, 45] rfl, hD.sub [0, 19, 21, 22, 23, 24, 25, 26, 27, 37, 39, 40, 41, 42, 43, 44, 45] (by decide +kernel) rfl⟩
  have hPc := hz9.1
  have hDc := hz9.2
  have hFc := gFree hPc hD hS hA [0, 19, 21, 22, 23, 24, 25, 26, 27, 37, 39, 40, 41, 42, 43, 44, 45] rfl
  refine va_calli (va_runV (As := []) (rest := []) ⟨hx, hb, hml, hown, hts⟩ (c_X5_image l G xo tt rd nw th kp sh tu n1 n2 n3 n4 n5 n6 n7 n8 k1 k2 k3 k4 k5 k6 k7 k8 jg pb lw kj kb kl him fso fmi fpa fki fmo fsz frd gso gmi gpa gki gmo gsz grd H.size (by first | exact hjg | assumption | omega) (by first | exact hpb | assumption | omega)) (cwV 0 hts gL_law_X5_image rfl rfl rfl (by decide +kernel) ⟨Nat.le_of_ble_eq_true rfl, Nat.le_of_ble_eq_true rfl⟩) ⟨gPre_blind, va_recv hK hPc (ci := 5) (q0 := 0) rfl rfl, fun U hU hW => gPre_of hU hW hK hPc hDc⟩ rfl rfl hl.1 rfl (lv_room (Nat.le_of_ble_eq_true rfl)) dL_law_1354 ⟨Nat.le_of_ble_eq_true rfl, Nat.le_of_ble_eq_true rfl⟩) hS (fun q _ h => hFc q h) hFc (fun r_1 u t H locs ht hvm w_2 hB hz1 hk1 hS => ?_)
  obtain ⟨hP1, hK1, hD1⟩ := hB
  rw [ht] at hP1
  have hz9 : gPD G (va_A _ _) [zo5 xo tt rd nw th kp sh tu 1, zo0 nw tt n1 n2 n3 n4 n5 n6 n7 n8 (nI jg) (nI pb) (nI lw), zi G n2 4 fso, zi G n3 4 fmi, zi G n4 4 fpa, zi G n5 6 fki, zi G n6 6 fmo, zi G n7 6 fsz, zi G n8 6 frd, zo0 kp tt k1 k2 k3 k4 k5 k6 k7 k8 (nI jg) (nI pb) (nI lw), zi G k2 4 fso, zi G k3 4 fmi, zi G k4 4 fpa, zi G k5 6 fki, zi G k6 6 fmo, zi G k7 6 fsz, zi G k8 6 frd] H := ⟨hP1, hD1⟩
  have hP1 := hz9.1
  have hD1 := hz9.2
  have w_2 : r_1 = nI pb := w_2
  have hz9 : gPD G A [zo1 rd tt b0 x2 x3 x4 x5 (nI td), zi G b0 160 fb, zo3 tt co en sk wr (nI tx), zr G co 6 fc, zi G c0 160 fcr0, zi G c1 160 fcr1, zi G c2 160 fcr2, zi G c3 160 fcr3, zi G c4 160 fcr4, zi G c5 160 fcr5, zr G en 6 fe, zi G e0 3 (nF fer0), zi G e1 3 (nF fer1), zi G e2 3 (nF fer2), zi G e3 3 (nF fer3), zi G e4 3 (nF fer4), zi G e5 3 (nF fer5), zi G sk 32 fsk, zi G n1 6 fnm, zo0 th tt t1 t2 t3 t4 t5 t6 t7 t8 tj tb tl, zi G t1 6 unm, zi G t2 4 uso, zi G t3 4 umi, zi G t4 4 upa, zi G t5 6 uki, zi G t6 6 umo, zi G t7 6 usz, zi G t8 6 urd, zi G k1 6 gnm, zo2 sh qn qo ql, zr G qn 4 fn, zi G r0 40 fs0, zi G r1 40 fs1, zi G r2 40 fs2, zi G r3 40 fs3, zi G qo 4 fqo, zi G ql 4 (nF fql), zo4 tu tw tr, zr G tw 6 fw, zi G w0 6 fw0, zi G w1 6 fw1, zi G w2 6 fw2, zi G w3 6 fw3, zi G w4 6 fw4, zi G w5 6 fw5, zi G tr 64 ftr, zo6 mo (nI Npb) Akd Amo Ast (nI Njg) Aro Atp (nI Ntd) Acd Asr (nI Ntx) (nI Nru) Zhi Air Aih Ass Asq Ace Alw Z19 Z20 Z21 Z22 Awo Ahe Z25 Z26 Z27 Ask Ana Akp Z31 Z32 Z33 Z34 Agb Ago Afa Aga Z39 Z40 Avo, zi G Akd 6 Fkd, zi G Amo 6 Fmo, zi G Ast 12 Fst, zi G Aro 12 Fro, zi G Atp 160 Ftp, zi G Acd 1200 Fcd, zi G Asr 24 (nF Fsr), zi G Air 24 Fir, zi G Aih 3 Fih, zi G Ass 4 Fss, zi G Asq 4 (nF Fsq), zi G Ace 160 Fce, zi G Alw 40 Flw, zi G Awo 96 Fwo, zi G Ahe 200 Fhe, zi G Ask 200 Fsk, zi G Ana 6 Fna, zi G Akp 24 Fkp, zb G Agb 61 Fgb, zb G Ago 61 Fgo, zi G Afa 36 Ffa, zi G Aga 36 Fga, zi G Avo 64 Fvo, zo5 xo tt rd nw th kp sh tu 1, zo0 nw tt n1 n2 n3 n4 n5 n6 n7 n8 (nI jg) (nI pb) (nI lw), zi G n2 4 fso, zi G n3 4 fmi, zi G n4 4 fpa, zi G n5 6 fki, zi G n6 6 fmo, zi G n7 6 fsz, zi G n8 6 frd, zo0 kp tt k1 k2 k3 k4 k5 k6 k7 k8 (nI jg) (nI pb) (nI lw), zi G k2 4 fso, zi G k3 4 fmi, zi G k4 4 fpa, zi G k5 6 fki, zi G k6 6 fmo, zi G k7 6 fsz, zi G k8 6 frd] H := gJoin hP hD hk1 hFc hP1 hD1 [0, 19, 21, 22, 23, 24, 25, 26, 27, 37, 39, 40, 41, 42, 43, 44, 45] [1, 2, 3, 4, 5, 6, 7, 8, 9, 10, 11, 12, 13, 14, 15, 16, 17, 18, 20, 28, 29, 30, 31, 32, 33, 34, 35, 36, 38, 46, 47, 48, 49, 50, 51, 52, 53, 54, 55, 56, 57, 58, 59, 60, 61, 62, 63, 64, 65, 66, 67, 68, 69, 70, 71, 72, 73, 74, 75, 76, 77, 78, 79, 80, 81, 82, 83, 84, 85, 86] rfl rfl rfl (by decide +kernel) (by decide +kernel)
  have hP := hz9.1
  have hD := hz9.2
  subst w_2
  refine lv_pop hx hb dL_law_1357 rfl ?_
  refine lv_aload_n hx hb dL_law_1358 rfl (lv_at hl 1 rfl) ?_
  have hz9 : gPD G A [zo6 mo (nI Npb) Akd Amo Ast (nI Njg) Aro Atp (nI Ntd) Acd Asr (nI Ntx) (nI Nru) Zhi Air Aih Ass Asq Ace Alw Z19 Z20 Z21 Z22 Awo Ahe Z25 Z26 Z27 Ask Ana Akp Z31 Z32 Z33 Z34 Agb Ago Afa Aga Z39 Z40 Avo, zi G Aro 12 Fro, zi G Ast 12 Fst, zi G Air 24 Fir, zi G Aih 3 Fih] H := ⟨hP.sub [46, 50, 49, 54, 55] rfl, hD.sub [46, 50, 49, 54, 55] (by decide +kernel) rfl⟩
  have hPc := hz9.1
  have hDc := hz9.2
  have hFc := gFree hPc hD hS hA [46, 50, 49, 54, 55] rfl
  refine va_calli (va_runV (As := []) (rest := []) ⟨hx, hb, hml, hown, hts⟩ (c_X6_image l G mo Akd Amo Ast Aro Atp Acd Asr Air Aih Ass Asq Ace Alw Awo Ahe Ask Ana Akp Agb Ago Afa Aga Avo Npb Njg Ntd Ntx Nru Zhi Z19 Z20 Z21 Z22 Z25 Z26 Z27 Z31 Z32 Z33 Z34 Z39 Z40 Fro Fst Fir Fih H.size (by first | exact hpb | assumption | omega) (by first | exact hjg | assumption | omega) (by first | exact htx | assumption | omega) (by first | exact hru | assumption | omega)) (cwV 0 hts gL_law_X6_image rfl rfl rfl (by decide +kernel) ⟨Nat.le_of_ble_eq_true rfl, Nat.le_of_ble_eq_true rfl⟩) ⟨gPre_blind, va_recv hK hPc (ci := 6) (q0 := 0) rfl rfl, fun U hU hW => gPre_of hU hW hK hPc hDc⟩ rfl rfl hl.1 rfl (lv_room (Nat.le_of_ble_eq_true rfl)) dL_law_1359 ⟨Nat.le_of_ble_eq_true rfl, Nat.le_of_ble_eq_true rfl⟩) hS (fun q _ h => hFc q h) hFc (fun r_3 u t H locs ht hvm w_4 hB hz1 hk1 hS => ?_)
  obtain ⟨hP1, hK1, hD1⟩ := hB
  rw [ht] at hP1
  have hz9 : gPD G (va_A _ _) [zo6 mo (nI Npb) Akd Amo Ast (nI Njg) Aro Atp (nI Ntd) Acd Asr (nI Ntx) (nI Nru) 1 Air Aih Ass Asq Ace Alw Z19 Z20 Z21 Z22 Awo Ahe Z25 Z26 Z27 Ask Ana Akp Z31 Z32 Z33 Z34 Agb Ago Afa Aga Z39 Z40 Avo, zi G Aro 12 Fro, zi G Ast 12 Fst, zi G Air 24 (mKeep Fro Fst), zi G Aih 3 (mHold (nI Npb) (nI Njg) (nI Nru))] H := ⟨hP1, hD1⟩
  have hP1 := hz9.1
  have hD1 := hz9.2
  have w_4 : r_3 = nI Npb := w_4
  have hz9 : gPD G A [zo1 rd tt b0 x2 x3 x4 x5 (nI td), zi G b0 160 fb, zo3 tt co en sk wr (nI tx), zr G co 6 fc, zi G c0 160 fcr0, zi G c1 160 fcr1, zi G c2 160 fcr2, zi G c3 160 fcr3, zi G c4 160 fcr4, zi G c5 160 fcr5, zr G en 6 fe, zi G e0 3 (nF fer0), zi G e1 3 (nF fer1), zi G e2 3 (nF fer2), zi G e3 3 (nF fer3), zi G e4 3 (nF fer4), zi G e5 3 (nF fer5), zi G sk 32 fsk, zi G n1 6 fnm, zo0 th tt t1 t2 t3 t4 t5 t6 t7 t8 tj tb tl, zi G t1 6 unm, zi G t2 4 uso, zi G t3 4 umi, zi G t4 4 upa, zi G t5 6 uki, zi G t6 6 umo, zi G t7 6 usz, zi G t8 6 urd, zi G k1 6 gnm, zo2 sh qn qo ql, zr G qn 4 fn, zi G r0 40 fs0, zi G r1 40 fs1, zi G r2 40 fs2, zi G r3 40 fs3, zi G qo 4 fqo, zi G ql 4 (nF fql), zo4 tu tw tr, zr G tw 6 fw, zi G w0 6 fw0, zi G w1 6 fw1, zi G w2 6 fw2, zi G w3 6 fw3, zi G w4 6 fw4, zi G w5 6 fw5, zi G tr 64 ftr, zi G Akd 6 Fkd, zi G Amo 6 Fmo, zi G Atp 160 Ftp, zi G Acd 1200 Fcd, zi G Asr 24 (nF Fsr), zi G Ass 4 Fss, zi G Asq 4 (nF Fsq), zi G Ace 160 Fce, zi G Alw 40 Flw, zi G Awo 96 Fwo, zi G Ahe 200 Fhe, zi G Ask 200 Fsk, zi G Ana 6 Fna, zi G Akp 24 Fkp, zb G Agb 61 Fgb, zb G Ago 61 Fgo, zi G Afa 36 Ffa, zi G Aga 36 Fga, zi G Avo 64 Fvo, zo5 xo tt rd nw th kp sh tu 1, zo0 nw tt n1 n2 n3 n4 n5 n6 n7 n8 (nI jg) (nI pb) (nI lw), zi G n2 4 fso, zi G n3 4 fmi, zi G n4 4 fpa, zi G n5 6 fki, zi G n6 6 fmo, zi G n7 6 fsz, zi G n8 6 frd, zo0 kp tt k1 k2 k3 k4 k5 k6 k7 k8 (nI jg) (nI pb) (nI lw), zi G k2 4 fso, zi G k3 4 fmi, zi G k4 4 fpa, zi G k5 6 fki, zi G k6 6 fmo, zi G k7 6 fsz, zi G k8 6 frd, zo6 mo (nI Npb) Akd Amo Ast (nI Njg) Aro Atp (nI Ntd) Acd Asr (nI Ntx) (nI Nru) 1 Air Aih Ass Asq Ace Alw Z19 Z20 Z21 Z22 Awo Ahe Z25 Z26 Z27 Ask Ana Akp Z31 Z32 Z33 Z34 Agb Ago Afa Aga Z39 Z40 Avo, zi G Aro 12 Fro, zi G Ast 12 Fst, zi G Air 24 (mKeep Fro Fst), zi G Aih 3 (mHold (nI Npb) (nI Njg) (nI Nru))] H := gJoin hP hD hk1 hFc hP1 hD1 [46, 50, 49, 54, 55] [0, 1, 2, 3, 4, 5, 6, 7, 8, 9, 10, 11, 12, 13, 14, 15, 16, 17, 18, 19, 20, 21, 22, 23, 24, 25, 26, 27, 28, 29, 30, 31, 32, 33, 34, 35, 36, 37, 38, 39, 40, 41, 42, 43, 44, 45, 47, 48, 51, 52, 53, 56, 57, 58, 59, 60, 61, 62, 63, 64, 65, 66, 67, 68, 69, 70, 71, 72, 73, 74, 75, 76, 77, 78, 79, 80, 81, 82, 83, 84, 85, 86] rfl rfl rfl (by decide +kernel) (by decide +kernel)
  have hP := hz9.1
  have hD := hz9.2
  subst w_4
  refine lv_pop hx hb dL_law_1362 rfl ?_
  refine lv_goto (tgt := 1614) hx hb dL_law_1363 (by decide +kernel) ?_
  refine lv_iinc (v := nI (7 * (i7 + 1))) (lv' := [zI 3 (nI (7 * (i7 + 1))), zR 2 mo, zR 1 xo, zR 0 b]) hx hb dL_law_1614 hl (k := 0) rfl (by show nI (7 * i7) + 7 = nI (7 * (i7 + 1)); exact nI_add (7 * i7) 7) (by decide +kernel) rfl (fun ls hl => ?_)
  refine lv_goto (tgt := 18) hx hb dL_law_1617 (by decide +kernel) ?_
  exact K 1 x2 x3 x4 x5 td fb wr fsk jg pb lw fnm fso fmi fpa fki fmo fsz frd tj tb tl unm uso umi upa uki umo usz urd jg pb lw gnm fso fmi fpa fki fmo fsz frd fs0 fs1 fs2 fs3 fqo fql fw0 fw1 fw2 fw3 fw4 fw5 ftr Npb Njg Ntd Ntx Nru 1 Z19 Z20 Z21 Z22 Z25 Z26 Z27 Z31 Z32 Z33 Z34 Z39 Z40 Fkd Fmo Fst Fro Ftp Fcd Fsr (mKeep Fro Fst) (mHold (nI Npb) (nI Njg) (nI Nru)) Fss Fsq Fce Flw Fwo Fhe Fsk Fna Fkp Fgb Fgo Ffa Fga Fvo (fx_image hFX) (fm_image hFM) (rl_image hRL) (rq_image hpb hRL.1.1 hRL.1.2.1 hRQ) H _ ls (hP.sub [65, 0, 1, 2, 3, 4, 5, 6, 7, 8, 9, 10, 11, 12, 13, 14, 15, 16, 17, 66, 18, 67, 68, 69, 70, 71, 72, 73, 19, 20, 21, 22, 23, 24, 25, 26, 27, 74, 28, 75, 76, 77, 78, 79, 80, 81, 29, 30, 31, 32, 33, 34, 35, 36, 37, 38, 39, 40, 41, 42, 43, 44, 45, 82, 46, 47, 84, 83, 48, 49, 50, 85, 86, 51, 52, 53, 54, 55, 56, 57, 58, 59, 60, 61, 62, 63, 64] rfl) (hD.sub [65, 0, 1, 2, 3, 4, 5, 6, 7, 8, 9, 10, 11, 12, 13, 14, 15, 16, 17, 66, 18, 67, 68, 69, 70, 71, 72, 73, 19, 20, 21, 22, 23, 24, 25, 26, 27, 74, 28, 75, 76, 77, 78, 79, 80, 81, 29, 30, 31, 32, 33, 34, 35, 36, 37, 38, 39, 40, 41, 42, 43, 44, 45, 82, 46, 47, 84, 83, 48, 49, 50, 85, 86, 51, 52, 53, 54, 55, 56, 57, 58, 59, 60, 61, 62, 63, 64] (by decide +kernel) rfl) hS (lv_sub hl [0, 1, 2, 3] rfl)
