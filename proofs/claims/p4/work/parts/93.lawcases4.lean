set_option maxHeartbeats 4000000 in
set_option maxRecDepth 100000 in
theorem lc_back_no {p : Program} {l : Launch} {e : Env} {s : State} {m : MethodId} {below : List Frame} {meth : Method} {c : Code} {b L : Nat} {xs : Nat → Int32} {G : gG} {E : gS} {A : Nat → Prop} (C0 : lw_At p s m meth c b L xs) (hE : gE E A s s.heap) (hK : gK G s) (hAe : A = fun q => s.heap.size ≤ q) {xo tt rd nw th kp sh tu b0 co en sk c0 c1 c2 c3 c4 c5 e0 e1 e2 e3 e4 e5 n1 n2 n3 n4 n5 n6 n7 n8 t1 t2 t3 t4 t5 t6 t7 t8 k1 k2 k3 k4 k5 k6 k7 k8 qn qo ql r0 r1 r2 r3 tw tr w0 w1 w2 w3 w4 w5 mo Akd Amo Ast Aro Atp Acd Asr Air Aih Ass Asq Ace Alw Awo Ahe Ask Ana Akp Agb Ago Afa Aga Avo : Nat} {fc fe fn fw : Nat → Option Nat} {tx : Nat} {fcr0 fcr1 fcr2 fcr3 fcr4 fcr5 : Nat → Int32} {fer0 fer1 fer2 fer3 fer4 fer5 : Nat → Nat} {him x2 x3 x4 x5 : Int32} {td : Nat} {fb : Nat → Int32} {wr : Int32} {fsk : Nat → Int32} {jg pb lw : Nat} {fnm fso fmi fpa fki fmo fsz frd : Nat → Int32} {tj tb tl : Int32} {unm uso umi upa uki umo usz urd : Nat → Int32} {kj kb kl : Nat} {gnm gso gmi gpa gki gmo gsz grd fs0 fs1 fs2 fs3 fqo : Nat → Int32} {fql : Nat → Nat} {fw0 fw1 fw2 fw3 fw4 fw5 ftr : Nat → Int32} {Npb Njg Ntd Ntx Nru : Nat} {Z19 Z20 Z21 Z22 Z25 Z26 Z27 Z31 Z32 Z33 Z34 Z39 Z40 : Int32} {Fkd Fmo Fst Fro Ftp Fcd : Nat → Int32} {Fsr : Nat → Nat} {Fir Fih Fss : Nat → Int32} {Fsq : Nat → Nat} {Fce Flw Fwo Fhe Fsk Fna Fkp Fgb Fgo Ffa Fga Fvo : Nat → Int32}  {v1 v2 v3 v4 v5 v6 : Int32} {i7 : Nat} (hi : 7 * i7 + 7 ≤ L) (hL : L ≤ 3584) (hv1 : v1 = xs (7 * i7 + 1)) (hv2 : v2 = xs (7 * i7 + 2)) (hv3 : v3 = xs (7 * i7 + 3)) (hv4 : v4 = xs (7 * i7 + 4)) (hv5 : v5 = xs (7 * i7 + 5)) (hv6 : v6 = xs (7 * i7 + 6))  (K : LawV p l e s m below meth c b G A xo tt rd nw th kp sh tu b0 co en sk c0 c1 c2 c3 c4 c5 e0 e1 e2 e3 e4 e5 n1 n2 n3 n4 n5 n6 n7 n8 t1 t2 t3 t4 t5 t6 t7 t8 k1 k2 k3 k4 k5 k6 k7 k8 qn qo ql r0 r1 r2 r3 tw tr w0 w1 w2 w3 w4 w5 mo Akd Amo Ast Aro Atp Acd Asr Air Aih Ass Asq Ace Alw Awo Ahe Ask Ana Akp Agb Ago Afa Aga Avo fc fe fn fw tx fcr0 fcr1 fcr2 fcr3 fcr4 fcr5 fer0 fer1 fer2 fer3 fer4 fer5 (i7 + 1)) (hFX : FXP jg pb lw kj kb kl tx td him fql) (hFM : FMP Npb Njg Ntd Ntx Nru 0 Fcd Fsr Fsq Fir Fih) (hRL : RLP False fn r0 r1 r2 r3 jg pb kj kb him fs0 fs1 fs2 fs3 fqo fql Npb Njg 0 Fss Fsq Fce Fih) (hRQ : RQP fc c0 c1 c2 c3 c4 c5 fcr0 fcr1 fcr2 fcr3 fcr4 fcr5 fer0 fer1 fer2 fer3 fer4 fer5 pb lw tx td kb kl him fb fso fmi fpa fki fmo fsz frd gso gmi gpa gki gmo gsz grd Nru Ntx Ntd Fkd Fmo Fst Fro Ftp Fcd Fsr Fir Fih Fwo) {H : Heap} {locs : List Loc} (hP : va_P G.1 vwCl (WLd G xo tt rd nw th kp sh tu b0 co en sk c0 c1 c2 c3 c4 c5 e0 e1 e2 e3 e4 e5 n1 n2 n3 n4 n5 n6 n7 n8 t1 t2 t3 t4 t5 t6 t7 t8 k1 k2 k3 k4 k5 k6 k7 k8 qn qo ql r0 r1 r2 r3 tw tr w0 w1 w2 w3 w4 w5 mo Akd Amo Ast Aro Atp Acd Asr Air Aih Ass Asq Ace Alw Awo Ahe Ask Ana Akp Agb Ago Afa Aga Avo fc fe fn fw tx fcr0 fcr1 fcr2 fcr3 fcr4 fcr5 fer0 fer1 fer2 fer3 fer4 fer5 him x2 x3 x4 x5 td fb wr fsk jg pb lw fnm fso fmi fpa fki fmo fsz frd tj tb tl unm uso umi upa uki umo usz urd kj kb kl gnm gso gmi gpa gki gmo gsz grd fs0 fs1 fs2 fs3 fqo fql fw0 fw1 fw2 fw3 fw4 fw5 ftr Npb Njg Ntd Ntx Nru 0 Z19 Z20 Z21 Z22 Z25 Z26 Z27 Z31 Z32 Z33 Z34 Z39 Z40 Fkd Fmo Fst Fro Ftp Fcd Fsr Fir Fih Fss Fsq Fce Flw Fwo Fhe Fsk Fna Fkp Fgb Fgo Ffa Fga Fvo) H) (hD : va_D A (WLd G xo tt rd nw th kp sh tu b0 co en sk c0 c1 c2 c3 c4 c5 e0 e1 e2 e3 e4 e5 n1 n2 n3 n4 n5 n6 n7 n8 t1 t2 t3 t4 t5 t6 t7 t8 k1 k2 k3 k4 k5 k6 k7 k8 qn qo ql r0 r1 r2 r3 tw tr w0 w1 w2 w3 w4 w5 mo Akd Amo Ast Aro Atp Acd Asr Air Aih Ass Asq Ace Alw Awo Ahe Ask Ana Akp Agb Ago Afa Aga Avo fc fe fn fw tx fcr0 fcr1 fcr2 fcr3 fcr4 fcr5 fer0 fer1 fer2 fer3 fer4 fer5 him x2 x3 x4 x5 td fb wr fsk jg pb lw fnm fso fmi fpa fki fmo fsz frd tj tb tl unm uso umi upa uki umo usz urd kj kb kl gnm gso gmi gpa gki gmo gsz grd fs0 fs1 fs2 fs3 fqo fql fw0 fw1 fw2 fw3 fw4 fw5 ftr Npb Njg Ntd Ntx Nru 0 Z19 Z20 Z21 Z22 Z25 Z26 Z27 Z31 Z32 Z33 Z34 Z39 Z40 Fkd Fmo Fst Fro Ftp Fcd Fsr Fir Fih Fss Fsq Fce Flw Fwo Fhe Fsk Fna Fkp Fgb Fgo Ffa Fga Fvo)) (hS : va_S A s.heap H locs) {ls : Array Slot} (hl : lv_has ls 4 [zI 3 (nI (7 * i7)), zR 2 mo, zR 1 xo, zR 0 b]) : W p l e room_1 s m #[Value.ref b] below meth c H locs 87 4128 (lw_Z below #[Value.ref b] s) (F0 m 1366 ls []) := by
  obtain ⟨hx, hb, hret, hml, hown, hts0, hX, hbl, hlocks, hgv⟩ := id C0
  have hts : ∀ w ∈ wsL_law, w.before #[Value.ref b] s = true := fun w h => hts0 w (wsL_law_in w h)
  have hown : s.vm.findClass RL = some m.cls := hown
  have hA : ∀ q : Nat, s.heap.size ≤ q → A q := fun q h => by rw [hAe]; exact h
  have hbA : ¬ A b := by rw [hAe]; exact Nat.not_le.mpr hbl
  obtain ⟨⟨hjg, hpb, hlw, htx, htd⟩, hkk, hql⟩ := id hFX
  obtain ⟨⟨hNpb, hNjg, hNru, hNtx, hNtd⟩, hwa, hsq, hIM⟩ := id hFM
  have hz9 : gPD G A [zo5 xo tt rd nw th kp sh tu him, zo1 rd tt b0 x2 x3 x4 x5 (nI td), zi G b0 160 fb, zo3 tt co en sk wr (nI tx), zr G co 6 fc, zi G c0 160 fcr0, zi G c1 160 fcr1, zi G c2 160 fcr2, zi G c3 160 fcr3, zi G c4 160 fcr4, zi G c5 160 fcr5, zr G en 6 fe, zi G e0 3 (nF fer0), zi G e1 3 (nF fer1), zi G e2 3 (nF fer2), zi G e3 3 (nF fer3), zi G e4 3 (nF fer4), zi G e5 3 (nF fer5), zi G sk 32 fsk, zo0 nw tt n1 n2 n3 n4 n5 n6 n7 n8 (nI jg) (nI pb) (nI lw), zi G n1 6 fnm, zi G n2 4 fso, zi G n3 4 fmi, zi G n4 4 fpa, zi G n5 6 fki, zi G n6 6 fmo, zi G n7 6 fsz, zi G n8 6 frd, zo0 th tt t1 t2 t3 t4 t5 t6 t7 t8 tj tb tl, zi G t1 6 unm, zi G t2 4 uso, zi G t3 4 umi, zi G t4 4 upa, zi G t5 6 uki, zi G t6 6 umo, zi G t7 6 usz, zi G t8 6 urd, zo0 kp tt k1 k2 k3 k4 k5 k6 k7 k8 (nI kj) (nI kb) (nI kl), zi G k1 6 gnm, zi G k2 4 gso, zi G k3 4 gmi, zi G k4 4 gpa, zi G k5 6 gki, zi G k6 6 gmo, zi G k7 6 gsz, zi G k8 6 grd, zo2 sh qn qo ql, zr G qn 4 fn, zi G r0 40 fs0, zi G r1 40 fs1, zi G r2 40 fs2, zi G r3 40 fs3, zi G qo 4 fqo, zi G ql 4 (nF fql), zo4 tu tw tr, zr G tw 6 fw, zi G w0 6 fw0, zi G w1 6 fw1, zi G w2 6 fw2, zi G w3 6 fw3, zi G w4 6 fw4, zi G w5 6 fw5, zi G tr 64 ftr, zo6 mo (nI Npb) Akd Amo Ast (nI Njg) Aro Atp (nI Ntd) Acd Asr (nI Ntx) (nI Nru) 0 Air Aih Ass Asq Ace Alw Z19 Z20 Z21 Z22 Awo Ahe Z25 Z26 Z27 Ask Ana Akp Z31 Z32 Z33 Z34 Agb Ago Afa Aga Z39 Z40 Avo, zi G Akd 6 Fkd, zi G Amo 6 Fmo, zi G Ast 12 Fst, zi G Aro 12 Fro, zi G Atp 160 Ftp, zi G Acd 1200 Fcd, zi G Asr 24 (nF Fsr), zi G Air 24 Fir, zi G Aih 3 Fih, zi G Ass 4 Fss, zi G Asq 4 (nF Fsq), zi G Ace 160 Fce, zi G Alw 40 Flw, zi G Awo 96 Fwo, zi G Ahe 200 Fhe, zi G Ask 200 Fsk, zi G Ana 6 Fna, zi G Akp 24 Fkp, zb G Agb 61 Fgb, zb G Ago 61 Fgo, zi G Afa 36 Ffa, zi G Aga 36 Fga, zi G Avo 64 Fvo] H := ⟨hP, hD⟩
  have hP := hz9.1
  have hD := hz9.2
  refine lv_aload_n hx hb dL_law_1366 rfl (lv_at hl 2 rfl) ?_
  have hz9 : gPD G A [zo5 xo tt rd nw th kp sh tu him, zo0 nw tt n1 n2 n3 n4 n5 n6 n7 n8 (nI jg) (nI pb) (nI lw), zi G n2 4 fso, zi G n3 4 fmi, zi G n4 4 fpa, zi G n5 6 fki, zi G n6 6 fmo, zi G n7 6 fsz, zi G n8 6 frd, zo0 kp tt k1 k2 k3 k4 k5 k6 k7 k8 (nI kj) (nI kb) (nI kl), zi G k2 4 gso, zi G k3 4 gmi, zi G k4 4 gpa, zi G k5 6 gki, zi G k6 6 gmo, zi G k7 6 gsz, zi G k8 6 grd] H := ⟨hP.sub [0, 19, 21, 22, 23, 24, 25, 26, 27, 37, 39, 40, 41, 42, 43, 44, 45] rfl, hD.sub [0, 19, 21, 22, 23, 24, 25, 26, 27, 37, 39, 40, 41, 42, 43, 44, 45] (by decide +kernel) rfl⟩
  have hPc := hz9.1
  have hDc := hz9.2
  have hFc := gFree hPc hD hS hA [0, 19, 21, 22, 23, 24, 25, 26, 27, 37, 39, 40, 41, 42, 43, 44, 45] rfl
  refine va_calli (va_runV (As := []) (rest := []) ⟨hx, hb, hml, hown, hts⟩ (c_X5_back l G xo tt rd nw th kp sh tu n1 n2 n3 n4 n5 n6 n7 n8 k1 k2 k3 k4 k5 k6 k7 k8 jg pb lw kj kb kl him fso fmi fpa fki fmo fsz frd gso gmi gpa gki gmo gsz grd H.size (by first | exact hjg | assumption | omega) (by first | exact hpb | assumption | omega)) (cwV 0 hts gL_law_X5_back rfl rfl rfl (by decide +kernel) ⟨Nat.le_of_ble_eq_true rfl, Nat.le_of_ble_eq_true rfl⟩) ⟨gPre_blind, va_recv hK hPc (ci := 5) (q0 := 0) rfl rfl, fun U hU hW => gPre_of hU hW hK hPc hDc⟩ rfl rfl hl.1 rfl (lv_room (Nat.le_of_ble_eq_true rfl)) dL_law_1367 ⟨Nat.le_of_ble_eq_true rfl, Nat.le_of_ble_eq_true rfl⟩) hS (fun q _ h => hFc q h) hFc (fun r_1 u t H locs ht hvm w_2 hB hz1 hk1 hS => ?_)
  obtain ⟨hP1, hK1, hD1⟩ := hB
  rw [ht] at hP1
  have hz9 : gPD G (va_A _ _) [zo5 xo tt rd nw th kp sh tu him, zo0 nw tt n1 n2 n3 n4 n5 n6 n7 n8 (nI (m_X5_back_nw9 jg kj him)) (nI (m_X5_back_nw10 pb kb him)) (nI (m_X5_back_nw11 lw kl him)), zi G n2 4 (m_X5_back_n2 him fso gso), zi G n3 4 (m_X5_back_n3 him fmi gmi), zi G n4 4 (m_X5_back_n4 him fpa gpa), zi G n5 6 (m_X5_back_n5 him fki gki), zi G n6 6 (m_X5_back_n6 him fmo gmo), zi G n7 6 (m_X5_back_n7 him fsz gsz), zi G n8 6 (m_X5_back_n8 him frd grd), zo0 kp tt k1 k2 k3 k4 k5 k6 k7 k8 (nI kj) (nI kb) (nI kl), zi G k2 4 gso, zi G k3 4 gmi, zi G k4 4 gpa, zi G k5 6 gki, zi G k6 6 gmo, zi G k7 6 gsz, zi G k8 6 grd] H := ⟨hP1, hD1⟩
  have hP1 := hz9.1
  have hD1 := hz9.2
  have w_2 : r_1 = m_X5_back kb him := w_2
  have hz9 : gPD G A [zo1 rd tt b0 x2 x3 x4 x5 (nI td), zi G b0 160 fb, zo3 tt co en sk wr (nI tx), zr G co 6 fc, zi G c0 160 fcr0, zi G c1 160 fcr1, zi G c2 160 fcr2, zi G c3 160 fcr3, zi G c4 160 fcr4, zi G c5 160 fcr5, zr G en 6 fe, zi G e0 3 (nF fer0), zi G e1 3 (nF fer1), zi G e2 3 (nF fer2), zi G e3 3 (nF fer3), zi G e4 3 (nF fer4), zi G e5 3 (nF fer5), zi G sk 32 fsk, zi G n1 6 fnm, zo0 th tt t1 t2 t3 t4 t5 t6 t7 t8 tj tb tl, zi G t1 6 unm, zi G t2 4 uso, zi G t3 4 umi, zi G t4 4 upa, zi G t5 6 uki, zi G t6 6 umo, zi G t7 6 usz, zi G t8 6 urd, zi G k1 6 gnm, zo2 sh qn qo ql, zr G qn 4 fn, zi G r0 40 fs0, zi G r1 40 fs1, zi G r2 40 fs2, zi G r3 40 fs3, zi G qo 4 fqo, zi G ql 4 (nF fql), zo4 tu tw tr, zr G tw 6 fw, zi G w0 6 fw0, zi G w1 6 fw1, zi G w2 6 fw2, zi G w3 6 fw3, zi G w4 6 fw4, zi G w5 6 fw5, zi G tr 64 ftr, zo6 mo (nI Npb) Akd Amo Ast (nI Njg) Aro Atp (nI Ntd) Acd Asr (nI Ntx) (nI Nru) 0 Air Aih Ass Asq Ace Alw Z19 Z20 Z21 Z22 Awo Ahe Z25 Z26 Z27 Ask Ana Akp Z31 Z32 Z33 Z34 Agb Ago Afa Aga Z39 Z40 Avo, zi G Akd 6 Fkd, zi G Amo 6 Fmo, zi G Ast 12 Fst, zi G Aro 12 Fro, zi G Atp 160 Ftp, zi G Acd 1200 Fcd, zi G Asr 24 (nF Fsr), zi G Air 24 Fir, zi G Aih 3 Fih, zi G Ass 4 Fss, zi G Asq 4 (nF Fsq), zi G Ace 160 Fce, zi G Alw 40 Flw, zi G Awo 96 Fwo, zi G Ahe 200 Fhe, zi G Ask 200 Fsk, zi G Ana 6 Fna, zi G Akp 24 Fkp, zb G Agb 61 Fgb, zb G Ago 61 Fgo, zi G Afa 36 Ffa, zi G Aga 36 Fga, zi G Avo 64 Fvo, zo5 xo tt rd nw th kp sh tu him, zo0 nw tt n1 n2 n3 n4 n5 n6 n7 n8 (nI (m_X5_back_nw9 jg kj him)) (nI (m_X5_back_nw10 pb kb him)) (nI (m_X5_back_nw11 lw kl him)), zi G n2 4 (m_X5_back_n2 him fso gso), zi G n3 4 (m_X5_back_n3 him fmi gmi), zi G n4 4 (m_X5_back_n4 him fpa gpa), zi G n5 6 (m_X5_back_n5 him fki gki), zi G n6 6 (m_X5_back_n6 him fmo gmo), zi G n7 6 (m_X5_back_n7 him fsz gsz), zi G n8 6 (m_X5_back_n8 him frd grd), zo0 kp tt k1 k2 k3 k4 k5 k6 k7 k8 (nI kj) (nI kb) (nI kl), zi G k2 4 gso, zi G k3 4 gmi, zi G k4 4 gpa, zi G k5 6 gki, zi G k6 6 gmo, zi G k7 6 gsz, zi G k8 6 grd] H := gJoin hP hD hk1 hFc hP1 hD1 [0, 19, 21, 22, 23, 24, 25, 26, 27, 37, 39, 40, 41, 42, 43, 44, 45] [1, 2, 3, 4, 5, 6, 7, 8, 9, 10, 11, 12, 13, 14, 15, 16, 17, 18, 20, 28, 29, 30, 31, 32, 33, 34, 35, 36, 38, 46, 47, 48, 49, 50, 51, 52, 53, 54, 55, 56, 57, 58, 59, 60, 61, 62, 63, 64, 65, 66, 67, 68, 69, 70, 71, 72, 73, 74, 75, 76, 77, 78, 79, 80, 81, 82, 83, 84, 85, 86] rfl rfl rfl (by decide +kernel) (by decide +kernel)
  have hP := hz9.1
  have hD := hz9.2
  subst w_2
  refine lv_pop hx hb dL_law_1370 rfl ?_
  refine lv_aload_n hx hb dL_law_1371 rfl (lv_at hl 1 rfl) ?_
  have hz9 : gPD G A [zo6 mo (nI Npb) Akd Amo Ast (nI Njg) Aro Atp (nI Ntd) Acd Asr (nI Ntx) (nI Nru) 0 Air Aih Ass Asq Ace Alw Z19 Z20 Z21 Z22 Awo Ahe Z25 Z26 Z27 Ask Ana Akp Z31 Z32 Z33 Z34 Agb Ago Afa Aga Z39 Z40 Avo] H := ⟨hP.sub [46] rfl, hD.sub [46] (by decide +kernel) rfl⟩
  have hPc := hz9.1
  have hDc := hz9.2
  have hFc := gFree hPc hD hS hA [46] rfl
  refine va_calli (va_runV (As := []) (rest := []) ⟨hx, hb, hml, hown, hts⟩ (c_X6_back_no l G mo Akd Amo Ast Aro Atp Acd Asr Air Aih Ass Asq Ace Alw Awo Ahe Ask Ana Akp Agb Ago Afa Aga Avo Npb Njg Ntd Ntx Nru Z19 Z20 Z21 Z22 Z25 Z26 Z27 Z31 Z32 Z33 Z34 Z39 Z40 H.size (by first | exact hpb | assumption | omega) (by first | exact hjg | assumption | omega) (by first | exact htx | assumption | omega) (by first | exact hru | assumption | omega)) (cwV 0 hts gL_law_X6_back rfl rfl rfl (by decide +kernel) ⟨Nat.le_of_ble_eq_true rfl, Nat.le_of_ble_eq_true rfl⟩) ⟨gPre_blind, va_recv hK hPc (ci := 6) (q0 := 0) rfl rfl, fun U hU hW => gPre_of hU hW hK hPc hDc⟩ rfl rfl hl.1 rfl (lv_room (Nat.le_of_ble_eq_true rfl)) dL_law_1372 ⟨Nat.le_of_ble_eq_true rfl, Nat.le_of_ble_eq_true rfl⟩) hS (fun q _ h => hFc q h) hFc (fun r_3 u t H locs ht hvm w_4 hB hz1 hk1 hS => ?_)
  obtain ⟨hP1, hK1, hD1⟩ := hB
  rw [ht] at hP1
  have hz9 : gPD G (va_A _ _) [zo6 mo (nI Npb) Akd Amo Ast (nI Njg) Aro Atp (nI Ntd) Acd Asr (nI Ntx) (nI Nru) 0 Air Aih Ass Asq Ace Alw Z19 Z20 Z21 Z22 Awo Ahe Z25 Z26 Z27 Ask Ana Akp Z31 Z32 Z33 Z34 Agb Ago Afa Aga Z39 Z40 Avo] H := ⟨hP1, hD1⟩
  have hP1 := hz9.1
  have hD1 := hz9.2
  have w_4 : r_3 = -3 := w_4
  have hz9 : gPD G A [zo1 rd tt b0 x2 x3 x4 x5 (nI td), zi G b0 160 fb, zo3 tt co en sk wr (nI tx), zr G co 6 fc, zi G c0 160 fcr0, zi G c1 160 fcr1, zi G c2 160 fcr2, zi G c3 160 fcr3, zi G c4 160 fcr4, zi G c5 160 fcr5, zr G en 6 fe, zi G e0 3 (nF fer0), zi G e1 3 (nF fer1), zi G e2 3 (nF fer2), zi G e3 3 (nF fer3), zi G e4 3 (nF fer4), zi G e5 3 (nF fer5), zi G sk 32 fsk, zi G n1 6 fnm, zo0 th tt t1 t2 t3 t4 t5 t6 t7 t8 tj tb tl, zi G t1 6 unm, zi G t2 4 uso, zi G t3 4 umi, zi G t4 4 upa, zi G t5 6 uki, zi G t6 6 umo, zi G t7 6 usz, zi G t8 6 urd, zi G k1 6 gnm, zo2 sh qn qo ql, zr G qn 4 fn, zi G r0 40 fs0, zi G r1 40 fs1, zi G r2 40 fs2, zi G r3 40 fs3, zi G qo 4 fqo, zi G ql 4 (nF fql), zo4 tu tw tr, zr G tw 6 fw, zi G w0 6 fw0, zi G w1 6 fw1, zi G w2 6 fw2, zi G w3 6 fw3, zi G w4 6 fw4, zi G w5 6 fw5, zi G tr 64 ftr, zi G Akd 6 Fkd, zi G Amo 6 Fmo, zi G Ast 12 Fst, zi G Aro 12 Fro, zi G Atp 160 Ftp, zi G Acd 1200 Fcd, zi G Asr 24 (nF Fsr), zi G Air 24 Fir, zi G Aih 3 Fih, zi G Ass 4 Fss, zi G Asq 4 (nF Fsq), zi G Ace 160 Fce, zi G Alw 40 Flw, zi G Awo 96 Fwo, zi G Ahe 200 Fhe, zi G Ask 200 Fsk, zi G Ana 6 Fna, zi G Akp 24 Fkp, zb G Agb 61 Fgb, zb G Ago 61 Fgo, zi G Afa 36 Ffa, zi G Aga 36 Fga, zi G Avo 64 Fvo, zo5 xo tt rd nw th kp sh tu him, zo0 nw tt n1 n2 n3 n4 n5 n6 n7 n8 (nI (m_X5_back_nw9 jg kj him)) (nI (m_X5_back_nw10 pb kb him)) (nI (m_X5_back_nw11 lw kl him)), zi G n2 4 (m_X5_back_n2 him fso gso), zi G n3 4 (m_X5_back_n3 him fmi gmi), zi G n4 4 (m_X5_back_n4 him fpa gpa), zi G n5 6 (m_X5_back_n5 him fki gki), zi G n6 6 (m_X5_back_n6 him fmo gmo), zi G n7 6 (m_X5_back_n7 him fsz gsz), zi G n8 6 (m_X5_back_n8 him frd grd), zo0 kp tt k1 k2 k3 k4 k5 k6 k7 k8 (nI kj) (nI kb) (nI kl), zi G k2 4 gso, zi G k3 4 gmi, zi G k4 4 gpa, zi G k5 6 gki, zi G k6 6 gmo, zi G k7 6 gsz, zi G k8 6 grd, zo6 mo (nI Npb) Akd Amo Ast (nI Njg) Aro Atp (nI Ntd) Acd Asr (nI Ntx) (nI Nru) 0 Air Aih Ass Asq Ace Alw Z19 Z20 Z21 Z22 Awo Ahe Z25 Z26 Z27 Ask Ana Akp Z31 Z32 Z33 Z34 Agb Ago Afa Aga Z39 Z40 Avo] H := gJoin hP hD hk1 hFc hP1 hD1 [46] [0, 1, 2, 3, 4, 5, 6, 7, 8, 9, 10, 11, 12, 13, 14, 15, 16, 17, 18, 19, 20, 21, 22, 23, 24, 25, 26, 27, 28, 29, 30, 31, 32, 33, 34, 35, 36, 37, 38, 39, 40, 41, 42, 43, 44, 45, 47, 48, 49, 50, 51, 52, 53, 54, 55, 56, 57, 58, 59, 60, 61, 62, 63, 64, 65, 66, 67, 68, 69, 70, 71, 72, 73, 74, 75, 76, 77, 78, 79, 80, 81, 82, 83, 84, 85, 86] rfl rfl rfl (by decide +kernel) (by decide +kernel)
  have hP := hz9.1
  have hD := hz9.2
  subst w_4
  refine lv_pop hx hb dL_law_1375 rfl ?_
  refine lv_goto (tgt := 1614) hx hb dL_law_1376 (by decide +kernel) ?_
  refine lv_iinc (v := nI (7 * (i7 + 1))) (lv' := [zI 3 (nI (7 * (i7 + 1))), zR 2 mo, zR 1 xo, zR 0 b]) hx hb dL_law_1614 hl (k := 0) rfl (by show nI (7 * i7) + 7 = nI (7 * (i7 + 1)); exact nI_add (7 * i7) 7) (by decide +kernel) rfl (fun ls hl => ?_)
  refine lv_goto (tgt := 18) hx hb dL_law_1617 (by decide +kernel) ?_
  exact K him x2 x3 x4 x5 td fb wr fsk (m_X5_back_nw9 jg kj him) (m_X5_back_nw10 pb kb him) (m_X5_back_nw11 lw kl him) fnm (m_X5_back_n2 him fso gso) (m_X5_back_n3 him fmi gmi) (m_X5_back_n4 him fpa gpa) (m_X5_back_n5 him fki gki) (m_X5_back_n6 him fmo gmo) (m_X5_back_n7 him fsz gsz) (m_X5_back_n8 him frd grd) tj tb tl unm uso umi upa uki umo usz urd kj kb kl gnm gso gmi gpa gki gmo gsz grd fs0 fs1 fs2 fs3 fqo fql fw0 fw1 fw2 fw3 fw4 fw5 ftr Npb Njg Ntd Ntx Nru 0 Z19 Z20 Z21 Z22 Z25 Z26 Z27 Z31 Z32 Z33 Z34 Z39 Z40 Fkd Fmo Fst Fro Ftp Fcd Fsr Fir Fih Fss Fsq Fce Flw Fwo Fhe Fsk Fna Fkp Fgb Fgo Ffa Fga Fvo (fx_back hFX) hFM (rl_back_no hRL) (rq_back_no hRL.1.2.2.1 hRQ) H _ ls (hP.sub [69, 0, 1, 2, 3, 4, 5, 6, 7, 8, 9, 10, 11, 12, 13, 14, 15, 16, 17, 70, 18, 71, 72, 73, 74, 75, 76, 77, 19, 20, 21, 22, 23, 24, 25, 26, 27, 78, 28, 79, 80, 81, 82, 83, 84, 85, 29, 30, 31, 32, 33, 34, 35, 36, 37, 38, 39, 40, 41, 42, 43, 44, 45, 86, 46, 47, 48, 49, 50, 51, 52, 53, 54, 55, 56, 57, 58, 59, 60, 61, 62, 63, 64, 65, 66, 67, 68] rfl) (hD.sub [69, 0, 1, 2, 3, 4, 5, 6, 7, 8, 9, 10, 11, 12, 13, 14, 15, 16, 17, 70, 18, 71, 72, 73, 74, 75, 76, 77, 19, 20, 21, 22, 23, 24, 25, 26, 27, 78, 28, 79, 80, 81, 82, 83, 84, 85, 29, 30, 31, 32, 33, 34, 35, 36, 37, 38, 39, 40, 41, 42, 43, 44, 45, 86, 46, 47, 48, 49, 50, 51, 52, 53, 54, 55, 56, 57, 58, 59, 60, 61, 62, 63, 64, 65, 66, 67, 68] (by decide +kernel) rfl) hS (lv_sub hl [0, 1, 2, 3] rfl)
set_option maxHeartbeats 4000000 in
set_option maxRecDepth 100000 in
theorem lc_back_yes {p : Program} {l : Launch} {e : Env} {s : State} {m : MethodId} {below : List Frame} {meth : Method} {c : Code} {b L : Nat} {xs : Nat → Int32} {G : gG} {E : gS} {A : Nat → Prop} (C0 : lw_At p s m meth c b L xs) (hE : gE E A s s.heap) (hK : gK G s) (hAe : A = fun q => s.heap.size ≤ q) {xo tt rd nw th kp sh tu b0 co en sk c0 c1 c2 c3 c4 c5 e0 e1 e2 e3 e4 e5 n1 n2 n3 n4 n5 n6 n7 n8 t1 t2 t3 t4 t5 t6 t7 t8 k1 k2 k3 k4 k5 k6 k7 k8 qn qo ql r0 r1 r2 r3 tw tr w0 w1 w2 w3 w4 w5 mo Akd Amo Ast Aro Atp Acd Asr Air Aih Ass Asq Ace Alw Awo Ahe Ask Ana Akp Agb Ago Afa Aga Avo : Nat} {fc fe fn fw : Nat → Option Nat} {tx : Nat} {fcr0 fcr1 fcr2 fcr3 fcr4 fcr5 : Nat → Int32} {fer0 fer1 fer2 fer3 fer4 fer5 : Nat → Nat} {him x2 x3 x4 x5 : Int32} {td : Nat} {fb : Nat → Int32} {wr : Int32} {fsk : Nat → Int32} {jg pb lw : Nat} {fnm fso fmi fpa fki fmo fsz frd : Nat → Int32} {tj tb tl : Int32} {unm uso umi upa uki umo usz urd : Nat → Int32} {kj kb kl : Nat} {gnm gso gmi gpa gki gmo gsz grd fs0 fs1 fs2 fs3 fqo : Nat → Int32} {fql : Nat → Nat} {fw0 fw1 fw2 fw3 fw4 fw5 ftr : Nat → Int32} {Npb Njg Ntd Ntx Nru : Nat} {Z19 Z20 Z21 Z22 Z25 Z26 Z27 Z31 Z32 Z33 Z34 Z39 Z40 : Int32} {Fkd Fmo Fst Fro Ftp Fcd : Nat → Int32} {Fsr : Nat → Nat} {Fss : Nat → Int32} {Fsq : Nat → Nat} {Fce Flw Fwo Fhe Fsk Fna Fkp Fgb Fgo Ffa Fga Fvo : Nat → Int32} {ga6 : Nat → Int32} {gb6 : Nat → Int32} {ip : Nat} {ij : Nat} {il : Nat} {v1 v2 v3 v4 v5 v6 : Int32} {i7 : Nat} (hi : 7 * i7 + 7 ≤ L) (hL : L ≤ 3584) (hv1 : v1 = xs (7 * i7 + 1)) (hv2 : v2 = xs (7 * i7 + 2)) (hv3 : v3 = xs (7 * i7 + 3)) (hv4 : v4 = xs (7 * i7 + 4)) (hv5 : v5 = xs (7 * i7 + 5)) (hv6 : v6 = xs (7 * i7 + 6)) (hip : ip ≤ 6) (hij : ij ≤ 4) (hil : il < Ntx) (K : LawV p l e s m below meth c b G A xo tt rd nw th kp sh tu b0 co en sk c0 c1 c2 c3 c4 c5 e0 e1 e2 e3 e4 e5 n1 n2 n3 n4 n5 n6 n7 n8 t1 t2 t3 t4 t5 t6 t7 t8 k1 k2 k3 k4 k5 k6 k7 k8 qn qo ql r0 r1 r2 r3 tw tr w0 w1 w2 w3 w4 w5 mo Akd Amo Ast Aro Atp Acd Asr Air Aih Ass Asq Ace Alw Awo Ahe Ask Ana Akp Agb Ago Afa Aga Avo fc fe fn fw tx fcr0 fcr1 fcr2 fcr3 fcr4 fcr5 fer0 fer1 fer2 fer3 fer4 fer5 (i7 + 1)) (hFX : FXP jg pb lw kj kb kl tx td him fql) (hFM : FMP Npb Njg Ntd Ntx Nru 1 Fcd Fsr Fsq (mKeep ga6 gb6) (mHold (nI ip) (nI ij) (nI il))) (hRL : RLP False fn r0 r1 r2 r3 jg pb kj kb him fs0 fs1 fs2 fs3 fqo fql Npb Njg 1 Fss Fsq Fce (mHold (nI ip) (nI ij) (nI il))) (hRQ : RQP fc c0 c1 c2 c3 c4 c5 fcr0 fcr1 fcr2 fcr3 fcr4 fcr5 fer0 fer1 fer2 fer3 fer4 fer5 pb lw tx td kb kl him fb fso fmi fpa fki fmo fsz frd gso gmi gpa gki gmo gsz grd Nru Ntx Ntd Fkd Fmo Fst Fro Ftp Fcd Fsr (mKeep ga6 gb6) (mHold (nI ip) (nI ij) (nI il)) Fwo) {H : Heap} {locs : List Loc} (hP : va_P G.1 vwCl (WLd G xo tt rd nw th kp sh tu b0 co en sk c0 c1 c2 c3 c4 c5 e0 e1 e2 e3 e4 e5 n1 n2 n3 n4 n5 n6 n7 n8 t1 t2 t3 t4 t5 t6 t7 t8 k1 k2 k3 k4 k5 k6 k7 k8 qn qo ql r0 r1 r2 r3 tw tr w0 w1 w2 w3 w4 w5 mo Akd Amo Ast Aro Atp Acd Asr Air Aih Ass Asq Ace Alw Awo Ahe Ask Ana Akp Agb Ago Afa Aga Avo fc fe fn fw tx fcr0 fcr1 fcr2 fcr3 fcr4 fcr5 fer0 fer1 fer2 fer3 fer4 fer5 him x2 x3 x4 x5 td fb wr fsk jg pb lw fnm fso fmi fpa fki fmo fsz frd tj tb tl unm uso umi upa uki umo usz urd kj kb kl gnm gso gmi gpa gki gmo gsz grd fs0 fs1 fs2 fs3 fqo fql fw0 fw1 fw2 fw3 fw4 fw5 ftr Npb Njg Ntd Ntx Nru 1 Z19 Z20 Z21 Z22 Z25 Z26 Z27 Z31 Z32 Z33 Z34 Z39 Z40 Fkd Fmo Fst Fro Ftp Fcd Fsr (mKeep ga6 gb6) (mHold (nI ip) (nI ij) (nI il)) Fss Fsq Fce Flw Fwo Fhe Fsk Fna Fkp Fgb Fgo Ffa Fga Fvo) H) (hD : va_D A (WLd G xo tt rd nw th kp sh tu b0 co en sk c0 c1 c2 c3 c4 c5 e0 e1 e2 e3 e4 e5 n1 n2 n3 n4 n5 n6 n7 n8 t1 t2 t3 t4 t5 t6 t7 t8 k1 k2 k3 k4 k5 k6 k7 k8 qn qo ql r0 r1 r2 r3 tw tr w0 w1 w2 w3 w4 w5 mo Akd Amo Ast Aro Atp Acd Asr Air Aih Ass Asq Ace Alw Awo Ahe Ask Ana Akp Agb Ago Afa Aga Avo fc fe fn fw tx fcr0 fcr1 fcr2 fcr3 fcr4 fcr5 fer0 fer1 fer2 fer3 fer4 fer5 him x2 x3 x4 x5 td fb wr fsk jg pb lw fnm fso fmi fpa fki fmo fsz frd tj tb tl unm uso umi upa uki umo usz urd kj kb kl gnm gso gmi gpa gki gmo gsz grd fs0 fs1 fs2 fs3 fqo fql fw0 fw1 fw2 fw3 fw4 fw5 ftr Npb Njg Ntd Ntx Nru 1 Z19 Z20 Z21 Z22 Z25 Z26 Z27 Z31 Z32 Z33 Z34 Z39 Z40 Fkd Fmo Fst Fro Ftp Fcd Fsr (mKeep ga6 gb6) (mHold (nI ip) (nI ij) (nI il)) Fss Fsq Fce Flw Fwo Fhe Fsk Fna Fkp Fgb Fgo Ffa Fga Fvo)) (hS : va_S A s.heap H locs) {ls : Array Slot} (hl : lv_has ls 4 [zI 3 (nI (7 * i7)), zR 2 mo, zR 1 xo, zR 0 b]) : W p l e room_1 s m #[Value.ref b] below meth c H locs 87 4128 (lw_Z below #[Value.ref b] s) (F0 m 1366 ls []) := by
  obtain ⟨hx, hb, hret, hml, hown, hts0, hX, hbl, hlocks, hgv⟩ := id C0
  have hts : ∀ w ∈ wsL_law, w.before #[Value.ref b] s = true := fun w h => hts0 w (wsL_law_in w h)
  have hown : s.vm.findClass RL = some m.cls := hown
  have hA : ∀ q : Nat, s.heap.size ≤ q → A q := fun q h => by rw [hAe]; exact h
  have hbA : ¬ A b := by rw [hAe]; exact Nat.not_le.mpr hbl
  obtain ⟨⟨hjg, hpb, hlw, htx, htd⟩, hkk, hql⟩ := id hFX
  obtain ⟨⟨hNpb, hNjg, hNru, hNtx, hNtd⟩, hwa, hsq, hIM⟩ := id hFM
  have hz9 : gPD G A [zo5 xo tt rd nw th kp sh tu him, zo1 rd tt b0 x2 x3 x4 x5 (nI td), zi G b0 160 fb, zo3 tt co en sk wr (nI tx), zr G co 6 fc, zi G c0 160 fcr0, zi G c1 160 fcr1, zi G c2 160 fcr2, zi G c3 160 fcr3, zi G c4 160 fcr4, zi G c5 160 fcr5, zr G en 6 fe, zi G e0 3 (nF fer0), zi G e1 3 (nF fer1), zi G e2 3 (nF fer2), zi G e3 3 (nF fer3), zi G e4 3 (nF fer4), zi G e5 3 (nF fer5), zi G sk 32 fsk, zo0 nw tt n1 n2 n3 n4 n5 n6 n7 n8 (nI jg) (nI pb) (nI lw), zi G n1 6 fnm, zi G n2 4 fso, zi G n3 4 fmi, zi G n4 4 fpa, zi G n5 6 fki, zi G n6 6 fmo, zi G n7 6 fsz, zi G n8 6 frd, zo0 th tt t1 t2 t3 t4 t5 t6 t7 t8 tj tb tl, zi G t1 6 unm, zi G t2 4 uso, zi G t3 4 umi, zi G t4 4 upa, zi G t5 6 uki, zi G t6 6 umo, zi G t7 6 usz, zi G t8 6 urd, zo0 kp tt k1 k2 k3 k4 k5 k6 k7 k8 (nI kj) (nI kb) (nI kl), zi G k1 6 gnm, zi G k2 4 gso, zi G k3 4 gmi, zi G k4 4 gpa, zi G k5 6 gki, zi G k6 6 gmo, zi G k7 6 gsz, zi G k8 6 grd, zo2 sh qn qo ql, zr G qn 4 fn, zi G r0 40 fs0, zi G r1 40 fs1, zi G r2 40 fs2, zi G r3 40 fs3, zi G qo 4 fqo, zi G ql 4 (nF fql), zo4 tu tw tr, zr G tw 6 fw, zi G w0 6 fw0, zi G w1 6 fw1, zi G w2 6 fw2, zi G w3 6 fw3, zi G w4 6 fw4, zi G w5 6 fw5, zi G tr 64 ftr, zo6 mo (nI Npb) Akd Amo Ast (nI Njg) Aro Atp (nI Ntd) Acd Asr (nI Ntx) (nI Nru) 1 Air Aih Ass Asq Ace Alw Z19 Z20 Z21 Z22 Awo Ahe Z25 Z26 Z27 Ask Ana Akp Z31 Z32 Z33 Z34 Agb Ago Afa Aga Z39 Z40 Avo, zi G Akd 6 Fkd, zi G Amo 6 Fmo, zi G Ast 12 Fst, zi G Aro 12 Fro, zi G Atp 160 Ftp, zi G Acd 1200 Fcd, zi G Asr 24 (nF Fsr), zi G Air 24 (mKeep ga6 gb6), zi G Aih 3 (mHold (nI ip) (nI ij) (nI il)), zi G Ass 4 Fss, zi G Asq 4 (nF Fsq), zi G Ace 160 Fce, zi G Alw 40 Flw, zi G Awo 96 Fwo, zi G Ahe 200 Fhe, zi G Ask 200 Fsk, zi G Ana 6 Fna, zi G Akp 24 Fkp, zb G Agb 61 Fgb, zb G Ago 61 Fgo, zi G Afa 36 Ffa, zi G Aga 36 Fga, zi G Avo 64 Fvo] H := ⟨hP, hD⟩
  have hP := hz9.1
  have hD := hz9.2
  refine lv_aload_n hx hb dL_law_1366 rfl (lv_at hl 2 rfl) ?_
  have hz9 : gPD G A [zo5 xo tt rd nw th kp sh tu him, zo0 nw tt n1 n2 n3 n4 n5 n6 n7 n8 (nI jg) (nI pb) (nI lw), zi G n2 4 fso, zi G n3 4 fmi, zi G n4 4 fpa, zi G n5 6 fki, zi G n6 6 fmo, zi G n7 6 fsz, zi G n8 6 frd, zo0 kp tt k1 k2 k3 k4 k5 k6 k7 k8 (nI kj) (nI kb) (nI kl), zi G k2 4 gso, zi G k3 4 gmi, zi G k4 4 gpa, zi G k5 6 gki, zi G k6 6 gmo, zi G k7 6 gsz, zi G k8 6 grd] H := ⟨hP.sub [0, 19, 21, 22, 23, 24, 25, 26, 27, 37, 39, 40, 41, 42, 43, 44, 45] rfl, hD.sub [0, 19, 21, 22, 23, 24, 25, 26, 27, 37, 39, 40, 41, 42, 43, 44, 45] (by decide +kernel) rfl⟩
  have hPc := hz9.1
  have hDc := hz9.2
  have hFc := gFree hPc hD hS hA [0, 19, 21, 22, 23, 24, 25, 26, 27, 37, 39, 40, 41, 42, 43, 44, 45] rfl
  refine va_calli (va_runV (As := []) (rest := []) ⟨hx, hb, hml, hown, hts⟩ (c_X5_back l G xo tt rd nw th kp sh tu n1 n2 n3 n4 n5 n6 n7 n8 k1 k2 k3 k4 k5 k6 k7 k8 jg pb lw kj kb kl him fso fmi fpa fki fmo fsz frd gso gmi gpa gki gmo gsz grd H.size (by first | exact hjg | assumption | omega) (by first | exact hpb | assumption | omega)) (cwV 0 hts gL_law_X5_back rfl rfl rfl (by decide +kernel) ⟨Nat.le_of_ble_eq_true rfl, Nat.le_of_ble_eq_true rfl⟩) ⟨gPre_blind, va_recv hK hPc (ci := 5) (q0 := 0) rfl rfl, fun U hU hW => gPre_of hU hW hK hPc hDc⟩ rfl rfl hl.1 rfl (lv_room (Nat.le_of_ble_eq_true rfl)) dL_law_1367 ⟨Nat.le_of_ble_eq_true rfl, Nat.le_of_ble_eq_true rfl⟩) hS (fun q _ h => hFc q h) hFc (fun r_1 u t H locs ht hvm w_2 hB hz1 hk1 hS => ?_)
  obtain ⟨hP1, hK1, hD1⟩ := hB
  rw [ht] at hP1
  have hz9 : gPD G (va_A _ _) [zo5 xo tt rd nw th kp sh tu him, zo0 nw tt n1 n2 n3 n4 n5 n6 n7 n8 (nI (m_X5_back_nw9 jg kj him)) (nI (m_X5_back_nw10 pb kb him)) (nI (m_X5_back_nw11 lw kl him)), zi G n2 4 (m_X5_back_n2 him fso gso), zi G n3 4 (m_X5_back_n3 him fmi gmi), zi G n4 4 (m_X5_back_n4 him fpa gpa), zi G n5 6 (m_X5_back_n5 him fki gki), zi G n6 6 (m_X5_back_n6 him fmo gmo), zi G n7 6 (m_X5_back_n7 him fsz gsz), zi G n8 6 (m_X5_back_n8 him frd grd), zo0 kp tt k1 k2 k3 k4 k5 k6 k7 k8 (nI kj) (nI kb) (nI kl), zi G k2 4 gso, zi G k3 4 gmi, zi G k4 4 gpa, zi G k5 6 gki, zi G k6 6 gmo, zi G k7 6 gsz, zi G k8 6 grd] H := ⟨hP1, hD1⟩
  have hP1 := hz9.1
  have hD1 := hz9.2
  have w_2 : r_1 = m_X5_back kb him := w_2
  have hz9 : gPD G A [zo1 rd tt b0 x2 x3 x4 x5 (nI td), zi G b0 160 fb, zo3 tt co en sk wr (nI tx), zr G co 6 fc, zi G c0 160 fcr0, zi G c1 160 fcr1, zi G c2 160 fcr2, zi G c3 160 fcr3, zi G c4 160 fcr4, zi G c5 160 fcr5, zr G en 6 fe, zi G e0 3 (nF fer0), zi G e1 3 (nF fer1), zi G e2 3 (nF fer2), zi G e3 3 (nF fer3), zi G e4 3 (nF fer4), zi G e5 3 (nF fer5), zi G sk 32 fsk, zi G n1 6 fnm, zo0 th tt t1 t2 t3 t4 t5 t6 t7 t8 tj tb tl, zi G t1 6 unm, zi G t2 4 uso, zi G t3 4 umi, zi G t4 4 upa, zi G t5 6 uki, zi G t6 6 umo, zi G t7 6 usz, zi G t8 6 urd, zi G k1 6 gnm, zo2 sh qn qo ql, zr G qn 4 fn, zi G r0 40 fs0, zi G r1 40 fs1, zi G r2 40 fs2, zi G r3 40 fs3, zi G qo 4 fqo, zi G ql 4 (nF fql), zo4 tu tw tr, zr G tw 6 fw, zi G w0 6 fw0, zi G w1 6 fw1, zi G w2 6 fw2, zi G w3 6 fw3, zi G w4 6 fw4, zi G w5 6 fw5, zi G tr 64 ftr, zo6 mo (nI Npb) Akd Amo Ast (nI Njg) Aro Atp (nI Ntd) Acd Asr (nI Ntx) (nI Nru) 1 Air Aih Ass Asq Ace Alw Z19 Z20 Z21 Z22 Awo Ahe Z25 Z26 Z27 Ask Ana Akp Z31 Z32 Z33 Z34 Agb Ago Afa Aga Z39 Z40 Avo, zi G Akd 6 Fkd, zi G Amo 6 Fmo, zi G Ast 12 Fst, zi G Aro 12 Fro, zi G Atp 160 Ftp, zi G Acd 1200 Fcd, zi G Asr 24 (nF Fsr), zi G Air 24 (mKeep ga6 gb6), zi G Aih 3 (mHold (nI ip) (nI ij) (nI il)), zi G Ass 4 Fss, zi G Asq 4 (nF Fsq), zi G Ace 160 Fce, zi G Alw 40 Flw, zi G Awo 96 Fwo, zi G Ahe 200 Fhe, zi G Ask 200 Fsk, zi G Ana 6 Fna, zi G Akp 24 Fkp, zb G Agb 61 Fgb, zb G Ago 61 Fgo, zi G Afa 36 Ffa, zi G Aga 36 Fga, zi G Avo 64 Fvo, zo5 xo tt rd nw th kp sh tu him, zo0 nw tt n1 n2 n3 n4 n5 n6 n7 n8 (nI (m_X5_back_nw9 jg kj him)) (nI (m_X5_back_nw10 pb kb him)) (nI (m_X5_back_nw11 lw kl him)), zi G n2 4 (m_X5_back_n2 him fso gso), zi G n3 4 (m_X5_back_n3 him fmi gmi), zi G n4 4 (m_X5_back_n4 him fpa gpa), zi G n5 6 (m_X5_back_n5 him fki gki), zi G n6 6 (m_X5_back_n6 him fmo gmo), zi G n7 6 (m_X5_back_n7 him fsz gsz), zi G n8 6 (m_X5_back_n8 him frd grd), zo0 kp tt k1 k2 k3 k4 k5 k6 k7 k8 (nI kj) (nI kb) (nI kl), zi G k2 4 gso, zi G k3 4 gmi, zi G k4 4 gpa, zi G k5 6 gki, zi G k6 6 gmo, zi G k7 6 gsz, zi G k8 6 grd] H := gJoin hP hD hk1 hFc hP1 hD1 [0, 19, 21, 22, 23, 24, 25, 26, 27, 37, 39, 40, 41, 42, 43, 44, 45] [1, 2, 3, 4, 5, 6, 7, 8, 9, 10, 11, 12, 13, 14, 15, 16, 17, 18, 20, 28, 29, 30, 31, 32, 33, 34, 35, 36, 38, 46, 47, 48, 49, 50, 51, 52, 53, 54, 55, 56, 57, 58, 59, 60, 61, 62, 63, 64, 65, 66, 67, 68, 69, 70, 71, 72, 73, 74, 75, 76, 77, 78, 79, 80, 81, 82, 83, 84, 85, 86] rfl rfl rfl (by decide +kernel) (by decide +kernel)
  have hP := hz9.1
  have hD := hz9.2
  subst w_2
  refine lv_pop hx hb dL_law_1370 rfl ?_
  refine lv_aload_n hx hb dL_law_1371 rfl (lv_at hl 1 rfl) ?_
  have hz9 : gPD G A [zo6 mo (nI Npb) Akd Amo Ast (nI Njg) Aro Atp (nI Ntd) Acd Asr (nI Ntx) (nI Nru) 1 Air Aih Ass Asq Ace Alw Z19 Z20 Z21 Z22 Awo Ahe Z25 Z26 Z27 Ask Ana Akp Z31 Z32 Z33 Z34 Agb Ago Afa Aga Z39 Z40 Avo, zi G Aro 12 Fro, zi G Ast 12 Fst, zi G Air 24 (mKeep ga6 gb6), zi G Aih 3 (mHold (nI ip) (nI ij) (nI il))] H := ⟨hP.sub [46, 50, 49, 54, 55] rfl, hD.sub [46, 50, 49, 54, 55] (by decide +kernel) rfl⟩
  have hPc := hz9.1
  have hDc := hz9.2
  have hFc := gFree hPc hD hS hA [46, 50, 49, 54, 55] rfl
  refine va_calli (va_runV (As := []) (rest := []) ⟨hx, hb, hml, hown, hts⟩ (c_X6_back_yes l G mo Akd Amo Ast Aro Atp Acd Asr Air Aih Ass Asq Ace Alw Awo Ahe Ask Ana Akp Agb Ago Afa Aga Avo Npb Njg Ntd Ntx Nru Z19 Z20 Z21 Z22 Z25 Z26 Z27 Z31 Z32 Z33 Z34 Z39 Z40 Fro Fst ga6 gb6 ip ij il H.size (by first | exact hpb | assumption | omega) (by first | exact hjg | assumption | omega) (by first | exact htx | assumption | omega) (by first | exact hru | assumption | omega)) (cwV 0 hts gL_law_X6_back rfl rfl rfl (by decide +kernel) ⟨Nat.le_of_ble_eq_true rfl, Nat.le_of_ble_eq_true rfl⟩) ⟨gPre_blind, va_recv hK hPc (ci := 6) (q0 := 0) rfl rfl, fun U hU hW => gPre_of hU hW hK hPc hDc⟩ rfl rfl hl.1 rfl (lv_room (Nat.le_of_ble_eq_true rfl)) dL_law_1372 ⟨Nat.le_of_ble_eq_true rfl, Nat.le_of_ble_eq_true rfl⟩) hS (fun q _ h => hFc q h) hFc (fun r_3 u t H locs ht hvm w_4 hB hz1 hk1 hS => ?_)
  obtain ⟨hP1, hK1, hD1⟩ := hB
  rw [ht] at hP1
  have hz9 : gPD G (va_A _ _) [zo6 mo (nI ip) Akd Amo Ast (nI ij) Aro Atp (nI Ntd) Acd Asr (nI Ntx) (nI il) 1 Air Aih Ass Asq Ace Alw Z19 Z20 Z21 Z22 Awo Ahe Z25 Z26 Z27 Ask Ana Akp Z31 Z32 Z33 Z34 Agb Ago Afa Aga Z39 Z40 Avo, zi G Aro 12 ga6, zi G Ast 12 gb6, zi G Air 24 (mKeep ga6 gb6), zi G Aih 3 (mHold (nI ip) (nI ij) (nI il))] H := ⟨hP1, hD1⟩
  have hP1 := hz9.1
  have hD1 := hz9.2
  have w_4 : r_3 = nI ip := w_4
  have hz9 : gPD G A [zo1 rd tt b0 x2 x3 x4 x5 (nI td), zi G b0 160 fb, zo3 tt co en sk wr (nI tx), zr G co 6 fc, zi G c0 160 fcr0, zi G c1 160 fcr1, zi G c2 160 fcr2, zi G c3 160 fcr3, zi G c4 160 fcr4, zi G c5 160 fcr5, zr G en 6 fe, zi G e0 3 (nF fer0), zi G e1 3 (nF fer1), zi G e2 3 (nF fer2), zi G e3 3 (nF fer3), zi G e4 3 (nF fer4), zi G e5 3 (nF fer5), zi G sk 32 fsk, zi G n1 6 fnm, zo0 th tt t1 t2 t3 t4 t5 t6 t7 t8 tj tb tl, zi G t1 6 unm, zi G t2 4 uso, zi G t3 4 umi, zi G t4 4 upa, zi G t5 6 uki, zi G t6 6 umo, zi G t7 6 usz, zi G t8 6 urd, zi G k1 6 gnm, zo2 sh qn qo ql, zr G qn 4 fn, zi G r0 40 fs0, zi G r1 40 fs1, zi G r2 40 fs2, zi G r3 40 fs3, zi G qo 4 fqo, zi G ql 4 (nF fql), zo4 tu tw tr, zr G tw 6 fw, zi G w0 6 fw0, zi G w1 6 fw1, zi G w2 6 fw2, zi G w3 6 fw3, zi G w4 6 fw4, zi G w5 6 fw5, zi G tr 64 ftr, zi G Akd 6 Fkd, zi G Amo 6 Fmo, zi G Atp 160 Ftp, zi G Acd 1200 Fcd, zi G Asr 24 (nF Fsr), zi G Ass 4 Fss, zi G Asq 4 (nF Fsq), zi G Ace 160 Fce, zi G Alw 40 Flw, zi G Awo 96 Fwo, zi G Ahe 200 Fhe, zi G Ask 200 Fsk, zi G Ana 6 Fna, zi G Akp 24 Fkp, zb G Agb 61 Fgb, zb G Ago 61 Fgo, zi G Afa 36 Ffa, zi G Aga 36 Fga, zi G Avo 64 Fvo, zo5 xo tt rd nw th kp sh tu him, zo0 nw tt n1 n2 n3 n4 n5 n6 n7 n8 (nI (m_X5_back_nw9 jg kj him)) (nI (m_X5_back_nw10 pb kb him)) (nI (m_X5_back_nw11 lw kl him)), zi G n2 4 (m_X5_back_n2 him fso gso), zi G n3 4 (m_X5_back_n3 him fmi gmi), zi G n4 4 (m_X5_back_n4 him fpa gpa), zi G n5 6 (m_X5_back_n5 him fki gki), zi G n6 6 (m_X5_back_n6 him fmo gmo), zi G n7 6 (m_X5_back_n7 him fsz gsz), zi G n8 6 (m_X5_back_n8 him frd grd), zo0 kp tt k1 k2 k3 k4 k5 k6 k7 k8 (nI kj) (nI kb) (nI kl), zi G k2 4 gso, zi G k3 4 gmi, zi G k4 4 gpa, zi G k5 6 gki, zi G k6 6 gmo, zi G k7 6 gsz, zi G k8 6 grd, zo6 mo (nI ip) Akd Amo Ast (nI ij) Aro Atp (nI Ntd) Acd Asr (nI Ntx) (nI il) 1 Air Aih Ass Asq Ace Alw Z19 Z20 Z21 Z22 Awo Ahe Z25 Z26 Z27 Ask Ana Akp Z31 Z32 Z33 Z34 Agb Ago Afa Aga Z39 Z40 Avo, zi G Aro 12 ga6, zi G Ast 12 gb6, zi G Air 24 (mKeep ga6 gb6), zi G Aih 3 (mHold (nI ip) (nI ij) (nI il))] H := gJoin hP hD hk1 hFc hP1 hD1 [46, 50, 49, 54, 55] [0, 1, 2, 3, 4, 5, 6, 7, 8, 9, 10, 11, 12, 13, 14, 15, 16, 17, 18, 19, 20, 21, 22, 23, 24, 25, 26, 27, 28, 29, 30, 31, 32, 33, 34, 35, 36, 37, 38, 39, 40, 41, 42, 43, 44, 45, 47, 48, 51, 52, 53, 56, 57, 58, 59, 60, 61, 62, 63, 64, 65, 66, 67, 68, 69, 70, 71, 72, 73, 74, 75, 76, 77, 78, 79, 80, 81, 82, 83, 84, 85, 86] rfl rfl rfl (by decide +kernel) (by decide +kernel)
  have hP := hz9.1
  have hD := hz9.2
  subst w_4
  refine lv_pop hx hb dL_law_1375 rfl ?_
  refine lv_goto (tgt := 1614) hx hb dL_law_1376 (by decide +kernel) ?_
  refine lv_iinc (v := nI (7 * (i7 + 1))) (lv' := [zI 3 (nI (7 * (i7 + 1))), zR 2 mo, zR 1 xo, zR 0 b]) hx hb dL_law_1614 hl (k := 0) rfl (by show nI (7 * i7) + 7 = nI (7 * (i7 + 1)); exact nI_add (7 * i7) 7) (by decide +kernel) rfl (fun ls hl => ?_)
  refine lv_goto (tgt := 18) hx hb dL_law_1617 (by decide +kernel) ?_
  exact K him x2 x3 x4 x5 td fb wr fsk (m_X5_back_nw9 jg kj him) (m_X5_back_nw10 pb kb him) (m_X5_back_nw11 lw kl him) fnm (m_X5_back_n2 him fso gso) (m_X5_back_n3 him fmi gmi) (m_X5_back_n4 him fpa gpa) (m_X5_back_n5 him fki gki) (m_X5_back_n6 him fmo gmo) (m_X5_back_n7 him fsz gsz) (m_X5_back_n8 him frd grd) tj tb tl unm uso umi upa uki umo usz urd kj kb kl gnm gso gmi gpa gki gmo gsz grd fs0 fs1 fs2 fs3 fqo fql fw0 fw1 fw2 fw3 fw4 fw5 ftr ip ij Ntd Ntx il 1 Z19 Z20 Z21 Z22 Z25 Z26 Z27 Z31 Z32 Z33 Z34 Z39 Z40 Fkd Fmo gb6 ga6 Ftp Fcd Fsr (mKeep ga6 gb6) (mHold (nI ip) (nI ij) (nI il)) Fss Fsq Fce Flw Fwo Fhe Fsk Fna Fkp Fgb Fgo Ffa Fga Fvo (fx_back hFX) (fm_back hip hij hil hFM) (rl_back_yes (hkk.imp id (fun z => ⟨z.1, z.2.1⟩)) hip hij hRL) (rq_back_yes (show ¬ him = 0 by rw [hRL.1.2.2.1]; decide) (hkk.resolve_left (show ¬ him = 0 by rw [hRL.1.2.2.1]; decide)).2.1 (by omega) (by have := (hkk.resolve_left (show ¬ him = 0 by rw [hRL.1.2.2.1]; decide)).2.2; omega) hRQ) H _ ls (hP.sub [65, 0, 1, 2, 3, 4, 5, 6, 7, 8, 9, 10, 11, 12, 13, 14, 15, 16, 17, 66, 18, 67, 68, 69, 70, 71, 72, 73, 19, 20, 21, 22, 23, 24, 25, 26, 27, 74, 28, 75, 76, 77, 78, 79, 80, 81, 29, 30, 31, 32, 33, 34, 35, 36, 37, 38, 39, 40, 41, 42, 43, 44, 45, 82, 46, 47, 84, 83, 48, 49, 50, 85, 86, 51, 52, 53, 54, 55, 56, 57, 58, 59, 60, 61, 62, 63, 64] rfl) (hD.sub [65, 0, 1, 2, 3, 4, 5, 6, 7, 8, 9, 10, 11, 12, 13, 14, 15, 16, 17, 66, 18, 67, 68, 69, 70, 71, 72, 73, 19, 20, 21, 22, 23, 24, 25, 26, 27, 74, 28, 75, 76, 77, 78, 79, 80, 81, 29, 30, 31, 32, 33, 34, 35, 36, 37, 38, 39, 40, 41, 42, 43, 44, 45, 82, 46, 47, 84, 83, 48, 49, 50, 85, 86, 51, 52, 53, 54, 55, 56, 57, 58, 59, 60, 61, 62, 63, 64] (by decide +kernel) rfl) hS (lv_sub hl [0, 1, 2, 3] rfl)
set_option maxHeartbeats 4000000 in
set_option maxRecDepth 100000 in
theorem lc_sheet_A {p : Program} {l : Launch} {e : Env} {s : State} {m : MethodId} {below : List Frame} {meth : Method} {c : Code} {b L : Nat} {xs : Nat → Int32} {G : gG} {E : gS} {A : Nat → Prop} (C0 : lw_At p s m meth c b L xs) (hE : gE E A s s.heap) (hK : gK G s) (hAe : A = fun q => s.heap.size ≤ q) {xo tt rd nw th kp sh tu b0 co en sk c0 c1 c2 c3 c4 c5 e0 e1 e2 e3 e4 e5 n1 n2 n3 n4 n5 n6 n7 n8 t1 t2 t3 t4 t5 t6 t7 t8 k1 k2 k3 k4 k5 k6 k7 k8 qn qo ql r0 r1 r2 r3 tw tr w0 w1 w2 w3 w4 w5 mo Akd Amo Ast Aro Atp Acd Asr Air Aih Ass Asq Ace Alw Awo Ahe Ask Ana Akp Agb Ago Afa Aga Avo : Nat} {fc fe fn fw : Nat → Option Nat} {tx : Nat} {fcr0 fcr1 fcr2 fcr3 fcr4 fcr5 : Nat → Int32} {fer0 fer1 fer2 fer3 fer4 fer5 : Nat → Nat} {him x2 x3 x4 x5 : Int32} {td : Nat} {fb : Nat → Int32} {wr : Int32} {fsk : Nat → Int32} {jg pb lw : Nat} {fnm fso fmi fpa fki fmo fsz frd : Nat → Int32} {tj tb tl : Int32} {unm uso umi upa uki umo usz urd : Nat → Int32} {kj kb kl : Nat} {gnm gso gmi gpa gki gmo gsz grd fs0 fs1 fs2 fs3 fqo : Nat → Int32} {fql : Nat → Nat} {fw0 fw1 fw2 fw3 fw4 fw5 ftr : Nat → Int32} {Npb Njg Ntd Ntx Nru : Nat} {Zhi Z19 Z20 Z21 Z22 Z25 Z26 Z27 Z31 Z32 Z33 Z34 Z39 Z40 : Int32} {Fkd Fmo Fst Fro Ftp Fcd : Nat → Int32} {Fsr : Nat → Nat} {Fir Fih Fss : Nat → Int32} {Fsq : Nat → Nat} {Fce Flw Fwo Fhe Fsk Fna Fkp Fgb Fgo Ffa Fga Fvo : Nat → Int32} {sn : Nat} {v2 v3 v4 v5 v6 : Int32} {i7 : Nat} (hi : 7 * i7 + 7 ≤ L) (hL : L ≤ 3584) (hv1 : (nI sn) = xs (7 * i7 + 1)) (hv2 : v2 = xs (7 * i7 + 2)) (hv3 : v3 = xs (7 * i7 + 3)) (hv4 : v4 = xs (7 * i7 + 4)) (hv5 : v5 = xs (7 * i7 + 5)) (hv6 : v6 = xs (7 * i7 + 6)) (hsn : sn < 4) (hrw : fn sn = some r0) (K : LawV p l e s m below meth c b G A xo tt rd nw th kp sh tu b0 co en sk c0 c1 c2 c3 c4 c5 e0 e1 e2 e3 e4 e5 n1 n2 n3 n4 n5 n6 n7 n8 t1 t2 t3 t4 t5 t6 t7 t8 k1 k2 k3 k4 k5 k6 k7 k8 qn qo ql r0 r1 r2 r3 tw tr w0 w1 w2 w3 w4 w5 mo Akd Amo Ast Aro Atp Acd Asr Air Aih Ass Asq Ace Alw Awo Ahe Ask Ana Akp Agb Ago Afa Aga Avo fc fe fn fw tx fcr0 fcr1 fcr2 fcr3 fcr4 fcr5 fer0 fer1 fer2 fer3 fer4 fer5 (i7 + 1)) (hFX : FXP jg pb lw kj kb kl tx td him fql) (hFM : FMP Npb Njg Ntd Ntx Nru Zhi Fcd Fsr Fsq Fir Fih) (hRL : RLP False fn r0 r1 r2 r3 jg pb kj kb him fs0 fs1 fs2 fs3 fqo fql Npb Njg Zhi Fss Fsq Fce Fih) (hRQ : RQP fc c0 c1 c2 c3 c4 c5 fcr0 fcr1 fcr2 fcr3 fcr4 fcr5 fer0 fer1 fer2 fer3 fer4 fer5 pb lw tx td kb kl him fb fso fmi fpa fki fmo fsz frd gso gmi gpa gki gmo gsz grd Nru Ntx Ntd Fkd Fmo Fst Fro Ftp Fcd Fsr Fir Fih Fwo) {H : Heap} {locs : List Loc} (hP : va_P G.1 vwCl (WLd G xo tt rd nw th kp sh tu b0 co en sk c0 c1 c2 c3 c4 c5 e0 e1 e2 e3 e4 e5 n1 n2 n3 n4 n5 n6 n7 n8 t1 t2 t3 t4 t5 t6 t7 t8 k1 k2 k3 k4 k5 k6 k7 k8 qn qo ql r0 r1 r2 r3 tw tr w0 w1 w2 w3 w4 w5 mo Akd Amo Ast Aro Atp Acd Asr Air Aih Ass Asq Ace Alw Awo Ahe Ask Ana Akp Agb Ago Afa Aga Avo fc fe fn fw tx fcr0 fcr1 fcr2 fcr3 fcr4 fcr5 fer0 fer1 fer2 fer3 fer4 fer5 him x2 x3 x4 x5 td fb wr fsk jg pb lw fnm fso fmi fpa fki fmo fsz frd tj tb tl unm uso umi upa uki umo usz urd kj kb kl gnm gso gmi gpa gki gmo gsz grd fs0 fs1 fs2 fs3 fqo fql fw0 fw1 fw2 fw3 fw4 fw5 ftr Npb Njg Ntd Ntx Nru Zhi Z19 Z20 Z21 Z22 Z25 Z26 Z27 Z31 Z32 Z33 Z34 Z39 Z40 Fkd Fmo Fst Fro Ftp Fcd Fsr Fir Fih Fss Fsq Fce Flw Fwo Fhe Fsk Fna Fkp Fgb Fgo Ffa Fga Fvo) H) (hD : va_D A (WLd G xo tt rd nw th kp sh tu b0 co en sk c0 c1 c2 c3 c4 c5 e0 e1 e2 e3 e4 e5 n1 n2 n3 n4 n5 n6 n7 n8 t1 t2 t3 t4 t5 t6 t7 t8 k1 k2 k3 k4 k5 k6 k7 k8 qn qo ql r0 r1 r2 r3 tw tr w0 w1 w2 w3 w4 w5 mo Akd Amo Ast Aro Atp Acd Asr Air Aih Ass Asq Ace Alw Awo Ahe Ask Ana Akp Agb Ago Afa Aga Avo fc fe fn fw tx fcr0 fcr1 fcr2 fcr3 fcr4 fcr5 fer0 fer1 fer2 fer3 fer4 fer5 him x2 x3 x4 x5 td fb wr fsk jg pb lw fnm fso fmi fpa fki fmo fsz frd tj tb tl unm uso umi upa uki umo usz urd kj kb kl gnm gso gmi gpa gki gmo gsz grd fs0 fs1 fs2 fs3 fqo fql fw0 fw1 fw2 fw3 fw4 fw5 ftr Npb Njg Ntd Ntx Nru Zhi Z19 Z20 Z21 Z22 Z25 Z26 Z27 Z31 Z32 Z33 Z34 Z39 Z40 Fkd Fmo Fst Fro Ftp Fcd Fsr Fir Fih Fss Fsq Fce Flw Fwo Fhe Fsk Fna Fkp Fgb Fgo Ffa Fga Fvo)) (hS : va_S A s.heap H locs) {ls : Array Slot} (hl : lv_has ls 4 [zI 3 (nI (7 * i7)), zR 2 mo, zR 1 xo, zR 0 b]) : W p l e room_1 s m #[Value.ref b] below meth c H locs 87 4128 (lw_Z below #[Value.ref b] s) (F0 m 1379 ls []) := by
  obtain ⟨hx, hb, hret, hml, hown, hts0, hX, hbl, hlocks, hgv⟩ := id C0
  have hts : ∀ w ∈ wsL_law, w.before #[Value.ref b] s = true := fun w h => hts0 w (wsL_law_in w h)
  have hown : s.vm.findClass RL = some m.cls := hown
  have hA : ∀ q : Nat, s.heap.size ≤ q → A q := fun q h => by rw [hAe]; exact h
  have hbA : ¬ A b := by rw [hAe]; exact Nat.not_le.mpr hbl
  obtain ⟨⟨hjg, hpb, hlw, htx, htd⟩, hkk, hql⟩ := id hFX
  obtain ⟨⟨hNpb, hNjg, hNru, hNtx, hNtd⟩, hwa, hsq, hIM⟩ := id hFM
  have hz9 : gPD G A [zo5 xo tt rd nw th kp sh tu him, zo1 rd tt b0 x2 x3 x4 x5 (nI td), zi G b0 160 fb, zo3 tt co en sk wr (nI tx), zr G co 6 fc, zi G c0 160 fcr0, zi G c1 160 fcr1, zi G c2 160 fcr2, zi G c3 160 fcr3, zi G c4 160 fcr4, zi G c5 160 fcr5, zr G en 6 fe, zi G e0 3 (nF fer0), zi G e1 3 (nF fer1), zi G e2 3 (nF fer2), zi G e3 3 (nF fer3), zi G e4 3 (nF fer4), zi G e5 3 (nF fer5), zi G sk 32 fsk, zo0 nw tt n1 n2 n3 n4 n5 n6 n7 n8 (nI jg) (nI pb) (nI lw), zi G n1 6 fnm, zi G n2 4 fso, zi G n3 4 fmi, zi G n4 4 fpa, zi G n5 6 fki, zi G n6 6 fmo, zi G n7 6 fsz, zi G n8 6 frd, zo0 th tt t1 t2 t3 t4 t5 t6 t7 t8 tj tb tl, zi G t1 6 unm, zi G t2 4 uso, zi G t3 4 umi, zi G t4 4 upa, zi G t5 6 uki, zi G t6 6 umo, zi G t7 6 usz, zi G t8 6 urd, zo0 kp tt k1 k2 k3 k4 k5 k6 k7 k8 (nI kj) (nI kb) (nI kl), zi G k1 6 gnm, zi G k2 4 gso, zi G k3 4 gmi, zi G k4 4 gpa, zi G k5 6 gki, zi G k6 6 gmo, zi G k7 6 gsz, zi G k8 6 grd, zo2 sh qn qo ql, zr G qn 4 fn, zi G r0 40 fs0, zi G r1 40 fs1, zi G r2 40 fs2, zi G r3 40 fs3, zi G qo 4 fqo, zi G ql 4 (nF fql), zo4 tu tw tr, zr G tw 6 fw, zi G w0 6 fw0, zi G w1 6 fw1, zi G w2 6 fw2, zi G w3 6 fw3, zi G w4 6 fw4, zi G w5 6 fw5, zi G tr 64 ftr, zo6 mo (nI Npb) Akd Amo Ast (nI Njg) Aro Atp (nI Ntd) Acd Asr (nI Ntx) (nI Nru) Zhi Air Aih Ass Asq Ace Alw Z19 Z20 Z21 Z22 Awo Ahe Z25 Z26 Z27 Ask Ana Akp Z31 Z32 Z33 Z34 Agb Ago Afa Aga Z39 Z40 Avo, zi G Akd 6 Fkd, zi G Amo 6 Fmo, zi G Ast 12 Fst, zi G Aro 12 Fro, zi G Atp 160 Ftp, zi G Acd 1200 Fcd, zi G Asr 24 (nF Fsr), zi G Air 24 Fir, zi G Aih 3 Fih, zi G Ass 4 Fss, zi G Asq 4 (nF Fsq), zi G Ace 160 Fce, zi G Alw 40 Flw, zi G Awo 96 Fwo, zi G Ahe 200 Fhe, zi G Ask 200 Fsk, zi G Ana 6 Fna, zi G Akp 24 Fkp, zb G Agb 61 Fgb, zb G Ago 61 Fgo, zi G Afa 36 Ffa, zi G Aga 36 Fga, zi G Avo 64 Fvo] H := ⟨hP, hD⟩
  have hP := hz9.1
  have hD := hz9.2
  have n01 : r0 ≠ r1 := fun z => absurd (hD.1 48 49 _ _ rfl rfl z) (by decide +kernel)
  have n02 : r0 ≠ r2 := fun z => absurd (hD.1 48 50 _ _ rfl rfl z) (by decide +kernel)
  have n03 : r0 ≠ r3 := fun z => absurd (hD.1 48 51 _ _ rfl rfl z) (by decide +kernel)
  refine lv_aload_n hx hb dL_law_1379 rfl (lv_at hl 2 rfl) ?_
  refine lv_aload_n hx hb dL_law_1380 rfl (lv_at hl 3 rfl) ?_
  refine lv_iload_n hx hb dL_law_1381 rfl (lv_at hl 0 rfl) ?_
  refine lv_iconst (v := 1) hx hb dL_law_1382 (by decide +kernel) ?_
  refine lv_iadd hx hb dL_law_1383 ?_
  refine lv_topi (fun v_1 ev_1 => ?_)
  have ev_1 : v_1 = nI ((7 * i7) + 1) := ev_1.trans (nI_add (7 * i7) 1)
  subst ev_1
  refine va_sld hx hb hX hbl hbA hS (i := nI ((7 * i7) + 1)) (vp_in_nI (by omega) (by omega)) dL_law_1384 ?_
  refine lv_topi (fun v_2 ev_2 => ?_)
  have ev_2 : (nI sn) = v_2 := (ev_2.trans (by rw [nI_clamp (by omega)]; exact hv1.symm)).symm
  subst ev_2
  refine lv_aload_n hx hb dL_law_1385 rfl (lv_at hl 3 rfl) ?_
  refine lv_iload_n hx hb dL_law_1386 rfl (lv_at hl 0 rfl) ?_
  refine lv_iconst (v := 2) hx hb dL_law_1387 (by decide +kernel) ?_
  refine lv_iadd hx hb dL_law_1388 ?_
  refine lv_topi (fun v_3 ev_3 => ?_)
  have ev_3 : v_3 = nI ((7 * i7) + 2) := ev_3.trans (nI_add (7 * i7) 2)
  subst ev_3
  refine va_sld hx hb hX hbl hbA hS (i := nI ((7 * i7) + 2)) (vp_in_nI (by omega) (by omega)) dL_law_1389 ?_
  refine lv_topi (fun v_4 ev_4 => ?_)
  have ev_4 : v2 = v_4 := (ev_4.trans (by rw [nI_clamp (by omega)]; exact hv2.symm)).symm
  subst ev_4
  refine lv_aload_n hx hb dL_law_1390 rfl (lv_at hl 3 rfl) ?_
  refine lv_iload_n hx hb dL_law_1391 rfl (lv_at hl 0 rfl) ?_
  refine lv_iconst (v := 3) hx hb dL_law_1392 (by decide +kernel) ?_
  refine lv_iadd hx hb dL_law_1393 ?_
  refine lv_topi (fun v_5 ev_5 => ?_)
  have ev_5 : v_5 = nI ((7 * i7) + 3) := ev_5.trans (nI_add (7 * i7) 3)
  subst ev_5
  refine va_sld hx hb hX hbl hbA hS (i := nI ((7 * i7) + 3)) (vp_in_nI (by omega) (by omega)) dL_law_1394 ?_
  refine lv_topi (fun v_6 ev_6 => ?_)
  have ev_6 : v3 = v_6 := (ev_6.trans (by rw [nI_clamp (by omega)]; exact hv3.symm)).symm
  subst ev_6
  have hz9 : gPD G A [zo5 xo tt rd nw th kp sh tu him, zo2 sh qn qo ql, zr G qn 4 fn, zi G qo 4 fqo, zi G ql 4 (nF fql), zi G r0 40 fs0] H := ⟨hP.sub [0, 46, 47, 52, 53, 48] rfl, hD.sub [0, 46, 47, 52, 53, 48] (by decide +kernel) rfl⟩
  have hPc := hz9.1
  have hDc := hz9.2
  have hFc := gFree hPc hD hS hA [0, 46, 47, 52, 53, 48] rfl
  refine va_calli (va_runV (As := [.int (nI sn), .int v2, .int v3]) (rest := []) ⟨hx, hb, hml, hown, hts⟩ (c_X5_sheet_A l G E xo tt rd nw th kp sh tu qn qo ql r0 him fn fql fqo fs0 sn v2 v3 H.size (by first | exact hsn | assumption | omega) (by first | exact hrw | assumption | omega) (by first | exact hql | assumption | omega)) (cwV 3 hts gL_law_X5_sheet rfl rfl rfl (by decide +kernel) ⟨Nat.le_of_ble_eq_true rfl, Nat.le_of_ble_eq_true rfl⟩) ⟨gPreE_blind, va_recv hK hPc (ci := 5) (q0 := 0) rfl rfl, fun U hU hW => gPreE_of hU hW hK hPc hDc hE hS hFc⟩ rfl rfl hl.1 rfl (lv_room (Nat.le_of_ble_eq_true rfl)) dL_law_1395 ⟨Nat.le_of_ble_eq_true rfl, Nat.le_of_ble_eq_true rfl⟩) hS (fun q _ h => hFc q h) hFc (fun r_7 u t H locs ht hvm w_8 hB hz1 hk1 hS => ?_)
  obtain ⟨hP1, hK1, hD1⟩ := hB
  rw [ht] at hP1
  have hz9 : gPD G (va_A _ _) [zo5 xo tt rd nw th kp sh tu him, zo2 sh qn qo ql, zr G qn 4 fn, zi G qo 4 (m_X5_sheet_A_qo fqo sn v2 v3), zi G ql 4 (nF (m_X5_sheet_A_ql fql sn v2 v3)), zi G r0 40 (m_X5_sheet_A_rr fs0 v2 v3)] H := ⟨hP1, hD1⟩
  have hP1 := hz9.1
  have hD1 := hz9.2
  have w_8 : r_7 = m_X5_sheet_A v2 v3 := w_8
  have hz9 : gPD G A [zo1 rd tt b0 x2 x3 x4 x5 (nI td), zi G b0 160 fb, zo3 tt co en sk wr (nI tx), zr G co 6 fc, zi G c0 160 fcr0, zi G c1 160 fcr1, zi G c2 160 fcr2, zi G c3 160 fcr3, zi G c4 160 fcr4, zi G c5 160 fcr5, zr G en 6 fe, zi G e0 3 (nF fer0), zi G e1 3 (nF fer1), zi G e2 3 (nF fer2), zi G e3 3 (nF fer3), zi G e4 3 (nF fer4), zi G e5 3 (nF fer5), zi G sk 32 fsk, zo0 nw tt n1 n2 n3 n4 n5 n6 n7 n8 (nI jg) (nI pb) (nI lw), zi G n1 6 fnm, zi G n2 4 fso, zi G n3 4 fmi, zi G n4 4 fpa, zi G n5 6 fki, zi G n6 6 fmo, zi G n7 6 fsz, zi G n8 6 frd, zo0 th tt t1 t2 t3 t4 t5 t6 t7 t8 tj tb tl, zi G t1 6 unm, zi G t2 4 uso, zi G t3 4 umi, zi G t4 4 upa, zi G t5 6 uki, zi G t6 6 umo, zi G t7 6 usz, zi G t8 6 urd, zo0 kp tt k1 k2 k3 k4 k5 k6 k7 k8 (nI kj) (nI kb) (nI kl), zi G k1 6 gnm, zi G k2 4 gso, zi G k3 4 gmi, zi G k4 4 gpa, zi G k5 6 gki, zi G k6 6 gmo, zi G k7 6 gsz, zi G k8 6 grd, zi G r1 40 fs1, zi G r2 40 fs2, zi G r3 40 fs3, zo4 tu tw tr, zr G tw 6 fw, zi G w0 6 fw0, zi G w1 6 fw1, zi G w2 6 fw2, zi G w3 6 fw3, zi G w4 6 fw4, zi G w5 6 fw5, zi G tr 64 ftr, zo6 mo (nI Npb) Akd Amo Ast (nI Njg) Aro Atp (nI Ntd) Acd Asr (nI Ntx) (nI Nru) Zhi Air Aih Ass Asq Ace Alw Z19 Z20 Z21 Z22 Awo Ahe Z25 Z26 Z27 Ask Ana Akp Z31 Z32 Z33 Z34 Agb Ago Afa Aga Z39 Z40 Avo, zi G Akd 6 Fkd, zi G Amo 6 Fmo, zi G Ast 12 Fst, zi G Aro 12 Fro, zi G Atp 160 Ftp, zi G Acd 1200 Fcd, zi G Asr 24 (nF Fsr), zi G Air 24 Fir, zi G Aih 3 Fih, zi G Ass 4 Fss, zi G Asq 4 (nF Fsq), zi G Ace 160 Fce, zi G Alw 40 Flw, zi G Awo 96 Fwo, zi G Ahe 200 Fhe, zi G Ask 200 Fsk, zi G Ana 6 Fna, zi G Akp 24 Fkp, zb G Agb 61 Fgb, zb G Ago 61 Fgo, zi G Afa 36 Ffa, zi G Aga 36 Fga, zi G Avo 64 Fvo, zo5 xo tt rd nw th kp sh tu him, zo2 sh qn qo ql, zr G qn 4 fn, zi G qo 4 (m_X5_sheet_A_qo fqo sn v2 v3), zi G ql 4 (nF (m_X5_sheet_A_ql fql sn v2 v3)), zi G r0 40 (m_X5_sheet_A_rr fs0 v2 v3)] H := gJoin hP hD hk1 hFc hP1 hD1 [0, 46, 47, 52, 53, 48] [1, 2, 3, 4, 5, 6, 7, 8, 9, 10, 11, 12, 13, 14, 15, 16, 17, 18, 19, 20, 21, 22, 23, 24, 25, 26, 27, 28, 29, 30, 31, 32, 33, 34, 35, 36, 37, 38, 39, 40, 41, 42, 43, 44, 45, 49, 50, 51, 54, 55, 56, 57, 58, 59, 60, 61, 62, 63, 64, 65, 66, 67, 68, 69, 70, 71, 72, 73, 74, 75, 76, 77, 78, 79, 80, 81, 82, 83, 84, 85, 86] rfl rfl rfl (by decide +kernel) (by decide +kernel)
  have hP := hz9.1
  have hD := hz9.2
  subst w_8
  refine lv_pop hx hb dL_law_1398 rfl ?_
  refine lv_aload_n hx hb dL_law_1399 rfl (lv_at hl 1 rfl) ?_
  refine lv_aload_n hx hb dL_law_1400 rfl (lv_at hl 3 rfl) ?_
  refine lv_iload_n hx hb dL_law_1401 rfl (lv_at hl 0 rfl) ?_
  refine lv_iconst (v := 1) hx hb dL_law_1402 (by decide +kernel) ?_
  refine lv_iadd hx hb dL_law_1403 ?_
  refine lv_topi (fun v_9 ev_9 => ?_)
  have ev_9 : v_9 = nI ((7 * i7) + 1) := ev_9.trans (nI_add (7 * i7) 1)
  subst ev_9
  refine va_sld hx hb hX hbl hbA hS (i := nI ((7 * i7) + 1)) (vp_in_nI (by omega) (by omega)) dL_law_1404 ?_
  refine lv_topi (fun v_10 ev_10 => ?_)
  have ev_10 : (nI sn) = v_10 := (ev_10.trans (by rw [nI_clamp (by omega)]; exact hv1.symm)).symm
  subst ev_10
  refine lv_aload_n hx hb dL_law_1405 rfl (lv_at hl 3 rfl) ?_
  refine lv_iload_n hx hb dL_law_1406 rfl (lv_at hl 0 rfl) ?_
  refine lv_iconst (v := 2) hx hb dL_law_1407 (by decide +kernel) ?_
  refine lv_iadd hx hb dL_law_1408 ?_
  refine lv_topi (fun v_11 ev_11 => ?_)
  have ev_11 : v_11 = nI ((7 * i7) + 2) := ev_11.trans (nI_add (7 * i7) 2)
  subst ev_11
  refine va_sld hx hb hX hbl hbA hS (i := nI ((7 * i7) + 2)) (vp_in_nI (by omega) (by omega)) dL_law_1409 ?_
  refine lv_topi (fun v_12 ev_12 => ?_)
  have ev_12 : v2 = v_12 := (ev_12.trans (by rw [nI_clamp (by omega)]; exact hv2.symm)).symm
  subst ev_12
  refine lv_aload_n hx hb dL_law_1410 rfl (lv_at hl 3 rfl) ?_
  refine lv_iload_n hx hb dL_law_1411 rfl (lv_at hl 0 rfl) ?_
  refine lv_iconst (v := 3) hx hb dL_law_1412 (by decide +kernel) ?_
  refine lv_iadd hx hb dL_law_1413 ?_
  refine lv_topi (fun v_13 ev_13 => ?_)
  have ev_13 : v_13 = nI ((7 * i7) + 3) := ev_13.trans (nI_add (7 * i7) 3)
  subst ev_13
  refine va_sld hx hb hX hbl hbA hS (i := nI ((7 * i7) + 3)) (vp_in_nI (by omega) (by omega)) dL_law_1414 ?_
  refine lv_topi (fun v_14 ev_14 => ?_)
  have ev_14 : v3 = v_14 := (ev_14.trans (by rw [nI_clamp (by omega)]; exact hv3.symm)).symm
  subst ev_14
  have hz9 : gPD G A [zo6 mo (nI Npb) Akd Amo Ast (nI Njg) Aro Atp (nI Ntd) Acd Asr (nI Ntx) (nI Nru) Zhi Air Aih Ass Asq Ace Alw Z19 Z20 Z21 Z22 Awo Ahe Z25 Z26 Z27 Ask Ana Akp Z31 Z32 Z33 Z34 Agb Ago Afa Aga Z39 Z40 Avo, zi G Ass 4 Fss, zi G Asq 4 (nF Fsq), zi G Ace 160 Fce] H := ⟨hP.sub [57, 67, 68, 69] rfl, hD.sub [57, 67, 68, 69] (by decide +kernel) rfl⟩
  have hPc := hz9.1
  have hDc := hz9.2
  have hFc := gFree hPc hD hS hA [57, 67, 68, 69] rfl
  refine va_calli (va_runV (As := [.int (nI sn), .int v2, .int v3]) (rest := []) ⟨hx, hb, hml, hown, hts⟩ (c_X6_sheet l G mo Akd Amo Ast Aro Atp Acd Asr Air Aih Ass Asq Ace Alw Awo Ahe Ask Ana Akp Agb Ago Afa Aga Avo Npb Njg Ntd Ntx Nru Zhi Z19 Z20 Z21 Z22 Z25 Z26 Z27 Z31 Z32 Z33 Z34 Z39 Z40 Fss Fsq Fce (nI sn) v2 v3 H.size (by first | exact hpb | assumption | omega) (by first | exact hjg | assumption | omega) (by first | exact htx | assumption | omega) (by first | exact hru | assumption | omega)) (cwV 3 hts gL_law_X6_sheet rfl rfl rfl (by decide +kernel) ⟨Nat.le_of_ble_eq_true rfl, Nat.le_of_ble_eq_true rfl⟩) ⟨gPre_blind, va_recv hK hPc (ci := 6) (q0 := 0) rfl rfl, fun U hU hW => gPre_of hU hW hK hPc hDc⟩ rfl rfl hl.1 rfl (lv_room (Nat.le_of_ble_eq_true rfl)) dL_law_1415 ⟨Nat.le_of_ble_eq_true rfl, Nat.le_of_ble_eq_true rfl⟩) hS (fun q _ h => hFc q h) hFc (fun r_15 u t H locs ht hvm w_16 hB hz1 hk1 hS => ?_)
  obtain ⟨hP1, hK1, hD1⟩ := hB
  rw [ht] at hP1
  have hz9 : gPD G (va_A _ _) [zo6 mo (nI Npb) Akd Amo Ast (nI Njg) Aro Atp (nI Ntd) Acd Asr (nI Ntx) (nI Nru) Zhi Air Aih Ass Asq Ace Alw Z19 Z20 Z21 Z22 Awo Ahe Z25 Z26 Z27 Ask Ana Akp Z31 Z32 Z33 Z34 Agb Ago Afa Aga Z39 Z40 Avo, zi G Ass 4 (m_X6_sheet_ss Fss (nI sn) v2 v3), zi G Asq 4 (nF (m_X6_sheet_sq Fsq (nI sn) v2 v3)), zi G Ace 160 (m_X6_sheet_ce Fce (nI sn) v2 v3)] H := ⟨hP1, hD1⟩
  have hP1 := hz9.1
  have hD1 := hz9.2
  have w_16 : r_15 = m_X6_sheet (nI sn) v2 v3 := w_16
  have hz9 : gPD G A [zo1 rd tt b0 x2 x3 x4 x5 (nI td), zi G b0 160 fb, zo3 tt co en sk wr (nI tx), zr G co 6 fc, zi G c0 160 fcr0, zi G c1 160 fcr1, zi G c2 160 fcr2, zi G c3 160 fcr3, zi G c4 160 fcr4, zi G c5 160 fcr5, zr G en 6 fe, zi G e0 3 (nF fer0), zi G e1 3 (nF fer1), zi G e2 3 (nF fer2), zi G e3 3 (nF fer3), zi G e4 3 (nF fer4), zi G e5 3 (nF fer5), zi G sk 32 fsk, zo0 nw tt n1 n2 n3 n4 n5 n6 n7 n8 (nI jg) (nI pb) (nI lw), zi G n1 6 fnm, zi G n2 4 fso, zi G n3 4 fmi, zi G n4 4 fpa, zi G n5 6 fki, zi G n6 6 fmo, zi G n7 6 fsz, zi G n8 6 frd, zo0 th tt t1 t2 t3 t4 t5 t6 t7 t8 tj tb tl, zi G t1 6 unm, zi G t2 4 uso, zi G t3 4 umi, zi G t4 4 upa, zi G t5 6 uki, zi G t6 6 umo, zi G t7 6 usz, zi G t8 6 urd, zo0 kp tt k1 k2 k3 k4 k5 k6 k7 k8 (nI kj) (nI kb) (nI kl), zi G k1 6 gnm, zi G k2 4 gso, zi G k3 4 gmi, zi G k4 4 gpa, zi G k5 6 gki, zi G k6 6 gmo, zi G k7 6 gsz, zi G k8 6 grd, zi G r1 40 fs1, zi G r2 40 fs2, zi G r3 40 fs3, zo4 tu tw tr, zr G tw 6 fw, zi G w0 6 fw0, zi G w1 6 fw1, zi G w2 6 fw2, zi G w3 6 fw3, zi G w4 6 fw4, zi G w5 6 fw5, zi G tr 64 ftr, zi G Akd 6 Fkd, zi G Amo 6 Fmo, zi G Ast 12 Fst, zi G Aro 12 Fro, zi G Atp 160 Ftp, zi G Acd 1200 Fcd, zi G Asr 24 (nF Fsr), zi G Air 24 Fir, zi G Aih 3 Fih, zi G Alw 40 Flw, zi G Awo 96 Fwo, zi G Ahe 200 Fhe, zi G Ask 200 Fsk, zi G Ana 6 Fna, zi G Akp 24 Fkp, zb G Agb 61 Fgb, zb G Ago 61 Fgo, zi G Afa 36 Ffa, zi G Aga 36 Fga, zi G Avo 64 Fvo, zo5 xo tt rd nw th kp sh tu him, zo2 sh qn qo ql, zr G qn 4 fn, zi G qo 4 (m_X5_sheet_A_qo fqo sn v2 v3), zi G ql 4 (nF (m_X5_sheet_A_ql fql sn v2 v3)), zi G r0 40 (m_X5_sheet_A_rr fs0 v2 v3), zo6 mo (nI Npb) Akd Amo Ast (nI Njg) Aro Atp (nI Ntd) Acd Asr (nI Ntx) (nI Nru) Zhi Air Aih Ass Asq Ace Alw Z19 Z20 Z21 Z22 Awo Ahe Z25 Z26 Z27 Ask Ana Akp Z31 Z32 Z33 Z34 Agb Ago Afa Aga Z39 Z40 Avo, zi G Ass 4 (m_X6_sheet_ss Fss (nI sn) v2 v3), zi G Asq 4 (nF (m_X6_sheet_sq Fsq (nI sn) v2 v3)), zi G Ace 160 (m_X6_sheet_ce Fce (nI sn) v2 v3)] H := gJoin hP hD hk1 hFc hP1 hD1 [57, 67, 68, 69] [0, 1, 2, 3, 4, 5, 6, 7, 8, 9, 10, 11, 12, 13, 14, 15, 16, 17, 18, 19, 20, 21, 22, 23, 24, 25, 26, 27, 28, 29, 30, 31, 32, 33, 34, 35, 36, 37, 38, 39, 40, 41, 42, 43, 44, 45, 46, 47, 48, 49, 50, 51, 52, 53, 54, 55, 56, 58, 59, 60, 61, 62, 63, 64, 65, 66, 70, 71, 72, 73, 74, 75, 76, 77, 78, 79, 80, 81, 82, 83, 84, 85, 86] rfl rfl rfl (by decide +kernel) (by decide +kernel)
  have hP := hz9.1
  have hD := hz9.2
  subst w_16
  refine lv_pop hx hb dL_law_1418 rfl ?_
  refine lv_goto (tgt := 1614) hx hb dL_law_1419 (by decide +kernel) ?_
  refine lv_iinc (v := nI (7 * (i7 + 1))) (lv' := [zI 3 (nI (7 * (i7 + 1))), zR 2 mo, zR 1 xo, zR 0 b]) hx hb dL_law_1614 hl (k := 0) rfl (by show nI (7 * i7) + 7 = nI (7 * (i7 + 1)); exact nI_add (7 * i7) 7) (by decide +kernel) rfl (fun ls hl => ?_)
  refine lv_goto (tgt := 18) hx hb dL_law_1617 (by decide +kernel) ?_
  exact K him x2 x3 x4 x5 td fb wr fsk jg pb lw fnm fso fmi fpa fki fmo fsz frd tj tb tl unm uso umi upa uki umo usz urd kj kb kl gnm gso gmi gpa gki gmo gsz grd (m_X5_sheet_A_rr fs0 v2 v3) fs1 fs2 fs3 (m_X5_sheet_A_qo fqo sn v2 v3) (m_X5_sheet_A_ql fql sn v2 v3) fw0 fw1 fw2 fw3 fw4 fw5 ftr Npb Njg Ntd Ntx Nru Zhi Z19 Z20 Z21 Z22 Z25 Z26 Z27 Z31 Z32 Z33 Z34 Z39 Z40 Fkd Fmo Fst Fro Ftp Fcd Fsr Fir Fih (m_X6_sheet_ss Fss (nI sn) v2 v3) (m_X6_sheet_sq Fsq (nI sn) v2 v3) (m_X6_sheet_ce Fce (nI sn) v2 v3) Flw Fwo Fhe Fsk Fna Fkp Fgb Fgo Ffa Fga Fvo (fx_sheet hFX) (fm_sheet hFM) (rl_sheet hsn hrw n01 n02 n03 hRL) hRQ H _ ls (hP.sub [77, 0, 1, 2, 3, 4, 5, 6, 7, 8, 9, 10, 11, 12, 13, 14, 15, 16, 17, 18, 19, 20, 21, 22, 23, 24, 25, 26, 27, 28, 29, 30, 31, 32, 33, 34, 35, 36, 37, 38, 39, 40, 41, 42, 43, 44, 78, 79, 82, 45, 46, 47, 80, 81, 48, 49, 50, 51, 52, 53, 54, 55, 56, 83, 57, 58, 59, 60, 61, 62, 63, 64, 65, 84, 85, 86, 66, 67, 68, 69, 70, 71, 72, 73, 74, 75, 76] rfl) (hD.sub [77, 0, 1, 2, 3, 4, 5, 6, 7, 8, 9, 10, 11, 12, 13, 14, 15, 16, 17, 18, 19, 20, 21, 22, 23, 24, 25, 26, 27, 28, 29, 30, 31, 32, 33, 34, 35, 36, 37, 38, 39, 40, 41, 42, 43, 44, 78, 79, 82, 45, 46, 47, 80, 81, 48, 49, 50, 51, 52, 53, 54, 55, 56, 83, 57, 58, 59, 60, 61, 62, 63, 64, 65, 84, 85, 86, 66, 67, 68, 69, 70, 71, 72, 73, 74, 75, 76] (by decide +kernel) rfl) hS (lv_sub hl [0, 1, 2, 3] rfl)
set_option maxHeartbeats 4000000 in
set_option maxRecDepth 100000 in
theorem lc_sheet_B {p : Program} {l : Launch} {e : Env} {s : State} {m : MethodId} {below : List Frame} {meth : Method} {c : Code} {b L : Nat} {xs : Nat → Int32} {G : gG} {E : gS} {A : Nat → Prop} (C0 : lw_At p s m meth c b L xs) (hE : gE E A s s.heap) (hK : gK G s) (hAe : A = fun q => s.heap.size ≤ q) {xo tt rd nw th kp sh tu b0 co en sk c0 c1 c2 c3 c4 c5 e0 e1 e2 e3 e4 e5 n1 n2 n3 n4 n5 n6 n7 n8 t1 t2 t3 t4 t5 t6 t7 t8 k1 k2 k3 k4 k5 k6 k7 k8 qn qo ql r0 r1 r2 r3 tw tr w0 w1 w2 w3 w4 w5 mo Akd Amo Ast Aro Atp Acd Asr Air Aih Ass Asq Ace Alw Awo Ahe Ask Ana Akp Agb Ago Afa Aga Avo : Nat} {fc fe fn fw : Nat → Option Nat} {tx : Nat} {fcr0 fcr1 fcr2 fcr3 fcr4 fcr5 : Nat → Int32} {fer0 fer1 fer2 fer3 fer4 fer5 : Nat → Nat} {him x2 x3 x4 x5 : Int32} {td : Nat} {fb : Nat → Int32} {wr : Int32} {fsk : Nat → Int32} {jg pb lw : Nat} {fnm fso fmi fpa fki fmo fsz frd : Nat → Int32} {tj tb tl : Int32} {unm uso umi upa uki umo usz urd : Nat → Int32} {kj kb kl : Nat} {gnm gso gmi gpa gki gmo gsz grd fs0 fs1 fs2 fs3 fqo : Nat → Int32} {fql : Nat → Nat} {fw0 fw1 fw2 fw3 fw4 fw5 ftr : Nat → Int32} {Npb Njg Ntd Ntx Nru : Nat} {Zhi Z19 Z20 Z21 Z22 Z25 Z26 Z27 Z31 Z32 Z33 Z34 Z39 Z40 : Int32} {Fkd Fmo Fst Fro Ftp Fcd : Nat → Int32} {Fsr : Nat → Nat} {Fir Fih Fss : Nat → Int32} {Fsq : Nat → Nat} {Fce Flw Fwo Fhe Fsk Fna Fkp Fgb Fgo Ffa Fga Fvo : Nat → Int32}  {v1 v2 v3 v4 v5 v6 : Int32} {i7 : Nat} (hi : 7 * i7 + 7 ≤ L) (hL : L ≤ 3584) (hv1 : v1 = xs (7 * i7 + 1)) (hv2 : v2 = xs (7 * i7 + 2)) (hv3 : v3 = xs (7 * i7 + 3)) (hv4 : v4 = xs (7 * i7 + 4)) (hv5 : v5 = xs (7 * i7 + 5)) (hv6 : v6 = xs (7 * i7 + 6)) (hno : ¬ (0 ≤ v1 ∧ v1 ≤ 3)) (K : LawV p l e s m below meth c b G A xo tt rd nw th kp sh tu b0 co en sk c0 c1 c2 c3 c4 c5 e0 e1 e2 e3 e4 e5 n1 n2 n3 n4 n5 n6 n7 n8 t1 t2 t3 t4 t5 t6 t7 t8 k1 k2 k3 k4 k5 k6 k7 k8 qn qo ql r0 r1 r2 r3 tw tr w0 w1 w2 w3 w4 w5 mo Akd Amo Ast Aro Atp Acd Asr Air Aih Ass Asq Ace Alw Awo Ahe Ask Ana Akp Agb Ago Afa Aga Avo fc fe fn fw tx fcr0 fcr1 fcr2 fcr3 fcr4 fcr5 fer0 fer1 fer2 fer3 fer4 fer5 (i7 + 1)) (hFX : FXP jg pb lw kj kb kl tx td him fql) (hFM : FMP Npb Njg Ntd Ntx Nru Zhi Fcd Fsr Fsq Fir Fih) (hRL : RLP False fn r0 r1 r2 r3 jg pb kj kb him fs0 fs1 fs2 fs3 fqo fql Npb Njg Zhi Fss Fsq Fce Fih) (hRQ : RQP fc c0 c1 c2 c3 c4 c5 fcr0 fcr1 fcr2 fcr3 fcr4 fcr5 fer0 fer1 fer2 fer3 fer4 fer5 pb lw tx td kb kl him fb fso fmi fpa fki fmo fsz frd gso gmi gpa gki gmo gsz grd Nru Ntx Ntd Fkd Fmo Fst Fro Ftp Fcd Fsr Fir Fih Fwo) {H : Heap} {locs : List Loc} (hP : va_P G.1 vwCl (WLd G xo tt rd nw th kp sh tu b0 co en sk c0 c1 c2 c3 c4 c5 e0 e1 e2 e3 e4 e5 n1 n2 n3 n4 n5 n6 n7 n8 t1 t2 t3 t4 t5 t6 t7 t8 k1 k2 k3 k4 k5 k6 k7 k8 qn qo ql r0 r1 r2 r3 tw tr w0 w1 w2 w3 w4 w5 mo Akd Amo Ast Aro Atp Acd Asr Air Aih Ass Asq Ace Alw Awo Ahe Ask Ana Akp Agb Ago Afa Aga Avo fc fe fn fw tx fcr0 fcr1 fcr2 fcr3 fcr4 fcr5 fer0 fer1 fer2 fer3 fer4 fer5 him x2 x3 x4 x5 td fb wr fsk jg pb lw fnm fso fmi fpa fki fmo fsz frd tj tb tl unm uso umi upa uki umo usz urd kj kb kl gnm gso gmi gpa gki gmo gsz grd fs0 fs1 fs2 fs3 fqo fql fw0 fw1 fw2 fw3 fw4 fw5 ftr Npb Njg Ntd Ntx Nru Zhi Z19 Z20 Z21 Z22 Z25 Z26 Z27 Z31 Z32 Z33 Z34 Z39 Z40 Fkd Fmo Fst Fro Ftp Fcd Fsr Fir Fih Fss Fsq Fce Flw Fwo Fhe Fsk Fna Fkp Fgb Fgo Ffa Fga Fvo) H) (hD : va_D A (WLd G xo tt rd nw th kp sh tu b0 co en sk c0 c1 c2 c3 c4 c5 e0 e1 e2 e3 e4 e5 n1 n2 n3 n4 n5 n6 n7 n8 t1 t2 t3 t4 t5 t6 t7 t8 k1 k2 k3 k4 k5 k6 k7 k8 qn qo ql r0 r1 r2 r3 tw tr w0 w1 w2 w3 w4 w5 mo Akd Amo Ast Aro Atp Acd Asr Air Aih Ass Asq Ace Alw Awo Ahe Ask Ana Akp Agb Ago Afa Aga Avo fc fe fn fw tx fcr0 fcr1 fcr2 fcr3 fcr4 fcr5 fer0 fer1 fer2 fer3 fer4 fer5 him x2 x3 x4 x5 td fb wr fsk jg pb lw fnm fso fmi fpa fki fmo fsz frd tj tb tl unm uso umi upa uki umo usz urd kj kb kl gnm gso gmi gpa gki gmo gsz grd fs0 fs1 fs2 fs3 fqo fql fw0 fw1 fw2 fw3 fw4 fw5 ftr Npb Njg Ntd Ntx Nru Zhi Z19 Z20 Z21 Z22 Z25 Z26 Z27 Z31 Z32 Z33 Z34 Z39 Z40 Fkd Fmo Fst Fro Ftp Fcd Fsr Fir Fih Fss Fsq Fce Flw Fwo Fhe Fsk Fna Fkp Fgb Fgo Ffa Fga Fvo)) (hS : va_S A s.heap H locs) {ls : Array Slot} (hl : lv_has ls 4 [zI 3 (nI (7 * i7)), zR 2 mo, zR 1 xo, zR 0 b]) : W p l e room_1 s m #[Value.ref b] below meth c H locs 87 4128 (lw_Z below #[Value.ref b] s) (F0 m 1379 ls []) := by
  obtain ⟨hx, hb, hret, hml, hown, hts0, hX, hbl, hlocks, hgv⟩ := id C0
  have hts : ∀ w ∈ wsL_law, w.before #[Value.ref b] s = true := fun w h => hts0 w (wsL_law_in w h)
  have hown : s.vm.findClass RL = some m.cls := hown
  have hA : ∀ q : Nat, s.heap.size ≤ q → A q := fun q h => by rw [hAe]; exact h
  have hbA : ¬ A b := by rw [hAe]; exact Nat.not_le.mpr hbl
  obtain ⟨⟨hjg, hpb, hlw, htx, htd⟩, hkk, hql⟩ := id hFX
  obtain ⟨⟨hNpb, hNjg, hNru, hNtx, hNtd⟩, hwa, hsq, hIM⟩ := id hFM
  have hz9 : gPD G A [zo5 xo tt rd nw th kp sh tu him, zo1 rd tt b0 x2 x3 x4 x5 (nI td), zi G b0 160 fb, zo3 tt co en sk wr (nI tx), zr G co 6 fc, zi G c0 160 fcr0, zi G c1 160 fcr1, zi G c2 160 fcr2, zi G c3 160 fcr3, zi G c4 160 fcr4, zi G c5 160 fcr5, zr G en 6 fe, zi G e0 3 (nF fer0), zi G e1 3 (nF fer1), zi G e2 3 (nF fer2), zi G e3 3 (nF fer3), zi G e4 3 (nF fer4), zi G e5 3 (nF fer5), zi G sk 32 fsk, zo0 nw tt n1 n2 n3 n4 n5 n6 n7 n8 (nI jg) (nI pb) (nI lw), zi G n1 6 fnm, zi G n2 4 fso, zi G n3 4 fmi, zi G n4 4 fpa, zi G n5 6 fki, zi G n6 6 fmo, zi G n7 6 fsz, zi G n8 6 frd, zo0 th tt t1 t2 t3 t4 t5 t6 t7 t8 tj tb tl, zi G t1 6 unm, zi G t2 4 uso, zi G t3 4 umi, zi G t4 4 upa, zi G t5 6 uki, zi G t6 6 umo, zi G t7 6 usz, zi G t8 6 urd, zo0 kp tt k1 k2 k3 k4 k5 k6 k7 k8 (nI kj) (nI kb) (nI kl), zi G k1 6 gnm, zi G k2 4 gso, zi G k3 4 gmi, zi G k4 4 gpa, zi G k5 6 gki, zi G k6 6 gmo, zi G k7 6 gsz, zi G k8 6 grd, zo2 sh qn qo ql, zr G qn 4 fn, zi G r0 40 fs0, zi G r1 40 fs1, zi G r2 40 fs2, zi G r3 40 fs3, zi G qo 4 fqo, zi G ql 4 (nF fql), zo4 tu tw tr, zr G tw 6 fw, zi G w0 6 fw0, zi G w1 6 fw1, zi G w2 6 fw2, zi G w3 6 fw3, zi G w4 6 fw4, zi G w5 6 fw5, zi G tr 64 ftr, zo6 mo (nI Npb) Akd Amo Ast (nI Njg) Aro Atp (nI Ntd) Acd Asr (nI Ntx) (nI Nru) Zhi Air Aih Ass Asq Ace Alw Z19 Z20 Z21 Z22 Awo Ahe Z25 Z26 Z27 Ask Ana Akp Z31 Z32 Z33 Z34 Agb Ago Afa Aga Z39 Z40 Avo, zi G Akd 6 Fkd, zi G Amo 6 Fmo, zi G Ast 12 Fst, zi G Aro 12 Fro, zi G Atp 160 Ftp, zi G Acd 1200 Fcd, zi G Asr 24 (nF Fsr), zi G Air 24 Fir, zi G Aih 3 Fih, zi G Ass 4 Fss, zi G Asq 4 (nF Fsq), zi G Ace 160 Fce, zi G Alw 40 Flw, zi G Awo 96 Fwo, zi G Ahe 200 Fhe, zi G Ask 200 Fsk, zi G Ana 6 Fna, zi G Akp 24 Fkp, zb G Agb 61 Fgb, zb G Ago 61 Fgo, zi G Afa 36 Ffa, zi G Aga 36 Fga, zi G Avo 64 Fvo] H := ⟨hP, hD⟩
  have hP := hz9.1
  have hD := hz9.2
  refine lv_aload_n hx hb dL_law_1379 rfl (lv_at hl 2 rfl) ?_
  refine lv_aload_n hx hb dL_law_1380 rfl (lv_at hl 3 rfl) ?_
  refine lv_iload_n hx hb dL_law_1381 rfl (lv_at hl 0 rfl) ?_
  refine lv_iconst (v := 1) hx hb dL_law_1382 (by decide +kernel) ?_
  refine lv_iadd hx hb dL_law_1383 ?_
  refine lv_topi (fun v_1 ev_1 => ?_)
  have ev_1 : v_1 = nI ((7 * i7) + 1) := ev_1.trans (nI_add (7 * i7) 1)
  subst ev_1
  refine va_sld hx hb hX hbl hbA hS (i := nI ((7 * i7) + 1)) (vp_in_nI (by omega) (by omega)) dL_law_1384 ?_
  refine lv_topi (fun v_2 ev_2 => ?_)
  have ev_2 : v1 = v_2 := (ev_2.trans (by rw [nI_clamp (by omega)]; exact hv1.symm)).symm
  subst ev_2
  refine lv_aload_n hx hb dL_law_1385 rfl (lv_at hl 3 rfl) ?_
  refine lv_iload_n hx hb dL_law_1386 rfl (lv_at hl 0 rfl) ?_
  refine lv_iconst (v := 2) hx hb dL_law_1387 (by decide +kernel) ?_
  refine lv_iadd hx hb dL_law_1388 ?_
  refine lv_topi (fun v_3 ev_3 => ?_)
  have ev_3 : v_3 = nI ((7 * i7) + 2) := ev_3.trans (nI_add (7 * i7) 2)
  subst ev_3
  refine va_sld hx hb hX hbl hbA hS (i := nI ((7 * i7) + 2)) (vp_in_nI (by omega) (by omega)) dL_law_1389 ?_
  refine lv_topi (fun v_4 ev_4 => ?_)
  have ev_4 : v2 = v_4 := (ev_4.trans (by rw [nI_clamp (by omega)]; exact hv2.symm)).symm
  subst ev_4
  refine lv_aload_n hx hb dL_law_1390 rfl (lv_at hl 3 rfl) ?_
  refine lv_iload_n hx hb dL_law_1391 rfl (lv_at hl 0 rfl) ?_
  refine lv_iconst (v := 3) hx hb dL_law_1392 (by decide +kernel) ?_
  refine lv_iadd hx hb dL_law_1393 ?_
  refine lv_topi (fun v_5 ev_5 => ?_)
  have ev_5 : v_5 = nI ((7 * i7) + 3) := ev_5.trans (nI_add (7 * i7) 3)
  subst ev_5
  refine va_sld hx hb hX hbl hbA hS (i := nI ((7 * i7) + 3)) (vp_in_nI (by omega) (by omega)) dL_law_1394 ?_
  refine lv_topi (fun v_6 ev_6 => ?_)
  have ev_6 : v3 = v_6 := (ev_6.trans (by rw [nI_clamp (by omega)]; exact hv3.symm)).symm
  subst ev_6
  have hz9 : gPD G A [zo5 xo tt rd nw th kp sh tu him, zo2 sh qn qo ql] H := ⟨hP.sub [0, 46] rfl, hD.sub [0, 46] (by decide +kernel) rfl⟩
  have hPc := hz9.1
  have hDc := hz9.2
  have hFc := gFree hPc hD hS hA [0, 46] rfl
  refine va_calli (va_runV (As := [.int v1, .int v2, .int v3]) (rest := []) ⟨hx, hb, hml, hown, hts⟩ (c_X5_sheet_B l G E xo tt rd nw th kp sh tu qn qo ql him v1 v2 v3 H.size (by first | exact hno | assumption | omega)) (cwV 3 hts gL_law_X5_sheet rfl rfl rfl (by decide +kernel) ⟨Nat.le_of_ble_eq_true rfl, Nat.le_of_ble_eq_true rfl⟩) ⟨gPreE_blind, va_recv hK hPc (ci := 5) (q0 := 0) rfl rfl, fun U hU hW => gPreE_of hU hW hK hPc hDc hE hS hFc⟩ rfl rfl hl.1 rfl (lv_room (Nat.le_of_ble_eq_true rfl)) dL_law_1395 ⟨Nat.le_of_ble_eq_true rfl, Nat.le_of_ble_eq_true rfl⟩) hS (fun q _ h => hFc q h) hFc (fun r_7 u t H locs ht hvm w_8 hB hz1 hk1 hS => ?_)
  obtain ⟨hP1, hK1, hD1⟩ := hB
  rw [ht] at hP1
  have hz9 : gPD G (va_A _ _) [zo5 xo tt rd nw th kp sh tu him, zo2 sh qn qo ql] H := ⟨hP1, hD1⟩
  have hP1 := hz9.1
  have hD1 := hz9.2
  have w_8 : r_7 = -2 := w_8
  have hz9 : gPD G A [zo1 rd tt b0 x2 x3 x4 x5 (nI td), zi G b0 160 fb, zo3 tt co en sk wr (nI tx), zr G co 6 fc, zi G c0 160 fcr0, zi G c1 160 fcr1, zi G c2 160 fcr2, zi G c3 160 fcr3, zi G c4 160 fcr4, zi G c5 160 fcr5, zr G en 6 fe, zi G e0 3 (nF fer0), zi G e1 3 (nF fer1), zi G e2 3 (nF fer2), zi G e3 3 (nF fer3), zi G e4 3 (nF fer4), zi G e5 3 (nF fer5), zi G sk 32 fsk, zo0 nw tt n1 n2 n3 n4 n5 n6 n7 n8 (nI jg) (nI pb) (nI lw), zi G n1 6 fnm, zi G n2 4 fso, zi G n3 4 fmi, zi G n4 4 fpa, zi G n5 6 fki, zi G n6 6 fmo, zi G n7 6 fsz, zi G n8 6 frd, zo0 th tt t1 t2 t3 t4 t5 t6 t7 t8 tj tb tl, zi G t1 6 unm, zi G t2 4 uso, zi G t3 4 umi, zi G t4 4 upa, zi G t5 6 uki, zi G t6 6 umo, zi G t7 6 usz, zi G t8 6 urd, zo0 kp tt k1 k2 k3 k4 k5 k6 k7 k8 (nI kj) (nI kb) (nI kl), zi G k1 6 gnm, zi G k2 4 gso, zi G k3 4 gmi, zi G k4 4 gpa, zi G k5 6 gki, zi G k6 6 gmo, zi G k7 6 gsz, zi G k8 6 grd, zr G qn 4 fn, zi G r0 40 fs0, zi G r1 40 fs1, zi G r2 40 fs2, zi G r3 40 fs3, zi G qo 4 fqo, zi G ql 4 (nF fql), zo4 tu tw tr, zr G tw 6 fw, zi G w0 6 fw0, zi G w1 6 fw1, zi G w2 6 fw2, zi G w3 6 fw3, zi G w4 6 fw4, zi G w5 6 fw5, zi G tr 64 ftr, zo6 mo (nI Npb) Akd Amo Ast (nI Njg) Aro Atp (nI Ntd) Acd Asr (nI Ntx) (nI Nru) Zhi Air Aih Ass Asq Ace Alw Z19 Z20 Z21 Z22 Awo Ahe Z25 Z26 Z27 Ask Ana Akp Z31 Z32 Z33 Z34 Agb Ago Afa Aga Z39 Z40 Avo, zi G Akd 6 Fkd, zi G Amo 6 Fmo, zi G Ast 12 Fst, zi G Aro 12 Fro, zi G Atp 160 Ftp, zi G Acd 1200 Fcd, zi G Asr 24 (nF Fsr), zi G Air 24 Fir, zi G Aih 3 Fih, zi G Ass 4 Fss, zi G Asq 4 (nF Fsq), zi G Ace 160 Fce, zi G Alw 40 Flw, zi G Awo 96 Fwo, zi G Ahe 200 Fhe, zi G Ask 200 Fsk, zi G Ana 6 Fna, zi G Akp 24 Fkp, zb G Agb 61 Fgb, zb G Ago 61 Fgo, zi G Afa 36 Ffa, zi G Aga 36 Fga, zi G Avo 64 Fvo, zo5 xo tt rd nw th kp sh tu him, zo2 sh qn qo ql] H := gJoin hP hD hk1 hFc hP1 hD1 [0, 46] [1, 2, 3, 4, 5, 6, 7, 8, 9, 10, 11, 12, 13, 14, 15, 16, 17, 18, 19, 20, 21, 22, 23, 24, 25, 26, 27, 28, 29, 30, 31, 32, 33, 34, 35, 36, 37, 38, 39, 40, 41, 42, 43, 44, 45, 47, 48, 49, 50, 51, 52, 53, 54, 55, 56, 57, 58, 59, 60, 61, 62, 63, 64, 65, 66, 67, 68, 69, 70, 71, 72, 73, 74, 75, 76, 77, 78, 79, 80, 81, 82, 83, 84, 85, 86] rfl rfl rfl (by decide +kernel) (by decide +kernel)
  have hP := hz9.1
  have hD := hz9.2
  subst w_8
  refine lv_pop hx hb dL_law_1398 rfl ?_
  refine lv_aload_n hx hb dL_law_1399 rfl (lv_at hl 1 rfl) ?_
  refine lv_aload_n hx hb dL_law_1400 rfl (lv_at hl 3 rfl) ?_
  refine lv_iload_n hx hb dL_law_1401 rfl (lv_at hl 0 rfl) ?_
  refine lv_iconst (v := 1) hx hb dL_law_1402 (by decide +kernel) ?_
  refine lv_iadd hx hb dL_law_1403 ?_
  refine lv_topi (fun v_9 ev_9 => ?_)
  have ev_9 : v_9 = nI ((7 * i7) + 1) := ev_9.trans (nI_add (7 * i7) 1)
  subst ev_9
  refine va_sld hx hb hX hbl hbA hS (i := nI ((7 * i7) + 1)) (vp_in_nI (by omega) (by omega)) dL_law_1404 ?_
  refine lv_topi (fun v_10 ev_10 => ?_)
  have ev_10 : v1 = v_10 := (ev_10.trans (by rw [nI_clamp (by omega)]; exact hv1.symm)).symm
  subst ev_10
  refine lv_aload_n hx hb dL_law_1405 rfl (lv_at hl 3 rfl) ?_
  refine lv_iload_n hx hb dL_law_1406 rfl (lv_at hl 0 rfl) ?_
  refine lv_iconst (v := 2) hx hb dL_law_1407 (by decide +kernel) ?_
  refine lv_iadd hx hb dL_law_1408 ?_
  refine lv_topi (fun v_11 ev_11 => ?_)
  have ev_11 : v_11 = nI ((7 * i7) + 2) := ev_11.trans (nI_add (7 * i7) 2)
  subst ev_11
  refine va_sld hx hb hX hbl hbA hS (i := nI ((7 * i7) + 2)) (vp_in_nI (by omega) (by omega)) dL_law_1409 ?_
  refine lv_topi (fun v_12 ev_12 => ?_)
  have ev_12 : v2 = v_12 := (ev_12.trans (by rw [nI_clamp (by omega)]; exact hv2.symm)).symm
  subst ev_12
  refine lv_aload_n hx hb dL_law_1410 rfl (lv_at hl 3 rfl) ?_
  refine lv_iload_n hx hb dL_law_1411 rfl (lv_at hl 0 rfl) ?_
  refine lv_iconst (v := 3) hx hb dL_law_1412 (by decide +kernel) ?_
  refine lv_iadd hx hb dL_law_1413 ?_
  refine lv_topi (fun v_13 ev_13 => ?_)
  have ev_13 : v_13 = nI ((7 * i7) + 3) := ev_13.trans (nI_add (7 * i7) 3)
  subst ev_13
  refine va_sld hx hb hX hbl hbA hS (i := nI ((7 * i7) + 3)) (vp_in_nI (by omega) (by omega)) dL_law_1414 ?_
  refine lv_topi (fun v_14 ev_14 => ?_)
  have ev_14 : v3 = v_14 := (ev_14.trans (by rw [nI_clamp (by omega)]; exact hv3.symm)).symm
  subst ev_14
  have hz9 : gPD G A [zo6 mo (nI Npb) Akd Amo Ast (nI Njg) Aro Atp (nI Ntd) Acd Asr (nI Ntx) (nI Nru) Zhi Air Aih Ass Asq Ace Alw Z19 Z20 Z21 Z22 Awo Ahe Z25 Z26 Z27 Ask Ana Akp Z31 Z32 Z33 Z34 Agb Ago Afa Aga Z39 Z40 Avo, zi G Ass 4 Fss, zi G Asq 4 (nF Fsq), zi G Ace 160 Fce] H := ⟨hP.sub [61, 71, 72, 73] rfl, hD.sub [61, 71, 72, 73] (by decide +kernel) rfl⟩
  have hPc := hz9.1
  have hDc := hz9.2
  have hFc := gFree hPc hD hS hA [61, 71, 72, 73] rfl
  refine va_calli (va_runV (As := [.int v1, .int v2, .int v3]) (rest := []) ⟨hx, hb, hml, hown, hts⟩ (c_X6_sheet l G mo Akd Amo Ast Aro Atp Acd Asr Air Aih Ass Asq Ace Alw Awo Ahe Ask Ana Akp Agb Ago Afa Aga Avo Npb Njg Ntd Ntx Nru Zhi Z19 Z20 Z21 Z22 Z25 Z26 Z27 Z31 Z32 Z33 Z34 Z39 Z40 Fss Fsq Fce v1 v2 v3 H.size (by first | exact hpb | assumption | omega) (by first | exact hjg | assumption | omega) (by first | exact htx | assumption | omega) (by first | exact hru | assumption | omega)) (cwV 3 hts gL_law_X6_sheet rfl rfl rfl (by decide +kernel) ⟨Nat.le_of_ble_eq_true rfl, Nat.le_of_ble_eq_true rfl⟩) ⟨gPre_blind, va_recv hK hPc (ci := 6) (q0 := 0) rfl rfl, fun U hU hW => gPre_of hU hW hK hPc hDc⟩ rfl rfl hl.1 rfl (lv_room (Nat.le_of_ble_eq_true rfl)) dL_law_1415 ⟨Nat.le_of_ble_eq_true rfl, Nat.le_of_ble_eq_true rfl⟩) hS (fun q _ h => hFc q h) hFc (fun r_15 u t H locs ht hvm w_16 hB hz1 hk1 hS => ?_)
  obtain ⟨hP1, hK1, hD1⟩ := hB
  rw [ht] at hP1
  have hz9 : gPD G (va_A _ _) [zo6 mo (nI Npb) Akd Amo Ast (nI Njg) Aro Atp (nI Ntd) Acd Asr (nI Ntx) (nI Nru) Zhi Air Aih Ass Asq Ace Alw Z19 Z20 Z21 Z22 Awo Ahe Z25 Z26 Z27 Ask Ana Akp Z31 Z32 Z33 Z34 Agb Ago Afa Aga Z39 Z40 Avo, zi G Ass 4 (m_X6_sheet_ss Fss v1 v2 v3), zi G Asq 4 (nF (m_X6_sheet_sq Fsq v1 v2 v3)), zi G Ace 160 (m_X6_sheet_ce Fce v1 v2 v3)] H := ⟨hP1, hD1⟩
  have hP1 := hz9.1
  have hD1 := hz9.2
  have w_16 : r_15 = m_X6_sheet v1 v2 v3 := w_16
  have hz9 : gPD G A [zo1 rd tt b0 x2 x3 x4 x5 (nI td), zi G b0 160 fb, zo3 tt co en sk wr (nI tx), zr G co 6 fc, zi G c0 160 fcr0, zi G c1 160 fcr1, zi G c2 160 fcr2, zi G c3 160 fcr3, zi G c4 160 fcr4, zi G c5 160 fcr5, zr G en 6 fe, zi G e0 3 (nF fer0), zi G e1 3 (nF fer1), zi G e2 3 (nF fer2), zi G e3 3 (nF fer3), zi G e4 3 (nF fer4), zi G e5 3 (nF fer5), zi G sk 32 fsk, zo0 nw tt n1 n2 n3 n4 n5 n6 n7 n8 (nI jg) (nI pb) (nI lw), zi G n1 6 fnm, zi G n2 4 fso, zi G n3 4 fmi, zi G n4 4 fpa, zi G n5 6 fki, zi G n6 6 fmo, zi G n7 6 fsz, zi G n8 6 frd, zo0 th tt t1 t2 t3 t4 t5 t6 t7 t8 tj tb tl, zi G t1 6 unm, zi G t2 4 uso, zi G t3 4 umi, zi G t4 4 upa, zi G t5 6 uki, zi G t6 6 umo, zi G t7 6 usz, zi G t8 6 urd, zo0 kp tt k1 k2 k3 k4 k5 k6 k7 k8 (nI kj) (nI kb) (nI kl), zi G k1 6 gnm, zi G k2 4 gso, zi G k3 4 gmi, zi G k4 4 gpa, zi G k5 6 gki, zi G k6 6 gmo, zi G k7 6 gsz, zi G k8 6 grd, zr G qn 4 fn, zi G r0 40 fs0, zi G r1 40 fs1, zi G r2 40 fs2, zi G r3 40 fs3, zi G qo 4 fqo, zi G ql 4 (nF fql), zo4 tu tw tr, zr G tw 6 fw, zi G w0 6 fw0, zi G w1 6 fw1, zi G w2 6 fw2, zi G w3 6 fw3, zi G w4 6 fw4, zi G w5 6 fw5, zi G tr 64 ftr, zi G Akd 6 Fkd, zi G Amo 6 Fmo, zi G Ast 12 Fst, zi G Aro 12 Fro, zi G Atp 160 Ftp, zi G Acd 1200 Fcd, zi G Asr 24 (nF Fsr), zi G Air 24 Fir, zi G Aih 3 Fih, zi G Alw 40 Flw, zi G Awo 96 Fwo, zi G Ahe 200 Fhe, zi G Ask 200 Fsk, zi G Ana 6 Fna, zi G Akp 24 Fkp, zb G Agb 61 Fgb, zb G Ago 61 Fgo, zi G Afa 36 Ffa, zi G Aga 36 Fga, zi G Avo 64 Fvo, zo5 xo tt rd nw th kp sh tu him, zo2 sh qn qo ql, zo6 mo (nI Npb) Akd Amo Ast (nI Njg) Aro Atp (nI Ntd) Acd Asr (nI Ntx) (nI Nru) Zhi Air Aih Ass Asq Ace Alw Z19 Z20 Z21 Z22 Awo Ahe Z25 Z26 Z27 Ask Ana Akp Z31 Z32 Z33 Z34 Agb Ago Afa Aga Z39 Z40 Avo, zi G Ass 4 (m_X6_sheet_ss Fss v1 v2 v3), zi G Asq 4 (nF (m_X6_sheet_sq Fsq v1 v2 v3)), zi G Ace 160 (m_X6_sheet_ce Fce v1 v2 v3)] H := gJoin hP hD hk1 hFc hP1 hD1 [61, 71, 72, 73] [0, 1, 2, 3, 4, 5, 6, 7, 8, 9, 10, 11, 12, 13, 14, 15, 16, 17, 18, 19, 20, 21, 22, 23, 24, 25, 26, 27, 28, 29, 30, 31, 32, 33, 34, 35, 36, 37, 38, 39, 40, 41, 42, 43, 44, 45, 46, 47, 48, 49, 50, 51, 52, 53, 54, 55, 56, 57, 58, 59, 60, 62, 63, 64, 65, 66, 67, 68, 69, 70, 74, 75, 76, 77, 78, 79, 80, 81, 82, 83, 84, 85, 86] rfl rfl rfl (by decide +kernel) (by decide +kernel)
  have hP := hz9.1
  have hD := hz9.2
  subst w_16
  refine lv_pop hx hb dL_law_1418 rfl ?_
  refine lv_goto (tgt := 1614) hx hb dL_law_1419 (by decide +kernel) ?_
  refine lv_iinc (v := nI (7 * (i7 + 1))) (lv' := [zI 3 (nI (7 * (i7 + 1))), zR 2 mo, zR 1 xo, zR 0 b]) hx hb dL_law_1614 hl (k := 0) rfl (by show nI (7 * i7) + 7 = nI (7 * (i7 + 1)); exact nI_add (7 * i7) 7) (by decide +kernel) rfl (fun ls hl => ?_)
  refine lv_goto (tgt := 18) hx hb dL_law_1617 (by decide +kernel) ?_
  exact K him x2 x3 x4 x5 td fb wr fsk jg pb lw fnm fso fmi fpa fki fmo fsz frd tj tb tl unm uso umi upa uki umo usz urd kj kb kl gnm gso gmi gpa gki gmo gsz grd fs0 fs1 fs2 fs3 fqo fql fw0 fw1 fw2 fw3 fw4 fw5 ftr Npb Njg Ntd Ntx Nru Zhi Z19 Z20 Z21 Z22 Z25 Z26 Z27 Z31 Z32 Z33 Z34 Z39 Z40 Fkd Fmo Fst Fro Ftp Fcd Fsr Fir Fih (m_X6_sheet_ss Fss v1 v2 v3) (m_X6_sheet_sq Fsq v1 v2 v3) (m_X6_sheet_ce Fce v1 v2 v3) Flw Fwo Fhe Fsk Fna Fkp Fgb Fgo Ffa Fga Fvo hFX (fm_sheet hFM) (rl_sheet_B hno hRL) hRQ H _ ls (hP.sub [81, 0, 1, 2, 3, 4, 5, 6, 7, 8, 9, 10, 11, 12, 13, 14, 15, 16, 17, 18, 19, 20, 21, 22, 23, 24, 25, 26, 27, 28, 29, 30, 31, 32, 33, 34, 35, 36, 37, 38, 39, 40, 41, 42, 43, 44, 82, 45, 46, 47, 48, 49, 50, 51, 52, 53, 54, 55, 56, 57, 58, 59, 60, 83, 61, 62, 63, 64, 65, 66, 67, 68, 69, 84, 85, 86, 70, 71, 72, 73, 74, 75, 76, 77, 78, 79, 80] rfl) (hD.sub [81, 0, 1, 2, 3, 4, 5, 6, 7, 8, 9, 10, 11, 12, 13, 14, 15, 16, 17, 18, 19, 20, 21, 22, 23, 24, 25, 26, 27, 28, 29, 30, 31, 32, 33, 34, 35, 36, 37, 38, 39, 40, 41, 42, 43, 44, 82, 45, 46, 47, 48, 49, 50, 51, 52, 53, 54, 55, 56, 57, 58, 59, 60, 83, 61, 62, 63, 64, 65, 66, 67, 68, 69, 84, 85, 86, 70, 71, 72, 73, 74, 75, 76, 77, 78, 79, 80] (by decide +kernel) rfl) hS (lv_sub hl [0, 1, 2, 3] rfl)
set_option maxHeartbeats 4000000 in
set_option maxRecDepth 100000 in
theorem lc_cell_A {p : Program} {l : Launch} {e : Env} {s : State} {m : MethodId} {below : List Frame} {meth : Method} {c : Code} {b L : Nat} {xs : Nat → Int32} {G : gG} {E : gS} {A : Nat → Prop} (C0 : lw_At p s m meth c b L xs) (hE : gE E A s s.heap) (hK : gK G s) (hAe : A = fun q => s.heap.size ≤ q) {xo tt rd nw th kp sh tu b0 co en sk c0 c1 c2 c3 c4 c5 e0 e1 e2 e3 e4 e5 n1 n2 n3 n4 n5 n6 n7 n8 t1 t2 t3 t4 t5 t6 t7 t8 k1 k2 k3 k4 k5 k6 k7 k8 qn qo ql r0 r1 r2 r3 tw tr w0 w1 w2 w3 w4 w5 mo Akd Amo Ast Aro Atp Acd Asr Air Aih Ass Asq Ace Alw Awo Ahe Ask Ana Akp Agb Ago Afa Aga Avo : Nat} {fc fe fn fw : Nat → Option Nat} {tx : Nat} {fcr0 fcr1 fcr2 fcr3 fcr4 fcr5 : Nat → Int32} {fer0 fer1 fer2 fer3 fer4 fer5 : Nat → Nat} {him x2 x3 x4 x5 : Int32} {td : Nat} {fb : Nat → Int32} {wr : Int32} {fsk : Nat → Int32} {jg pb lw : Nat} {fnm fso fmi fpa fki fmo fsz frd : Nat → Int32} {tj tb tl : Int32} {unm uso umi upa uki umo usz urd : Nat → Int32} {kj kb kl : Nat} {gnm gso gmi gpa gki gmo gsz grd fs0 fs1 fs2 fs3 fqo : Nat → Int32} {fql : Nat → Nat} {fw0 fw1 fw2 fw3 fw4 fw5 ftr : Nat → Int32} {Npb Njg Ntd Ntx Nru : Nat} {Zhi Z19 Z20 Z21 Z22 Z25 Z26 Z27 Z31 Z32 Z33 Z34 Z39 Z40 : Int32} {Fkd Fmo Fst Fro Ftp Fcd : Nat → Int32} {Fsr : Nat → Nat} {Fir Fih Fss : Nat → Int32} {Fsq : Nat → Nat} {Fce Flw Fwo Fhe Fsk Fna Fkp Fgb Fgo Ffa Fga Fvo : Nat → Int32} {sn : Nat} {v2 v3 v4 v5 v6 : Int32} {i7 : Nat} (hi : 7 * i7 + 7 ≤ L) (hL : L ≤ 3584) (hv1 : (nI sn) = xs (7 * i7 + 1)) (hv2 : v2 = xs (7 * i7 + 2)) (hv3 : v3 = xs (7 * i7 + 3)) (hv4 : v4 = xs (7 * i7 + 4)) (hv5 : v5 = xs (7 * i7 + 5)) (hv6 : v6 = xs (7 * i7 + 6)) (hsn : sn < 4) (hrw : fn sn = some r0) (K : LawV p l e s m below meth c b G A xo tt rd nw th kp sh tu b0 co en sk c0 c1 c2 c3 c4 c5 e0 e1 e2 e3 e4 e5 n1 n2 n3 n4 n5 n6 n7 n8 t1 t2 t3 t4 t5 t6 t7 t8 k1 k2 k3 k4 k5 k6 k7 k8 qn qo ql r0 r1 r2 r3 tw tr w0 w1 w2 w3 w4 w5 mo Akd Amo Ast Aro Atp Acd Asr Air Aih Ass Asq Ace Alw Awo Ahe Ask Ana Akp Agb Ago Afa Aga Avo fc fe fn fw tx fcr0 fcr1 fcr2 fcr3 fcr4 fcr5 fer0 fer1 fer2 fer3 fer4 fer5 (i7 + 1)) (hFX : FXP jg pb lw kj kb kl tx td him fql) (hFM : FMP Npb Njg Ntd Ntx Nru Zhi Fcd Fsr Fsq Fir Fih) (hRL : RLP False fn r0 r1 r2 r3 jg pb kj kb him fs0 fs1 fs2 fs3 fqo fql Npb Njg Zhi Fss Fsq Fce Fih) (hRQ : RQP fc c0 c1 c2 c3 c4 c5 fcr0 fcr1 fcr2 fcr3 fcr4 fcr5 fer0 fer1 fer2 fer3 fer4 fer5 pb lw tx td kb kl him fb fso fmi fpa fki fmo fsz frd gso gmi gpa gki gmo gsz grd Nru Ntx Ntd Fkd Fmo Fst Fro Ftp Fcd Fsr Fir Fih Fwo) {H : Heap} {locs : List Loc} (hP : va_P G.1 vwCl (WLd G xo tt rd nw th kp sh tu b0 co en sk c0 c1 c2 c3 c4 c5 e0 e1 e2 e3 e4 e5 n1 n2 n3 n4 n5 n6 n7 n8 t1 t2 t3 t4 t5 t6 t7 t8 k1 k2 k3 k4 k5 k6 k7 k8 qn qo ql r0 r1 r2 r3 tw tr w0 w1 w2 w3 w4 w5 mo Akd Amo Ast Aro Atp Acd Asr Air Aih Ass Asq Ace Alw Awo Ahe Ask Ana Akp Agb Ago Afa Aga Avo fc fe fn fw tx fcr0 fcr1 fcr2 fcr3 fcr4 fcr5 fer0 fer1 fer2 fer3 fer4 fer5 him x2 x3 x4 x5 td fb wr fsk jg pb lw fnm fso fmi fpa fki fmo fsz frd tj tb tl unm uso umi upa uki umo usz urd kj kb kl gnm gso gmi gpa gki gmo gsz grd fs0 fs1 fs2 fs3 fqo fql fw0 fw1 fw2 fw3 fw4 fw5 ftr Npb Njg Ntd Ntx Nru Zhi Z19 Z20 Z21 Z22 Z25 Z26 Z27 Z31 Z32 Z33 Z34 Z39 Z40 Fkd Fmo Fst Fro Ftp Fcd Fsr Fir Fih Fss Fsq Fce Flw Fwo Fhe Fsk Fna Fkp Fgb Fgo Ffa Fga Fvo) H) (hD : va_D A (WLd G xo tt rd nw th kp sh tu b0 co en sk c0 c1 c2 c3 c4 c5 e0 e1 e2 e3 e4 e5 n1 n2 n3 n4 n5 n6 n7 n8 t1 t2 t3 t4 t5 t6 t7 t8 k1 k2 k3 k4 k5 k6 k7 k8 qn qo ql r0 r1 r2 r3 tw tr w0 w1 w2 w3 w4 w5 mo Akd Amo Ast Aro Atp Acd Asr Air Aih Ass Asq Ace Alw Awo Ahe Ask Ana Akp Agb Ago Afa Aga Avo fc fe fn fw tx fcr0 fcr1 fcr2 fcr3 fcr4 fcr5 fer0 fer1 fer2 fer3 fer4 fer5 him x2 x3 x4 x5 td fb wr fsk jg pb lw fnm fso fmi fpa fki fmo fsz frd tj tb tl unm uso umi upa uki umo usz urd kj kb kl gnm gso gmi gpa gki gmo gsz grd fs0 fs1 fs2 fs3 fqo fql fw0 fw1 fw2 fw3 fw4 fw5 ftr Npb Njg Ntd Ntx Nru Zhi Z19 Z20 Z21 Z22 Z25 Z26 Z27 Z31 Z32 Z33 Z34 Z39 Z40 Fkd Fmo Fst Fro Ftp Fcd Fsr Fir Fih Fss Fsq Fce Flw Fwo Fhe Fsk Fna Fkp Fgb Fgo Ffa Fga Fvo)) (hS : va_S A s.heap H locs) {ls : Array Slot} (hl : lv_has ls 4 [zI 3 (nI (7 * i7)), zR 2 mo, zR 1 xo, zR 0 b]) : W p l e room_1 s m #[Value.ref b] below meth c H locs 87 4128 (lw_Z below #[Value.ref b] s) (F0 m 1422 ls []) := by
  obtain ⟨hx, hb, hret, hml, hown, hts0, hX, hbl, hlocks, hgv⟩ := id C0
  have hts : ∀ w ∈ wsL_law, w.before #[Value.ref b] s = true := fun w h => hts0 w (wsL_law_in w h)
  have hown : s.vm.findClass RL = some m.cls := hown
  have hA : ∀ q : Nat, s.heap.size ≤ q → A q := fun q h => by rw [hAe]; exact h
  have hbA : ¬ A b := by rw [hAe]; exact Nat.not_le.mpr hbl
  obtain ⟨⟨hjg, hpb, hlw, htx, htd⟩, hkk, hql⟩ := id hFX
  obtain ⟨⟨hNpb, hNjg, hNru, hNtx, hNtd⟩, hwa, hsq, hIM⟩ := id hFM
  have hz9 : gPD G A [zo5 xo tt rd nw th kp sh tu him, zo1 rd tt b0 x2 x3 x4 x5 (nI td), zi G b0 160 fb, zo3 tt co en sk wr (nI tx), zr G co 6 fc, zi G c0 160 fcr0, zi G c1 160 fcr1, zi G c2 160 fcr2, zi G c3 160 fcr3, zi G c4 160 fcr4, zi G c5 160 fcr5, zr G en 6 fe, zi G e0 3 (nF fer0), zi G e1 3 (nF fer1), zi G e2 3 (nF fer2), zi G e3 3 (nF fer3), zi G e4 3 (nF fer4), zi G e5 3 (nF fer5), zi G sk 32 fsk, zo0 nw tt n1 n2 n3 n4 n5 n6 n7 n8 (nI jg) (nI pb) (nI lw), zi G n1 6 fnm, zi G n2 4 fso, zi G n3 4 fmi, zi G n4 4 fpa, zi G n5 6 fki, zi G n6 6 fmo, zi G n7 6 fsz, zi G n8 6 frd, zo0 th tt t1 t2 t3 t4 t5 t6 t7 t8 tj tb tl, zi G t1 6 unm, zi G t2 4 uso, zi G t3 4 umi, zi G t4 4 upa, zi G t5 6 uki, zi G t6 6 umo, zi G t7 6 usz, zi G t8 6 urd, zo0 kp tt k1 k2 k3 k4 k5 k6 k7 k8 (nI kj) (nI kb) (nI kl), zi G k1 6 gnm, zi G k2 4 gso, zi G k3 4 gmi, zi G k4 4 gpa, zi G k5 6 gki, zi G k6 6 gmo, zi G k7 6 gsz, zi G k8 6 grd, zo2 sh qn qo ql, zr G qn 4 fn, zi G r0 40 fs0, zi G r1 40 fs1, zi G r2 40 fs2, zi G r3 40 fs3, zi G qo 4 fqo, zi G ql 4 (nF fql), zo4 tu tw tr, zr G tw 6 fw, zi G w0 6 fw0, zi G w1 6 fw1, zi G w2 6 fw2, zi G w3 6 fw3, zi G w4 6 fw4, zi G w5 6 fw5, zi G tr 64 ftr, zo6 mo (nI Npb) Akd Amo Ast (nI Njg) Aro Atp (nI Ntd) Acd Asr (nI Ntx) (nI Nru) Zhi Air Aih Ass Asq Ace Alw Z19 Z20 Z21 Z22 Awo Ahe Z25 Z26 Z27 Ask Ana Akp Z31 Z32 Z33 Z34 Agb Ago Afa Aga Z39 Z40 Avo, zi G Akd 6 Fkd, zi G Amo 6 Fmo, zi G Ast 12 Fst, zi G Aro 12 Fro, zi G Atp 160 Ftp, zi G Acd 1200 Fcd, zi G Asr 24 (nF Fsr), zi G Air 24 Fir, zi G Aih 3 Fih, zi G Ass 4 Fss, zi G Asq 4 (nF Fsq), zi G Ace 160 Fce, zi G Alw 40 Flw, zi G Awo 96 Fwo, zi G Ahe 200 Fhe, zi G Ask 200 Fsk, zi G Ana 6 Fna, zi G Akp 24 Fkp, zb G Agb 61 Fgb, zb G Ago 61 Fgo, zi G Afa 36 Ffa, zi G Aga 36 Fga, zi G Avo 64 Fvo] H := ⟨hP, hD⟩
  have hP := hz9.1
  have hD := hz9.2
  have n01 : r0 ≠ r1 := fun z => absurd (hD.1 48 49 _ _ rfl rfl z) (by decide +kernel)
  have n02 : r0 ≠ r2 := fun z => absurd (hD.1 48 50 _ _ rfl rfl z) (by decide +kernel)
  have n03 : r0 ≠ r3 := fun z => absurd (hD.1 48 51 _ _ rfl rfl z) (by decide +kernel)
  refine lv_aload_n hx hb dL_law_1422 rfl (lv_at hl 2 rfl) ?_
  refine lv_aload_n hx hb dL_law_1423 rfl (lv_at hl 3 rfl) ?_
  refine lv_iload_n hx hb dL_law_1424 rfl (lv_at hl 0 rfl) ?_
  refine lv_iconst (v := 1) hx hb dL_law_1425 (by decide +kernel) ?_
  refine lv_iadd hx hb dL_law_1426 ?_
  refine lv_topi (fun v_1 ev_1 => ?_)
  have ev_1 : v_1 = nI ((7 * i7) + 1) := ev_1.trans (nI_add (7 * i7) 1)
  subst ev_1
  refine va_sld hx hb hX hbl hbA hS (i := nI ((7 * i7) + 1)) (vp_in_nI (by omega) (by omega)) dL_law_1427 ?_
  refine lv_topi (fun v_2 ev_2 => ?_)
  have ev_2 : (nI sn) = v_2 := (ev_2.trans (by rw [nI_clamp (by omega)]; exact hv1.symm)).symm
  subst ev_2
  refine lv_aload_n hx hb dL_law_1428 rfl (lv_at hl 3 rfl) ?_
  refine lv_iload_n hx hb dL_law_1429 rfl (lv_at hl 0 rfl) ?_
  refine lv_iconst (v := 2) hx hb dL_law_1430 (by decide +kernel) ?_
  refine lv_iadd hx hb dL_law_1431 ?_
  refine lv_topi (fun v_3 ev_3 => ?_)
  have ev_3 : v_3 = nI ((7 * i7) + 2) := ev_3.trans (nI_add (7 * i7) 2)
  subst ev_3
  refine va_sld hx hb hX hbl hbA hS (i := nI ((7 * i7) + 2)) (vp_in_nI (by omega) (by omega)) dL_law_1432 ?_
  refine lv_topi (fun v_4 ev_4 => ?_)
  have ev_4 : v2 = v_4 := (ev_4.trans (by rw [nI_clamp (by omega)]; exact hv2.symm)).symm
  subst ev_4
  refine lv_aload_n hx hb dL_law_1433 rfl (lv_at hl 3 rfl) ?_
  refine lv_iload_n hx hb dL_law_1434 rfl (lv_at hl 0 rfl) ?_
  refine lv_iconst (v := 3) hx hb dL_law_1435 (by decide +kernel) ?_
  refine lv_iadd hx hb dL_law_1436 ?_
  refine lv_topi (fun v_5 ev_5 => ?_)
  have ev_5 : v_5 = nI ((7 * i7) + 3) := ev_5.trans (nI_add (7 * i7) 3)
  subst ev_5
  refine va_sld hx hb hX hbl hbA hS (i := nI ((7 * i7) + 3)) (vp_in_nI (by omega) (by omega)) dL_law_1437 ?_
  refine lv_topi (fun v_6 ev_6 => ?_)
  have ev_6 : v3 = v_6 := (ev_6.trans (by rw [nI_clamp (by omega)]; exact hv3.symm)).symm
  subst ev_6
  have hz9 : gPD G A [zo5 xo tt rd nw th kp sh tu him, zo2 sh qn qo ql, zr G qn 4 fn, zi G qo 4 fqo, zi G ql 4 (nF fql), zi G r0 40 fs0] H := ⟨hP.sub [0, 46, 47, 52, 53, 48] rfl, hD.sub [0, 46, 47, 52, 53, 48] (by decide +kernel) rfl⟩
  have hPc := hz9.1
  have hDc := hz9.2
  have hFc := gFree hPc hD hS hA [0, 46, 47, 52, 53, 48] rfl
  refine va_calli (va_runV (As := [.int (nI sn), .int v2, .int v3]) (rest := []) ⟨hx, hb, hml, hown, hts⟩ (c_X5_cell_A l G E xo tt rd nw th kp sh tu qn qo ql r0 him fn fql fqo fs0 sn v2 v3 H.size (by first | exact hsn | assumption | omega) (by first | exact hrw | assumption | omega) (by first | exact hql | assumption | omega)) (cwV 3 hts gL_law_X5_cell rfl rfl rfl (by decide +kernel) ⟨Nat.le_of_ble_eq_true rfl, Nat.le_of_ble_eq_true rfl⟩) ⟨gPreE_blind, va_recv hK hPc (ci := 5) (q0 := 0) rfl rfl, fun U hU hW => gPreE_of hU hW hK hPc hDc hE hS hFc⟩ rfl rfl hl.1 rfl (lv_room (Nat.le_of_ble_eq_true rfl)) dL_law_1438 ⟨Nat.le_of_ble_eq_true rfl, Nat.le_of_ble_eq_true rfl⟩) hS (fun q _ h => hFc q h) hFc (fun r_7 u t H locs ht hvm w_8 hB hz1 hk1 hS => ?_)
  obtain ⟨hP1, hK1, hD1⟩ := hB
  rw [ht] at hP1
  have hz9 : gPD G (va_A _ _) [zo5 xo tt rd nw th kp sh tu him, zo2 sh qn qo ql, zr G qn 4 fn, zi G qo 4 fqo, zi G ql 4 (nF fql), zi G r0 40 (m_X5_cell_A_rr fql fqo fs0 sn v2 v3)] H := ⟨hP1, hD1⟩
  have hP1 := hz9.1
  have hD1 := hz9.2
  have w_8 : r_7 = m_X5_cell_A fql fqo sn v2 := w_8
  have hz9 : gPD G A [zo1 rd tt b0 x2 x3 x4 x5 (nI td), zi G b0 160 fb, zo3 tt co en sk wr (nI tx), zr G co 6 fc, zi G c0 160 fcr0, zi G c1 160 fcr1, zi G c2 160 fcr2, zi G c3 160 fcr3, zi G c4 160 fcr4, zi G c5 160 fcr5, zr G en 6 fe, zi G e0 3 (nF fer0), zi G e1 3 (nF fer1), zi G e2 3 (nF fer2), zi G e3 3 (nF fer3), zi G e4 3 (nF fer4), zi G e5 3 (nF fer5), zi G sk 32 fsk, zo0 nw tt n1 n2 n3 n4 n5 n6 n7 n8 (nI jg) (nI pb) (nI lw), zi G n1 6 fnm, zi G n2 4 fso, zi G n3 4 fmi, zi G n4 4 fpa, zi G n5 6 fki, zi G n6 6 fmo, zi G n7 6 fsz, zi G n8 6 frd, zo0 th tt t1 t2 t3 t4 t5 t6 t7 t8 tj tb tl, zi G t1 6 unm, zi G t2 4 uso, zi G t3 4 umi, zi G t4 4 upa, zi G t5 6 uki, zi G t6 6 umo, zi G t7 6 usz, zi G t8 6 urd, zo0 kp tt k1 k2 k3 k4 k5 k6 k7 k8 (nI kj) (nI kb) (nI kl), zi G k1 6 gnm, zi G k2 4 gso, zi G k3 4 gmi, zi G k4 4 gpa, zi G k5 6 gki, zi G k6 6 gmo, zi G k7 6 gsz, zi G k8 6 grd, zi G r1 40 fs1, zi G r2 40 fs2, zi G r3 40 fs3, zo4 tu tw tr, zr G tw 6 fw, zi G w0 6 fw0, zi G w1 6 fw1, zi G w2 6 fw2, zi G w3 6 fw3, zi G w4 6 fw4, zi G w5 6 fw5, zi G tr 64 ftr, zo6 mo (nI Npb) Akd Amo Ast (nI Njg) Aro Atp (nI Ntd) Acd Asr (nI Ntx) (nI Nru) Zhi Air Aih Ass Asq Ace Alw Z19 Z20 Z21 Z22 Awo Ahe Z25 Z26 Z27 Ask Ana Akp Z31 Z32 Z33 Z34 Agb Ago Afa Aga Z39 Z40 Avo, zi G Akd 6 Fkd, zi G Amo 6 Fmo, zi G Ast 12 Fst, zi G Aro 12 Fro, zi G Atp 160 Ftp, zi G Acd 1200 Fcd, zi G Asr 24 (nF Fsr), zi G Air 24 Fir, zi G Aih 3 Fih, zi G Ass 4 Fss, zi G Asq 4 (nF Fsq), zi G Ace 160 Fce, zi G Alw 40 Flw, zi G Awo 96 Fwo, zi G Ahe 200 Fhe, zi G Ask 200 Fsk, zi G Ana 6 Fna, zi G Akp 24 Fkp, zb G Agb 61 Fgb, zb G Ago 61 Fgo, zi G Afa 36 Ffa, zi G Aga 36 Fga, zi G Avo 64 Fvo, zo5 xo tt rd nw th kp sh tu him, zo2 sh qn qo ql, zr G qn 4 fn, zi G qo 4 fqo, zi G ql 4 (nF fql), zi G r0 40 (m_X5_cell_A_rr fql fqo fs0 sn v2 v3)] H := gJoin hP hD hk1 hFc hP1 hD1 [0, 46, 47, 52, 53, 48] [1, 2, 3, 4, 5, 6, 7, 8, 9, 10, 11, 12, 13, 14, 15, 16, 17, 18, 19, 20, 21, 22, 23, 24, 25, 26, 27, 28, 29, 30, 31, 32, 33, 34, 35, 36, 37, 38, 39, 40, 41, 42, 43, 44, 45, 49, 50, 51, 54, 55, 56, 57, 58, 59, 60, 61, 62, 63, 64, 65, 66, 67, 68, 69, 70, 71, 72, 73, 74, 75, 76, 77, 78, 79, 80, 81, 82, 83, 84, 85, 86] rfl rfl rfl (by decide +kernel) (by decide +kernel)
  have hP := hz9.1
  have hD := hz9.2
  subst w_8
  refine lv_pop hx hb dL_law_1441 rfl ?_
  refine lv_aload_n hx hb dL_law_1442 rfl (lv_at hl 1 rfl) ?_
  refine lv_aload_n hx hb dL_law_1443 rfl (lv_at hl 3 rfl) ?_
  refine lv_iload_n hx hb dL_law_1444 rfl (lv_at hl 0 rfl) ?_
  refine lv_iconst (v := 1) hx hb dL_law_1445 (by decide +kernel) ?_
  refine lv_iadd hx hb dL_law_1446 ?_
  refine lv_topi (fun v_9 ev_9 => ?_)
  have ev_9 : v_9 = nI ((7 * i7) + 1) := ev_9.trans (nI_add (7 * i7) 1)
  subst ev_9
  refine va_sld hx hb hX hbl hbA hS (i := nI ((7 * i7) + 1)) (vp_in_nI (by omega) (by omega)) dL_law_1447 ?_
  refine lv_topi (fun v_10 ev_10 => ?_)
  have ev_10 : (nI sn) = v_10 := (ev_10.trans (by rw [nI_clamp (by omega)]; exact hv1.symm)).symm
  subst ev_10
  refine lv_aload_n hx hb dL_law_1448 rfl (lv_at hl 3 rfl) ?_
  refine lv_iload_n hx hb dL_law_1449 rfl (lv_at hl 0 rfl) ?_
  refine lv_iconst (v := 2) hx hb dL_law_1450 (by decide +kernel) ?_
  refine lv_iadd hx hb dL_law_1451 ?_
  refine lv_topi (fun v_11 ev_11 => ?_)
  have ev_11 : v_11 = nI ((7 * i7) + 2) := ev_11.trans (nI_add (7 * i7) 2)
  subst ev_11
  refine va_sld hx hb hX hbl hbA hS (i := nI ((7 * i7) + 2)) (vp_in_nI (by omega) (by omega)) dL_law_1452 ?_
  refine lv_topi (fun v_12 ev_12 => ?_)
  have ev_12 : v2 = v_12 := (ev_12.trans (by rw [nI_clamp (by omega)]; exact hv2.symm)).symm
  subst ev_12
  refine lv_aload_n hx hb dL_law_1453 rfl (lv_at hl 3 rfl) ?_
  refine lv_iload_n hx hb dL_law_1454 rfl (lv_at hl 0 rfl) ?_
  refine lv_iconst (v := 3) hx hb dL_law_1455 (by decide +kernel) ?_
  refine lv_iadd hx hb dL_law_1456 ?_
  refine lv_topi (fun v_13 ev_13 => ?_)
  have ev_13 : v_13 = nI ((7 * i7) + 3) := ev_13.trans (nI_add (7 * i7) 3)
  subst ev_13
  refine va_sld hx hb hX hbl hbA hS (i := nI ((7 * i7) + 3)) (vp_in_nI (by omega) (by omega)) dL_law_1457 ?_
  refine lv_topi (fun v_14 ev_14 => ?_)
  have ev_14 : v3 = v_14 := (ev_14.trans (by rw [nI_clamp (by omega)]; exact hv3.symm)).symm
  subst ev_14
  have hz9 : gPD G A [zo6 mo (nI Npb) Akd Amo Ast (nI Njg) Aro Atp (nI Ntd) Acd Asr (nI Ntx) (nI Nru) Zhi Air Aih Ass Asq Ace Alw Z19 Z20 Z21 Z22 Awo Ahe Z25 Z26 Z27 Ask Ana Akp Z31 Z32 Z33 Z34 Agb Ago Afa Aga Z39 Z40 Avo, zi G Ass 4 Fss, zi G Asq 4 (nF Fsq), zi G Ace 160 Fce] H := ⟨hP.sub [57, 67, 68, 69] rfl, hD.sub [57, 67, 68, 69] (by decide +kernel) rfl⟩
  have hPc := hz9.1
  have hDc := hz9.2
  have hFc := gFree hPc hD hS hA [57, 67, 68, 69] rfl
  refine va_calli (va_runV (As := [.int (nI sn), .int v2, .int v3]) (rest := []) ⟨hx, hb, hml, hown, hts⟩ (c_X6_cell l G mo Akd Amo Ast Aro Atp Acd Asr Air Aih Ass Asq Ace Alw Awo Ahe Ask Ana Akp Agb Ago Afa Aga Avo Npb Njg Ntd Ntx Nru Zhi Z19 Z20 Z21 Z22 Z25 Z26 Z27 Z31 Z32 Z33 Z34 Z39 Z40 Fss Fsq Fce (nI sn) v2 v3 H.size (by first | exact hsq | assumption | omega) (by first | exact hpb | assumption | omega) (by first | exact hjg | assumption | omega) (by first | exact htx | assumption | omega) (by first | exact hru | assumption | omega)) (cwV 3 hts gL_law_X6_cell rfl rfl rfl (by decide +kernel) ⟨Nat.le_of_ble_eq_true rfl, Nat.le_of_ble_eq_true rfl⟩) ⟨gPre_blind, va_recv hK hPc (ci := 6) (q0 := 0) rfl rfl, fun U hU hW => gPre_of hU hW hK hPc hDc⟩ rfl rfl hl.1 rfl (lv_room (Nat.le_of_ble_eq_true rfl)) dL_law_1458 ⟨Nat.le_of_ble_eq_true rfl, Nat.le_of_ble_eq_true rfl⟩) hS (fun q _ h => hFc q h) hFc (fun r_15 u t H locs ht hvm w_16 hB hz1 hk1 hS => ?_)
  obtain ⟨hP1, hK1, hD1⟩ := hB
  rw [ht] at hP1
  have hz9 : gPD G (va_A _ _) [zo6 mo (nI Npb) Akd Amo Ast (nI Njg) Aro Atp (nI Ntd) Acd Asr (nI Ntx) (nI Nru) Zhi Air Aih Ass Asq Ace Alw Z19 Z20 Z21 Z22 Awo Ahe Z25 Z26 Z27 Ask Ana Akp Z31 Z32 Z33 Z34 Agb Ago Afa Aga Z39 Z40 Avo, zi G Ass 4 Fss, zi G Asq 4 (nF Fsq), zi G Ace 160 (m_X6_cell_ce Fss Fsq Fce (nI sn) v2 v3)] H := ⟨hP1, hD1⟩
  have hP1 := hz9.1
  have hD1 := hz9.2
  have w_16 : r_15 = m_X6_cell Fss Fsq (nI sn) v2 := w_16
  have hz9 : gPD G A [zo1 rd tt b0 x2 x3 x4 x5 (nI td), zi G b0 160 fb, zo3 tt co en sk wr (nI tx), zr G co 6 fc, zi G c0 160 fcr0, zi G c1 160 fcr1, zi G c2 160 fcr2, zi G c3 160 fcr3, zi G c4 160 fcr4, zi G c5 160 fcr5, zr G en 6 fe, zi G e0 3 (nF fer0), zi G e1 3 (nF fer1), zi G e2 3 (nF fer2), zi G e3 3 (nF fer3), zi G e4 3 (nF fer4), zi G e5 3 (nF fer5), zi G sk 32 fsk, zo0 nw tt n1 n2 n3 n4 n5 n6 n7 n8 (nI jg) (nI pb) (nI lw), zi G n1 6 fnm, zi G n2 4 fso, zi G n3 4 fmi, zi G n4 4 fpa, zi G n5 6 fki, zi G n6 6 fmo, zi G n7 6 fsz, zi G n8 6 frd, zo0 th tt t1 t2 t3 t4 t5 t6 t7 t8 tj tb tl, zi G t1 6 unm, zi G t2 4 uso, zi G t3 4 umi, zi G t4 4 upa, zi G t5 6 uki, zi G t6 6 umo, zi G t7 6 usz, zi G t8 6 urd, zo0 kp tt k1 k2 k3 k4 k5 k6 k7 k8 (nI kj) (nI kb) (nI kl), zi G k1 6 gnm, zi G k2 4 gso, zi G k3 4 gmi, zi G k4 4 gpa, zi G k5 6 gki, zi G k6 6 gmo, zi G k7 6 gsz, zi G k8 6 grd, zi G r1 40 fs1, zi G r2 40 fs2, zi G r3 40 fs3, zo4 tu tw tr, zr G tw 6 fw, zi G w0 6 fw0, zi G w1 6 fw1, zi G w2 6 fw2, zi G w3 6 fw3, zi G w4 6 fw4, zi G w5 6 fw5, zi G tr 64 ftr, zi G Akd 6 Fkd, zi G Amo 6 Fmo, zi G Ast 12 Fst, zi G Aro 12 Fro, zi G Atp 160 Ftp, zi G Acd 1200 Fcd, zi G Asr 24 (nF Fsr), zi G Air 24 Fir, zi G Aih 3 Fih, zi G Alw 40 Flw, zi G Awo 96 Fwo, zi G Ahe 200 Fhe, zi G Ask 200 Fsk, zi G Ana 6 Fna, zi G Akp 24 Fkp, zb G Agb 61 Fgb, zb G Ago 61 Fgo, zi G Afa 36 Ffa, zi G Aga 36 Fga, zi G Avo 64 Fvo, zo5 xo tt rd nw th kp sh tu him, zo2 sh qn qo ql, zr G qn 4 fn, zi G qo 4 fqo, zi G ql 4 (nF fql), zi G r0 40 (m_X5_cell_A_rr fql fqo fs0 sn v2 v3), zo6 mo (nI Npb) Akd Amo Ast (nI Njg) Aro Atp (nI Ntd) Acd Asr (nI Ntx) (nI Nru) Zhi Air Aih Ass Asq Ace Alw Z19 Z20 Z21 Z22 Awo Ahe Z25 Z26 Z27 Ask Ana Akp Z31 Z32 Z33 Z34 Agb Ago Afa Aga Z39 Z40 Avo, zi G Ass 4 Fss, zi G Asq 4 (nF Fsq), zi G Ace 160 (m_X6_cell_ce Fss Fsq Fce (nI sn) v2 v3)] H := gJoin hP hD hk1 hFc hP1 hD1 [57, 67, 68, 69] [0, 1, 2, 3, 4, 5, 6, 7, 8, 9, 10, 11, 12, 13, 14, 15, 16, 17, 18, 19, 20, 21, 22, 23, 24, 25, 26, 27, 28, 29, 30, 31, 32, 33, 34, 35, 36, 37, 38, 39, 40, 41, 42, 43, 44, 45, 46, 47, 48, 49, 50, 51, 52, 53, 54, 55, 56, 58, 59, 60, 61, 62, 63, 64, 65, 66, 70, 71, 72, 73, 74, 75, 76, 77, 78, 79, 80, 81, 82, 83, 84, 85, 86] rfl rfl rfl (by decide +kernel) (by decide +kernel)
  have hP := hz9.1
  have hD := hz9.2
  subst w_16
  refine lv_pop hx hb dL_law_1461 rfl ?_
  refine lv_goto (tgt := 1614) hx hb dL_law_1462 (by decide +kernel) ?_
  refine lv_iinc (v := nI (7 * (i7 + 1))) (lv' := [zI 3 (nI (7 * (i7 + 1))), zR 2 mo, zR 1 xo, zR 0 b]) hx hb dL_law_1614 hl (k := 0) rfl (by show nI (7 * i7) + 7 = nI (7 * (i7 + 1)); exact nI_add (7 * i7) 7) (by decide +kernel) rfl (fun ls hl => ?_)
  refine lv_goto (tgt := 18) hx hb dL_law_1617 (by decide +kernel) ?_
  exact K him x2 x3 x4 x5 td fb wr fsk jg pb lw fnm fso fmi fpa fki fmo fsz frd tj tb tl unm uso umi upa uki umo usz urd kj kb kl gnm gso gmi gpa gki gmo gsz grd (m_X5_cell_A_rr fql fqo fs0 sn v2 v3) fs1 fs2 fs3 fqo fql fw0 fw1 fw2 fw3 fw4 fw5 ftr Npb Njg Ntd Ntx Nru Zhi Z19 Z20 Z21 Z22 Z25 Z26 Z27 Z31 Z32 Z33 Z34 Z39 Z40 Fkd Fmo Fst Fro Ftp Fcd Fsr Fir Fih Fss Fsq (m_X6_cell_ce Fss Fsq Fce (nI sn) v2 v3) Flw Fwo Fhe Fsk Fna Fkp Fgb Fgo Ffa Fga Fvo hFX hFM (rl_cell hsn hrw n01 n02 n03 hql hRL) hRQ H _ ls (hP.sub [77, 0, 1, 2, 3, 4, 5, 6, 7, 8, 9, 10, 11, 12, 13, 14, 15, 16, 17, 18, 19, 20, 21, 22, 23, 24, 25, 26, 27, 28, 29, 30, 31, 32, 33, 34, 35, 36, 37, 38, 39, 40, 41, 42, 43, 44, 78, 79, 82, 45, 46, 47, 80, 81, 48, 49, 50, 51, 52, 53, 54, 55, 56, 83, 57, 58, 59, 60, 61, 62, 63, 64, 65, 84, 85, 86, 66, 67, 68, 69, 70, 71, 72, 73, 74, 75, 76] rfl) (hD.sub [77, 0, 1, 2, 3, 4, 5, 6, 7, 8, 9, 10, 11, 12, 13, 14, 15, 16, 17, 18, 19, 20, 21, 22, 23, 24, 25, 26, 27, 28, 29, 30, 31, 32, 33, 34, 35, 36, 37, 38, 39, 40, 41, 42, 43, 44, 78, 79, 82, 45, 46, 47, 80, 81, 48, 49, 50, 51, 52, 53, 54, 55, 56, 83, 57, 58, 59, 60, 61, 62, 63, 64, 65, 84, 85, 86, 66, 67, 68, 69, 70, 71, 72, 73, 74, 75, 76] (by decide +kernel) rfl) hS (lv_sub hl [0, 1, 2, 3] rfl)
set_option maxHeartbeats 4000000 in
set_option maxRecDepth 100000 in
theorem lc_cell_B {p : Program} {l : Launch} {e : Env} {s : State} {m : MethodId} {below : List Frame} {meth : Method} {c : Code} {b L : Nat} {xs : Nat → Int32} {G : gG} {E : gS} {A : Nat → Prop} (C0 : lw_At p s m meth c b L xs) (hE : gE E A s s.heap) (hK : gK G s) (hAe : A = fun q => s.heap.size ≤ q) {xo tt rd nw th kp sh tu b0 co en sk c0 c1 c2 c3 c4 c5 e0 e1 e2 e3 e4 e5 n1 n2 n3 n4 n5 n6 n7 n8 t1 t2 t3 t4 t5 t6 t7 t8 k1 k2 k3 k4 k5 k6 k7 k8 qn qo ql r0 r1 r2 r3 tw tr w0 w1 w2 w3 w4 w5 mo Akd Amo Ast Aro Atp Acd Asr Air Aih Ass Asq Ace Alw Awo Ahe Ask Ana Akp Agb Ago Afa Aga Avo : Nat} {fc fe fn fw : Nat → Option Nat} {tx : Nat} {fcr0 fcr1 fcr2 fcr3 fcr4 fcr5 : Nat → Int32} {fer0 fer1 fer2 fer3 fer4 fer5 : Nat → Nat} {him x2 x3 x4 x5 : Int32} {td : Nat} {fb : Nat → Int32} {wr : Int32} {fsk : Nat → Int32} {jg pb lw : Nat} {fnm fso fmi fpa fki fmo fsz frd : Nat → Int32} {tj tb tl : Int32} {unm uso umi upa uki umo usz urd : Nat → Int32} {kj kb kl : Nat} {gnm gso gmi gpa gki gmo gsz grd fs0 fs1 fs2 fs3 fqo : Nat → Int32} {fql : Nat → Nat} {fw0 fw1 fw2 fw3 fw4 fw5 ftr : Nat → Int32} {Npb Njg Ntd Ntx Nru : Nat} {Zhi Z19 Z20 Z21 Z22 Z25 Z26 Z27 Z31 Z32 Z33 Z34 Z39 Z40 : Int32} {Fkd Fmo Fst Fro Ftp Fcd : Nat → Int32} {Fsr : Nat → Nat} {Fir Fih Fss : Nat → Int32} {Fsq : Nat → Nat} {Fce Flw Fwo Fhe Fsk Fna Fkp Fgb Fgo Ffa Fga Fvo : Nat → Int32}  {v1 v2 v3 v4 v5 v6 : Int32} {i7 : Nat} (hi : 7 * i7 + 7 ≤ L) (hL : L ≤ 3584) (hv1 : v1 = xs (7 * i7 + 1)) (hv2 : v2 = xs (7 * i7 + 2)) (hv3 : v3 = xs (7 * i7 + 3)) (hv4 : v4 = xs (7 * i7 + 4)) (hv5 : v5 = xs (7 * i7 + 5)) (hv6 : v6 = xs (7 * i7 + 6)) (hno : ¬ (0 ≤ v1 ∧ v1 ≤ 3)) (K : LawV p l e s m below meth c b G A xo tt rd nw th kp sh tu b0 co en sk c0 c1 c2 c3 c4 c5 e0 e1 e2 e3 e4 e5 n1 n2 n3 n4 n5 n6 n7 n8 t1 t2 t3 t4 t5 t6 t7 t8 k1 k2 k3 k4 k5 k6 k7 k8 qn qo ql r0 r1 r2 r3 tw tr w0 w1 w2 w3 w4 w5 mo Akd Amo Ast Aro Atp Acd Asr Air Aih Ass Asq Ace Alw Awo Ahe Ask Ana Akp Agb Ago Afa Aga Avo fc fe fn fw tx fcr0 fcr1 fcr2 fcr3 fcr4 fcr5 fer0 fer1 fer2 fer3 fer4 fer5 (i7 + 1)) (hFX : FXP jg pb lw kj kb kl tx td him fql) (hFM : FMP Npb Njg Ntd Ntx Nru Zhi Fcd Fsr Fsq Fir Fih) (hRL : RLP False fn r0 r1 r2 r3 jg pb kj kb him fs0 fs1 fs2 fs3 fqo fql Npb Njg Zhi Fss Fsq Fce Fih) (hRQ : RQP fc c0 c1 c2 c3 c4 c5 fcr0 fcr1 fcr2 fcr3 fcr4 fcr5 fer0 fer1 fer2 fer3 fer4 fer5 pb lw tx td kb kl him fb fso fmi fpa fki fmo fsz frd gso gmi gpa gki gmo gsz grd Nru Ntx Ntd Fkd Fmo Fst Fro Ftp Fcd Fsr Fir Fih Fwo) {H : Heap} {locs : List Loc} (hP : va_P G.1 vwCl (WLd G xo tt rd nw th kp sh tu b0 co en sk c0 c1 c2 c3 c4 c5 e0 e1 e2 e3 e4 e5 n1 n2 n3 n4 n5 n6 n7 n8 t1 t2 t3 t4 t5 t6 t7 t8 k1 k2 k3 k4 k5 k6 k7 k8 qn qo ql r0 r1 r2 r3 tw tr w0 w1 w2 w3 w4 w5 mo Akd Amo Ast Aro Atp Acd Asr Air Aih Ass Asq Ace Alw Awo Ahe Ask Ana Akp Agb Ago Afa Aga Avo fc fe fn fw tx fcr0 fcr1 fcr2 fcr3 fcr4 fcr5 fer0 fer1 fer2 fer3 fer4 fer5 him x2 x3 x4 x5 td fb wr fsk jg pb lw fnm fso fmi fpa fki fmo fsz frd tj tb tl unm uso umi upa uki umo usz urd kj kb kl gnm gso gmi gpa gki gmo gsz grd fs0 fs1 fs2 fs3 fqo fql fw0 fw1 fw2 fw3 fw4 fw5 ftr Npb Njg Ntd Ntx Nru Zhi Z19 Z20 Z21 Z22 Z25 Z26 Z27 Z31 Z32 Z33 Z34 Z39 Z40 Fkd Fmo Fst Fro Ftp Fcd Fsr Fir Fih Fss Fsq Fce Flw Fwo Fhe Fsk Fna Fkp Fgb Fgo Ffa Fga Fvo) H) (hD : va_D A (WLd G xo tt rd nw th kp sh tu b0 co en sk c0 c1 c2 c3 c4 c5 e0 e1 e2 e3 e4 e5 n1 n2 n3 n4 n5 n6 n7 n8 t1 t2 t3 t4 t5 t6 t7 t8 k1 k2 k3 k4 k5 k6 k7 k8 qn qo ql r0 r1 r2 r3 tw tr w0 w1 w2 w3 w4 w5 mo Akd Amo Ast Aro Atp Acd Asr Air Aih Ass Asq Ace Alw Awo Ahe Ask Ana Akp Agb Ago Afa Aga Avo fc fe fn fw tx fcr0 fcr1 fcr2 fcr3 fcr4 fcr5 fer0 fer1 fer2 fer3 fer4 fer5 him x2 x3 x4 x5 td fb wr fsk jg pb lw fnm fso fmi fpa fki fmo fsz frd tj tb tl unm uso umi upa uki umo usz urd kj kb kl gnm gso gmi gpa gki gmo gsz grd fs0 fs1 fs2 fs3 fqo fql fw0 fw1 fw2 fw3 fw4 fw5 ftr Npb Njg Ntd Ntx Nru Zhi Z19 Z20 Z21 Z22 Z25 Z26 Z27 Z31 Z32 Z33 Z34 Z39 Z40 Fkd Fmo Fst Fro Ftp Fcd Fsr Fir Fih Fss Fsq Fce Flw Fwo Fhe Fsk Fna Fkp Fgb Fgo Ffa Fga Fvo)) (hS : va_S A s.heap H locs) {ls : Array Slot} (hl : lv_has ls 4 [zI 3 (nI (7 * i7)), zR 2 mo, zR 1 xo, zR 0 b]) : W p l e room_1 s m #[Value.ref b] below meth c H locs 87 4128 (lw_Z below #[Value.ref b] s) (F0 m 1422 ls []) := by
  obtain ⟨hx, hb, hret, hml, hown, hts0, hX, hbl, hlocks, hgv⟩ := id C0
  have hts : ∀ w ∈ wsL_law, w.before #[Value.ref b] s = true := fun w h => hts0 w (wsL_law_in w h)
  have hown : s.vm.findClass RL = some m.cls := hown
  have hA : ∀ q : Nat, s.heap.size ≤ q → A q := fun q h => by rw [hAe]; exact h
  have hbA : ¬ A b := by rw [hAe]; exact Nat.not_le.mpr hbl
  obtain ⟨⟨hjg, hpb, hlw, htx, htd⟩, hkk, hql⟩ := id hFX
  obtain ⟨⟨hNpb, hNjg, hNru, hNtx, hNtd⟩, hwa, hsq, hIM⟩ := id hFM
  have hz9 : gPD G A [zo5 xo tt rd nw th kp sh tu him, zo1 rd tt b0 x2 x3 x4 x5 (nI td), zi G b0 160 fb, zo3 tt co en sk wr (nI tx), zr G co 6 fc, zi G c0 160 fcr0, zi G c1 160 fcr1, zi G c2 160 fcr2, zi G c3 160 fcr3, zi G c4 160 fcr4, zi G c5 160 fcr5, zr G en 6 fe, zi G e0 3 (nF fer0), zi G e1 3 (nF fer1), zi G e2 3 (nF fer2), zi G e3 3 (nF fer3), zi G e4 3 (nF fer4), zi G e5 3 (nF fer5), zi G sk 32 fsk, zo0 nw tt n1 n2 n3 n4 n5 n6 n7 n8 (nI jg) (nI pb) (nI lw), zi G n1 6 fnm, zi G n2 4 fso, zi G n3 4 fmi, zi G n4 4 fpa, zi G n5 6 fki, zi G n6 6 fmo, zi G n7 6 fsz, zi G n8 6 frd, zo0 th tt t1 t2 t3 t4 t5 t6 t7 t8 tj tb tl, zi G t1 6 unm, zi G t2 4 uso, zi G t3 4 umi, zi G t4 4 upa, zi G t5 6 uki, zi G t6 6 umo, zi G t7 6 usz, zi G t8 6 urd, zo0 kp tt k1 k2 k3 k4 k5 k6 k7 k8 (nI kj) (nI kb) (nI kl), zi G k1 6 gnm, zi G k2 4 gso, zi G k3 4 gmi, zi G k4 4 gpa, zi G k5 6 gki, zi G k6 6 gmo, zi G k7 6 gsz, zi G k8 6 grd, zo2 sh qn qo ql, zr G qn 4 fn, zi G r0 40 fs0, zi G r1 40 fs1, zi G r2 40 fs2, zi G r3 40 fs3, zi G qo 4 fqo, zi G ql 4 (nF fql), zo4 tu tw tr, zr G tw 6 fw, zi G w0 6 fw0, zi G w1 6 fw1, zi G w2 6 fw2, zi G w3 6 fw3, zi G w4 6 fw4, zi G w5 6 fw5, zi G tr 64 ftr, zo6 mo (nI Npb) Akd Amo Ast (nI Njg) Aro Atp (nI Ntd) Acd Asr (nI Ntx) (nI Nru) Zhi Air Aih Ass Asq Ace Alw Z19 Z20 Z21 Z22 Awo Ahe Z25 Z26 Z27 Ask Ana Akp Z31 Z32 Z33 Z34 Agb Ago Afa Aga Z39 Z40 Avo, zi G Akd 6 Fkd, zi G Amo 6 Fmo, zi G Ast 12 Fst, zi G Aro 12 Fro, zi G Atp 160 Ftp, zi G Acd 1200 Fcd, zi G Asr 24 (nF Fsr), zi G Air 24 Fir, zi G Aih 3 Fih, zi G Ass 4 Fss, zi G Asq 4 (nF Fsq), zi G Ace 160 Fce, zi G Alw 40 Flw, zi G Awo 96 Fwo, zi G Ahe 200 Fhe, zi G Ask 200 Fsk, zi G Ana 6 Fna, zi G Akp 24 Fkp, zb G Agb 61 Fgb, zb G Ago 61 Fgo, zi G Afa 36 Ffa, zi G Aga 36 Fga, zi G Avo 64 Fvo] H := ⟨hP, hD⟩
  have hP := hz9.1
  have hD := hz9.2
  refine lv_aload_n hx hb dL_law_1422 rfl (lv_at hl 2 rfl) ?_
  refine lv_aload_n hx hb dL_law_1423 rfl (lv_at hl 3 rfl) ?_
  refine lv_iload_n hx hb dL_law_1424 rfl (lv_at hl 0 rfl) ?_
  refine lv_iconst (v := 1) hx hb dL_law_1425 (by decide +kernel) ?_
  refine lv_iadd hx hb dL_law_1426 ?_
  refine lv_topi (fun v_1 ev_1 => ?_)
  have ev_1 : v_1 = nI ((7 * i7) + 1) := ev_1.trans (nI_add (7 * i7) 1)
  subst ev_1
  refine va_sld hx hb hX hbl hbA hS (i := nI ((7 * i7) + 1)) (vp_in_nI (by omega) (by omega)) dL_law_1427 ?_
  refine lv_topi (fun v_2 ev_2 => ?_)
  have ev_2 : v1 = v_2 := (ev_2.trans (by rw [nI_clamp (by omega)]; exact hv1.symm)).symm
  subst ev_2
  refine lv_aload_n hx hb dL_law_1428 rfl (lv_at hl 3 rfl) ?_
  refine lv_iload_n hx hb dL_law_1429 rfl (lv_at hl 0 rfl) ?_
  refine lv_iconst (v := 2) hx hb dL_law_1430 (by decide +kernel) ?_
  refine lv_iadd hx hb dL_law_1431 ?_
  refine lv_topi (fun v_3 ev_3 => ?_)
  have ev_3 : v_3 = nI ((7 * i7) + 2) := ev_3.trans (nI_add (7 * i7) 2)
  subst ev_3
  refine va_sld hx hb hX hbl hbA hS (i := nI ((7 * i7) + 2)) (vp_in_nI (by omega) (by omega)) dL_law_1432 ?_
  refine lv_topi (fun v_4 ev_4 => ?_)
  have ev_4 : v2 = v_4 := (ev_4.trans (by rw [nI_clamp (by omega)]; exact hv2.symm)).symm
  subst ev_4
  refine lv_aload_n hx hb dL_law_1433 rfl (lv_at hl 3 rfl) ?_
  refine lv_iload_n hx hb dL_law_1434 rfl (lv_at hl 0 rfl) ?_
  refine lv_iconst (v := 3) hx hb dL_law_1435 (by decide +kernel) ?_
  refine lv_iadd hx hb dL_law_1436 ?_
  refine lv_topi (fun v_5 ev_5 => ?_)
  have ev_5 : v_5 = nI ((7 * i7) + 3) := ev_5.trans (nI_add (7 * i7) 3)
  subst ev_5
  refine va_sld hx hb hX hbl hbA hS (i := nI ((7 * i7) + 3)) (vp_in_nI (by omega) (by omega)) dL_law_1437 ?_
  refine lv_topi (fun v_6 ev_6 => ?_)
  have ev_6 : v3 = v_6 := (ev_6.trans (by rw [nI_clamp (by omega)]; exact hv3.symm)).symm
  subst ev_6
  have hz9 : gPD G A [zo5 xo tt rd nw th kp sh tu him, zo2 sh qn qo ql] H := ⟨hP.sub [0, 46] rfl, hD.sub [0, 46] (by decide +kernel) rfl⟩
  have hPc := hz9.1
  have hDc := hz9.2
  have hFc := gFree hPc hD hS hA [0, 46] rfl
  refine va_calli (va_runV (As := [.int v1, .int v2, .int v3]) (rest := []) ⟨hx, hb, hml, hown, hts⟩ (c_X5_cell_B l G E xo tt rd nw th kp sh tu qn qo ql him v1 v2 v3 H.size (by first | exact hno | assumption | omega)) (cwV 3 hts gL_law_X5_cell rfl rfl rfl (by decide +kernel) ⟨Nat.le_of_ble_eq_true rfl, Nat.le_of_ble_eq_true rfl⟩) ⟨gPreE_blind, va_recv hK hPc (ci := 5) (q0 := 0) rfl rfl, fun U hU hW => gPreE_of hU hW hK hPc hDc hE hS hFc⟩ rfl rfl hl.1 rfl (lv_room (Nat.le_of_ble_eq_true rfl)) dL_law_1438 ⟨Nat.le_of_ble_eq_true rfl, Nat.le_of_ble_eq_true rfl⟩) hS (fun q _ h => hFc q h) hFc (fun r_7 u t H locs ht hvm w_8 hB hz1 hk1 hS => ?_)
  obtain ⟨hP1, hK1, hD1⟩ := hB
  rw [ht] at hP1
  have hz9 : gPD G (va_A _ _) [zo5 xo tt rd nw th kp sh tu him, zo2 sh qn qo ql] H := ⟨hP1, hD1⟩
  have hP1 := hz9.1
  have hD1 := hz9.2
  have w_8 : r_7 = -2 := w_8
  have hz9 : gPD G A [zo1 rd tt b0 x2 x3 x4 x5 (nI td), zi G b0 160 fb, zo3 tt co en sk wr (nI tx), zr G co 6 fc, zi G c0 160 fcr0, zi G c1 160 fcr1, zi G c2 160 fcr2, zi G c3 160 fcr3, zi G c4 160 fcr4, zi G c5 160 fcr5, zr G en 6 fe, zi G e0 3 (nF fer0), zi G e1 3 (nF fer1), zi G e2 3 (nF fer2), zi G e3 3 (nF fer3), zi G e4 3 (nF fer4), zi G e5 3 (nF fer5), zi G sk 32 fsk, zo0 nw tt n1 n2 n3 n4 n5 n6 n7 n8 (nI jg) (nI pb) (nI lw), zi G n1 6 fnm, zi G n2 4 fso, zi G n3 4 fmi, zi G n4 4 fpa, zi G n5 6 fki, zi G n6 6 fmo, zi G n7 6 fsz, zi G n8 6 frd, zo0 th tt t1 t2 t3 t4 t5 t6 t7 t8 tj tb tl, zi G t1 6 unm, zi G t2 4 uso, zi G t3 4 umi, zi G t4 4 upa, zi G t5 6 uki, zi G t6 6 umo, zi G t7 6 usz, zi G t8 6 urd, zo0 kp tt k1 k2 k3 k4 k5 k6 k7 k8 (nI kj) (nI kb) (nI kl), zi G k1 6 gnm, zi G k2 4 gso, zi G k3 4 gmi, zi G k4 4 gpa, zi G k5 6 gki, zi G k6 6 gmo, zi G k7 6 gsz, zi G k8 6 grd, zr G qn 4 fn, zi G r0 40 fs0, zi G r1 40 fs1, zi G r2 40 fs2, zi G r3 40 fs3, zi G qo 4 fqo, zi G ql 4 (nF fql), zo4 tu tw tr, zr G tw 6 fw, zi G w0 6 fw0, zi G w1 6 fw1, zi G w2 6 fw2, zi G w3 6 fw3, zi G w4 6 fw4, zi G w5 6 fw5, zi G tr 64 ftr, zo6 mo (nI Npb) Akd Amo Ast (nI Njg) Aro Atp (nI Ntd) Acd Asr (nI Ntx) (nI Nru) Zhi Air Aih Ass Asq Ace Alw Z19 Z20 Z21 Z22 Awo Ahe Z25 Z26 Z27 Ask Ana Akp Z31 Z32 Z33 Z34 Agb Ago Afa Aga Z39 Z40 Avo, zi G Akd 6 Fkd, zi G Amo 6 Fmo, zi G Ast 12 Fst, zi G Aro 12 Fro, zi G Atp 160 Ftp, zi G Acd 1200 Fcd, zi G Asr 24 (nF Fsr), zi G Air 24 Fir, zi G Aih 3 Fih, zi G Ass 4 Fss, zi G Asq 4 (nF Fsq), zi G Ace 160 Fce, zi G Alw 40 Flw, zi G Awo 96 Fwo, zi G Ahe 200 Fhe, zi G Ask 200 Fsk, zi G Ana 6 Fna, zi G Akp 24 Fkp, zb G Agb 61 Fgb, zb G Ago 61 Fgo, zi G Afa 36 Ffa, zi G Aga 36 Fga, zi G Avo 64 Fvo, zo5 xo tt rd nw th kp sh tu him, zo2 sh qn qo ql] H := gJoin hP hD hk1 hFc hP1 hD1 [0, 46] [1, 2, 3, 4, 5, 6, 7, 8, 9, 10, 11, 12, 13, 14, 15, 16, 17, 18, 19, 20, 21, 22, 23, 24, 25, 26, 27, 28, 29, 30, 31, 32, 33, 34, 35, 36, 37, 38, 39, 40, 41, 42, 43, 44, 45, 47, 48, 49, 50, 51, 52, 53, 54, 55, 56, 57, 58, 59, 60, 61, 62, 63, 64, 65, 66, 67, 68, 69, 70, 71, 72, 73, 74, 75, 76, 77, 78, 79, 80, 81, 82, 83, 84, 85, 86] rfl rfl rfl (by decide +kernel) (by decide +kernel)
  have hP := hz9.1
  have hD := hz9.2
  subst w_8
  refine lv_pop hx hb dL_law_1441 rfl ?_
  refine lv_aload_n hx hb dL_law_1442 rfl (lv_at hl 1 rfl) ?_
  refine lv_aload_n hx hb dL_law_1443 rfl (lv_at hl 3 rfl) ?_
  refine lv_iload_n hx hb dL_law_1444 rfl (lv_at hl 0 rfl) ?_
  refine lv_iconst (v := 1) hx hb dL_law_1445 (by decide +kernel) ?_
  refine lv_iadd hx hb dL_law_1446 ?_
  refine lv_topi (fun v_9 ev_9 => ?_)
  have ev_9 : v_9 = nI ((7 * i7) + 1) := ev_9.trans (nI_add (7 * i7) 1)
  subst ev_9
  refine va_sld hx hb hX hbl hbA hS (i := nI ((7 * i7) + 1)) (vp_in_nI (by omega) (by omega)) dL_law_1447 ?_
  refine lv_topi (fun v_10 ev_10 => ?_)
  have ev_10 : v1 = v_10 := (ev_10.trans (by rw [nI_clamp (by omega)]; exact hv1.symm)).symm
  subst ev_10
  refine lv_aload_n hx hb dL_law_1448 rfl (lv_at hl 3 rfl) ?_
  refine lv_iload_n hx hb dL_law_1449 rfl (lv_at hl 0 rfl) ?_
  refine lv_iconst (v := 2) hx hb dL_law_1450 (by decide +kernel) ?_
  refine lv_iadd hx hb dL_law_1451 ?_
  refine lv_topi (fun v_11 ev_11 => ?_)
  have ev_11 : v_11 = nI ((7 * i7) + 2) := ev_11.trans (nI_add (7 * i7) 2)
  subst ev_11
  refine va_sld hx hb hX hbl hbA hS (i := nI ((7 * i7) + 2)) (vp_in_nI (by omega) (by omega)) dL_law_1452 ?_
  refine lv_topi (fun v_12 ev_12 => ?_)
  have ev_12 : v2 = v_12 := (ev_12.trans (by rw [nI_clamp (by omega)]; exact hv2.symm)).symm
  subst ev_12
  refine lv_aload_n hx hb dL_law_1453 rfl (lv_at hl 3 rfl) ?_
  refine lv_iload_n hx hb dL_law_1454 rfl (lv_at hl 0 rfl) ?_
  refine lv_iconst (v := 3) hx hb dL_law_1455 (by decide +kernel) ?_
  refine lv_iadd hx hb dL_law_1456 ?_
  refine lv_topi (fun v_13 ev_13 => ?_)
  have ev_13 : v_13 = nI ((7 * i7) + 3) := ev_13.trans (nI_add (7 * i7) 3)
  subst ev_13
  refine va_sld hx hb hX hbl hbA hS (i := nI ((7 * i7) + 3)) (vp_in_nI (by omega) (by omega)) dL_law_1457 ?_
  refine lv_topi (fun v_14 ev_14 => ?_)
  have ev_14 : v3 = v_14 := (ev_14.trans (by rw [nI_clamp (by omega)]; exact hv3.symm)).symm
  subst ev_14
  have hz9 : gPD G A [zo6 mo (nI Npb) Akd Amo Ast (nI Njg) Aro Atp (nI Ntd) Acd Asr (nI Ntx) (nI Nru) Zhi Air Aih Ass Asq Ace Alw Z19 Z20 Z21 Z22 Awo Ahe Z25 Z26 Z27 Ask Ana Akp Z31 Z32 Z33 Z34 Agb Ago Afa Aga Z39 Z40 Avo, zi G Ass 4 Fss, zi G Asq 4 (nF Fsq), zi G Ace 160 Fce] H := ⟨hP.sub [61, 71, 72, 73] rfl, hD.sub [61, 71, 72, 73] (by decide +kernel) rfl⟩
  have hPc := hz9.1
  have hDc := hz9.2
  have hFc := gFree hPc hD hS hA [61, 71, 72, 73] rfl
  refine va_calli (va_runV (As := [.int v1, .int v2, .int v3]) (rest := []) ⟨hx, hb, hml, hown, hts⟩ (c_X6_cell l G mo Akd Amo Ast Aro Atp Acd Asr Air Aih Ass Asq Ace Alw Awo Ahe Ask Ana Akp Agb Ago Afa Aga Avo Npb Njg Ntd Ntx Nru Zhi Z19 Z20 Z21 Z22 Z25 Z26 Z27 Z31 Z32 Z33 Z34 Z39 Z40 Fss Fsq Fce v1 v2 v3 H.size (by first | exact hsq | assumption | omega) (by first | exact hpb | assumption | omega) (by first | exact hjg | assumption | omega) (by first | exact htx | assumption | omega) (by first | exact hru | assumption | omega)) (cwV 3 hts gL_law_X6_cell rfl rfl rfl (by decide +kernel) ⟨Nat.le_of_ble_eq_true rfl, Nat.le_of_ble_eq_true rfl⟩) ⟨gPre_blind, va_recv hK hPc (ci := 6) (q0 := 0) rfl rfl, fun U hU hW => gPre_of hU hW hK hPc hDc⟩ rfl rfl hl.1 rfl (lv_room (Nat.le_of_ble_eq_true rfl)) dL_law_1458 ⟨Nat.le_of_ble_eq_true rfl, Nat.le_of_ble_eq_true rfl⟩) hS (fun q _ h => hFc q h) hFc (fun r_15 u t H locs ht hvm w_16 hB hz1 hk1 hS => ?_)
  obtain ⟨hP1, hK1, hD1⟩ := hB
  rw [ht] at hP1
  have hz9 : gPD G (va_A _ _) [zo6 mo (nI Npb) Akd Amo Ast (nI Njg) Aro Atp (nI Ntd) Acd Asr (nI Ntx) (nI Nru) Zhi Air Aih Ass Asq Ace Alw Z19 Z20 Z21 Z22 Awo Ahe Z25 Z26 Z27 Ask Ana Akp Z31 Z32 Z33 Z34 Agb Ago Afa Aga Z39 Z40 Avo, zi G Ass 4 Fss, zi G Asq 4 (nF Fsq), zi G Ace 160 (m_X6_cell_ce Fss Fsq Fce v1 v2 v3)] H := ⟨hP1, hD1⟩
  have hP1 := hz9.1
  have hD1 := hz9.2
  have w_16 : r_15 = m_X6_cell Fss Fsq v1 v2 := w_16
  have hz9 : gPD G A [zo1 rd tt b0 x2 x3 x4 x5 (nI td), zi G b0 160 fb, zo3 tt co en sk wr (nI tx), zr G co 6 fc, zi G c0 160 fcr0, zi G c1 160 fcr1, zi G c2 160 fcr2, zi G c3 160 fcr3, zi G c4 160 fcr4, zi G c5 160 fcr5, zr G en 6 fe, zi G e0 3 (nF fer0), zi G e1 3 (nF fer1), zi G e2 3 (nF fer2), zi G e3 3 (nF fer3), zi G e4 3 (nF fer4), zi G e5 3 (nF fer5), zi G sk 32 fsk, zo0 nw tt n1 n2 n3 n4 n5 n6 n7 n8 (nI jg) (nI pb) (nI lw), zi G n1 6 fnm, zi G n2 4 fso, zi G n3 4 fmi, zi G n4 4 fpa, zi G n5 6 fki, zi G n6 6 fmo, zi G n7 6 fsz, zi G n8 6 frd, zo0 th tt t1 t2 t3 t4 t5 t6 t7 t8 tj tb tl, zi G t1 6 unm, zi G t2 4 uso, zi G t3 4 umi, zi G t4 4 upa, zi G t5 6 uki, zi G t6 6 umo, zi G t7 6 usz, zi G t8 6 urd, zo0 kp tt k1 k2 k3 k4 k5 k6 k7 k8 (nI kj) (nI kb) (nI kl), zi G k1 6 gnm, zi G k2 4 gso, zi G k3 4 gmi, zi G k4 4 gpa, zi G k5 6 gki, zi G k6 6 gmo, zi G k7 6 gsz, zi G k8 6 grd, zr G qn 4 fn, zi G r0 40 fs0, zi G r1 40 fs1, zi G r2 40 fs2, zi G r3 40 fs3, zi G qo 4 fqo, zi G ql 4 (nF fql), zo4 tu tw tr, zr G tw 6 fw, zi G w0 6 fw0, zi G w1 6 fw1, zi G w2 6 fw2, zi G w3 6 fw3, zi G w4 6 fw4, zi G w5 6 fw5, zi G tr 64 ftr, zi G Akd 6 Fkd, zi G Amo 6 Fmo, zi G Ast 12 Fst, zi G Aro 12 Fro, zi G Atp 160 Ftp, zi G Acd 1200 Fcd, zi G Asr 24 (nF Fsr), zi G Air 24 Fir, zi G Aih 3 Fih, zi G Alw 40 Flw, zi G Awo 96 Fwo, zi G Ahe 200 Fhe, zi G Ask 200 Fsk, zi G Ana 6 Fna, zi G Akp 24 Fkp, zb G Agb 61 Fgb, zb G Ago 61 Fgo, zi G Afa 36 Ffa, zi G Aga 36 Fga, zi G Avo 64 Fvo, zo5 xo tt rd nw th kp sh tu him, zo2 sh qn qo ql, zo6 mo (nI Npb) Akd Amo Ast (nI Njg) Aro Atp (nI Ntd) Acd Asr (nI Ntx) (nI Nru) Zhi Air Aih Ass Asq Ace Alw Z19 Z20 Z21 Z22 Awo Ahe Z25 Z26 Z27 Ask Ana Akp Z31 Z32 Z33 Z34 Agb Ago Afa Aga Z39 Z40 Avo, zi G Ass 4 Fss, zi G Asq 4 (nF Fsq), zi G Ace 160 (m_X6_cell_ce Fss Fsq Fce v1 v2 v3)] H := gJoin hP hD hk1 hFc hP1 hD1 [61, 71, 72, 73] [0, 1, 2, 3, 4, 5, 6, 7, 8, 9, 10, 11, 12, 13, 14, 15, 16, 17, 18, 19, 20, 21, 22, 23, 24, 25, 26, 27, 28, 29, 30, 31, 32, 33, 34, 35, 36, 37, 38, 39, 40, 41, 42, 43, 44, 45, 46, 47, 48, 49, 50, 51, 52, 53, 54, 55, 56, 57, 58, 59, 60, 62, 63, 64, 65, 66, 67, 68, 69, 70, 74, 75, 76, 77, 78, 79, 80, 81, 82, 83, 84, 85, 86] rfl rfl rfl (by decide +kernel) (by decide +kernel)
  have hP := hz9.1
  have hD := hz9.2
  subst w_16
  refine lv_pop hx hb dL_law_1461 rfl ?_
  refine lv_goto (tgt := 1614) hx hb dL_law_1462 (by decide +kernel) ?_
  refine lv_iinc (v := nI (7 * (i7 + 1))) (lv' := [zI 3 (nI (7 * (i7 + 1))), zR 2 mo, zR 1 xo, zR 0 b]) hx hb dL_law_1614 hl (k := 0) rfl (by show nI (7 * i7) + 7 = nI (7 * (i7 + 1)); exact nI_add (7 * i7) 7) (by decide +kernel) rfl (fun ls hl => ?_)
  refine lv_goto (tgt := 18) hx hb dL_law_1617 (by decide +kernel) ?_
  exact K him x2 x3 x4 x5 td fb wr fsk jg pb lw fnm fso fmi fpa fki fmo fsz frd tj tb tl unm uso umi upa uki umo usz urd kj kb kl gnm gso gmi gpa gki gmo gsz grd fs0 fs1 fs2 fs3 fqo fql fw0 fw1 fw2 fw3 fw4 fw5 ftr Npb Njg Ntd Ntx Nru Zhi Z19 Z20 Z21 Z22 Z25 Z26 Z27 Z31 Z32 Z33 Z34 Z39 Z40 Fkd Fmo Fst Fro Ftp Fcd Fsr Fir Fih Fss Fsq (m_X6_cell_ce Fss Fsq Fce v1 v2 v3) Flw Fwo Fhe Fsk Fna Fkp Fgb Fgo Ffa Fga Fvo hFX hFM (rl_cell_B hno hRL) hRQ H _ ls (hP.sub [81, 0, 1, 2, 3, 4, 5, 6, 7, 8, 9, 10, 11, 12, 13, 14, 15, 16, 17, 18, 19, 20, 21, 22, 23, 24, 25, 26, 27, 28, 29, 30, 31, 32, 33, 34, 35, 36, 37, 38, 39, 40, 41, 42, 43, 44, 82, 45, 46, 47, 48, 49, 50, 51, 52, 53, 54, 55, 56, 57, 58, 59, 60, 83, 61, 62, 63, 64, 65, 66, 67, 68, 69, 84, 85, 86, 70, 71, 72, 73, 74, 75, 76, 77, 78, 79, 80] rfl) (hD.sub [81, 0, 1, 2, 3, 4, 5, 6, 7, 8, 9, 10, 11, 12, 13, 14, 15, 16, 17, 18, 19, 20, 21, 22, 23, 24, 25, 26, 27, 28, 29, 30, 31, 32, 33, 34, 35, 36, 37, 38, 39, 40, 41, 42, 43, 44, 82, 45, 46, 47, 48, 49, 50, 51, 52, 53, 54, 55, 56, 57, 58, 59, 60, 83, 61, 62, 63, 64, 65, 66, 67, 68, 69, 84, 85, 86, 70, 71, 72, 73, 74, 75, 76, 77, 78, 79, 80] (by decide +kernel) rfl) hS (lv_sub hl [0, 1, 2, 3] rfl)
set_option maxHeartbeats 4000000 in
set_option maxRecDepth 100000 in
theorem lc_copy_A {p : Program} {l : Launch} {e : Env} {s : State} {m : MethodId} {below : List Frame} {meth : Method} {c : Code} {b L : Nat} {xs : Nat → Int32} {G : gG} {E : gS} {A : Nat → Prop} (C0 : lw_At p s m meth c b L xs) (hE : gE E A s s.heap) (hK : gK G s) (hAe : A = fun q => s.heap.size ≤ q) {xo tt rd nw th kp sh tu b0 co en sk c0 c1 c2 c3 c4 c5 e0 e1 e2 e3 e4 e5 n1 n2 n3 n4 n5 n6 n7 n8 t1 t2 t3 t4 t5 t6 t7 t8 k1 k2 k3 k4 k5 k6 k7 k8 qn qo ql r0 r1 r2 r3 tw tr w0 w1 w2 w3 w4 w5 mo Akd Amo Ast Aro Atp Acd Asr Air Aih Ass Asq Ace Alw Awo Ahe Ask Ana Akp Agb Ago Afa Aga Avo : Nat} {fc fe fn fw : Nat → Option Nat} {tx : Nat} {fcr0 fcr1 fcr2 fcr3 fcr4 fcr5 : Nat → Int32} {fer0 fer1 fer2 fer3 fer4 fer5 : Nat → Nat} {him x2 x3 x4 x5 : Int32} {td : Nat} {fb : Nat → Int32} {wr : Int32} {fsk : Nat → Int32} {jg pb lw : Nat} {fnm fso fmi fpa fki fmo fsz frd : Nat → Int32} {tj tb tl : Int32} {unm uso umi upa uki umo usz urd : Nat → Int32} {kj kb kl : Nat} {gnm gso gmi gpa gki gmo gsz grd fs0 fs1 fs2 fs3 fqo : Nat → Int32} {fql : Nat → Nat} {fw0 fw1 fw2 fw3 fw4 fw5 ftr : Nat → Int32} {Npb Njg Ntd Ntx Nru : Nat} {Zhi Z19 Z20 Z21 Z22 Z25 Z26 Z27 Z31 Z32 Z33 Z34 Z39 Z40 : Int32} {Fkd Fmo Fst Fro Ftp Fcd : Nat → Int32} {Fsr : Nat → Nat} {Fir Fih Fss : Nat → Int32} {Fsq : Nat → Nat} {Fce Flw Fwo Fhe Fsk Fna Fkp Fgb Fgo Ffa Fga Fvo : Nat → Int32} {sn : Nat} {on9 : Nat} {v2 v4 v5 v6 : Int32} {i7 : Nat} (hi : 7 * i7 + 7 ≤ L) (hL : L ≤ 3584) (hv1 : (nI sn) = xs (7 * i7 + 1)) (hv2 : v2 = xs (7 * i7 + 2)) (hv3 : (nI on9) = xs (7 * i7 + 3)) (hv4 : v4 = xs (7 * i7 + 4)) (hv5 : v5 = xs (7 * i7 + 5)) (hv6 : v6 = xs (7 * i7 + 6)) (hsn : sn < 4) (hrw : fn sn = some r0) (hon : on9 < 4) (hr2 : fn on9 = some r1) (K : LawV p l e s m below meth c b G A xo tt rd nw th kp sh tu b0 co en sk c0 c1 c2 c3 c4 c5 e0 e1 e2 e3 e4 e5 n1 n2 n3 n4 n5 n6 n7 n8 t1 t2 t3 t4 t5 t6 t7 t8 k1 k2 k3 k4 k5 k6 k7 k8 qn qo ql r0 r1 r2 r3 tw tr w0 w1 w2 w3 w4 w5 mo Akd Amo Ast Aro Atp Acd Asr Air Aih Ass Asq Ace Alw Awo Ahe Ask Ana Akp Agb Ago Afa Aga Avo fc fe fn fw tx fcr0 fcr1 fcr2 fcr3 fcr4 fcr5 fer0 fer1 fer2 fer3 fer4 fer5 (i7 + 1)) (hFX : FXP jg pb lw kj kb kl tx td him fql) (hFM : FMP Npb Njg Ntd Ntx Nru Zhi Fcd Fsr Fsq Fir Fih) (hRL : RLP False fn r0 r1 r2 r3 jg pb kj kb him fs0 fs1 fs2 fs3 fqo fql Npb Njg Zhi Fss Fsq Fce Fih) (hRQ : RQP fc c0 c1 c2 c3 c4 c5 fcr0 fcr1 fcr2 fcr3 fcr4 fcr5 fer0 fer1 fer2 fer3 fer4 fer5 pb lw tx td kb kl him fb fso fmi fpa fki fmo fsz frd gso gmi gpa gki gmo gsz grd Nru Ntx Ntd Fkd Fmo Fst Fro Ftp Fcd Fsr Fir Fih Fwo) {H : Heap} {locs : List Loc} (hP : va_P G.1 vwCl (WLd G xo tt rd nw th kp sh tu b0 co en sk c0 c1 c2 c3 c4 c5 e0 e1 e2 e3 e4 e5 n1 n2 n3 n4 n5 n6 n7 n8 t1 t2 t3 t4 t5 t6 t7 t8 k1 k2 k3 k4 k5 k6 k7 k8 qn qo ql r0 r1 r2 r3 tw tr w0 w1 w2 w3 w4 w5 mo Akd Amo Ast Aro Atp Acd Asr Air Aih Ass Asq Ace Alw Awo Ahe Ask Ana Akp Agb Ago Afa Aga Avo fc fe fn fw tx fcr0 fcr1 fcr2 fcr3 fcr4 fcr5 fer0 fer1 fer2 fer3 fer4 fer5 him x2 x3 x4 x5 td fb wr fsk jg pb lw fnm fso fmi fpa fki fmo fsz frd tj tb tl unm uso umi upa uki umo usz urd kj kb kl gnm gso gmi gpa gki gmo gsz grd fs0 fs1 fs2 fs3 fqo fql fw0 fw1 fw2 fw3 fw4 fw5 ftr Npb Njg Ntd Ntx Nru Zhi Z19 Z20 Z21 Z22 Z25 Z26 Z27 Z31 Z32 Z33 Z34 Z39 Z40 Fkd Fmo Fst Fro Ftp Fcd Fsr Fir Fih Fss Fsq Fce Flw Fwo Fhe Fsk Fna Fkp Fgb Fgo Ffa Fga Fvo) H) (hD : va_D A (WLd G xo tt rd nw th kp sh tu b0 co en sk c0 c1 c2 c3 c4 c5 e0 e1 e2 e3 e4 e5 n1 n2 n3 n4 n5 n6 n7 n8 t1 t2 t3 t4 t5 t6 t7 t8 k1 k2 k3 k4 k5 k6 k7 k8 qn qo ql r0 r1 r2 r3 tw tr w0 w1 w2 w3 w4 w5 mo Akd Amo Ast Aro Atp Acd Asr Air Aih Ass Asq Ace Alw Awo Ahe Ask Ana Akp Agb Ago Afa Aga Avo fc fe fn fw tx fcr0 fcr1 fcr2 fcr3 fcr4 fcr5 fer0 fer1 fer2 fer3 fer4 fer5 him x2 x3 x4 x5 td fb wr fsk jg pb lw fnm fso fmi fpa fki fmo fsz frd tj tb tl unm uso umi upa uki umo usz urd kj kb kl gnm gso gmi gpa gki gmo gsz grd fs0 fs1 fs2 fs3 fqo fql fw0 fw1 fw2 fw3 fw4 fw5 ftr Npb Njg Ntd Ntx Nru Zhi Z19 Z20 Z21 Z22 Z25 Z26 Z27 Z31 Z32 Z33 Z34 Z39 Z40 Fkd Fmo Fst Fro Ftp Fcd Fsr Fir Fih Fss Fsq Fce Flw Fwo Fhe Fsk Fna Fkp Fgb Fgo Ffa Fga Fvo)) (hS : va_S A s.heap H locs) {ls : Array Slot} (hl : lv_has ls 4 [zI 3 (nI (7 * i7)), zR 2 mo, zR 1 xo, zR 0 b]) : W p l e room_1 s m #[Value.ref b] below meth c H locs 87 4128 (lw_Z below #[Value.ref b] s) (F0 m 1465 ls []) := by
  obtain ⟨hx, hb, hret, hml, hown, hts0, hX, hbl, hlocks, hgv⟩ := id C0
  have hts : ∀ w ∈ wsL_law, w.before #[Value.ref b] s = true := fun w h => hts0 w (wsL_law_in w h)
  have hown : s.vm.findClass RL = some m.cls := hown
  have hA : ∀ q : Nat, s.heap.size ≤ q → A q := fun q h => by rw [hAe]; exact h
  have hbA : ¬ A b := by rw [hAe]; exact Nat.not_le.mpr hbl
  obtain ⟨⟨hjg, hpb, hlw, htx, htd⟩, hkk, hql⟩ := id hFX
  obtain ⟨⟨hNpb, hNjg, hNru, hNtx, hNtd⟩, hwa, hsq, hIM⟩ := id hFM
  have hz9 : gPD G A [zo5 xo tt rd nw th kp sh tu him, zo1 rd tt b0 x2 x3 x4 x5 (nI td), zi G b0 160 fb, zo3 tt co en sk wr (nI tx), zr G co 6 fc, zi G c0 160 fcr0, zi G c1 160 fcr1, zi G c2 160 fcr2, zi G c3 160 fcr3, zi G c4 160 fcr4, zi G c5 160 fcr5, zr G en 6 fe, zi G e0 3 (nF fer0), zi G e1 3 (nF fer1), zi G e2 3 (nF fer2), zi G e3 3 (nF fer3), zi G e4 3 (nF fer4), zi G e5 3 (nF fer5), zi G sk 32 fsk, zo0 nw tt n1 n2 n3 n4 n5 n6 n7 n8 (nI jg) (nI pb) (nI lw), zi G n1 6 fnm, zi G n2 4 fso, zi G n3 4 fmi, zi G n4 4 fpa, zi G n5 6 fki, zi G n6 6 fmo, zi G n7 6 fsz, zi G n8 6 frd, zo0 th tt t1 t2 t3 t4 t5 t6 t7 t8 tj tb tl, zi G t1 6 unm, zi G t2 4 uso, zi G t3 4 umi, zi G t4 4 upa, zi G t5 6 uki, zi G t6 6 umo, zi G t7 6 usz, zi G t8 6 urd, zo0 kp tt k1 k2 k3 k4 k5 k6 k7 k8 (nI kj) (nI kb) (nI kl), zi G k1 6 gnm, zi G k2 4 gso, zi G k3 4 gmi, zi G k4 4 gpa, zi G k5 6 gki, zi G k6 6 gmo, zi G k7 6 gsz, zi G k8 6 grd, zo2 sh qn qo ql, zr G qn 4 fn, zi G r0 40 fs0, zi G r1 40 fs1, zi G r2 40 fs2, zi G r3 40 fs3, zi G qo 4 fqo, zi G ql 4 (nF fql), zo4 tu tw tr, zr G tw 6 fw, zi G w0 6 fw0, zi G w1 6 fw1, zi G w2 6 fw2, zi G w3 6 fw3, zi G w4 6 fw4, zi G w5 6 fw5, zi G tr 64 ftr, zo6 mo (nI Npb) Akd Amo Ast (nI Njg) Aro Atp (nI Ntd) Acd Asr (nI Ntx) (nI Nru) Zhi Air Aih Ass Asq Ace Alw Z19 Z20 Z21 Z22 Awo Ahe Z25 Z26 Z27 Ask Ana Akp Z31 Z32 Z33 Z34 Agb Ago Afa Aga Z39 Z40 Avo, zi G Akd 6 Fkd, zi G Amo 6 Fmo, zi G Ast 12 Fst, zi G Aro 12 Fro, zi G Atp 160 Ftp, zi G Acd 1200 Fcd, zi G Asr 24 (nF Fsr), zi G Air 24 Fir, zi G Aih 3 Fih, zi G Ass 4 Fss, zi G Asq 4 (nF Fsq), zi G Ace 160 Fce, zi G Alw 40 Flw, zi G Awo 96 Fwo, zi G Ahe 200 Fhe, zi G Ask 200 Fsk, zi G Ana 6 Fna, zi G Akp 24 Fkp, zb G Agb 61 Fgb, zb G Ago 61 Fgo, zi G Afa 36 Ffa, zi G Aga 36 Fga, zi G Avo 64 Fvo] H := ⟨hP, hD⟩
  have hP := hz9.1
  have hD := hz9.2
  have n10 : r1 ≠ r0 := fun z => absurd (hD.1 49 48 _ _ rfl rfl z) (by decide +kernel)
  have n12 : r1 ≠ r2 := fun z => absurd (hD.1 49 50 _ _ rfl rfl z) (by decide +kernel)
  have n13 : r1 ≠ r3 := fun z => absurd (hD.1 49 51 _ _ rfl rfl z) (by decide +kernel)
  refine lv_aload_n hx hb dL_law_1465 rfl (lv_at hl 2 rfl) ?_
  refine lv_aload_n hx hb dL_law_1466 rfl (lv_at hl 3 rfl) ?_
  refine lv_iload_n hx hb dL_law_1467 rfl (lv_at hl 0 rfl) ?_
  refine lv_iconst (v := 1) hx hb dL_law_1468 (by decide +kernel) ?_
  refine lv_iadd hx hb dL_law_1469 ?_
  refine lv_topi (fun v_1 ev_1 => ?_)
  have ev_1 : v_1 = nI ((7 * i7) + 1) := ev_1.trans (nI_add (7 * i7) 1)
  subst ev_1
  refine va_sld hx hb hX hbl hbA hS (i := nI ((7 * i7) + 1)) (vp_in_nI (by omega) (by omega)) dL_law_1470 ?_
  refine lv_topi (fun v_2 ev_2 => ?_)
  have ev_2 : (nI sn) = v_2 := (ev_2.trans (by rw [nI_clamp (by omega)]; exact hv1.symm)).symm
  subst ev_2
  refine lv_aload_n hx hb dL_law_1471 rfl (lv_at hl 3 rfl) ?_
  refine lv_iload_n hx hb dL_law_1472 rfl (lv_at hl 0 rfl) ?_
  refine lv_iconst (v := 2) hx hb dL_law_1473 (by decide +kernel) ?_
  refine lv_iadd hx hb dL_law_1474 ?_
  refine lv_topi (fun v_3 ev_3 => ?_)
  have ev_3 : v_3 = nI ((7 * i7) + 2) := ev_3.trans (nI_add (7 * i7) 2)
  subst ev_3
  refine va_sld hx hb hX hbl hbA hS (i := nI ((7 * i7) + 2)) (vp_in_nI (by omega) (by omega)) dL_law_1475 ?_
  refine lv_topi (fun v_4 ev_4 => ?_)
  have ev_4 : v2 = v_4 := (ev_4.trans (by rw [nI_clamp (by omega)]; exact hv2.symm)).symm
  subst ev_4
  refine lv_aload_n hx hb dL_law_1476 rfl (lv_at hl 3 rfl) ?_
  refine lv_iload_n hx hb dL_law_1477 rfl (lv_at hl 0 rfl) ?_
  refine lv_iconst (v := 3) hx hb dL_law_1478 (by decide +kernel) ?_
  refine lv_iadd hx hb dL_law_1479 ?_
  refine lv_topi (fun v_5 ev_5 => ?_)
  have ev_5 : v_5 = nI ((7 * i7) + 3) := ev_5.trans (nI_add (7 * i7) 3)
  subst ev_5
  refine va_sld hx hb hX hbl hbA hS (i := nI ((7 * i7) + 3)) (vp_in_nI (by omega) (by omega)) dL_law_1480 ?_
  refine lv_topi (fun v_6 ev_6 => ?_)
  have ev_6 : (nI on9) = v_6 := (ev_6.trans (by rw [nI_clamp (by omega)]; exact hv3.symm)).symm
  subst ev_6
  refine lv_aload_n hx hb dL_law_1481 rfl (lv_at hl 3 rfl) ?_
  refine lv_iload_n hx hb dL_law_1482 rfl (lv_at hl 0 rfl) ?_
  refine lv_iconst (v := 4) hx hb dL_law_1483 (by decide +kernel) ?_
  refine lv_iadd hx hb dL_law_1484 ?_
  refine lv_topi (fun v_7 ev_7 => ?_)
  have ev_7 : v_7 = nI ((7 * i7) + 4) := ev_7.trans (nI_add (7 * i7) 4)
  subst ev_7
  refine va_sld hx hb hX hbl hbA hS (i := nI ((7 * i7) + 4)) (vp_in_nI (by omega) (by omega)) dL_law_1485 ?_
  refine lv_topi (fun v_8 ev_8 => ?_)
  have ev_8 : v4 = v_8 := (ev_8.trans (by rw [nI_clamp (by omega)]; exact hv4.symm)).symm
  subst ev_8
  refine lv_aload_n hx hb dL_law_1486 rfl (lv_at hl 3 rfl) ?_
  refine lv_iload_n hx hb dL_law_1487 rfl (lv_at hl 0 rfl) ?_
  refine lv_iconst (v := 5) hx hb dL_law_1488 (by decide +kernel) ?_
  refine lv_iadd hx hb dL_law_1489 ?_
  refine lv_topi (fun v_9 ev_9 => ?_)
  have ev_9 : v_9 = nI ((7 * i7) + 5) := ev_9.trans (nI_add (7 * i7) 5)
  subst ev_9
  refine va_sld hx hb hX hbl hbA hS (i := nI ((7 * i7) + 5)) (vp_in_nI (by omega) (by omega)) dL_law_1490 ?_
  refine lv_topi (fun v_10 ev_10 => ?_)
  have ev_10 : v5 = v_10 := (ev_10.trans (by rw [nI_clamp (by omega)]; exact hv5.symm)).symm
  subst ev_10
  have hz9 : gPD G A [zo5 xo tt rd nw th kp sh tu him, zo2 sh qn qo ql, zr G qn 4 fn, zi G qo 4 fqo, zi G ql 4 (nF fql), zi G r0 40 fs0, zi G r1 40 fs1] H := ⟨hP.sub [0, 46, 47, 52, 53, 48, 49] rfl, hD.sub [0, 46, 47, 52, 53, 48, 49] (by decide +kernel) rfl⟩
  have hPc := hz9.1
  have hDc := hz9.2
  have hFc := gFree hPc hD hS hA [0, 46, 47, 52, 53, 48, 49] rfl
  refine va_calli (va_runV (As := [.int (nI sn), .int v2, .int (nI on9), .int v4, .int v5]) (rest := []) ⟨hx, hb, hml, hown, hts⟩ (c_X5_copy_A l G E xo tt rd nw th kp sh tu qn qo ql r0 r1 him fn fql fqo fs0 fs1 sn on9 v2 v4 v5 H.size (by first | exact hsn | assumption | omega) (by first | exact hrw | assumption | omega) (by first | exact hql | assumption | omega) (by first | exact hon | assumption | omega) (by first | exact hr2 | assumption | omega)) (cwV 5 hts gL_law_X5_copy rfl rfl rfl (by decide +kernel) ⟨Nat.le_of_ble_eq_true rfl, Nat.le_of_ble_eq_true rfl⟩) ⟨gPreE_blind, va_recv hK hPc (ci := 5) (q0 := 0) rfl rfl, fun U hU hW => gPreE_of hU hW hK hPc hDc hE hS hFc⟩ rfl rfl hl.1 rfl (lv_room (Nat.le_of_ble_eq_true rfl)) dL_law_1491 ⟨Nat.le_of_ble_eq_true rfl, Nat.le_of_ble_eq_true rfl⟩) hS (fun q _ h => hFc q h) hFc (fun r_11 u t H locs ht hvm w_12 hB hz1 hk1 hS => ?_)
  obtain ⟨hP1, hK1, hD1⟩ := hB
  rw [ht] at hP1
  have hz9 : gPD G (va_A _ _) [zo5 xo tt rd nw th kp sh tu him, zo2 sh qn qo ql, zr G qn 4 fn, zi G qo 4 fqo, zi G ql 4 (nF fql), zi G r0 40 fs0, zi G r1 40 (m_X5_copy_A_r2 fql fqo fs0 fs1 sn on9 v2 v4 v5)] H := ⟨hP1, hD1⟩
  have hP1 := hz9.1
  have hD1 := hz9.2
  have w_12 : r_11 = m_X5_copy_A fql fqo sn on9 v2 v4 v5 := w_12
  have hz9 : gPD G A [zo1 rd tt b0 x2 x3 x4 x5 (nI td), zi G b0 160 fb, zo3 tt co en sk wr (nI tx), zr G co 6 fc, zi G c0 160 fcr0, zi G c1 160 fcr1, zi G c2 160 fcr2, zi G c3 160 fcr3, zi G c4 160 fcr4, zi G c5 160 fcr5, zr G en 6 fe, zi G e0 3 (nF fer0), zi G e1 3 (nF fer1), zi G e2 3 (nF fer2), zi G e3 3 (nF fer3), zi G e4 3 (nF fer4), zi G e5 3 (nF fer5), zi G sk 32 fsk, zo0 nw tt n1 n2 n3 n4 n5 n6 n7 n8 (nI jg) (nI pb) (nI lw), zi G n1 6 fnm, zi G n2 4 fso, zi G n3 4 fmi, zi G n4 4 fpa, zi G n5 6 fki, zi G n6 6 fmo, zi G n7 6 fsz, zi G n8 6 frd, zo0 th tt t1 t2 t3 t4 t5 t6 t7 t8 tj tb tl, zi G t1 6 unm, zi G t2 4 uso, zi G t3 4 umi, zi G t4 4 upa, zi G t5 6 uki, zi G t6 6 umo, zi G t7 6 usz, zi G t8 6 urd, zo0 kp tt k1 k2 k3 k4 k5 k6 k7 k8 (nI kj) (nI kb) (nI kl), zi G k1 6 gnm, zi G k2 4 gso, zi G k3 4 gmi, zi G k4 4 gpa, zi G k5 6 gki, zi G k6 6 gmo, zi G k7 6 gsz, zi G k8 6 grd, zi G r2 40 fs2, zi G r3 40 fs3, zo4 tu tw tr, zr G tw 6 fw, zi G w0 6 fw0, zi G w1 6 fw1, zi G w2 6 fw2, zi G w3 6 fw3, zi G w4 6 fw4, zi G w5 6 fw5, zi G tr 64 ftr, zo6 mo (nI Npb) Akd Amo Ast (nI Njg) Aro Atp (nI Ntd) Acd Asr (nI Ntx) (nI Nru) Zhi Air Aih Ass Asq Ace Alw Z19 Z20 Z21 Z22 Awo Ahe Z25 Z26 Z27 Ask Ana Akp Z31 Z32 Z33 Z34 Agb Ago Afa Aga Z39 Z40 Avo, zi G Akd 6 Fkd, zi G Amo 6 Fmo, zi G Ast 12 Fst, zi G Aro 12 Fro, zi G Atp 160 Ftp, zi G Acd 1200 Fcd, zi G Asr 24 (nF Fsr), zi G Air 24 Fir, zi G Aih 3 Fih, zi G Ass 4 Fss, zi G Asq 4 (nF Fsq), zi G Ace 160 Fce, zi G Alw 40 Flw, zi G Awo 96 Fwo, zi G Ahe 200 Fhe, zi G Ask 200 Fsk, zi G Ana 6 Fna, zi G Akp 24 Fkp, zb G Agb 61 Fgb, zb G Ago 61 Fgo, zi G Afa 36 Ffa, zi G Aga 36 Fga, zi G Avo 64 Fvo, zo5 xo tt rd nw th kp sh tu him, zo2 sh qn qo ql, zr G qn 4 fn, zi G qo 4 fqo, zi G ql 4 (nF fql), zi G r0 40 fs0, zi G r1 40 (m_X5_copy_A_r2 fql fqo fs0 fs1 sn on9 v2 v4 v5)] H := gJoin hP hD hk1 hFc hP1 hD1 [0, 46, 47, 52, 53, 48, 49] [1, 2, 3, 4, 5, 6, 7, 8, 9, 10, 11, 12, 13, 14, 15, 16, 17, 18, 19, 20, 21, 22, 23, 24, 25, 26, 27, 28, 29, 30, 31, 32, 33, 34, 35, 36, 37, 38, 39, 40, 41, 42, 43, 44, 45, 50, 51, 54, 55, 56, 57, 58, 59, 60, 61, 62, 63, 64, 65, 66, 67, 68, 69, 70, 71, 72, 73, 74, 75, 76, 77, 78, 79, 80, 81, 82, 83, 84, 85, 86] rfl rfl rfl (by decide +kernel) (by decide +kernel)
  have hP := hz9.1
  have hD := hz9.2
  subst w_12
  refine lv_pop hx hb dL_law_1494 rfl ?_
  refine lv_aload_n hx hb dL_law_1495 rfl (lv_at hl 1 rfl) ?_
  refine lv_aload_n hx hb dL_law_1496 rfl (lv_at hl 3 rfl) ?_
  refine lv_iload_n hx hb dL_law_1497 rfl (lv_at hl 0 rfl) ?_
  refine lv_iconst (v := 1) hx hb dL_law_1498 (by decide +kernel) ?_
  refine lv_iadd hx hb dL_law_1499 ?_
  refine lv_topi (fun v_13 ev_13 => ?_)
  have ev_13 : v_13 = nI ((7 * i7) + 1) := ev_13.trans (nI_add (7 * i7) 1)
  subst ev_13
  refine va_sld hx hb hX hbl hbA hS (i := nI ((7 * i7) + 1)) (vp_in_nI (by omega) (by omega)) dL_law_1500 ?_
  refine lv_topi (fun v_14 ev_14 => ?_)
  have ev_14 : (nI sn) = v_14 := (ev_14.trans (by rw [nI_clamp (by omega)]; exact hv1.symm)).symm
  subst ev_14
  refine lv_aload_n hx hb dL_law_1501 rfl (lv_at hl 3 rfl) ?_
  refine lv_iload_n hx hb dL_law_1502 rfl (lv_at hl 0 rfl) ?_
  refine lv_iconst (v := 2) hx hb dL_law_1503 (by decide +kernel) ?_
  refine lv_iadd hx hb dL_law_1504 ?_
  refine lv_topi (fun v_15 ev_15 => ?_)
  have ev_15 : v_15 = nI ((7 * i7) + 2) := ev_15.trans (nI_add (7 * i7) 2)
  subst ev_15
  refine va_sld hx hb hX hbl hbA hS (i := nI ((7 * i7) + 2)) (vp_in_nI (by omega) (by omega)) dL_law_1505 ?_
  refine lv_topi (fun v_16 ev_16 => ?_)
  have ev_16 : v2 = v_16 := (ev_16.trans (by rw [nI_clamp (by omega)]; exact hv2.symm)).symm
  subst ev_16
  refine lv_aload_n hx hb dL_law_1506 rfl (lv_at hl 3 rfl) ?_
  refine lv_iload_n hx hb dL_law_1507 rfl (lv_at hl 0 rfl) ?_
  refine lv_iconst (v := 3) hx hb dL_law_1508 (by decide +kernel) ?_
  refine lv_iadd hx hb dL_law_1509 ?_
  refine lv_topi (fun v_17 ev_17 => ?_)
  have ev_17 : v_17 = nI ((7 * i7) + 3) := ev_17.trans (nI_add (7 * i7) 3)
  subst ev_17
  refine va_sld hx hb hX hbl hbA hS (i := nI ((7 * i7) + 3)) (vp_in_nI (by omega) (by omega)) dL_law_1510 ?_
  refine lv_topi (fun v_18 ev_18 => ?_)
  have ev_18 : (nI on9) = v_18 := (ev_18.trans (by rw [nI_clamp (by omega)]; exact hv3.symm)).symm
  subst ev_18
  refine lv_aload_n hx hb dL_law_1511 rfl (lv_at hl 3 rfl) ?_
  refine lv_iload_n hx hb dL_law_1512 rfl (lv_at hl 0 rfl) ?_
  refine lv_iconst (v := 4) hx hb dL_law_1513 (by decide +kernel) ?_
  refine lv_iadd hx hb dL_law_1514 ?_
  refine lv_topi (fun v_19 ev_19 => ?_)
  have ev_19 : v_19 = nI ((7 * i7) + 4) := ev_19.trans (nI_add (7 * i7) 4)
  subst ev_19
  refine va_sld hx hb hX hbl hbA hS (i := nI ((7 * i7) + 4)) (vp_in_nI (by omega) (by omega)) dL_law_1515 ?_
  refine lv_topi (fun v_20 ev_20 => ?_)
  have ev_20 : v4 = v_20 := (ev_20.trans (by rw [nI_clamp (by omega)]; exact hv4.symm)).symm
  subst ev_20
  refine lv_aload_n hx hb dL_law_1516 rfl (lv_at hl 3 rfl) ?_
  refine lv_iload_n hx hb dL_law_1517 rfl (lv_at hl 0 rfl) ?_
  refine lv_iconst (v := 5) hx hb dL_law_1518 (by decide +kernel) ?_
  refine lv_iadd hx hb dL_law_1519 ?_
  refine lv_topi (fun v_21 ev_21 => ?_)
  have ev_21 : v_21 = nI ((7 * i7) + 5) := ev_21.trans (nI_add (7 * i7) 5)
  subst ev_21
  refine va_sld hx hb hX hbl hbA hS (i := nI ((7 * i7) + 5)) (vp_in_nI (by omega) (by omega)) dL_law_1520 ?_
  refine lv_topi (fun v_22 ev_22 => ?_)
  have ev_22 : v5 = v_22 := (ev_22.trans (by rw [nI_clamp (by omega)]; exact hv5.symm)).symm
  subst ev_22
  have hz9 : gPD G A [zo6 mo (nI Npb) Akd Amo Ast (nI Njg) Aro Atp (nI Ntd) Acd Asr (nI Ntx) (nI Nru) Zhi Air Aih Ass Asq Ace Alw Z19 Z20 Z21 Z22 Awo Ahe Z25 Z26 Z27 Ask Ana Akp Z31 Z32 Z33 Z34 Agb Ago Afa Aga Z39 Z40 Avo, zi G Ass 4 Fss, zi G Asq 4 (nF Fsq), zi G Ace 160 Fce] H := ⟨hP.sub [56, 66, 67, 68] rfl, hD.sub [56, 66, 67, 68] (by decide +kernel) rfl⟩
  have hPc := hz9.1
  have hDc := hz9.2
  have hFc := gFree hPc hD hS hA [56, 66, 67, 68] rfl
  refine va_calli (va_runV (As := [.int (nI sn), .int v2, .int (nI on9), .int v4, .int v5]) (rest := []) ⟨hx, hb, hml, hown, hts⟩ (c_X6_copy l G mo Akd Amo Ast Aro Atp Acd Asr Air Aih Ass Asq Ace Alw Awo Ahe Ask Ana Akp Agb Ago Afa Aga Avo Npb Njg Ntd Ntx Nru Zhi Z19 Z20 Z21 Z22 Z25 Z26 Z27 Z31 Z32 Z33 Z34 Z39 Z40 Fss Fsq Fce (nI sn) v2 (nI on9) v4 v5 H.size (by first | exact hsq | assumption | omega) (by first | exact hpb | assumption | omega) (by first | exact hjg | assumption | omega) (by first | exact htx | assumption | omega) (by first | exact hru | assumption | omega)) (cwV 5 hts gL_law_X6_copy rfl rfl rfl (by decide +kernel) ⟨Nat.le_of_ble_eq_true rfl, Nat.le_of_ble_eq_true rfl⟩) ⟨gPre_blind, va_recv hK hPc (ci := 6) (q0 := 0) rfl rfl, fun U hU hW => gPre_of hU hW hK hPc hDc⟩ rfl rfl hl.1 rfl (lv_room (Nat.le_of_ble_eq_true rfl)) dL_law_1521 ⟨Nat.le_of_ble_eq_true rfl, Nat.le_of_ble_eq_true rfl⟩) hS (fun q _ h => hFc q h) hFc (fun r_23 u t H locs ht hvm w_24 hB hz1 hk1 hS => ?_)
  obtain ⟨hP1, hK1, hD1⟩ := hB
  rw [ht] at hP1
  have hz9 : gPD G (va_A _ _) [zo6 mo (nI Npb) Akd Amo Ast (nI Njg) Aro Atp (nI Ntd) Acd Asr (nI Ntx) (nI Nru) Zhi Air Aih Ass Asq Ace Alw Z19 Z20 Z21 Z22 Awo Ahe Z25 Z26 Z27 Ask Ana Akp Z31 Z32 Z33 Z34 Agb Ago Afa Aga Z39 Z40 Avo, zi G Ass 4 Fss, zi G Asq 4 (nF Fsq), zi G Ace 160 (m_X6_copy_ce Fss Fsq Fce (nI sn) v2 (nI on9) v4 v5)] H := ⟨hP1, hD1⟩
  have hP1 := hz9.1
  have hD1 := hz9.2
  have w_24 : r_23 = m_X6_copy Fss Fsq (nI sn) v2 (nI on9) v4 v5 := w_24
  have hz9 : gPD G A [zo1 rd tt b0 x2 x3 x4 x5 (nI td), zi G b0 160 fb, zo3 tt co en sk wr (nI tx), zr G co 6 fc, zi G c0 160 fcr0, zi G c1 160 fcr1, zi G c2 160 fcr2, zi G c3 160 fcr3, zi G c4 160 fcr4, zi G c5 160 fcr5, zr G en 6 fe, zi G e0 3 (nF fer0), zi G e1 3 (nF fer1), zi G e2 3 (nF fer2), zi G e3 3 (nF fer3), zi G e4 3 (nF fer4), zi G e5 3 (nF fer5), zi G sk 32 fsk, zo0 nw tt n1 n2 n3 n4 n5 n6 n7 n8 (nI jg) (nI pb) (nI lw), zi G n1 6 fnm, zi G n2 4 fso, zi G n3 4 fmi, zi G n4 4 fpa, zi G n5 6 fki, zi G n6 6 fmo, zi G n7 6 fsz, zi G n8 6 frd, zo0 th tt t1 t2 t3 t4 t5 t6 t7 t8 tj tb tl, zi G t1 6 unm, zi G t2 4 uso, zi G t3 4 umi, zi G t4 4 upa, zi G t5 6 uki, zi G t6 6 umo, zi G t7 6 usz, zi G t8 6 urd, zo0 kp tt k1 k2 k3 k4 k5 k6 k7 k8 (nI kj) (nI kb) (nI kl), zi G k1 6 gnm, zi G k2 4 gso, zi G k3 4 gmi, zi G k4 4 gpa, zi G k5 6 gki, zi G k6 6 gmo, zi G k7 6 gsz, zi G k8 6 grd, zi G r2 40 fs2, zi G r3 40 fs3, zo4 tu tw tr, zr G tw 6 fw, zi G w0 6 fw0, zi G w1 6 fw1, zi G w2 6 fw2, zi G w3 6 fw3, zi G w4 6 fw4, zi G w5 6 fw5, zi G tr 64 ftr, zi G Akd 6 Fkd, zi G Amo 6 Fmo, zi G Ast 12 Fst, zi G Aro 12 Fro, zi G Atp 160 Ftp, zi G Acd 1200 Fcd, zi G Asr 24 (nF Fsr), zi G Air 24 Fir, zi G Aih 3 Fih, zi G Alw 40 Flw, zi G Awo 96 Fwo, zi G Ahe 200 Fhe, zi G Ask 200 Fsk, zi G Ana 6 Fna, zi G Akp 24 Fkp, zb G Agb 61 Fgb, zb G Ago 61 Fgo, zi G Afa 36 Ffa, zi G Aga 36 Fga, zi G Avo 64 Fvo, zo5 xo tt rd nw th kp sh tu him, zo2 sh qn qo ql, zr G qn 4 fn, zi G qo 4 fqo, zi G ql 4 (nF fql), zi G r0 40 fs0, zi G r1 40 (m_X5_copy_A_r2 fql fqo fs0 fs1 sn on9 v2 v4 v5), zo6 mo (nI Npb) Akd Amo Ast (nI Njg) Aro Atp (nI Ntd) Acd Asr (nI Ntx) (nI Nru) Zhi Air Aih Ass Asq Ace Alw Z19 Z20 Z21 Z22 Awo Ahe Z25 Z26 Z27 Ask Ana Akp Z31 Z32 Z33 Z34 Agb Ago Afa Aga Z39 Z40 Avo, zi G Ass 4 Fss, zi G Asq 4 (nF Fsq), zi G Ace 160 (m_X6_copy_ce Fss Fsq Fce (nI sn) v2 (nI on9) v4 v5)] H := gJoin hP hD hk1 hFc hP1 hD1 [56, 66, 67, 68] [0, 1, 2, 3, 4, 5, 6, 7, 8, 9, 10, 11, 12, 13, 14, 15, 16, 17, 18, 19, 20, 21, 22, 23, 24, 25, 26, 27, 28, 29, 30, 31, 32, 33, 34, 35, 36, 37, 38, 39, 40, 41, 42, 43, 44, 45, 46, 47, 48, 49, 50, 51, 52, 53, 54, 55, 57, 58, 59, 60, 61, 62, 63, 64, 65, 69, 70, 71, 72, 73, 74, 75, 76, 77, 78, 79, 80, 81, 82, 83, 84, 85, 86] rfl rfl rfl (by decide +kernel) (by decide +kernel)
  have hP := hz9.1
  have hD := hz9.2
  subst w_24
  refine lv_pop hx hb dL_law_1524 rfl ?_
  refine lv_goto (tgt := 1614) hx hb dL_law_1525 (by decide +kernel) ?_
  refine lv_iinc (v := nI (7 * (i7 + 1))) (lv' := [zI 3 (nI (7 * (i7 + 1))), zR 2 mo, zR 1 xo, zR 0 b]) hx hb dL_law_1614 hl (k := 0) rfl (by show nI (7 * i7) + 7 = nI (7 * (i7 + 1)); exact nI_add (7 * i7) 7) (by decide +kernel) rfl (fun ls hl => ?_)
  refine lv_goto (tgt := 18) hx hb dL_law_1617 (by decide +kernel) ?_
  exact K him x2 x3 x4 x5 td fb wr fsk jg pb lw fnm fso fmi fpa fki fmo fsz frd tj tb tl unm uso umi upa uki umo usz urd kj kb kl gnm gso gmi gpa gki gmo gsz grd fs0 (m_X5_copy_A_r2 fql fqo fs0 fs1 sn on9 v2 v4 v5) fs2 fs3 fqo fql fw0 fw1 fw2 fw3 fw4 fw5 ftr Npb Njg Ntd Ntx Nru Zhi Z19 Z20 Z21 Z22 Z25 Z26 Z27 Z31 Z32 Z33 Z34 Z39 Z40 Fkd Fmo Fst Fro Ftp Fcd Fsr Fir Fih Fss Fsq (m_X6_copy_ce Fss Fsq Fce (nI sn) v2 (nI on9) v4 v5) Flw Fwo Fhe Fsk Fna Fkp Fgb Fgo Ffa Fga Fvo hFX hFM (rl_copy_A hsn hrw hon hr2 n10 n12 n13 hql hRL) hRQ H _ ls (hP.sub [76, 0, 1, 2, 3, 4, 5, 6, 7, 8, 9, 10, 11, 12, 13, 14, 15, 16, 17, 18, 19, 20, 21, 22, 23, 24, 25, 26, 27, 28, 29, 30, 31, 32, 33, 34, 35, 36, 37, 38, 39, 40, 41, 42, 43, 44, 77, 78, 81, 82, 45, 46, 79, 80, 47, 48, 49, 50, 51, 52, 53, 54, 55, 83, 56, 57, 58, 59, 60, 61, 62, 63, 64, 84, 85, 86, 65, 66, 67, 68, 69, 70, 71, 72, 73, 74, 75] rfl) (hD.sub [76, 0, 1, 2, 3, 4, 5, 6, 7, 8, 9, 10, 11, 12, 13, 14, 15, 16, 17, 18, 19, 20, 21, 22, 23, 24, 25, 26, 27, 28, 29, 30, 31, 32, 33, 34, 35, 36, 37, 38, 39, 40, 41, 42, 43, 44, 77, 78, 81, 82, 45, 46, 79, 80, 47, 48, 49, 50, 51, 52, 53, 54, 55, 83, 56, 57, 58, 59, 60, 61, 62, 63, 64, 84, 85, 86, 65, 66, 67, 68, 69, 70, 71, 72, 73, 74, 75] (by decide +kernel) rfl) hS (lv_sub hl [0, 1, 2, 3] rfl)
set_option maxHeartbeats 4000000 in
set_option maxRecDepth 100000 in
theorem lc_copy_S {p : Program} {l : Launch} {e : Env} {s : State} {m : MethodId} {below : List Frame} {meth : Method} {c : Code} {b L : Nat} {xs : Nat → Int32} {G : gG} {E : gS} {A : Nat → Prop} (C0 : lw_At p s m meth c b L xs) (hE : gE E A s s.heap) (hK : gK G s) (hAe : A = fun q => s.heap.size ≤ q) {xo tt rd nw th kp sh tu b0 co en sk c0 c1 c2 c3 c4 c5 e0 e1 e2 e3 e4 e5 n1 n2 n3 n4 n5 n6 n7 n8 t1 t2 t3 t4 t5 t6 t7 t8 k1 k2 k3 k4 k5 k6 k7 k8 qn qo ql r0 r1 r2 r3 tw tr w0 w1 w2 w3 w4 w5 mo Akd Amo Ast Aro Atp Acd Asr Air Aih Ass Asq Ace Alw Awo Ahe Ask Ana Akp Agb Ago Afa Aga Avo : Nat} {fc fe fn fw : Nat → Option Nat} {tx : Nat} {fcr0 fcr1 fcr2 fcr3 fcr4 fcr5 : Nat → Int32} {fer0 fer1 fer2 fer3 fer4 fer5 : Nat → Nat} {him x2 x3 x4 x5 : Int32} {td : Nat} {fb : Nat → Int32} {wr : Int32} {fsk : Nat → Int32} {jg pb lw : Nat} {fnm fso fmi fpa fki fmo fsz frd : Nat → Int32} {tj tb tl : Int32} {unm uso umi upa uki umo usz urd : Nat → Int32} {kj kb kl : Nat} {gnm gso gmi gpa gki gmo gsz grd fs0 fs1 fs2 fs3 fqo : Nat → Int32} {fql : Nat → Nat} {fw0 fw1 fw2 fw3 fw4 fw5 ftr : Nat → Int32} {Npb Njg Ntd Ntx Nru : Nat} {Zhi Z19 Z20 Z21 Z22 Z25 Z26 Z27 Z31 Z32 Z33 Z34 Z39 Z40 : Int32} {Fkd Fmo Fst Fro Ftp Fcd : Nat → Int32} {Fsr : Nat → Nat} {Fir Fih Fss : Nat → Int32} {Fsq : Nat → Nat} {Fce Flw Fwo Fhe Fsk Fna Fkp Fgb Fgo Ffa Fga Fvo : Nat → Int32} {sn : Nat} {v2 v4 v5 v6 : Int32} {i7 : Nat} (hi : 7 * i7 + 7 ≤ L) (hL : L ≤ 3584) (hv1 : (nI sn) = xs (7 * i7 + 1)) (hv2 : v2 = xs (7 * i7 + 2)) (hv3 : (nI sn) = xs (7 * i7 + 3)) (hv4 : v4 = xs (7 * i7 + 4)) (hv5 : v5 = xs (7 * i7 + 5)) (hv6 : v6 = xs (7 * i7 + 6)) (hsn : sn < 4) (hrw : fn sn = some r0) (K : LawV p l e s m below meth c b G A xo tt rd nw th kp sh tu b0 co en sk c0 c1 c2 c3 c4 c5 e0 e1 e2 e3 e4 e5 n1 n2 n3 n4 n5 n6 n7 n8 t1 t2 t3 t4 t5 t6 t7 t8 k1 k2 k3 k4 k5 k6 k7 k8 qn qo ql r0 r1 r2 r3 tw tr w0 w1 w2 w3 w4 w5 mo Akd Amo Ast Aro Atp Acd Asr Air Aih Ass Asq Ace Alw Awo Ahe Ask Ana Akp Agb Ago Afa Aga Avo fc fe fn fw tx fcr0 fcr1 fcr2 fcr3 fcr4 fcr5 fer0 fer1 fer2 fer3 fer4 fer5 (i7 + 1)) (hFX : FXP jg pb lw kj kb kl tx td him fql) (hFM : FMP Npb Njg Ntd Ntx Nru Zhi Fcd Fsr Fsq Fir Fih) (hRL : RLP False fn r0 r1 r2 r3 jg pb kj kb him fs0 fs1 fs2 fs3 fqo fql Npb Njg Zhi Fss Fsq Fce Fih) (hRQ : RQP fc c0 c1 c2 c3 c4 c5 fcr0 fcr1 fcr2 fcr3 fcr4 fcr5 fer0 fer1 fer2 fer3 fer4 fer5 pb lw tx td kb kl him fb fso fmi fpa fki fmo fsz frd gso gmi gpa gki gmo gsz grd Nru Ntx Ntd Fkd Fmo Fst Fro Ftp Fcd Fsr Fir Fih Fwo) {H : Heap} {locs : List Loc} (hP : va_P G.1 vwCl (WLd G xo tt rd nw th kp sh tu b0 co en sk c0 c1 c2 c3 c4 c5 e0 e1 e2 e3 e4 e5 n1 n2 n3 n4 n5 n6 n7 n8 t1 t2 t3 t4 t5 t6 t7 t8 k1 k2 k3 k4 k5 k6 k7 k8 qn qo ql r0 r1 r2 r3 tw tr w0 w1 w2 w3 w4 w5 mo Akd Amo Ast Aro Atp Acd Asr Air Aih Ass Asq Ace Alw Awo Ahe Ask Ana Akp Agb Ago Afa Aga Avo fc fe fn fw tx fcr0 fcr1 fcr2 fcr3 fcr4 fcr5 fer0 fer1 fer2 fer3 fer4 fer5 him x2 x3 x4 x5 td fb wr fsk jg pb lw fnm fso fmi fpa fki fmo fsz frd tj tb tl unm uso umi upa uki umo usz urd kj kb kl gnm gso gmi gpa gki gmo gsz grd fs0 fs1 fs2 fs3 fqo fql fw0 fw1 fw2 fw3 fw4 fw5 ftr Npb Njg Ntd Ntx Nru Zhi Z19 Z20 Z21 Z22 Z25 Z26 Z27 Z31 Z32 Z33 Z34 Z39 Z40 Fkd Fmo Fst Fro Ftp Fcd Fsr Fir Fih Fss Fsq Fce Flw Fwo Fhe Fsk Fna Fkp Fgb Fgo Ffa Fga Fvo) H) (hD : va_D A (WLd G xo tt rd nw th kp sh tu b0 co en sk c0 c1 c2 c3 c4 c5 e0 e1 e2 e3 e4 e5 n1 n2 n3 n4 n5 n6 n7 n8 t1 t2 t3 t4 t5 t6 t7 t8 k1 k2 k3 k4 k5 k6 k7 k8 qn qo ql r0 r1 r2 r3 tw tr w0 w1 w2 w3 w4 w5 mo Akd Amo Ast Aro Atp Acd Asr Air Aih Ass Asq Ace Alw Awo Ahe Ask Ana Akp Agb Ago Afa Aga Avo fc fe fn fw tx fcr0 fcr1 fcr2 fcr3 fcr4 fcr5 fer0 fer1 fer2 fer3 fer4 fer5 him x2 x3 x4 x5 td fb wr fsk jg pb lw fnm fso fmi fpa fki fmo fsz frd tj tb tl unm uso umi upa uki umo usz urd kj kb kl gnm gso gmi gpa gki gmo gsz grd fs0 fs1 fs2 fs3 fqo fql fw0 fw1 fw2 fw3 fw4 fw5 ftr Npb Njg Ntd Ntx Nru Zhi Z19 Z20 Z21 Z22 Z25 Z26 Z27 Z31 Z32 Z33 Z34 Z39 Z40 Fkd Fmo Fst Fro Ftp Fcd Fsr Fir Fih Fss Fsq Fce Flw Fwo Fhe Fsk Fna Fkp Fgb Fgo Ffa Fga Fvo)) (hS : va_S A s.heap H locs) {ls : Array Slot} (hl : lv_has ls 4 [zI 3 (nI (7 * i7)), zR 2 mo, zR 1 xo, zR 0 b]) : W p l e room_1 s m #[Value.ref b] below meth c H locs 87 4128 (lw_Z below #[Value.ref b] s) (F0 m 1465 ls []) := by
  obtain ⟨hx, hb, hret, hml, hown, hts0, hX, hbl, hlocks, hgv⟩ := id C0
  have hts : ∀ w ∈ wsL_law, w.before #[Value.ref b] s = true := fun w h => hts0 w (wsL_law_in w h)
  have hown : s.vm.findClass RL = some m.cls := hown
  have hA : ∀ q : Nat, s.heap.size ≤ q → A q := fun q h => by rw [hAe]; exact h
  have hbA : ¬ A b := by rw [hAe]; exact Nat.not_le.mpr hbl
  obtain ⟨⟨hjg, hpb, hlw, htx, htd⟩, hkk, hql⟩ := id hFX
  obtain ⟨⟨hNpb, hNjg, hNru, hNtx, hNtd⟩, hwa, hsq, hIM⟩ := id hFM
  have hz9 : gPD G A [zo5 xo tt rd nw th kp sh tu him, zo1 rd tt b0 x2 x3 x4 x5 (nI td), zi G b0 160 fb, zo3 tt co en sk wr (nI tx), zr G co 6 fc, zi G c0 160 fcr0, zi G c1 160 fcr1, zi G c2 160 fcr2, zi G c3 160 fcr3, zi G c4 160 fcr4, zi G c5 160 fcr5, zr G en 6 fe, zi G e0 3 (nF fer0), zi G e1 3 (nF fer1), zi G e2 3 (nF fer2), zi G e3 3 (nF fer3), zi G e4 3 (nF fer4), zi G e5 3 (nF fer5), zi G sk 32 fsk, zo0 nw tt n1 n2 n3 n4 n5 n6 n7 n8 (nI jg) (nI pb) (nI lw), zi G n1 6 fnm, zi G n2 4 fso, zi G n3 4 fmi, zi G n4 4 fpa, zi G n5 6 fki, zi G n6 6 fmo, zi G n7 6 fsz, zi G n8 6 frd, zo0 th tt t1 t2 t3 t4 t5 t6 t7 t8 tj tb tl, zi G t1 6 unm, zi G t2 4 uso, zi G t3 4 umi, zi G t4 4 upa, zi G t5 6 uki, zi G t6 6 umo, zi G t7 6 usz, zi G t8 6 urd, zo0 kp tt k1 k2 k3 k4 k5 k6 k7 k8 (nI kj) (nI kb) (nI kl), zi G k1 6 gnm, zi G k2 4 gso, zi G k3 4 gmi, zi G k4 4 gpa, zi G k5 6 gki, zi G k6 6 gmo, zi G k7 6 gsz, zi G k8 6 grd, zo2 sh qn qo ql, zr G qn 4 fn, zi G r0 40 fs0, zi G r1 40 fs1, zi G r2 40 fs2, zi G r3 40 fs3, zi G qo 4 fqo, zi G ql 4 (nF fql), zo4 tu tw tr, zr G tw 6 fw, zi G w0 6 fw0, zi G w1 6 fw1, zi G w2 6 fw2, zi G w3 6 fw3, zi G w4 6 fw4, zi G w5 6 fw5, zi G tr 64 ftr, zo6 mo (nI Npb) Akd Amo Ast (nI Njg) Aro Atp (nI Ntd) Acd Asr (nI Ntx) (nI Nru) Zhi Air Aih Ass Asq Ace Alw Z19 Z20 Z21 Z22 Awo Ahe Z25 Z26 Z27 Ask Ana Akp Z31 Z32 Z33 Z34 Agb Ago Afa Aga Z39 Z40 Avo, zi G Akd 6 Fkd, zi G Amo 6 Fmo, zi G Ast 12 Fst, zi G Aro 12 Fro, zi G Atp 160 Ftp, zi G Acd 1200 Fcd, zi G Asr 24 (nF Fsr), zi G Air 24 Fir, zi G Aih 3 Fih, zi G Ass 4 Fss, zi G Asq 4 (nF Fsq), zi G Ace 160 Fce, zi G Alw 40 Flw, zi G Awo 96 Fwo, zi G Ahe 200 Fhe, zi G Ask 200 Fsk, zi G Ana 6 Fna, zi G Akp 24 Fkp, zb G Agb 61 Fgb, zb G Ago 61 Fgo, zi G Afa 36 Ffa, zi G Aga 36 Fga, zi G Avo 64 Fvo] H := ⟨hP, hD⟩
  have hP := hz9.1
  have hD := hz9.2
  have n01 : r0 ≠ r1 := fun z => absurd (hD.1 48 49 _ _ rfl rfl z) (by decide +kernel)
  have n02 : r0 ≠ r2 := fun z => absurd (hD.1 48 50 _ _ rfl rfl z) (by decide +kernel)
  have n03 : r0 ≠ r3 := fun z => absurd (hD.1 48 51 _ _ rfl rfl z) (by decide +kernel)
  refine lv_aload_n hx hb dL_law_1465 rfl (lv_at hl 2 rfl) ?_
  refine lv_aload_n hx hb dL_law_1466 rfl (lv_at hl 3 rfl) ?_
  refine lv_iload_n hx hb dL_law_1467 rfl (lv_at hl 0 rfl) ?_
  refine lv_iconst (v := 1) hx hb dL_law_1468 (by decide +kernel) ?_
  refine lv_iadd hx hb dL_law_1469 ?_
  refine lv_topi (fun v_1 ev_1 => ?_)
  have ev_1 : v_1 = nI ((7 * i7) + 1) := ev_1.trans (nI_add (7 * i7) 1)
  subst ev_1
  refine va_sld hx hb hX hbl hbA hS (i := nI ((7 * i7) + 1)) (vp_in_nI (by omega) (by omega)) dL_law_1470 ?_
  refine lv_topi (fun v_2 ev_2 => ?_)
  have ev_2 : (nI sn) = v_2 := (ev_2.trans (by rw [nI_clamp (by omega)]; exact hv1.symm)).symm
  subst ev_2
  refine lv_aload_n hx hb dL_law_1471 rfl (lv_at hl 3 rfl) ?_
  refine lv_iload_n hx hb dL_law_1472 rfl (lv_at hl 0 rfl) ?_
  refine lv_iconst (v := 2) hx hb dL_law_1473 (by decide +kernel) ?_
  refine lv_iadd hx hb dL_law_1474 ?_
  refine lv_topi (fun v_3 ev_3 => ?_)
  have ev_3 : v_3 = nI ((7 * i7) + 2) := ev_3.trans (nI_add (7 * i7) 2)
  subst ev_3
  refine va_sld hx hb hX hbl hbA hS (i := nI ((7 * i7) + 2)) (vp_in_nI (by omega) (by omega)) dL_law_1475 ?_
  refine lv_topi (fun v_4 ev_4 => ?_)
  have ev_4 : v2 = v_4 := (ev_4.trans (by rw [nI_clamp (by omega)]; exact hv2.symm)).symm
  subst ev_4
  refine lv_aload_n hx hb dL_law_1476 rfl (lv_at hl 3 rfl) ?_
  refine lv_iload_n hx hb dL_law_1477 rfl (lv_at hl 0 rfl) ?_
  refine lv_iconst (v := 3) hx hb dL_law_1478 (by decide +kernel) ?_
  refine lv_iadd hx hb dL_law_1479 ?_
  refine lv_topi (fun v_5 ev_5 => ?_)
  have ev_5 : v_5 = nI ((7 * i7) + 3) := ev_5.trans (nI_add (7 * i7) 3)
  subst ev_5
  refine va_sld hx hb hX hbl hbA hS (i := nI ((7 * i7) + 3)) (vp_in_nI (by omega) (by omega)) dL_law_1480 ?_
  refine lv_topi (fun v_6 ev_6 => ?_)
  have ev_6 : (nI sn) = v_6 := (ev_6.trans (by rw [nI_clamp (by omega)]; exact hv3.symm)).symm
  subst ev_6
  refine lv_aload_n hx hb dL_law_1481 rfl (lv_at hl 3 rfl) ?_
  refine lv_iload_n hx hb dL_law_1482 rfl (lv_at hl 0 rfl) ?_
  refine lv_iconst (v := 4) hx hb dL_law_1483 (by decide +kernel) ?_
  refine lv_iadd hx hb dL_law_1484 ?_
  refine lv_topi (fun v_7 ev_7 => ?_)
  have ev_7 : v_7 = nI ((7 * i7) + 4) := ev_7.trans (nI_add (7 * i7) 4)
  subst ev_7
  refine va_sld hx hb hX hbl hbA hS (i := nI ((7 * i7) + 4)) (vp_in_nI (by omega) (by omega)) dL_law_1485 ?_
  refine lv_topi (fun v_8 ev_8 => ?_)
  have ev_8 : v4 = v_8 := (ev_8.trans (by rw [nI_clamp (by omega)]; exact hv4.symm)).symm
  subst ev_8
  refine lv_aload_n hx hb dL_law_1486 rfl (lv_at hl 3 rfl) ?_
  refine lv_iload_n hx hb dL_law_1487 rfl (lv_at hl 0 rfl) ?_
  refine lv_iconst (v := 5) hx hb dL_law_1488 (by decide +kernel) ?_
  refine lv_iadd hx hb dL_law_1489 ?_
  refine lv_topi (fun v_9 ev_9 => ?_)
  have ev_9 : v_9 = nI ((7 * i7) + 5) := ev_9.trans (nI_add (7 * i7) 5)
  subst ev_9
  refine va_sld hx hb hX hbl hbA hS (i := nI ((7 * i7) + 5)) (vp_in_nI (by omega) (by omega)) dL_law_1490 ?_
  refine lv_topi (fun v_10 ev_10 => ?_)
  have ev_10 : v5 = v_10 := (ev_10.trans (by rw [nI_clamp (by omega)]; exact hv5.symm)).symm
  subst ev_10
  have hz9 : gPD G A [zo5 xo tt rd nw th kp sh tu him, zo2 sh qn qo ql, zr G qn 4 fn, zi G qo 4 fqo, zi G ql 4 (nF fql), zi G r0 40 fs0] H := ⟨hP.sub [0, 46, 47, 52, 53, 48] rfl, hD.sub [0, 46, 47, 52, 53, 48] (by decide +kernel) rfl⟩
  have hPc := hz9.1
  have hDc := hz9.2
  have hFc := gFree hPc hD hS hA [0, 46, 47, 52, 53, 48] rfl
  refine va_calli (va_runV (As := [.int (nI sn), .int v2, .int (nI sn), .int v4, .int v5]) (rest := []) ⟨hx, hb, hml, hown, hts⟩ (c_X5_copy_S l G E xo tt rd nw th kp sh tu qn qo ql r0 him fn fql fqo fs0 sn v2 v4 v5 H.size (by first | exact hsn | assumption | omega) (by first | exact hrw | assumption | omega) (by first | exact hql | assumption | omega)) (cwV 5 hts gL_law_X5_copy rfl rfl rfl (by decide +kernel) ⟨Nat.le_of_ble_eq_true rfl, Nat.le_of_ble_eq_true rfl⟩) ⟨gPreE_blind, va_recv hK hPc (ci := 5) (q0 := 0) rfl rfl, fun U hU hW => gPreE_of hU hW hK hPc hDc hE hS hFc⟩ rfl rfl hl.1 rfl (lv_room (Nat.le_of_ble_eq_true rfl)) dL_law_1491 ⟨Nat.le_of_ble_eq_true rfl, Nat.le_of_ble_eq_true rfl⟩) hS (fun q _ h => hFc q h) hFc (fun r_11 u t H locs ht hvm w_12 hB hz1 hk1 hS => ?_)
  obtain ⟨hP1, hK1, hD1⟩ := hB
  rw [ht] at hP1
  have hz9 : gPD G (va_A _ _) [zo5 xo tt rd nw th kp sh tu him, zo2 sh qn qo ql, zr G qn 4 fn, zi G qo 4 fqo, zi G ql 4 (nF fql), zi G r0 40 (m_X5_copy_S_rr fql fqo fs0 sn v2 v4 v5)] H := ⟨hP1, hD1⟩
  have hP1 := hz9.1
  have hD1 := hz9.2
  have w_12 : r_11 = m_X5_copy_S fql fqo sn v2 v4 v5 := w_12
  have hz9 : gPD G A [zo1 rd tt b0 x2 x3 x4 x5 (nI td), zi G b0 160 fb, zo3 tt co en sk wr (nI tx), zr G co 6 fc, zi G c0 160 fcr0, zi G c1 160 fcr1, zi G c2 160 fcr2, zi G c3 160 fcr3, zi G c4 160 fcr4, zi G c5 160 fcr5, zr G en 6 fe, zi G e0 3 (nF fer0), zi G e1 3 (nF fer1), zi G e2 3 (nF fer2), zi G e3 3 (nF fer3), zi G e4 3 (nF fer4), zi G e5 3 (nF fer5), zi G sk 32 fsk, zo0 nw tt n1 n2 n3 n4 n5 n6 n7 n8 (nI jg) (nI pb) (nI lw), zi G n1 6 fnm, zi G n2 4 fso, zi G n3 4 fmi, zi G n4 4 fpa, zi G n5 6 fki, zi G n6 6 fmo, zi G n7 6 fsz, zi G n8 6 frd, zo0 th tt t1 t2 t3 t4 t5 t6 t7 t8 tj tb tl, zi G t1 6 unm, zi G t2 4 uso, zi G t3 4 umi, zi G t4 4 upa, zi G t5 6 uki, zi G t6 6 umo, zi G t7 6 usz, zi G t8 6 urd, zo0 kp tt k1 k2 k3 k4 k5 k6 k7 k8 (nI kj) (nI kb) (nI kl), zi G k1 6 gnm, zi G k2 4 gso, zi G k3 4 gmi, zi G k4 4 gpa, zi G k5 6 gki, zi G k6 6 gmo, zi G k7 6 gsz, zi G k8 6 grd, zi G r1 40 fs1, zi G r2 40 fs2, zi G r3 40 fs3, zo4 tu tw tr, zr G tw 6 fw, zi G w0 6 fw0, zi G w1 6 fw1, zi G w2 6 fw2, zi G w3 6 fw3, zi G w4 6 fw4, zi G w5 6 fw5, zi G tr 64 ftr, zo6 mo (nI Npb) Akd Amo Ast (nI Njg) Aro Atp (nI Ntd) Acd Asr (nI Ntx) (nI Nru) Zhi Air Aih Ass Asq Ace Alw Z19 Z20 Z21 Z22 Awo Ahe Z25 Z26 Z27 Ask Ana Akp Z31 Z32 Z33 Z34 Agb Ago Afa Aga Z39 Z40 Avo, zi G Akd 6 Fkd, zi G Amo 6 Fmo, zi G Ast 12 Fst, zi G Aro 12 Fro, zi G Atp 160 Ftp, zi G Acd 1200 Fcd, zi G Asr 24 (nF Fsr), zi G Air 24 Fir, zi G Aih 3 Fih, zi G Ass 4 Fss, zi G Asq 4 (nF Fsq), zi G Ace 160 Fce, zi G Alw 40 Flw, zi G Awo 96 Fwo, zi G Ahe 200 Fhe, zi G Ask 200 Fsk, zi G Ana 6 Fna, zi G Akp 24 Fkp, zb G Agb 61 Fgb, zb G Ago 61 Fgo, zi G Afa 36 Ffa, zi G Aga 36 Fga, zi G Avo 64 Fvo, zo5 xo tt rd nw th kp sh tu him, zo2 sh qn qo ql, zr G qn 4 fn, zi G qo 4 fqo, zi G ql 4 (nF fql), zi G r0 40 (m_X5_copy_S_rr fql fqo fs0 sn v2 v4 v5)] H := gJoin hP hD hk1 hFc hP1 hD1 [0, 46, 47, 52, 53, 48] [1, 2, 3, 4, 5, 6, 7, 8, 9, 10, 11, 12, 13, 14, 15, 16, 17, 18, 19, 20, 21, 22, 23, 24, 25, 26, 27, 28, 29, 30, 31, 32, 33, 34, 35, 36, 37, 38, 39, 40, 41, 42, 43, 44, 45, 49, 50, 51, 54, 55, 56, 57, 58, 59, 60, 61, 62, 63, 64, 65, 66, 67, 68, 69, 70, 71, 72, 73, 74, 75, 76, 77, 78, 79, 80, 81, 82, 83, 84, 85, 86] rfl rfl rfl (by decide +kernel) (by decide +kernel)
  have hP := hz9.1
  have hD := hz9.2
  subst w_12
  refine lv_pop hx hb dL_law_1494 rfl ?_
  refine lv_aload_n hx hb dL_law_1495 rfl (lv_at hl 1 rfl) ?_
  refine lv_aload_n hx hb dL_law_1496 rfl (lv_at hl 3 rfl) ?_
  refine lv_iload_n hx hb dL_law_1497 rfl (lv_at hl 0 rfl) ?_
  refine lv_iconst (v := 1) hx hb dL_law_1498 (by decide +kernel) ?_
  refine lv_iadd hx hb dL_law_1499 ?_
  refine lv_topi (fun v_13 ev_13 => ?_)
  have ev_13 : v_13 = nI ((7 * i7) + 1) := ev_13.trans (nI_add (7 * i7) 1)
  subst ev_13
  refine va_sld hx hb hX hbl hbA hS (i := nI ((7 * i7) + 1)) (vp_in_nI (by omega) (by omega)) dL_law_1500 ?_
  refine lv_topi (fun v_14 ev_14 => ?_)
  have ev_14 : (nI sn) = v_14 := (ev_14.trans (by rw [nI_clamp (by omega)]; exact hv1.symm)).symm
  subst ev_14
  refine lv_aload_n hx hb dL_law_1501 rfl (lv_at hl 3 rfl) ?_
  refine lv_iload_n hx hb dL_law_1502 rfl (lv_at hl 0 rfl) ?_
  refine lv_iconst (v := 2) hx hb dL_law_1503 (by decide +kernel) ?_
  refine lv_iadd hx hb dL_law_1504 ?_
  refine lv_topi (fun v_15 ev_15 => ?_)
  have ev_15 : v_15 = nI ((7 * i7) + 2) := ev_15.trans (nI_add (7 * i7) 2)
  subst ev_15
  refine va_sld hx hb hX hbl hbA hS (i := nI ((7 * i7) + 2)) (vp_in_nI (by omega) (by omega)) dL_law_1505 ?_
  refine lv_topi (fun v_16 ev_16 => ?_)
  have ev_16 : v2 = v_16 := (ev_16.trans (by rw [nI_clamp (by omega)]; exact hv2.symm)).symm
  subst ev_16
  refine lv_aload_n hx hb dL_law_1506 rfl (lv_at hl 3 rfl) ?_
  refine lv_iload_n hx hb dL_law_1507 rfl (lv_at hl 0 rfl) ?_
  refine lv_iconst (v := 3) hx hb dL_law_1508 (by decide +kernel) ?_
  refine lv_iadd hx hb dL_law_1509 ?_
  refine lv_topi (fun v_17 ev_17 => ?_)
  have ev_17 : v_17 = nI ((7 * i7) + 3) := ev_17.trans (nI_add (7 * i7) 3)
  subst ev_17
  refine va_sld hx hb hX hbl hbA hS (i := nI ((7 * i7) + 3)) (vp_in_nI (by omega) (by omega)) dL_law_1510 ?_
  refine lv_topi (fun v_18 ev_18 => ?_)
  have ev_18 : (nI sn) = v_18 := (ev_18.trans (by rw [nI_clamp (by omega)]; exact hv3.symm)).symm
  subst ev_18
  refine lv_aload_n hx hb dL_law_1511 rfl (lv_at hl 3 rfl) ?_
  refine lv_iload_n hx hb dL_law_1512 rfl (lv_at hl 0 rfl) ?_
  refine lv_iconst (v := 4) hx hb dL_law_1513 (by decide +kernel) ?_
  refine lv_iadd hx hb dL_law_1514 ?_
  refine lv_topi (fun v_19 ev_19 => ?_)
  have ev_19 : v_19 = nI ((7 * i7) + 4) := ev_19.trans (nI_add (7 * i7) 4)
  subst ev_19
  refine va_sld hx hb hX hbl hbA hS (i := nI ((7 * i7) + 4)) (vp_in_nI (by omega) (by omega)) dL_law_1515 ?_
  refine lv_topi (fun v_20 ev_20 => ?_)
  have ev_20 : v4 = v_20 := (ev_20.trans (by rw [nI_clamp (by omega)]; exact hv4.symm)).symm
  subst ev_20
  refine lv_aload_n hx hb dL_law_1516 rfl (lv_at hl 3 rfl) ?_
  refine lv_iload_n hx hb dL_law_1517 rfl (lv_at hl 0 rfl) ?_
  refine lv_iconst (v := 5) hx hb dL_law_1518 (by decide +kernel) ?_
  refine lv_iadd hx hb dL_law_1519 ?_
  refine lv_topi (fun v_21 ev_21 => ?_)
  have ev_21 : v_21 = nI ((7 * i7) + 5) := ev_21.trans (nI_add (7 * i7) 5)
  subst ev_21
  refine va_sld hx hb hX hbl hbA hS (i := nI ((7 * i7) + 5)) (vp_in_nI (by omega) (by omega)) dL_law_1520 ?_
  refine lv_topi (fun v_22 ev_22 => ?_)
  have ev_22 : v5 = v_22 := (ev_22.trans (by rw [nI_clamp (by omega)]; exact hv5.symm)).symm
  subst ev_22
  have hz9 : gPD G A [zo6 mo (nI Npb) Akd Amo Ast (nI Njg) Aro Atp (nI Ntd) Acd Asr (nI Ntx) (nI Nru) Zhi Air Aih Ass Asq Ace Alw Z19 Z20 Z21 Z22 Awo Ahe Z25 Z26 Z27 Ask Ana Akp Z31 Z32 Z33 Z34 Agb Ago Afa Aga Z39 Z40 Avo, zi G Ass 4 Fss, zi G Asq 4 (nF Fsq), zi G Ace 160 Fce] H := ⟨hP.sub [57, 67, 68, 69] rfl, hD.sub [57, 67, 68, 69] (by decide +kernel) rfl⟩
  have hPc := hz9.1
  have hDc := hz9.2
  have hFc := gFree hPc hD hS hA [57, 67, 68, 69] rfl
  refine va_calli (va_runV (As := [.int (nI sn), .int v2, .int (nI sn), .int v4, .int v5]) (rest := []) ⟨hx, hb, hml, hown, hts⟩ (c_X6_copy l G mo Akd Amo Ast Aro Atp Acd Asr Air Aih Ass Asq Ace Alw Awo Ahe Ask Ana Akp Agb Ago Afa Aga Avo Npb Njg Ntd Ntx Nru Zhi Z19 Z20 Z21 Z22 Z25 Z26 Z27 Z31 Z32 Z33 Z34 Z39 Z40 Fss Fsq Fce (nI sn) v2 (nI sn) v4 v5 H.size (by first | exact hsq | assumption | omega) (by first | exact hpb | assumption | omega) (by first | exact hjg | assumption | omega) (by first | exact htx | assumption | omega) (by first | exact hru | assumption | omega)) (cwV 5 hts gL_law_X6_copy rfl rfl rfl (by decide +kernel) ⟨Nat.le_of_ble_eq_true rfl, Nat.le_of_ble_eq_true rfl⟩) ⟨gPre_blind, va_recv hK hPc (ci := 6) (q0 := 0) rfl rfl, fun U hU hW => gPre_of hU hW hK hPc hDc⟩ rfl rfl hl.1 rfl (lv_room (Nat.le_of_ble_eq_true rfl)) dL_law_1521 ⟨Nat.le_of_ble_eq_true rfl, Nat.le_of_ble_eq_true rfl⟩) hS (fun q _ h => hFc q h) hFc (fun r_23 u t H locs ht hvm w_24 hB hz1 hk1 hS => ?_)
  obtain ⟨hP1, hK1, hD1⟩ := hB
  rw [ht] at hP1
  have hz9 : gPD G (va_A _ _) [zo6 mo (nI Npb) Akd Amo Ast (nI Njg) Aro Atp (nI Ntd) Acd Asr (nI Ntx) (nI Nru) Zhi Air Aih Ass Asq Ace Alw Z19 Z20 Z21 Z22 Awo Ahe Z25 Z26 Z27 Ask Ana Akp Z31 Z32 Z33 Z34 Agb Ago Afa Aga Z39 Z40 Avo, zi G Ass 4 Fss, zi G Asq 4 (nF Fsq), zi G Ace 160 (m_X6_copy_ce Fss Fsq Fce (nI sn) v2 (nI sn) v4 v5)] H := ⟨hP1, hD1⟩
  have hP1 := hz9.1
  have hD1 := hz9.2
  have w_24 : r_23 = m_X6_copy Fss Fsq (nI sn) v2 (nI sn) v4 v5 := w_24
  have hz9 : gPD G A [zo1 rd tt b0 x2 x3 x4 x5 (nI td), zi G b0 160 fb, zo3 tt co en sk wr (nI tx), zr G co 6 fc, zi G c0 160 fcr0, zi G c1 160 fcr1, zi G c2 160 fcr2, zi G c3 160 fcr3, zi G c4 160 fcr4, zi G c5 160 fcr5, zr G en 6 fe, zi G e0 3 (nF fer0), zi G e1 3 (nF fer1), zi G e2 3 (nF fer2), zi G e3 3 (nF fer3), zi G e4 3 (nF fer4), zi G e5 3 (nF fer5), zi G sk 32 fsk, zo0 nw tt n1 n2 n3 n4 n5 n6 n7 n8 (nI jg) (nI pb) (nI lw), zi G n1 6 fnm, zi G n2 4 fso, zi G n3 4 fmi, zi G n4 4 fpa, zi G n5 6 fki, zi G n6 6 fmo, zi G n7 6 fsz, zi G n8 6 frd, zo0 th tt t1 t2 t3 t4 t5 t6 t7 t8 tj tb tl, zi G t1 6 unm, zi G t2 4 uso, zi G t3 4 umi, zi G t4 4 upa, zi G t5 6 uki, zi G t6 6 umo, zi G t7 6 usz, zi G t8 6 urd, zo0 kp tt k1 k2 k3 k4 k5 k6 k7 k8 (nI kj) (nI kb) (nI kl), zi G k1 6 gnm, zi G k2 4 gso, zi G k3 4 gmi, zi G k4 4 gpa, zi G k5 6 gki, zi G k6 6 gmo, zi G k7 6 gsz, zi G k8 6 grd, zi G r1 40 fs1, zi G r2 40 fs2, zi G r3 40 fs3, zo4 tu tw tr, zr G tw 6 fw, zi G w0 6 fw0, zi G w1 6 fw1, zi G w2 6 fw2, zi G w3 6 fw3, zi G w4 6 fw4, zi G w5 6 fw5, zi G tr 64 ftr, zi G Akd 6 Fkd, zi G Amo 6 Fmo, zi G Ast 12 Fst, zi G Aro 12 Fro, zi G Atp 160 Ftp, zi G Acd 1200 Fcd, zi G Asr 24 (nF Fsr), zi G Air 24 Fir, zi G Aih 3 Fih, zi G Alw 40 Flw, zi G Awo 96 Fwo, zi G Ahe 200 Fhe, zi G Ask 200 Fsk, zi G Ana 6 Fna, zi G Akp 24 Fkp, zb G Agb 61 Fgb, zb G Ago 61 Fgo, zi G Afa 36 Ffa, zi G Aga 36 Fga, zi G Avo 64 Fvo, zo5 xo tt rd nw th kp sh tu him, zo2 sh qn qo ql, zr G qn 4 fn, zi G qo 4 fqo, zi G ql 4 (nF fql), zi G r0 40 (m_X5_copy_S_rr fql fqo fs0 sn v2 v4 v5), zo6 mo (nI Npb) Akd Amo Ast (nI Njg) Aro Atp (nI Ntd) Acd Asr (nI Ntx) (nI Nru) Zhi Air Aih Ass Asq Ace Alw Z19 Z20 Z21 Z22 Awo Ahe Z25 Z26 Z27 Ask Ana Akp Z31 Z32 Z33 Z34 Agb Ago Afa Aga Z39 Z40 Avo, zi G Ass 4 Fss, zi G Asq 4 (nF Fsq), zi G Ace 160 (m_X6_copy_ce Fss Fsq Fce (nI sn) v2 (nI sn) v4 v5)] H := gJoin hP hD hk1 hFc hP1 hD1 [57, 67, 68, 69] [0, 1, 2, 3, 4, 5, 6, 7, 8, 9, 10, 11, 12, 13, 14, 15, 16, 17, 18, 19, 20, 21, 22, 23, 24, 25, 26, 27, 28, 29, 30, 31, 32, 33, 34, 35, 36, 37, 38, 39, 40, 41, 42, 43, 44, 45, 46, 47, 48, 49, 50, 51, 52, 53, 54, 55, 56, 58, 59, 60, 61, 62, 63, 64, 65, 66, 70, 71, 72, 73, 74, 75, 76, 77, 78, 79, 80, 81, 82, 83, 84, 85, 86] rfl rfl rfl (by decide +kernel) (by decide +kernel)
  have hP := hz9.1
  have hD := hz9.2
  subst w_24
  refine lv_pop hx hb dL_law_1524 rfl ?_
  refine lv_goto (tgt := 1614) hx hb dL_law_1525 (by decide +kernel) ?_
  refine lv_iinc (v := nI (7 * (i7 + 1))) (lv' := [zI 3 (nI (7 * (i7 + 1))), zR 2 mo, zR 1 xo, zR 0 b]) hx hb dL_law_1614 hl (k := 0) rfl (by show nI (7 * i7) + 7 = nI (7 * (i7 + 1)); exact nI_add (7 * i7) 7) (by decide +kernel) rfl (fun ls hl => ?_)
  refine lv_goto (tgt := 18) hx hb dL_law_1617 (by decide +kernel) ?_
  exact K him x2 x3 x4 x5 td fb wr fsk jg pb lw fnm fso fmi fpa fki fmo fsz frd tj tb tl unm uso umi upa uki umo usz urd kj kb kl gnm gso gmi gpa gki gmo gsz grd (m_X5_copy_S_rr fql fqo fs0 sn v2 v4 v5) fs1 fs2 fs3 fqo fql fw0 fw1 fw2 fw3 fw4 fw5 ftr Npb Njg Ntd Ntx Nru Zhi Z19 Z20 Z21 Z22 Z25 Z26 Z27 Z31 Z32 Z33 Z34 Z39 Z40 Fkd Fmo Fst Fro Ftp Fcd Fsr Fir Fih Fss Fsq (m_X6_copy_ce Fss Fsq Fce (nI sn) v2 (nI sn) v4 v5) Flw Fwo Fhe Fsk Fna Fkp Fgb Fgo Ffa Fga Fvo hFX hFM (rl_copy_S hsn hrw n01 n02 n03 hql hRL) hRQ H _ ls (hP.sub [77, 0, 1, 2, 3, 4, 5, 6, 7, 8, 9, 10, 11, 12, 13, 14, 15, 16, 17, 18, 19, 20, 21, 22, 23, 24, 25, 26, 27, 28, 29, 30, 31, 32, 33, 34, 35, 36, 37, 38, 39, 40, 41, 42, 43, 44, 78, 79, 82, 45, 46, 47, 80, 81, 48, 49, 50, 51, 52, 53, 54, 55, 56, 83, 57, 58, 59, 60, 61, 62, 63, 64, 65, 84, 85, 86, 66, 67, 68, 69, 70, 71, 72, 73, 74, 75, 76] rfl) (hD.sub [77, 0, 1, 2, 3, 4, 5, 6, 7, 8, 9, 10, 11, 12, 13, 14, 15, 16, 17, 18, 19, 20, 21, 22, 23, 24, 25, 26, 27, 28, 29, 30, 31, 32, 33, 34, 35, 36, 37, 38, 39, 40, 41, 42, 43, 44, 78, 79, 82, 45, 46, 47, 80, 81, 48, 49, 50, 51, 52, 53, 54, 55, 56, 83, 57, 58, 59, 60, 61, 62, 63, 64, 65, 84, 85, 86, 66, 67, 68, 69, 70, 71, 72, 73, 74, 75, 76] (by decide +kernel) rfl) hS (lv_sub hl [0, 1, 2, 3] rfl)
set_option maxHeartbeats 4000000 in
set_option maxRecDepth 100000 in
theorem lc_copy_B {p : Program} {l : Launch} {e : Env} {s : State} {m : MethodId} {below : List Frame} {meth : Method} {c : Code} {b L : Nat} {xs : Nat → Int32} {G : gG} {E : gS} {A : Nat → Prop} (C0 : lw_At p s m meth c b L xs) (hE : gE E A s s.heap) (hK : gK G s) (hAe : A = fun q => s.heap.size ≤ q) {xo tt rd nw th kp sh tu b0 co en sk c0 c1 c2 c3 c4 c5 e0 e1 e2 e3 e4 e5 n1 n2 n3 n4 n5 n6 n7 n8 t1 t2 t3 t4 t5 t6 t7 t8 k1 k2 k3 k4 k5 k6 k7 k8 qn qo ql r0 r1 r2 r3 tw tr w0 w1 w2 w3 w4 w5 mo Akd Amo Ast Aro Atp Acd Asr Air Aih Ass Asq Ace Alw Awo Ahe Ask Ana Akp Agb Ago Afa Aga Avo : Nat} {fc fe fn fw : Nat → Option Nat} {tx : Nat} {fcr0 fcr1 fcr2 fcr3 fcr4 fcr5 : Nat → Int32} {fer0 fer1 fer2 fer3 fer4 fer5 : Nat → Nat} {him x2 x3 x4 x5 : Int32} {td : Nat} {fb : Nat → Int32} {wr : Int32} {fsk : Nat → Int32} {jg pb lw : Nat} {fnm fso fmi fpa fki fmo fsz frd : Nat → Int32} {tj tb tl : Int32} {unm uso umi upa uki umo usz urd : Nat → Int32} {kj kb kl : Nat} {gnm gso gmi gpa gki gmo gsz grd fs0 fs1 fs2 fs3 fqo : Nat → Int32} {fql : Nat → Nat} {fw0 fw1 fw2 fw3 fw4 fw5 ftr : Nat → Int32} {Npb Njg Ntd Ntx Nru : Nat} {Zhi Z19 Z20 Z21 Z22 Z25 Z26 Z27 Z31 Z32 Z33 Z34 Z39 Z40 : Int32} {Fkd Fmo Fst Fro Ftp Fcd : Nat → Int32} {Fsr : Nat → Nat} {Fir Fih Fss : Nat → Int32} {Fsq : Nat → Nat} {Fce Flw Fwo Fhe Fsk Fna Fkp Fgb Fgo Ffa Fga Fvo : Nat → Int32}  {v1 v2 v3 v4 v5 v6 : Int32} {i7 : Nat} (hi : 7 * i7 + 7 ≤ L) (hL : L ≤ 3584) (hv1 : v1 = xs (7 * i7 + 1)) (hv2 : v2 = xs (7 * i7 + 2)) (hv3 : v3 = xs (7 * i7 + 3)) (hv4 : v4 = xs (7 * i7 + 4)) (hv5 : v5 = xs (7 * i7 + 5)) (hv6 : v6 = xs (7 * i7 + 6)) (hno : ¬ (0 ≤ v1 ∧ v1 ≤ 3)) (K : LawV p l e s m below meth c b G A xo tt rd nw th kp sh tu b0 co en sk c0 c1 c2 c3 c4 c5 e0 e1 e2 e3 e4 e5 n1 n2 n3 n4 n5 n6 n7 n8 t1 t2 t3 t4 t5 t6 t7 t8 k1 k2 k3 k4 k5 k6 k7 k8 qn qo ql r0 r1 r2 r3 tw tr w0 w1 w2 w3 w4 w5 mo Akd Amo Ast Aro Atp Acd Asr Air Aih Ass Asq Ace Alw Awo Ahe Ask Ana Akp Agb Ago Afa Aga Avo fc fe fn fw tx fcr0 fcr1 fcr2 fcr3 fcr4 fcr5 fer0 fer1 fer2 fer3 fer4 fer5 (i7 + 1)) (hFX : FXP jg pb lw kj kb kl tx td him fql) (hFM : FMP Npb Njg Ntd Ntx Nru Zhi Fcd Fsr Fsq Fir Fih) (hRL : RLP False fn r0 r1 r2 r3 jg pb kj kb him fs0 fs1 fs2 fs3 fqo fql Npb Njg Zhi Fss Fsq Fce Fih) (hRQ : RQP fc c0 c1 c2 c3 c4 c5 fcr0 fcr1 fcr2 fcr3 fcr4 fcr5 fer0 fer1 fer2 fer3 fer4 fer5 pb lw tx td kb kl him fb fso fmi fpa fki fmo fsz frd gso gmi gpa gki gmo gsz grd Nru Ntx Ntd Fkd Fmo Fst Fro Ftp Fcd Fsr Fir Fih Fwo) {H : Heap} {locs : List Loc} (hP : va_P G.1 vwCl (WLd G xo tt rd nw th kp sh tu b0 co en sk c0 c1 c2 c3 c4 c5 e0 e1 e2 e3 e4 e5 n1 n2 n3 n4 n5 n6 n7 n8 t1 t2 t3 t4 t5 t6 t7 t8 k1 k2 k3 k4 k5 k6 k7 k8 qn qo ql r0 r1 r2 r3 tw tr w0 w1 w2 w3 w4 w5 mo Akd Amo Ast Aro Atp Acd Asr Air Aih Ass Asq Ace Alw Awo Ahe Ask Ana Akp Agb Ago Afa Aga Avo fc fe fn fw tx fcr0 fcr1 fcr2 fcr3 fcr4 fcr5 fer0 fer1 fer2 fer3 fer4 fer5 him x2 x3 x4 x5 td fb wr fsk jg pb lw fnm fso fmi fpa fki fmo fsz frd tj tb tl unm uso umi upa uki umo usz urd kj kb kl gnm gso gmi gpa gki gmo gsz grd fs0 fs1 fs2 fs3 fqo fql fw0 fw1 fw2 fw3 fw4 fw5 ftr Npb Njg Ntd Ntx Nru Zhi Z19 Z20 Z21 Z22 Z25 Z26 Z27 Z31 Z32 Z33 Z34 Z39 Z40 Fkd Fmo Fst Fro Ftp Fcd Fsr Fir Fih Fss Fsq Fce Flw Fwo Fhe Fsk Fna Fkp Fgb Fgo Ffa Fga Fvo) H) (hD : va_D A (WLd G xo tt rd nw th kp sh tu b0 co en sk c0 c1 c2 c3 c4 c5 e0 e1 e2 e3 e4 e5 n1 n2 n3 n4 n5 n6 n7 n8 t1 t2 t3 t4 t5 t6 t7 t8 k1 k2 k3 k4 k5 k6 k7 k8 qn qo ql r0 r1 r2 r3 tw tr w0 w1 w2 w3 w4 w5 mo Akd Amo Ast Aro Atp Acd Asr Air Aih Ass Asq Ace Alw Awo Ahe Ask Ana Akp Agb Ago Afa Aga Avo fc fe fn fw tx fcr0 fcr1 fcr2 fcr3 fcr4 fcr5 fer0 fer1 fer2 fer3 fer4 fer5 him x2 x3 x4 x5 td fb wr fsk jg pb lw fnm fso fmi fpa fki fmo fsz frd tj tb tl unm uso umi upa uki umo usz urd kj kb kl gnm gso gmi gpa gki gmo gsz grd fs0 fs1 fs2 fs3 fqo fql fw0 fw1 fw2 fw3 fw4 fw5 ftr Npb Njg Ntd Ntx Nru Zhi Z19 Z20 Z21 Z22 Z25 Z26 Z27 Z31 Z32 Z33 Z34 Z39 Z40 Fkd Fmo Fst Fro Ftp Fcd Fsr Fir Fih Fss Fsq Fce Flw Fwo Fhe Fsk Fna Fkp Fgb Fgo Ffa Fga Fvo)) (hS : va_S A s.heap H locs) {ls : Array Slot} (hl : lv_has ls 4 [zI 3 (nI (7 * i7)), zR 2 mo, zR 1 xo, zR 0 b]) : W p l e room_1 s m #[Value.ref b] below meth c H locs 87 4128 (lw_Z below #[Value.ref b] s) (F0 m 1465 ls []) := by
  obtain ⟨hx, hb, hret, hml, hown, hts0, hX, hbl, hlocks, hgv⟩ := id C0
  have hts : ∀ w ∈ wsL_law, w.before #[Value.ref b] s = true := fun w h => hts0 w (wsL_law_in w h)
  have hown : s.vm.findClass RL = some m.cls := hown
  have hA : ∀ q : Nat, s.heap.size ≤ q → A q := fun q h => by rw [hAe]; exact h
  have hbA : ¬ A b := by rw [hAe]; exact Nat.not_le.mpr hbl
  obtain ⟨⟨hjg, hpb, hlw, htx, htd⟩, hkk, hql⟩ := id hFX
  obtain ⟨⟨hNpb, hNjg, hNru, hNtx, hNtd⟩, hwa, hsq, hIM⟩ := id hFM
  have hz9 : gPD G A [zo5 xo tt rd nw th kp sh tu him, zo1 rd tt b0 x2 x3 x4 x5 (nI td), zi G b0 160 fb, zo3 tt co en sk wr (nI tx), zr G co 6 fc, zi G c0 160 fcr0, zi G c1 160 fcr1, zi G c2 160 fcr2, zi G c3 160 fcr3, zi G c4 160 fcr4, zi G c5 160 fcr5, zr G en 6 fe, zi G e0 3 (nF fer0), zi G e1 3 (nF fer1), zi G e2 3 (nF fer2), zi G e3 3 (nF fer3), zi G e4 3 (nF fer4), zi G e5 3 (nF fer5), zi G sk 32 fsk, zo0 nw tt n1 n2 n3 n4 n5 n6 n7 n8 (nI jg) (nI pb) (nI lw), zi G n1 6 fnm, zi G n2 4 fso, zi G n3 4 fmi, zi G n4 4 fpa, zi G n5 6 fki, zi G n6 6 fmo, zi G n7 6 fsz, zi G n8 6 frd, zo0 th tt t1 t2 t3 t4 t5 t6 t7 t8 tj tb tl, zi G t1 6 unm, zi G t2 4 uso, zi G t3 4 umi, zi G t4 4 upa, zi G t5 6 uki, zi G t6 6 umo, zi G t7 6 usz, zi G t8 6 urd, zo0 kp tt k1 k2 k3 k4 k5 k6 k7 k8 (nI kj) (nI kb) (nI kl), zi G k1 6 gnm, zi G k2 4 gso, zi G k3 4 gmi, zi G k4 4 gpa, zi G k5 6 gki, zi G k6 6 gmo, zi G k7 6 gsz, zi G k8 6 grd, zo2 sh qn qo ql, zr G qn 4 fn, zi G r0 40 fs0, zi G r1 40 fs1, zi G r2 40 fs2, zi G r3 40 fs3, zi G qo 4 fqo, zi G ql 4 (nF fql), zo4 tu tw tr, zr G tw 6 fw, zi G w0 6 fw0, zi G w1 6 fw1, zi G w2 6 fw2, zi G w3 6 fw3, zi G w4 6 fw4, zi G w5 6 fw5, zi G tr 64 ftr, zo6 mo (nI Npb) Akd Amo Ast (nI Njg) Aro Atp (nI Ntd) Acd Asr (nI Ntx) (nI Nru) Zhi Air Aih Ass Asq Ace Alw Z19 Z20 Z21 Z22 Awo Ahe Z25 Z26 Z27 Ask Ana Akp Z31 Z32 Z33 Z34 Agb Ago Afa Aga Z39 Z40 Avo, zi G Akd 6 Fkd, zi G Amo 6 Fmo, zi G Ast 12 Fst, zi G Aro 12 Fro, zi G Atp 160 Ftp, zi G Acd 1200 Fcd, zi G Asr 24 (nF Fsr), zi G Air 24 Fir, zi G Aih 3 Fih, zi G Ass 4 Fss, zi G Asq 4 (nF Fsq), zi G Ace 160 Fce, zi G Alw 40 Flw, zi G Awo 96 Fwo, zi G Ahe 200 Fhe, zi G Ask 200 Fsk, zi G Ana 6 Fna, zi G Akp 24 Fkp, zb G Agb 61 Fgb, zb G Ago 61 Fgo, zi G Afa 36 Ffa, zi G Aga 36 Fga, zi G Avo 64 Fvo] H := ⟨hP, hD⟩
  have hP := hz9.1
  have hD := hz9.2
  refine lv_aload_n hx hb dL_law_1465 rfl (lv_at hl 2 rfl) ?_
  refine lv_aload_n hx hb dL_law_1466 rfl (lv_at hl 3 rfl) ?_
  refine lv_iload_n hx hb dL_law_1467 rfl (lv_at hl 0 rfl) ?_
  refine lv_iconst (v := 1) hx hb dL_law_1468 (by decide +kernel) ?_
  refine lv_iadd hx hb dL_law_1469 ?_
  refine lv_topi (fun v_1 ev_1 => ?_)
  have ev_1 : v_1 = nI ((7 * i7) + 1) := ev_1.trans (nI_add (7 * i7) 1)
  subst ev_1
  refine va_sld hx hb hX hbl hbA hS (i := nI ((7 * i7) + 1)) (vp_in_nI (by omega) (by omega)) dL_law_1470 ?_
  refine lv_topi (fun v_2 ev_2 => ?_)
  have ev_2 : v1 = v_2 := (ev_2.trans (by rw [nI_clamp (by omega)]; exact hv1.symm)).symm
  subst ev_2
  refine lv_aload_n hx hb dL_law_1471 rfl (lv_at hl 3 rfl) ?_
  refine lv_iload_n hx hb dL_law_1472 rfl (lv_at hl 0 rfl) ?_
  refine lv_iconst (v := 2) hx hb dL_law_1473 (by decide +kernel) ?_
  refine lv_iadd hx hb dL_law_1474 ?_
  refine lv_topi (fun v_3 ev_3 => ?_)
  have ev_3 : v_3 = nI ((7 * i7) + 2) := ev_3.trans (nI_add (7 * i7) 2)
  subst ev_3
  refine va_sld hx hb hX hbl hbA hS (i := nI ((7 * i7) + 2)) (vp_in_nI (by omega) (by omega)) dL_law_1475 ?_
  refine lv_topi (fun v_4 ev_4 => ?_)
  have ev_4 : v2 = v_4 := (ev_4.trans (by rw [nI_clamp (by omega)]; exact hv2.symm)).symm
  subst ev_4
  refine lv_aload_n hx hb dL_law_1476 rfl (lv_at hl 3 rfl) ?_
  refine lv_iload_n hx hb dL_law_1477 rfl (lv_at hl 0 rfl) ?_
  refine lv_iconst (v := 3) hx hb dL_law_1478 (by decide +kernel) ?_
  refine lv_iadd hx hb dL_law_1479 ?_
  refine lv_topi (fun v_5 ev_5 => ?_)
  have ev_5 : v_5 = nI ((7 * i7) + 3) := ev_5.trans (nI_add (7 * i7) 3)
  subst ev_5
  refine va_sld hx hb hX hbl hbA hS (i := nI ((7 * i7) + 3)) (vp_in_nI (by omega) (by omega)) dL_law_1480 ?_
  refine lv_topi (fun v_6 ev_6 => ?_)
  have ev_6 : v3 = v_6 := (ev_6.trans (by rw [nI_clamp (by omega)]; exact hv3.symm)).symm
  subst ev_6
  refine lv_aload_n hx hb dL_law_1481 rfl (lv_at hl 3 rfl) ?_
  refine lv_iload_n hx hb dL_law_1482 rfl (lv_at hl 0 rfl) ?_
  refine lv_iconst (v := 4) hx hb dL_law_1483 (by decide +kernel) ?_
  refine lv_iadd hx hb dL_law_1484 ?_
  refine lv_topi (fun v_7 ev_7 => ?_)
  have ev_7 : v_7 = nI ((7 * i7) + 4) := ev_7.trans (nI_add (7 * i7) 4)
  subst ev_7
  refine va_sld hx hb hX hbl hbA hS (i := nI ((7 * i7) + 4)) (vp_in_nI (by omega) (by omega)) dL_law_1485 ?_
  refine lv_topi (fun v_8 ev_8 => ?_)
  have ev_8 : v4 = v_8 := (ev_8.trans (by rw [nI_clamp (by omega)]; exact hv4.symm)).symm
  subst ev_8
  refine lv_aload_n hx hb dL_law_1486 rfl (lv_at hl 3 rfl) ?_
  refine lv_iload_n hx hb dL_law_1487 rfl (lv_at hl 0 rfl) ?_
  refine lv_iconst (v := 5) hx hb dL_law_1488 (by decide +kernel) ?_
  refine lv_iadd hx hb dL_law_1489 ?_
  refine lv_topi (fun v_9 ev_9 => ?_)
  have ev_9 : v_9 = nI ((7 * i7) + 5) := ev_9.trans (nI_add (7 * i7) 5)
  subst ev_9
  refine va_sld hx hb hX hbl hbA hS (i := nI ((7 * i7) + 5)) (vp_in_nI (by omega) (by omega)) dL_law_1490 ?_
  refine lv_topi (fun v_10 ev_10 => ?_)
  have ev_10 : v5 = v_10 := (ev_10.trans (by rw [nI_clamp (by omega)]; exact hv5.symm)).symm
  subst ev_10
  have hz9 : gPD G A [zo5 xo tt rd nw th kp sh tu him, zo2 sh qn qo ql] H := ⟨hP.sub [0, 46] rfl, hD.sub [0, 46] (by decide +kernel) rfl⟩
  have hPc := hz9.1
  have hDc := hz9.2
  have hFc := gFree hPc hD hS hA [0, 46] rfl
  refine va_calli (va_runV (As := [.int v1, .int v2, .int v3, .int v4, .int v5]) (rest := []) ⟨hx, hb, hml, hown, hts⟩ (c_X5_copy_B l G E xo tt rd nw th kp sh tu qn qo ql him v1 v2 v3 v4 v5 H.size (by first | exact hno | assumption | omega)) (cwV 5 hts gL_law_X5_copy rfl rfl rfl (by decide +kernel) ⟨Nat.le_of_ble_eq_true rfl, Nat.le_of_ble_eq_true rfl⟩) ⟨gPreE_blind, va_recv hK hPc (ci := 5) (q0 := 0) rfl rfl, fun U hU hW => gPreE_of hU hW hK hPc hDc hE hS hFc⟩ rfl rfl hl.1 rfl (lv_room (Nat.le_of_ble_eq_true rfl)) dL_law_1491 ⟨Nat.le_of_ble_eq_true rfl, Nat.le_of_ble_eq_true rfl⟩) hS (fun q _ h => hFc q h) hFc (fun r_11 u t H locs ht hvm w_12 hB hz1 hk1 hS => ?_)
  obtain ⟨hP1, hK1, hD1⟩ := hB
  rw [ht] at hP1
  have hz9 : gPD G (va_A _ _) [zo5 xo tt rd nw th kp sh tu him, zo2 sh qn qo ql] H := ⟨hP1, hD1⟩
  have hP1 := hz9.1
  have hD1 := hz9.2
  have w_12 : r_11 = -2 := w_12
  have hz9 : gPD G A [zo1 rd tt b0 x2 x3 x4 x5 (nI td), zi G b0 160 fb, zo3 tt co en sk wr (nI tx), zr G co 6 fc, zi G c0 160 fcr0, zi G c1 160 fcr1, zi G c2 160 fcr2, zi G c3 160 fcr3, zi G c4 160 fcr4, zi G c5 160 fcr5, zr G en 6 fe, zi G e0 3 (nF fer0), zi G e1 3 (nF fer1), zi G e2 3 (nF fer2), zi G e3 3 (nF fer3), zi G e4 3 (nF fer4), zi G e5 3 (nF fer5), zi G sk 32 fsk, zo0 nw tt n1 n2 n3 n4 n5 n6 n7 n8 (nI jg) (nI pb) (nI lw), zi G n1 6 fnm, zi G n2 4 fso, zi G n3 4 fmi, zi G n4 4 fpa, zi G n5 6 fki, zi G n6 6 fmo, zi G n7 6 fsz, zi G n8 6 frd, zo0 th tt t1 t2 t3 t4 t5 t6 t7 t8 tj tb tl, zi G t1 6 unm, zi G t2 4 uso, zi G t3 4 umi, zi G t4 4 upa, zi G t5 6 uki, zi G t6 6 umo, zi G t7 6 usz, zi G t8 6 urd, zo0 kp tt k1 k2 k3 k4 k5 k6 k7 k8 (nI kj) (nI kb) (nI kl), zi G k1 6 gnm, zi G k2 4 gso, zi G k3 4 gmi, zi G k4 4 gpa, zi G k5 6 gki, zi G k6 6 gmo, zi G k7 6 gsz, zi G k8 6 grd, zr G qn 4 fn, zi G r0 40 fs0, zi G r1 40 fs1, zi G r2 40 fs2, zi G r3 40 fs3, zi G qo 4 fqo, zi G ql 4 (nF fql), zo4 tu tw tr, zr G tw 6 fw, zi G w0 6 fw0, zi G w1 6 fw1, zi G w2 6 fw2, zi G w3 6 fw3, zi G w4 6 fw4, zi G w5 6 fw5, zi G tr 64 ftr, zo6 mo (nI Npb) Akd Amo Ast (nI Njg) Aro Atp (nI Ntd) Acd Asr (nI Ntx) (nI Nru) Zhi Air Aih Ass Asq Ace Alw Z19 Z20 Z21 Z22 Awo Ahe Z25 Z26 Z27 Ask Ana Akp Z31 Z32 Z33 Z34 Agb Ago Afa Aga Z39 Z40 Avo, zi G Akd 6 Fkd, zi G Amo 6 Fmo, zi G Ast 12 Fst, zi G Aro 12 Fro, zi G Atp 160 Ftp, zi G Acd 1200 Fcd, zi G Asr 24 (nF Fsr), zi G Air 24 Fir, zi G Aih 3 Fih, zi G Ass 4 Fss, zi G Asq 4 (nF Fsq), zi G Ace 160 Fce, zi G Alw 40 Flw, zi G Awo 96 Fwo, zi G Ahe 200 Fhe, zi G Ask 200 Fsk, zi G Ana 6 Fna, zi G Akp 24 Fkp, zb G Agb 61 Fgb, zb G Ago 61 Fgo, zi G Afa 36 Ffa, zi G Aga 36 Fga, zi G Avo 64 Fvo, zo5 xo tt rd nw th kp sh tu him, zo2 sh qn qo ql] H := gJoin hP hD hk1 hFc hP1 hD1 [0, 46] [1, 2, 3, 4, 5, 6, 7, 8, 9, 10, 11, 12, 13, 14, 15, 16, 17, 18, 19, 20, 21, 22, 23, 24, 25, 26, 27, 28, 29, 30, 31, 32, 33, 34, 35, 36, 37, 38, 39, 40, 41, 42, 43, 44, 45, 47, 48, 49, 50, 51, 52, 53, 54, 55, 56, 57, 58, 59, 60, 61, 62, 63, 64, 65, 66, 67, 68, 69, 70, 71, 72, 73, 74, 75, 76, 77, 78, 79, 80, 81, 82, 83, 84, 85, 86] rfl rfl rfl (by decide +kernel) (by decide +kernel)
  have hP := hz9.1
  have hD := hz9.2
  subst w_12
  refine lv_pop hx hb dL_law_1494 rfl ?_
  refine lv_aload_n hx hb dL_law_1495 rfl (lv_at hl 1 rfl) ?_
  refine lv_aload_n hx hb dL_law_1496 rfl (lv_at hl 3 rfl) ?_
  refine lv_iload_n hx hb dL_law_1497 rfl (lv_at hl 0 rfl) ?_
  refine lv_iconst (v := 1) hx hb dL_law_1498 (by decide +kernel) ?_
  refine lv_iadd hx hb dL_law_1499 ?_
  refine lv_topi (fun v_13 ev_13 => ?_)
  have ev_13 : v_13 = nI ((7 * i7) + 1) := ev_13.trans (nI_add (7 * i7) 1)
  subst ev_13
  refine va_sld hx hb hX hbl hbA hS (i := nI ((7 * i7) + 1)) (vp_in_nI (by omega) (by omega)) dL_law_1500 ?_
  refine lv_topi (fun v_14 ev_14 => ?_)
  have ev_14 : v1 = v_14 := (ev_14.trans (by rw [nI_clamp (by omega)]; exact hv1.symm)).symm
  subst ev_14
  refine lv_aload_n hx hb dL_law_1501 rfl (lv_at hl 3 rfl) ?_
  refine lv_iload_n hx hb dL_law_1502 rfl (lv_at hl 0 rfl) ?_
  refine lv_iconst (v := 2) hx hb dL_law_1503 (by decide +kernel) ?_
  refine lv_iadd hx hb dL_law_1504 ?_
  refine lv_topi (fun v_15 ev_15 => ?_)
  have ev_15 : v_15 = nI ((7 * i7) + 2) := ev_15.trans (nI_add (7 * i7) 2)
  subst ev_15
  refine va_sld hx hb hX hbl hbA hS (i := nI ((7 * i7) + 2)) (vp_in_nI (by omega) (by omega)) dL_law_1505 ?_
  refine lv_topi (fun v_16 ev_16 => ?_)
  have ev_16 : v2 = v_16 := (ev_16.trans (by rw [nI_clamp (by omega)]; exact hv2.symm)).symm
  subst ev_16
  refine lv_aload_n hx hb dL_law_1506 rfl (lv_at hl 3 rfl) ?_
  refine lv_iload_n hx hb dL_law_1507 rfl (lv_at hl 0 rfl) ?_
  refine lv_iconst (v := 3) hx hb dL_law_1508 (by decide +kernel) ?_
  refine lv_iadd hx hb dL_law_1509 ?_
  refine lv_topi (fun v_17 ev_17 => ?_)
  have ev_17 : v_17 = nI ((7 * i7) + 3) := ev_17.trans (nI_add (7 * i7) 3)
  subst ev_17
  refine va_sld hx hb hX hbl hbA hS (i := nI ((7 * i7) + 3)) (vp_in_nI (by omega) (by omega)) dL_law_1510 ?_
  refine lv_topi (fun v_18 ev_18 => ?_)
  have ev_18 : v3 = v_18 := (ev_18.trans (by rw [nI_clamp (by omega)]; exact hv3.symm)).symm
  subst ev_18
  refine lv_aload_n hx hb dL_law_1511 rfl (lv_at hl 3 rfl) ?_
  refine lv_iload_n hx hb dL_law_1512 rfl (lv_at hl 0 rfl) ?_
  refine lv_iconst (v := 4) hx hb dL_law_1513 (by decide +kernel) ?_
  refine lv_iadd hx hb dL_law_1514 ?_
  refine lv_topi (fun v_19 ev_19 => ?_)
  have ev_19 : v_19 = nI ((7 * i7) + 4) := ev_19.trans (nI_add (7 * i7) 4)
  subst ev_19
  refine va_sld hx hb hX hbl hbA hS (i := nI ((7 * i7) + 4)) (vp_in_nI (by omega) (by omega)) dL_law_1515 ?_
  refine lv_topi (fun v_20 ev_20 => ?_)
  have ev_20 : v4 = v_20 := (ev_20.trans (by rw [nI_clamp (by omega)]; exact hv4.symm)).symm
  subst ev_20
  refine lv_aload_n hx hb dL_law_1516 rfl (lv_at hl 3 rfl) ?_
  refine lv_iload_n hx hb dL_law_1517 rfl (lv_at hl 0 rfl) ?_
  refine lv_iconst (v := 5) hx hb dL_law_1518 (by decide +kernel) ?_
  refine lv_iadd hx hb dL_law_1519 ?_
  refine lv_topi (fun v_21 ev_21 => ?_)
  have ev_21 : v_21 = nI ((7 * i7) + 5) := ev_21.trans (nI_add (7 * i7) 5)
  subst ev_21
  refine va_sld hx hb hX hbl hbA hS (i := nI ((7 * i7) + 5)) (vp_in_nI (by omega) (by omega)) dL_law_1520 ?_
  refine lv_topi (fun v_22 ev_22 => ?_)
  have ev_22 : v5 = v_22 := (ev_22.trans (by rw [nI_clamp (by omega)]; exact hv5.symm)).symm
  subst ev_22
  have hz9 : gPD G A [zo6 mo (nI Npb) Akd Amo Ast (nI Njg) Aro Atp (nI Ntd) Acd Asr (nI Ntx) (nI Nru) Zhi Air Aih Ass Asq Ace Alw Z19 Z20 Z21 Z22 Awo Ahe Z25 Z26 Z27 Ask Ana Akp Z31 Z32 Z33 Z34 Agb Ago Afa Aga Z39 Z40 Avo, zi G Ass 4 Fss, zi G Asq 4 (nF Fsq), zi G Ace 160 Fce] H := ⟨hP.sub [61, 71, 72, 73] rfl, hD.sub [61, 71, 72, 73] (by decide +kernel) rfl⟩
  have hPc := hz9.1
  have hDc := hz9.2
  have hFc := gFree hPc hD hS hA [61, 71, 72, 73] rfl
  refine va_calli (va_runV (As := [.int v1, .int v2, .int v3, .int v4, .int v5]) (rest := []) ⟨hx, hb, hml, hown, hts⟩ (c_X6_copy l G mo Akd Amo Ast Aro Atp Acd Asr Air Aih Ass Asq Ace Alw Awo Ahe Ask Ana Akp Agb Ago Afa Aga Avo Npb Njg Ntd Ntx Nru Zhi Z19 Z20 Z21 Z22 Z25 Z26 Z27 Z31 Z32 Z33 Z34 Z39 Z40 Fss Fsq Fce v1 v2 v3 v4 v5 H.size (by first | exact hsq | assumption | omega) (by first | exact hpb | assumption | omega) (by first | exact hjg | assumption | omega) (by first | exact htx | assumption | omega) (by first | exact hru | assumption | omega)) (cwV 5 hts gL_law_X6_copy rfl rfl rfl (by decide +kernel) ⟨Nat.le_of_ble_eq_true rfl, Nat.le_of_ble_eq_true rfl⟩) ⟨gPre_blind, va_recv hK hPc (ci := 6) (q0 := 0) rfl rfl, fun U hU hW => gPre_of hU hW hK hPc hDc⟩ rfl rfl hl.1 rfl (lv_room (Nat.le_of_ble_eq_true rfl)) dL_law_1521 ⟨Nat.le_of_ble_eq_true rfl, Nat.le_of_ble_eq_true rfl⟩) hS (fun q _ h => hFc q h) hFc (fun r_23 u t H locs ht hvm w_24 hB hz1 hk1 hS => ?_)
  obtain ⟨hP1, hK1, hD1⟩ := hB
  rw [ht] at hP1
  have hz9 : gPD G (va_A _ _) [zo6 mo (nI Npb) Akd Amo Ast (nI Njg) Aro Atp (nI Ntd) Acd Asr (nI Ntx) (nI Nru) Zhi Air Aih Ass Asq Ace Alw Z19 Z20 Z21 Z22 Awo Ahe Z25 Z26 Z27 Ask Ana Akp Z31 Z32 Z33 Z34 Agb Ago Afa Aga Z39 Z40 Avo, zi G Ass 4 Fss, zi G Asq 4 (nF Fsq), zi G Ace 160 (m_X6_copy_ce Fss Fsq Fce v1 v2 v3 v4 v5)] H := ⟨hP1, hD1⟩
  have hP1 := hz9.1
  have hD1 := hz9.2
  have w_24 : r_23 = m_X6_copy Fss Fsq v1 v2 v3 v4 v5 := w_24
  have hz9 : gPD G A [zo1 rd tt b0 x2 x3 x4 x5 (nI td), zi G b0 160 fb, zo3 tt co en sk wr (nI tx), zr G co 6 fc, zi G c0 160 fcr0, zi G c1 160 fcr1, zi G c2 160 fcr2, zi G c3 160 fcr3, zi G c4 160 fcr4, zi G c5 160 fcr5, zr G en 6 fe, zi G e0 3 (nF fer0), zi G e1 3 (nF fer1), zi G e2 3 (nF fer2), zi G e3 3 (nF fer3), zi G e4 3 (nF fer4), zi G e5 3 (nF fer5), zi G sk 32 fsk, zo0 nw tt n1 n2 n3 n4 n5 n6 n7 n8 (nI jg) (nI pb) (nI lw), zi G n1 6 fnm, zi G n2 4 fso, zi G n3 4 fmi, zi G n4 4 fpa, zi G n5 6 fki, zi G n6 6 fmo, zi G n7 6 fsz, zi G n8 6 frd, zo0 th tt t1 t2 t3 t4 t5 t6 t7 t8 tj tb tl, zi G t1 6 unm, zi G t2 4 uso, zi G t3 4 umi, zi G t4 4 upa, zi G t5 6 uki, zi G t6 6 umo, zi G t7 6 usz, zi G t8 6 urd, zo0 kp tt k1 k2 k3 k4 k5 k6 k7 k8 (nI kj) (nI kb) (nI kl), zi G k1 6 gnm, zi G k2 4 gso, zi G k3 4 gmi, zi G k4 4 gpa, zi G k5 6 gki, zi G k6 6 gmo, zi G k7 6 gsz, zi G k8 6 grd, zr G qn 4 fn, zi G r0 40 fs0, zi G r1 40 fs1, zi G r2 40 fs2, zi G r3 40 fs3, zi G qo 4 fqo, zi G ql 4 (nF fql), zo4 tu tw tr, zr G tw 6 fw, zi G w0 6 fw0, zi G w1 6 fw1, zi G w2 6 fw2, zi G w3 6 fw3, zi G w4 6 fw4, zi G w5 6 fw5, zi G tr 64 ftr, zi G Akd 6 Fkd, zi G Amo 6 Fmo, zi G Ast 12 Fst, zi G Aro 12 Fro, zi G Atp 160 Ftp, zi G Acd 1200 Fcd, zi G Asr 24 (nF Fsr), zi G Air 24 Fir, zi G Aih 3 Fih, zi G Alw 40 Flw, zi G Awo 96 Fwo, zi G Ahe 200 Fhe, zi G Ask 200 Fsk, zi G Ana 6 Fna, zi G Akp 24 Fkp, zb G Agb 61 Fgb, zb G Ago 61 Fgo, zi G Afa 36 Ffa, zi G Aga 36 Fga, zi G Avo 64 Fvo, zo5 xo tt rd nw th kp sh tu him, zo2 sh qn qo ql, zo6 mo (nI Npb) Akd Amo Ast (nI Njg) Aro Atp (nI Ntd) Acd Asr (nI Ntx) (nI Nru) Zhi Air Aih Ass Asq Ace Alw Z19 Z20 Z21 Z22 Awo Ahe Z25 Z26 Z27 Ask Ana Akp Z31 Z32 Z33 Z34 Agb Ago Afa Aga Z39 Z40 Avo, zi G Ass 4 Fss, zi G Asq 4 (nF Fsq), zi G Ace 160 (m_X6_copy_ce Fss Fsq Fce v1 v2 v3 v4 v5)] H := gJoin hP hD hk1 hFc hP1 hD1 [61, 71, 72, 73] [0, 1, 2, 3, 4, 5, 6, 7, 8, 9, 10, 11, 12, 13, 14, 15, 16, 17, 18, 19, 20, 21, 22, 23, 24, 25, 26, 27, 28, 29, 30, 31, 32, 33, 34, 35, 36, 37, 38, 39, 40, 41, 42, 43, 44, 45, 46, 47, 48, 49, 50, 51, 52, 53, 54, 55, 56, 57, 58, 59, 60, 62, 63, 64, 65, 66, 67, 68, 69, 70, 74, 75, 76, 77, 78, 79, 80, 81, 82, 83, 84, 85, 86] rfl rfl rfl (by decide +kernel) (by decide +kernel)
  have hP := hz9.1
  have hD := hz9.2
  subst w_24
  refine lv_pop hx hb dL_law_1524 rfl ?_
  refine lv_goto (tgt := 1614) hx hb dL_law_1525 (by decide +kernel) ?_
  refine lv_iinc (v := nI (7 * (i7 + 1))) (lv' := [zI 3 (nI (7 * (i7 + 1))), zR 2 mo, zR 1 xo, zR 0 b]) hx hb dL_law_1614 hl (k := 0) rfl (by show nI (7 * i7) + 7 = nI (7 * (i7 + 1)); exact nI_add (7 * i7) 7) (by decide +kernel) rfl (fun ls hl => ?_)
  refine lv_goto (tgt := 18) hx hb dL_law_1617 (by decide +kernel) ?_
  exact K him x2 x3 x4 x5 td fb wr fsk jg pb lw fnm fso fmi fpa fki fmo fsz frd tj tb tl unm uso umi upa uki umo usz urd kj kb kl gnm gso gmi gpa gki gmo gsz grd fs0 fs1 fs2 fs3 fqo fql fw0 fw1 fw2 fw3 fw4 fw5 ftr Npb Njg Ntd Ntx Nru Zhi Z19 Z20 Z21 Z22 Z25 Z26 Z27 Z31 Z32 Z33 Z34 Z39 Z40 Fkd Fmo Fst Fro Ftp Fcd Fsr Fir Fih Fss Fsq (m_X6_copy_ce Fss Fsq Fce v1 v2 v3 v4 v5) Flw Fwo Fhe Fsk Fna Fkp Fgb Fgo Ffa Fga Fvo hFX hFM (rl_copy_B hno hRL) hRQ H _ ls (hP.sub [81, 0, 1, 2, 3, 4, 5, 6, 7, 8, 9, 10, 11, 12, 13, 14, 15, 16, 17, 18, 19, 20, 21, 22, 23, 24, 25, 26, 27, 28, 29, 30, 31, 32, 33, 34, 35, 36, 37, 38, 39, 40, 41, 42, 43, 44, 82, 45, 46, 47, 48, 49, 50, 51, 52, 53, 54, 55, 56, 57, 58, 59, 60, 83, 61, 62, 63, 64, 65, 66, 67, 68, 69, 84, 85, 86, 70, 71, 72, 73, 74, 75, 76, 77, 78, 79, 80] rfl) (hD.sub [81, 0, 1, 2, 3, 4, 5, 6, 7, 8, 9, 10, 11, 12, 13, 14, 15, 16, 17, 18, 19, 20, 21, 22, 23, 24, 25, 26, 27, 28, 29, 30, 31, 32, 33, 34, 35, 36, 37, 38, 39, 40, 41, 42, 43, 44, 82, 45, 46, 47, 48, 49, 50, 51, 52, 53, 54, 55, 56, 57, 58, 59, 60, 83, 61, 62, 63, 64, 65, 66, 67, 68, 69, 84, 85, 86, 70, 71, 72, 73, 74, 75, 76, 77, 78, 79, 80] (by decide +kernel) rfl) hS (lv_sub hl [0, 1, 2, 3] rfl)
set_option maxHeartbeats 4000000 in
set_option maxRecDepth 100000 in
theorem lc_copy_C {p : Program} {l : Launch} {e : Env} {s : State} {m : MethodId} {below : List Frame} {meth : Method} {c : Code} {b L : Nat} {xs : Nat → Int32} {G : gG} {E : gS} {A : Nat → Prop} (C0 : lw_At p s m meth c b L xs) (hE : gE E A s s.heap) (hK : gK G s) (hAe : A = fun q => s.heap.size ≤ q) {xo tt rd nw th kp sh tu b0 co en sk c0 c1 c2 c3 c4 c5 e0 e1 e2 e3 e4 e5 n1 n2 n3 n4 n5 n6 n7 n8 t1 t2 t3 t4 t5 t6 t7 t8 k1 k2 k3 k4 k5 k6 k7 k8 qn qo ql r0 r1 r2 r3 tw tr w0 w1 w2 w3 w4 w5 mo Akd Amo Ast Aro Atp Acd Asr Air Aih Ass Asq Ace Alw Awo Ahe Ask Ana Akp Agb Ago Afa Aga Avo : Nat} {fc fe fn fw : Nat → Option Nat} {tx : Nat} {fcr0 fcr1 fcr2 fcr3 fcr4 fcr5 : Nat → Int32} {fer0 fer1 fer2 fer3 fer4 fer5 : Nat → Nat} {him x2 x3 x4 x5 : Int32} {td : Nat} {fb : Nat → Int32} {wr : Int32} {fsk : Nat → Int32} {jg pb lw : Nat} {fnm fso fmi fpa fki fmo fsz frd : Nat → Int32} {tj tb tl : Int32} {unm uso umi upa uki umo usz urd : Nat → Int32} {kj kb kl : Nat} {gnm gso gmi gpa gki gmo gsz grd fs0 fs1 fs2 fs3 fqo : Nat → Int32} {fql : Nat → Nat} {fw0 fw1 fw2 fw3 fw4 fw5 ftr : Nat → Int32} {Npb Njg Ntd Ntx Nru : Nat} {Zhi Z19 Z20 Z21 Z22 Z25 Z26 Z27 Z31 Z32 Z33 Z34 Z39 Z40 : Int32} {Fkd Fmo Fst Fro Ftp Fcd : Nat → Int32} {Fsr : Nat → Nat} {Fir Fih Fss : Nat → Int32} {Fsq : Nat → Nat} {Fce Flw Fwo Fhe Fsk Fna Fkp Fgb Fgo Ffa Fga Fvo : Nat → Int32} {sn : Nat} {v2 v3 v4 v5 v6 : Int32} {i7 : Nat} (hi : 7 * i7 + 7 ≤ L) (hL : L ≤ 3584) (hv1 : (nI sn) = xs (7 * i7 + 1)) (hv2 : v2 = xs (7 * i7 + 2)) (hv3 : v3 = xs (7 * i7 + 3)) (hv4 : v4 = xs (7 * i7 + 4)) (hv5 : v5 = xs (7 * i7 + 5)) (hv6 : v6 = xs (7 * i7 + 6)) (hsn : sn < 4) (hno : ¬ (0 ≤ v3 ∧ v3 ≤ 3)) (K : LawV p l e s m below meth c b G A xo tt rd nw th kp sh tu b0 co en sk c0 c1 c2 c3 c4 c5 e0 e1 e2 e3 e4 e5 n1 n2 n3 n4 n5 n6 n7 n8 t1 t2 t3 t4 t5 t6 t7 t8 k1 k2 k3 k4 k5 k6 k7 k8 qn qo ql r0 r1 r2 r3 tw tr w0 w1 w2 w3 w4 w5 mo Akd Amo Ast Aro Atp Acd Asr Air Aih Ass Asq Ace Alw Awo Ahe Ask Ana Akp Agb Ago Afa Aga Avo fc fe fn fw tx fcr0 fcr1 fcr2 fcr3 fcr4 fcr5 fer0 fer1 fer2 fer3 fer4 fer5 (i7 + 1)) (hFX : FXP jg pb lw kj kb kl tx td him fql) (hFM : FMP Npb Njg Ntd Ntx Nru Zhi Fcd Fsr Fsq Fir Fih) (hRL : RLP False fn r0 r1 r2 r3 jg pb kj kb him fs0 fs1 fs2 fs3 fqo fql Npb Njg Zhi Fss Fsq Fce Fih) (hRQ : RQP fc c0 c1 c2 c3 c4 c5 fcr0 fcr1 fcr2 fcr3 fcr4 fcr5 fer0 fer1 fer2 fer3 fer4 fer5 pb lw tx td kb kl him fb fso fmi fpa fki fmo fsz frd gso gmi gpa gki gmo gsz grd Nru Ntx Ntd Fkd Fmo Fst Fro Ftp Fcd Fsr Fir Fih Fwo) {H : Heap} {locs : List Loc} (hP : va_P G.1 vwCl (WLd G xo tt rd nw th kp sh tu b0 co en sk c0 c1 c2 c3 c4 c5 e0 e1 e2 e3 e4 e5 n1 n2 n3 n4 n5 n6 n7 n8 t1 t2 t3 t4 t5 t6 t7 t8 k1 k2 k3 k4 k5 k6 k7 k8 qn qo ql r0 r1 r2 r3 tw tr w0 w1 w2 w3 w4 w5 mo Akd Amo Ast Aro Atp Acd Asr Air Aih Ass Asq Ace Alw Awo Ahe Ask Ana Akp Agb Ago Afa Aga Avo fc fe fn fw tx fcr0 fcr1 fcr2 fcr3 fcr4 fcr5 fer0 fer1 fer2 fer3 fer4 fer5 him x2 x3 x4 x5 td fb wr fsk jg pb lw fnm fso fmi fpa fki fmo fsz frd tj tb tl unm uso umi upa uki umo usz urd kj kb kl gnm gso gmi gpa gki gmo gsz grd fs0 fs1 fs2 fs3 fqo fql fw0 fw1 fw2 fw3 fw4 fw5 ftr Npb Njg Ntd Ntx Nru Zhi Z19 Z20 Z21 Z22 Z25 Z26 Z27 Z31 Z32 Z33 Z34 Z39 Z40 Fkd Fmo Fst Fro Ftp Fcd Fsr Fir Fih Fss Fsq Fce Flw Fwo Fhe Fsk Fna Fkp Fgb Fgo Ffa Fga Fvo) H) (hD : va_D A (WLd G xo tt rd nw th kp sh tu b0 co en sk c0 c1 c2 c3 c4 c5 e0 e1 e2 e3 e4 e5 n1 n2 n3 n4 n5 n6 n7 n8 t1 t2 t3 t4 t5 t6 t7 t8 k1 k2 k3 k4 k5 k6 k7 k8 qn qo ql r0 r1 r2 r3 tw tr w0 w1 w2 w3 w4 w5 mo Akd Amo Ast Aro Atp Acd Asr Air Aih Ass Asq Ace Alw Awo Ahe Ask Ana Akp Agb Ago Afa Aga Avo fc fe fn fw tx fcr0 fcr1 fcr2 fcr3 fcr4 fcr5 fer0 fer1 fer2 fer3 fer4 fer5 him x2 x3 x4 x5 td fb wr fsk jg pb lw fnm fso fmi fpa fki fmo fsz frd tj tb tl unm uso umi upa uki umo usz urd kj kb kl gnm gso gmi gpa gki gmo gsz grd fs0 fs1 fs2 fs3 fqo fql fw0 fw1 fw2 fw3 fw4 fw5 ftr Npb Njg Ntd Ntx Nru Zhi Z19 Z20 Z21 Z22 Z25 Z26 Z27 Z31 Z32 Z33 Z34 Z39 Z40 Fkd Fmo Fst Fro Ftp Fcd Fsr Fir Fih Fss Fsq Fce Flw Fwo Fhe Fsk Fna Fkp Fgb Fgo Ffa Fga Fvo)) (hS : va_S A s.heap H locs) {ls : Array Slot} (hl : lv_has ls 4 [zI 3 (nI (7 * i7)), zR 2 mo, zR 1 xo, zR 0 b]) : W p l e room_1 s m #[Value.ref b] below meth c H locs 87 4128 (lw_Z below #[Value.ref b] s) (F0 m 1465 ls []) := by
  obtain ⟨hx, hb, hret, hml, hown, hts0, hX, hbl, hlocks, hgv⟩ := id C0
  have hts : ∀ w ∈ wsL_law, w.before #[Value.ref b] s = true := fun w h => hts0 w (wsL_law_in w h)
  have hown : s.vm.findClass RL = some m.cls := hown
  have hA : ∀ q : Nat, s.heap.size ≤ q → A q := fun q h => by rw [hAe]; exact h
  have hbA : ¬ A b := by rw [hAe]; exact Nat.not_le.mpr hbl
  obtain ⟨⟨hjg, hpb, hlw, htx, htd⟩, hkk, hql⟩ := id hFX
  obtain ⟨⟨hNpb, hNjg, hNru, hNtx, hNtd⟩, hwa, hsq, hIM⟩ := id hFM
  have hz9 : gPD G A [zo5 xo tt rd nw th kp sh tu him, zo1 rd tt b0 x2 x3 x4 x5 (nI td), zi G b0 160 fb, zo3 tt co en sk wr (nI tx), zr G co 6 fc, zi G c0 160 fcr0, zi G c1 160 fcr1, zi G c2 160 fcr2, zi G c3 160 fcr3, zi G c4 160 fcr4, zi G c5 160 fcr5, zr G en 6 fe, zi G e0 3 (nF fer0), zi G e1 3 (nF fer1), zi G e2 3 (nF fer2), zi G e3 3 (nF fer3), zi G e4 3 (nF fer4), zi G e5 3 (nF fer5), zi G sk 32 fsk, zo0 nw tt n1 n2 n3 n4 n5 n6 n7 n8 (nI jg) (nI pb) (nI lw), zi G n1 6 fnm, zi G n2 4 fso, zi G n3 4 fmi, zi G n4 4 fpa, zi G n5 6 fki, zi G n6 6 fmo, zi G n7 6 fsz, zi G n8 6 frd, zo0 th tt t1 t2 t3 t4 t5 t6 t7 t8 tj tb tl, zi G t1 6 unm, zi G t2 4 uso, zi G t3 4 umi, zi G t4 4 upa, zi G t5 6 uki, zi G t6 6 umo, zi G t7 6 usz, zi G t8 6 urd, zo0 kp tt k1 k2 k3 k4 k5 k6 k7 k8 (nI kj) (nI kb) (nI kl), zi G k1 6 gnm, zi G k2 4 gso, zi G k3 4 gmi, zi G k4 4 gpa, zi G k5 6 gki, zi G k6 6 gmo, zi G k7 6 gsz, zi G k8 6 grd, zo2 sh qn qo ql, zr G qn 4 fn, zi G r0 40 fs0, zi G r1 40 fs1, zi G r2 40 fs2, zi G r3 40 fs3, zi G qo 4 fqo, zi G ql 4 (nF fql), zo4 tu tw tr, zr G tw 6 fw, zi G w0 6 fw0, zi G w1 6 fw1, zi G w2 6 fw2, zi G w3 6 fw3, zi G w4 6 fw4, zi G w5 6 fw5, zi G tr 64 ftr, zo6 mo (nI Npb) Akd Amo Ast (nI Njg) Aro Atp (nI Ntd) Acd Asr (nI Ntx) (nI Nru) Zhi Air Aih Ass Asq Ace Alw Z19 Z20 Z21 Z22 Awo Ahe Z25 Z26 Z27 Ask Ana Akp Z31 Z32 Z33 Z34 Agb Ago Afa Aga Z39 Z40 Avo, zi G Akd 6 Fkd, zi G Amo 6 Fmo, zi G Ast 12 Fst, zi G Aro 12 Fro, zi G Atp 160 Ftp, zi G Acd 1200 Fcd, zi G Asr 24 (nF Fsr), zi G Air 24 Fir, zi G Aih 3 Fih, zi G Ass 4 Fss, zi G Asq 4 (nF Fsq), zi G Ace 160 Fce, zi G Alw 40 Flw, zi G Awo 96 Fwo, zi G Ahe 200 Fhe, zi G Ask 200 Fsk, zi G Ana 6 Fna, zi G Akp 24 Fkp, zb G Agb 61 Fgb, zb G Ago 61 Fgo, zi G Afa 36 Ffa, zi G Aga 36 Fga, zi G Avo 64 Fvo] H := ⟨hP, hD⟩
  have hP := hz9.1
  have hD := hz9.2
  refine lv_aload_n hx hb dL_law_1465 rfl (lv_at hl 2 rfl) ?_
  refine lv_aload_n hx hb dL_law_1466 rfl (lv_at hl 3 rfl) ?_
  refine lv_iload_n hx hb dL_law_1467 rfl (lv_at hl 0 rfl) ?_
  refine lv_iconst (v := 1) hx hb dL_law_1468 (by decide +kernel) ?_
  refine lv_iadd hx hb dL_law_1469 ?_
  refine lv_topi (fun v_1 ev_1 => ?_)
  have ev_1 : v_1 = nI ((7 * i7) + 1) := ev_1.trans (nI_add (7 * i7) 1)
  subst ev_1
  refine va_sld hx hb hX hbl hbA hS (i := nI ((7 * i7) + 1)) (vp_in_nI (by omega) (by omega)) dL_law_1470 ?_
  refine lv_topi (fun v_2 ev_2 => ?_)
  have ev_2 : (nI sn) = v_2 := (ev_2.trans (by rw [nI_clamp (by omega)]; exact hv1.symm)).symm
  subst ev_2
  refine lv_aload_n hx hb dL_law_1471 rfl (lv_at hl 3 rfl) ?_
  refine lv_iload_n hx hb dL_law_1472 rfl (lv_at hl 0 rfl) ?_
  refine lv_iconst (v := 2) hx hb dL_law_1473 (by decide +kernel) ?_
  refine lv_iadd hx hb dL_law_1474 ?_
  refine lv_topi (fun v_3 ev_3 => ?_)
  have ev_3 : v_3 = nI ((7 * i7) + 2) := ev_3.trans (nI_add (7 * i7) 2)
  subst ev_3
  refine va_sld hx hb hX hbl hbA hS (i := nI ((7 * i7) + 2)) (vp_in_nI (by omega) (by omega)) dL_law_1475 ?_
  refine lv_topi (fun v_4 ev_4 => ?_)
  have ev_4 : v2 = v_4 := (ev_4.trans (by rw [nI_clamp (by omega)]; exact hv2.symm)).symm
  subst ev_4
  refine lv_aload_n hx hb dL_law_1476 rfl (lv_at hl 3 rfl) ?_
  refine lv_iload_n hx hb dL_law_1477 rfl (lv_at hl 0 rfl) ?_
  refine lv_iconst (v := 3) hx hb dL_law_1478 (by decide +kernel) ?_
  refine lv_iadd hx hb dL_law_1479 ?_
  refine lv_topi (fun v_5 ev_5 => ?_)
  have ev_5 : v_5 = nI ((7 * i7) + 3) := ev_5.trans (nI_add (7 * i7) 3)
  subst ev_5
  refine va_sld hx hb hX hbl hbA hS (i := nI ((7 * i7) + 3)) (vp_in_nI (by omega) (by omega)) dL_law_1480 ?_
  refine lv_topi (fun v_6 ev_6 => ?_)
  have ev_6 : v3 = v_6 := (ev_6.trans (by rw [nI_clamp (by omega)]; exact hv3.symm)).symm
  subst ev_6
  refine lv_aload_n hx hb dL_law_1481 rfl (lv_at hl 3 rfl) ?_
  refine lv_iload_n hx hb dL_law_1482 rfl (lv_at hl 0 rfl) ?_
  refine lv_iconst (v := 4) hx hb dL_law_1483 (by decide +kernel) ?_
  refine lv_iadd hx hb dL_law_1484 ?_
  refine lv_topi (fun v_7 ev_7 => ?_)
  have ev_7 : v_7 = nI ((7 * i7) + 4) := ev_7.trans (nI_add (7 * i7) 4)
  subst ev_7
  refine va_sld hx hb hX hbl hbA hS (i := nI ((7 * i7) + 4)) (vp_in_nI (by omega) (by omega)) dL_law_1485 ?_
  refine lv_topi (fun v_8 ev_8 => ?_)
  have ev_8 : v4 = v_8 := (ev_8.trans (by rw [nI_clamp (by omega)]; exact hv4.symm)).symm
  subst ev_8
  refine lv_aload_n hx hb dL_law_1486 rfl (lv_at hl 3 rfl) ?_
  refine lv_iload_n hx hb dL_law_1487 rfl (lv_at hl 0 rfl) ?_
  refine lv_iconst (v := 5) hx hb dL_law_1488 (by decide +kernel) ?_
  refine lv_iadd hx hb dL_law_1489 ?_
  refine lv_topi (fun v_9 ev_9 => ?_)
  have ev_9 : v_9 = nI ((7 * i7) + 5) := ev_9.trans (nI_add (7 * i7) 5)
  subst ev_9
  refine va_sld hx hb hX hbl hbA hS (i := nI ((7 * i7) + 5)) (vp_in_nI (by omega) (by omega)) dL_law_1490 ?_
  refine lv_topi (fun v_10 ev_10 => ?_)
  have ev_10 : v5 = v_10 := (ev_10.trans (by rw [nI_clamp (by omega)]; exact hv5.symm)).symm
  subst ev_10
  have hz9 : gPD G A [zo5 xo tt rd nw th kp sh tu him, zo2 sh qn qo ql] H := ⟨hP.sub [0, 46] rfl, hD.sub [0, 46] (by decide +kernel) rfl⟩
  have hPc := hz9.1
  have hDc := hz9.2
  have hFc := gFree hPc hD hS hA [0, 46] rfl
  refine va_calli (va_runV (As := [.int (nI sn), .int v2, .int v3, .int v4, .int v5]) (rest := []) ⟨hx, hb, hml, hown, hts⟩ (c_X5_copy_C l G E xo tt rd nw th kp sh tu qn qo ql him sn v2 v3 v4 v5 H.size (by first | exact hsn | assumption | omega) (by first | exact hno | assumption | omega)) (cwV 5 hts gL_law_X5_copy rfl rfl rfl (by decide +kernel) ⟨Nat.le_of_ble_eq_true rfl, Nat.le_of_ble_eq_true rfl⟩) ⟨gPreE_blind, va_recv hK hPc (ci := 5) (q0 := 0) rfl rfl, fun U hU hW => gPreE_of hU hW hK hPc hDc hE hS hFc⟩ rfl rfl hl.1 rfl (lv_room (Nat.le_of_ble_eq_true rfl)) dL_law_1491 ⟨Nat.le_of_ble_eq_true rfl, Nat.le_of_ble_eq_true rfl⟩) hS (fun q _ h => hFc q h) hFc (fun r_11 u t H locs ht hvm w_12 hB hz1 hk1 hS => ?_)
  obtain ⟨hP1, hK1, hD1⟩ := hB
  rw [ht] at hP1
  have hz9 : gPD G (va_A _ _) [zo5 xo tt rd nw th kp sh tu him, zo2 sh qn qo ql] H := ⟨hP1, hD1⟩
  have hP1 := hz9.1
  have hD1 := hz9.2
  have w_12 : r_11 = -2 := w_12
  have hz9 : gPD G A [zo1 rd tt b0 x2 x3 x4 x5 (nI td), zi G b0 160 fb, zo3 tt co en sk wr (nI tx), zr G co 6 fc, zi G c0 160 fcr0, zi G c1 160 fcr1, zi G c2 160 fcr2, zi G c3 160 fcr3, zi G c4 160 fcr4, zi G c5 160 fcr5, zr G en 6 fe, zi G e0 3 (nF fer0), zi G e1 3 (nF fer1), zi G e2 3 (nF fer2), zi G e3 3 (nF fer3), zi G e4 3 (nF fer4), zi G e5 3 (nF fer5), zi G sk 32 fsk, zo0 nw tt n1 n2 n3 n4 n5 n6 n7 n8 (nI jg) (nI pb) (nI lw), zi G n1 6 fnm, zi G n2 4 fso, zi G n3 4 fmi, zi G n4 4 fpa, zi G n5 6 fki, zi G n6 6 fmo, zi G n7 6 fsz, zi G n8 6 frd, zo0 th tt t1 t2 t3 t4 t5 t6 t7 t8 tj tb tl, zi G t1 6 unm, zi G t2 4 uso, zi G t3 4 umi, zi G t4 4 upa, zi G t5 6 uki, zi G t6 6 umo, zi G t7 6 usz, zi G t8 6 urd, zo0 kp tt k1 k2 k3 k4 k5 k6 k7 k8 (nI kj) (nI kb) (nI kl), zi G k1 6 gnm, zi G k2 4 gso, zi G k3 4 gmi, zi G k4 4 gpa, zi G k5 6 gki, zi G k6 6 gmo, zi G k7 6 gsz, zi G k8 6 grd, zr G qn 4 fn, zi G r0 40 fs0, zi G r1 40 fs1, zi G r2 40 fs2, zi G r3 40 fs3, zi G qo 4 fqo, zi G ql 4 (nF fql), zo4 tu tw tr, zr G tw 6 fw, zi G w0 6 fw0, zi G w1 6 fw1, zi G w2 6 fw2, zi G w3 6 fw3, zi G w4 6 fw4, zi G w5 6 fw5, zi G tr 64 ftr, zo6 mo (nI Npb) Akd Amo Ast (nI Njg) Aro Atp (nI Ntd) Acd Asr (nI Ntx) (nI Nru) Zhi Air Aih Ass Asq Ace Alw Z19 Z20 Z21 Z22 Awo Ahe Z25 Z26 Z27 Ask Ana Akp Z31 Z32 Z33 Z34 Agb Ago Afa Aga Z39 Z40 Avo, zi G Akd 6 Fkd, zi G Amo 6 Fmo, zi G Ast 12 Fst, zi G Aro 12 Fro, zi G Atp 160 Ftp, zi G Acd 1200 Fcd, zi G Asr 24 (nF Fsr), zi G Air 24 Fir, zi G Aih 3 Fih, zi G Ass 4 Fss, zi G Asq 4 (nF Fsq), zi G Ace 160 Fce, zi G Alw 40 Flw, zi G Awo 96 Fwo, zi G Ahe 200 Fhe, zi G Ask 200 Fsk, zi G Ana 6 Fna, zi G Akp 24 Fkp, zb G Agb 61 Fgb, zb G Ago 61 Fgo, zi G Afa 36 Ffa, zi G Aga 36 Fga, zi G Avo 64 Fvo, zo5 xo tt rd nw th kp sh tu him, zo2 sh qn qo ql] H := gJoin hP hD hk1 hFc hP1 hD1 [0, 46] [1, 2, 3, 4, 5, 6, 7, 8, 9, 10, 11, 12, 13, 14, 15, 16, 17, 18, 19, 20, 21, 22, 23, 24, 25, 26, 27, 28, 29, 30, 31, 32, 33, 34, 35, 36, 37, 38, 39, 40, 41, 42, 43, 44, 45, 47, 48, 49, 50, 51, 52, 53, 54, 55, 56, 57, 58, 59, 60, 61, 62, 63, 64, 65, 66, 67, 68, 69, 70, 71, 72, 73, 74, 75, 76, 77, 78, 79, 80, 81, 82, 83, 84, 85, 86] rfl rfl rfl (by decide +kernel) (by decide +kernel)
  have hP := hz9.1
  have hD := hz9.2
  subst w_12
  refine lv_pop hx hb dL_law_1494 rfl ?_
  refine lv_aload_n hx hb dL_law_1495 rfl (lv_at hl 1 rfl) ?_
  refine lv_aload_n hx hb dL_law_1496 rfl (lv_at hl 3 rfl) ?_
  refine lv_iload_n hx hb dL_law_1497 rfl (lv_at hl 0 rfl) ?_
  refine lv_iconst (v := 1) hx hb dL_law_1498 (by decide +kernel) ?_
  refine lv_iadd hx hb dL_law_1499 ?_
  refine lv_topi (fun v_13 ev_13 => ?_)
  have ev_13 : v_13 = nI ((7 * i7) + 1) := ev_13.trans (nI_add (7 * i7) 1)
  subst ev_13
  refine va_sld hx hb hX hbl hbA hS (i := nI ((7 * i7) + 1)) (vp_in_nI (by omega) (by omega)) dL_law_1500 ?_
  refine lv_topi (fun v_14 ev_14 => ?_)
  have ev_14 : (nI sn) = v_14 := (ev_14.trans (by rw [nI_clamp (by omega)]; exact hv1.symm)).symm
  subst ev_14
  refine lv_aload_n hx hb dL_law_1501 rfl (lv_at hl 3 rfl) ?_
  refine lv_iload_n hx hb dL_law_1502 rfl (lv_at hl 0 rfl) ?_
  refine lv_iconst (v := 2) hx hb dL_law_1503 (by decide +kernel) ?_
  refine lv_iadd hx hb dL_law_1504 ?_
  refine lv_topi (fun v_15 ev_15 => ?_)
  have ev_15 : v_15 = nI ((7 * i7) + 2) := ev_15.trans (nI_add (7 * i7) 2)
  subst ev_15
  refine va_sld hx hb hX hbl hbA hS (i := nI ((7 * i7) + 2)) (vp_in_nI (by omega) (by omega)) dL_law_1505 ?_
  refine lv_topi (fun v_16 ev_16 => ?_)
  have ev_16 : v2 = v_16 := (ev_16.trans (by rw [nI_clamp (by omega)]; exact hv2.symm)).symm
  subst ev_16
  refine lv_aload_n hx hb dL_law_1506 rfl (lv_at hl 3 rfl) ?_
  refine lv_iload_n hx hb dL_law_1507 rfl (lv_at hl 0 rfl) ?_
  refine lv_iconst (v := 3) hx hb dL_law_1508 (by decide +kernel) ?_
  refine lv_iadd hx hb dL_law_1509 ?_
  refine lv_topi (fun v_17 ev_17 => ?_)
  have ev_17 : v_17 = nI ((7 * i7) + 3) := ev_17.trans (nI_add (7 * i7) 3)
  subst ev_17
  refine va_sld hx hb hX hbl hbA hS (i := nI ((7 * i7) + 3)) (vp_in_nI (by omega) (by omega)) dL_law_1510 ?_
  refine lv_topi (fun v_18 ev_18 => ?_)
  have ev_18 : v3 = v_18 := (ev_18.trans (by rw [nI_clamp (by omega)]; exact hv3.symm)).symm
  subst ev_18
  refine lv_aload_n hx hb dL_law_1511 rfl (lv_at hl 3 rfl) ?_
  refine lv_iload_n hx hb dL_law_1512 rfl (lv_at hl 0 rfl) ?_
  refine lv_iconst (v := 4) hx hb dL_law_1513 (by decide +kernel) ?_
  refine lv_iadd hx hb dL_law_1514 ?_
  refine lv_topi (fun v_19 ev_19 => ?_)
  have ev_19 : v_19 = nI ((7 * i7) + 4) := ev_19.trans (nI_add (7 * i7) 4)
  subst ev_19
  refine va_sld hx hb hX hbl hbA hS (i := nI ((7 * i7) + 4)) (vp_in_nI (by omega) (by omega)) dL_law_1515 ?_
  refine lv_topi (fun v_20 ev_20 => ?_)
  have ev_20 : v4 = v_20 := (ev_20.trans (by rw [nI_clamp (by omega)]; exact hv4.symm)).symm
  subst ev_20
  refine lv_aload_n hx hb dL_law_1516 rfl (lv_at hl 3 rfl) ?_
  refine lv_iload_n hx hb dL_law_1517 rfl (lv_at hl 0 rfl) ?_
  refine lv_iconst (v := 5) hx hb dL_law_1518 (by decide +kernel) ?_
  refine lv_iadd hx hb dL_law_1519 ?_
  refine lv_topi (fun v_21 ev_21 => ?_)
  have ev_21 : v_21 = nI ((7 * i7) + 5) := ev_21.trans (nI_add (7 * i7) 5)
  subst ev_21
  refine va_sld hx hb hX hbl hbA hS (i := nI ((7 * i7) + 5)) (vp_in_nI (by omega) (by omega)) dL_law_1520 ?_
  refine lv_topi (fun v_22 ev_22 => ?_)
  have ev_22 : v5 = v_22 := (ev_22.trans (by rw [nI_clamp (by omega)]; exact hv5.symm)).symm
  subst ev_22
  have hz9 : gPD G A [zo6 mo (nI Npb) Akd Amo Ast (nI Njg) Aro Atp (nI Ntd) Acd Asr (nI Ntx) (nI Nru) Zhi Air Aih Ass Asq Ace Alw Z19 Z20 Z21 Z22 Awo Ahe Z25 Z26 Z27 Ask Ana Akp Z31 Z32 Z33 Z34 Agb Ago Afa Aga Z39 Z40 Avo, zi G Ass 4 Fss, zi G Asq 4 (nF Fsq), zi G Ace 160 Fce] H := ⟨hP.sub [61, 71, 72, 73] rfl, hD.sub [61, 71, 72, 73] (by decide +kernel) rfl⟩
  have hPc := hz9.1
  have hDc := hz9.2
  have hFc := gFree hPc hD hS hA [61, 71, 72, 73] rfl
  refine va_calli (va_runV (As := [.int (nI sn), .int v2, .int v3, .int v4, .int v5]) (rest := []) ⟨hx, hb, hml, hown, hts⟩ (c_X6_copy l G mo Akd Amo Ast Aro Atp Acd Asr Air Aih Ass Asq Ace Alw Awo Ahe Ask Ana Akp Agb Ago Afa Aga Avo Npb Njg Ntd Ntx Nru Zhi Z19 Z20 Z21 Z22 Z25 Z26 Z27 Z31 Z32 Z33 Z34 Z39 Z40 Fss Fsq Fce (nI sn) v2 v3 v4 v5 H.size (by first | exact hsq | assumption | omega) (by first | exact hpb | assumption | omega) (by first | exact hjg | assumption | omega) (by first | exact htx | assumption | omega) (by first | exact hru | assumption | omega)) (cwV 5 hts gL_law_X6_copy rfl rfl rfl (by decide +kernel) ⟨Nat.le_of_ble_eq_true rfl, Nat.le_of_ble_eq_true rfl⟩) ⟨gPre_blind, va_recv hK hPc (ci := 6) (q0 := 0) rfl rfl, fun U hU hW => gPre_of hU hW hK hPc hDc⟩ rfl rfl hl.1 rfl (lv_room (Nat.le_of_ble_eq_true rfl)) dL_law_1521 ⟨Nat.le_of_ble_eq_true rfl, Nat.le_of_ble_eq_true rfl⟩) hS (fun q _ h => hFc q h) hFc (fun r_23 u t H locs ht hvm w_24 hB hz1 hk1 hS => ?_)
  obtain ⟨hP1, hK1, hD1⟩ := hB
  rw [ht] at hP1
  have hz9 : gPD G (va_A _ _) [zo6 mo (nI Npb) Akd Amo Ast (nI Njg) Aro Atp (nI Ntd) Acd Asr (nI Ntx) (nI Nru) Zhi Air Aih Ass Asq Ace Alw Z19 Z20 Z21 Z22 Awo Ahe Z25 Z26 Z27 Ask Ana Akp Z31 Z32 Z33 Z34 Agb Ago Afa Aga Z39 Z40 Avo, zi G Ass 4 Fss, zi G Asq 4 (nF Fsq), zi G Ace 160 (m_X6_copy_ce Fss Fsq Fce (nI sn) v2 v3 v4 v5)] H := ⟨hP1, hD1⟩
  have hP1 := hz9.1
  have hD1 := hz9.2
  have w_24 : r_23 = m_X6_copy Fss Fsq (nI sn) v2 v3 v4 v5 := w_24
  have hz9 : gPD G A [zo1 rd tt b0 x2 x3 x4 x5 (nI td), zi G b0 160 fb, zo3 tt co en sk wr (nI tx), zr G co 6 fc, zi G c0 160 fcr0, zi G c1 160 fcr1, zi G c2 160 fcr2, zi G c3 160 fcr3, zi G c4 160 fcr4, zi G c5 160 fcr5, zr G en 6 fe, zi G e0 3 (nF fer0), zi G e1 3 (nF fer1), zi G e2 3 (nF fer2), zi G e3 3 (nF fer3), zi G e4 3 (nF fer4), zi G e5 3 (nF fer5), zi G sk 32 fsk, zo0 nw tt n1 n2 n3 n4 n5 n6 n7 n8 (nI jg) (nI pb) (nI lw), zi G n1 6 fnm, zi G n2 4 fso, zi G n3 4 fmi, zi G n4 4 fpa, zi G n5 6 fki, zi G n6 6 fmo, zi G n7 6 fsz, zi G n8 6 frd, zo0 th tt t1 t2 t3 t4 t5 t6 t7 t8 tj tb tl, zi G t1 6 unm, zi G t2 4 uso, zi G t3 4 umi, zi G t4 4 upa, zi G t5 6 uki, zi G t6 6 umo, zi G t7 6 usz, zi G t8 6 urd, zo0 kp tt k1 k2 k3 k4 k5 k6 k7 k8 (nI kj) (nI kb) (nI kl), zi G k1 6 gnm, zi G k2 4 gso, zi G k3 4 gmi, zi G k4 4 gpa, zi G k5 6 gki, zi G k6 6 gmo, zi G k7 6 gsz, zi G k8 6 grd, zr G qn 4 fn, zi G r0 40 fs0, zi G r1 40 fs1, zi G r2 40 fs2, zi G r3 40 fs3, zi G qo 4 fqo, zi G ql 4 (nF fql), zo4 tu tw tr, zr G tw 6 fw, zi G w0 6 fw0, zi G w1 6 fw1, zi G w2 6 fw2, zi G w3 6 fw3, zi G w4 6 fw4, zi G w5 6 fw5, zi G tr 64 ftr, zi G Akd 6 Fkd, zi G Amo 6 Fmo, zi G Ast 12 Fst, zi G Aro 12 Fro, zi G Atp 160 Ftp, zi G Acd 1200 Fcd, zi G Asr 24 (nF Fsr), zi G Air 24 Fir, zi G Aih 3 Fih, zi G Alw 40 Flw, zi G Awo 96 Fwo, zi G Ahe 200 Fhe, zi G Ask 200 Fsk, zi G Ana 6 Fna, zi G Akp 24 Fkp, zb G Agb 61 Fgb, zb G Ago 61 Fgo, zi G Afa 36 Ffa, zi G Aga 36 Fga, zi G Avo 64 Fvo, zo5 xo tt rd nw th kp sh tu him, zo2 sh qn qo ql, zo6 mo (nI Npb) Akd Amo Ast (nI Njg) Aro Atp (nI Ntd) Acd Asr (nI Ntx) (nI Nru) Zhi Air Aih Ass Asq Ace Alw Z19 Z20 Z21 Z22 Awo Ahe Z25 Z26 Z27 Ask Ana Akp Z31 Z32 Z33 Z34 Agb Ago Afa Aga Z39 Z40 Avo, zi G Ass 4 Fss, zi G Asq 4 (nF Fsq), zi G Ace 160 (m_X6_copy_ce Fss Fsq Fce (nI sn) v2 v3 v4 v5)] H := gJoin hP hD hk1 hFc hP1 hD1 [61, 71, 72, 73] [0, 1, 2, 3, 4, 5, 6, 7, 8, 9, 10, 11, 12, 13, 14, 15, 16, 17, 18, 19, 20, 21, 22, 23, 24, 25, 26, 27, 28, 29, 30, 31, 32, 33, 34, 35, 36, 37, 38, 39, 40, 41, 42, 43, 44, 45, 46, 47, 48, 49, 50, 51, 52, 53, 54, 55, 56, 57, 58, 59, 60, 62, 63, 64, 65, 66, 67, 68, 69, 70, 74, 75, 76, 77, 78, 79, 80, 81, 82, 83, 84, 85, 86] rfl rfl rfl (by decide +kernel) (by decide +kernel)
  have hP := hz9.1
  have hD := hz9.2
  subst w_24
  refine lv_pop hx hb dL_law_1524 rfl ?_
  refine lv_goto (tgt := 1614) hx hb dL_law_1525 (by decide +kernel) ?_
  refine lv_iinc (v := nI (7 * (i7 + 1))) (lv' := [zI 3 (nI (7 * (i7 + 1))), zR 2 mo, zR 1 xo, zR 0 b]) hx hb dL_law_1614 hl (k := 0) rfl (by show nI (7 * i7) + 7 = nI (7 * (i7 + 1)); exact nI_add (7 * i7) 7) (by decide +kernel) rfl (fun ls hl => ?_)
  refine lv_goto (tgt := 18) hx hb dL_law_1617 (by decide +kernel) ?_
  exact K him x2 x3 x4 x5 td fb wr fsk jg pb lw fnm fso fmi fpa fki fmo fsz frd tj tb tl unm uso umi upa uki umo usz urd kj kb kl gnm gso gmi gpa gki gmo gsz grd fs0 fs1 fs2 fs3 fqo fql fw0 fw1 fw2 fw3 fw4 fw5 ftr Npb Njg Ntd Ntx Nru Zhi Z19 Z20 Z21 Z22 Z25 Z26 Z27 Z31 Z32 Z33 Z34 Z39 Z40 Fkd Fmo Fst Fro Ftp Fcd Fsr Fir Fih Fss Fsq (m_X6_copy_ce Fss Fsq Fce (nI sn) v2 v3 v4 v5) Flw Fwo Fhe Fsk Fna Fkp Fgb Fgo Ffa Fga Fvo hFX hFM (rl_copy_C hsn hno hRL) hRQ H _ ls (hP.sub [81, 0, 1, 2, 3, 4, 5, 6, 7, 8, 9, 10, 11, 12, 13, 14, 15, 16, 17, 18, 19, 20, 21, 22, 23, 24, 25, 26, 27, 28, 29, 30, 31, 32, 33, 34, 35, 36, 37, 38, 39, 40, 41, 42, 43, 44, 82, 45, 46, 47, 48, 49, 50, 51, 52, 53, 54, 55, 56, 57, 58, 59, 60, 83, 61, 62, 63, 64, 65, 66, 67, 68, 69, 84, 85, 86, 70, 71, 72, 73, 74, 75, 76, 77, 78, 79, 80] rfl) (hD.sub [81, 0, 1, 2, 3, 4, 5, 6, 7, 8, 9, 10, 11, 12, 13, 14, 15, 16, 17, 18, 19, 20, 21, 22, 23, 24, 25, 26, 27, 28, 29, 30, 31, 32, 33, 34, 35, 36, 37, 38, 39, 40, 41, 42, 43, 44, 82, 45, 46, 47, 48, 49, 50, 51, 52, 53, 54, 55, 56, 57, 58, 59, 60, 83, 61, 62, 63, 64, 65, 66, 67, 68, 69, 84, 85, 86, 70, 71, 72, 73, 74, 75, 76, 77, 78, 79, 80] (by decide +kernel) rfl) hS (lv_sub hl [0, 1, 2, 3] rfl)
