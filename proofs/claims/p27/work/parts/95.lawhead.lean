set_option maxHeartbeats 4000000 in
set_option maxRecDepth 100000 in
theorem law_head {p : Program} {l : Launch} {e : Env} {s : State} {m : MethodId} {below : List Frame} {meth : Method} {c : Code} {b L : Nat} {xs : Nat → Int32} {G : gG} {E : gS} {A : Nat → Prop} (C0 : lw_At p s m meth c b L xs) (hE : gE E A s s.heap) (hK : gK G s) (hAe : A = fun q => s.heap.size ≤ q) {xo tt rd nw th kp sh tu b0 co en sk c0 c1 c2 c3 c4 c5 e0 e1 e2 e3 e4 e5 n1 n2 n3 n4 n5 n6 n7 n8 t1 t2 t3 t4 t5 t6 t7 t8 k1 k2 k3 k4 k5 k6 k7 k8 qn qo ql r0 r1 r2 r3 tw tr w0 w1 w2 w3 w4 w5 mo Akd Amo Ast Aro Atp Acd Asr Air Aih Ass Asq Ace Alw Awo Ahe Ask Ana Akp Agb Ago Afa Aga Avo : Nat} {fc fe fn fw : Nat → Option Nat} {i7 : Nat} (hi0 : 7 * i7 ≤ L) (hL : L ≤ 3584) (hT : LTab c0 c1 c2 c3 c4 c5 e0 e1 e2 e3 e4 e5 r0 r1 r2 r3 w0 w1 w2 w3 w4 w5 fc fe fn fw) (K : 7 * i7 + 7 ≤ L → LawK p l e s m below meth c b G A xo tt rd nw th kp sh tu b0 co en sk c0 c1 c2 c3 c4 c5 e0 e1 e2 e3 e4 e5 n1 n2 n3 n4 n5 n6 n7 n8 t1 t2 t3 t4 t5 t6 t7 t8 k1 k2 k3 k4 k5 k6 k7 k8 qn qo ql r0 r1 r2 r3 tw tr w0 w1 w2 w3 w4 w5 mo Akd Amo Ast Aro Atp Acd Asr Air Aih Ass Asq Ace Alw Awo Ahe Ask Ana Akp Agb Ago Afa Aga Avo fc fe fn fw (i7 + 1)) : LawK p l e s m below meth c b G A xo tt rd nw th kp sh tu b0 co en sk c0 c1 c2 c3 c4 c5 e0 e1 e2 e3 e4 e5 n1 n2 n3 n4 n5 n6 n7 n8 t1 t2 t3 t4 t5 t6 t7 t8 k1 k2 k3 k4 k5 k6 k7 k8 qn qo ql r0 r1 r2 r3 tw tr w0 w1 w2 w3 w4 w5 mo Akd Amo Ast Aro Atp Acd Asr Air Aih Ass Asq Ace Alw Awo Ahe Ask Ana Akp Agb Ago Afa Aga Avo fc fe fn fw i7 := by
  intro tx fcr0 fcr1 fcr2 fcr3 fcr4 fcr5 fer0 fer1 fer2 fer3 fer4 fer5 hTX him x2 x3 x4 x5 td fb wr fsk jg pb lw fnm fso fmi fpa fki fmo fsz frd tj tb tl unm uso umi upa uki umo usz urd kj kb kl gnm gso gmi gpa gki gmo gsz grd fs0 fs1 fs2 fs3 fqo fql fw0 fw1 fw2 fw3 fw4 fw5 ftr Npb Njg Ntd Ntx Nru Zhi Z19 Z20 Z21 Z22 Z25 Z26 Z27 Z31 Z32 Z33 Z34 Z39 Z40 Fkd Fmo Fst Fro Ftp Fcd Fsr Fir Fih Fss Fsq Fce Flw Fwo Fhe Fsk Fna Fkp Fgb Fgo Ffa Fga Fvo hFX hFM hRL hRQ H locs ls hP hD hS hl
  obtain ⟨hx, hb, hret, hml, hown, hts0, hX, hbl, hlocks, hgv⟩ := id C0
  have hts : ∀ w ∈ wsL_law, w.before #[Value.ref b] s = true := fun w h => hts0 w (wsL_law_in w h)
  have hown : s.vm.findClass RL = some m.cls := hown
  have hA : ∀ q : Nat, s.heap.size ≤ q → A q := fun q h => by rw [hAe]; exact h
  have hbA : ¬ A b := by rw [hAe]; exact Nat.not_le.mpr hbl
  have hP0 := hP
  have hD0 := hD
  refine lv_iload_n hx hb dL_law_18 rfl (lv_at hl 0 rfl) ?_
  refine lv_aload_n hx hb dL_law_19 rfl (lv_at hl 3 rfl) ?_
  refine va_slen hx hb hX hbl hbA hS dL_law_20 ?_
  refine lv_topi (fun v_1 ev_1 => ?_)
  have ev_1 : v_1 = nI L := ev_1
  subst ev_1
  refine lv_bipush (v := 7) hx hb dL_law_21 (by decide +kernel) ?_
  refine lv_isub hx hb dL_law_23 ?_
  refine lv_icmp_gt (tgt := 1620) hx hb dL_law_24 (by decide +kernel) (fun c_2 => ?_) (fun c_2 => ?_)
  · skip
    refine lv_iconst (v := 1) hx hb dL_law_1620 (by decide +kernel) ?_
    refine va_forget (fun q hq => by have h9 := hS.2.2 q hq; rw [hAe] at h9; exact h9) ?_
    refine W.widen (k := 600000) (n := 7302250) (Nat.le_of_ble_eq_true rfl) (Nat.le_of_ble_eq_true rfl) ?_
    exact lw_ret hx hb hret hlocks dL_law_1621
  · skip
    have hi := hd_le hL hi0 c_2
    refine lv_aload_n hx hb dL_law_27 rfl (lv_at hl 3 rfl) ?_
    refine lv_iload_n hx hb dL_law_28 rfl (lv_at hl 0 rfl) ?_
    refine va_sld hx hb hX hbl hbA hS (i := nI (7 * i7)) (vp_in_nI (by omega) (by omega)) dL_law_29 ?_
    refine lv_topi (fun v0 ev0 => ?_)
    clear ev0
    refine lv_bipush (v := 63) hx hb dL_law_30 (by decide +kernel) ?_
    refine lv_iand hx hb dL_law_32 ?_
    obtain ⟨z9, hz9⟩ : ∃ z, z = v0 &&& 63 := ⟨_, rfl⟩
    rw [← hz9]
    by_cases s_0 : z9 = 0
    · refine lv_tableIn (off := 159) (tgt := 192) hx hb dL_law_33 (by rw [s_0]; decide) (by rw [s_0]; decide) (by rw [s_0]; decide) (by decide +kernel) ?_
      exact ld_count C0 hE hK hAe hi hL hT hTX rfl rfl rfl rfl rfl rfl (K hi) hFX hFM hRL hRQ hP0 hD0 hS hl
    by_cases s_1 : z9 = 1
    · refine lv_tableIn (off := 182) (tgt := 215) hx hb dL_law_33 (by rw [s_1]; decide) (by rw [s_1]; decide) (by rw [s_1]; decide) (by decide +kernel) ?_
      exact ld_judge C0 hE hK hAe hi hL hT hTX rfl rfl rfl rfl rfl rfl (K hi) hFX hFM hRL hRQ hP0 hD0 hS hl
    by_cases s_2 : z9 = 2
    · refine lv_tableIn (off := 205) (tgt := 238) hx hb dL_law_33 (by rw [s_2]; decide) (by rw [s_2]; decide) (by rw [s_2]; decide) (by decide +kernel) ?_
      exact ld_shoe C0 hE hK hAe hi hL hT hTX rfl rfl rfl rfl rfl rfl (K hi) hFX hFM hRL hRQ hP0 hD0 hS hl
    by_cases s_3 : z9 = 3
    · refine lv_tableIn (off := 248) (tgt := 281) hx hb dL_law_33 (by rw [s_3]; decide) (by rw [s_3]; decide) (by rw [s_3]; decide) (by decide +kernel) ?_
      exact ld_bench C0 hE hK hAe hi hL hT hTX rfl rfl rfl rfl rfl rfl (K hi) hFX hFM hRL hRQ hP0 hD0 hS hl
    by_cases s_4 : z9 = 4
    · refine lv_tableIn (off := 281) (tgt := 314) hx hb dL_law_33 (by rw [s_4]; decide) (by rw [s_4]; decide) (by rw [s_4]; decide) (by decide +kernel) ?_
      exact ld_feed C0 hE hK hAe hi hL hT hTX rfl rfl rfl rfl rfl rfl (K hi) hFX hFM hRL hRQ hP0 hD0 hS hl
    by_cases s_5 : z9 = 5
    · refine lv_tableIn (off := 356) (tgt := 389) hx hb dL_law_33 (by rw [s_5]; decide) (by rw [s_5]; decide) (by rw [s_5]; decide) (by decide +kernel) ?_
      exact ld_text C0 hE hK hAe hi hL hT hTX rfl rfl rfl rfl rfl rfl (K hi) hFX hFM hRL hRQ hP0 hD0 hS hl
    by_cases s_6 : z9 = 6
    · refine lv_tableIn (off := 369) (tgt := 402) hx hb dL_law_33 (by rw [s_6]; decide) (by rw [s_6]; decide) (by rw [s_6]; decide) (by decide +kernel) ?_
      exact ld_force C0 hE hK hAe hi hL hT hTX rfl rfl rfl rfl rfl rfl (K hi) hFX hFM hRL hRQ hP0 hD0 hS hl
    by_cases s_7 : z9 = 7
    · refine lv_tableIn (off := 392) (tgt := 425) hx hb dL_law_33 (by rw [s_7]; decide) (by rw [s_7]; decide) (by rw [s_7]; decide) (by decide +kernel) ?_
      exact ld_asks C0 hE hK hAe hi hL hT hTX rfl rfl rfl rfl rfl rfl (K hi) hFX hFM hRL hRQ hP0 hD0 hS hl
    by_cases s_8 : z9 = 8
    · refine lv_tableIn (off := 435) (tgt := 468) hx hb dL_law_33 (by rw [s_8]; decide) (by rw [s_8]; decide) (by rw [s_8]; decide) (by decide +kernel) ?_
      exact ld_pebble C0 hE hK hAe hi hL hT hTX rfl rfl rfl rfl rfl rfl (K hi) hFX hFM hRL hRQ hP0 hD0 hS hl
    by_cases s_9 : z9 = 9
    · refine lv_tableIn (off := 468) (tgt := 501) hx hb dL_law_33 (by rw [s_9]; decide) (by rw [s_9]; decide) (by rw [s_9]; decide) (by decide +kernel) ?_
      exact ld_put C0 hE hK hAe hi hL hT hTX rfl rfl rfl rfl rfl rfl (K hi) hFX hFM hRL hRQ hP0 hD0 hS hl
    by_cases s_10 : z9 = 10
    · refine lv_tableIn (off := 511) (tgt := 544) hx hb dL_law_33 (by rw [s_10]; decide) (by rw [s_10]; decide) (by rw [s_10]; decide) (by decide +kernel) ?_
      exact ld_told C0 hE hK hAe hi hL hT hTX rfl rfl rfl rfl rfl rfl (K hi) hFX hFM hRL hRQ hP0 hD0 hS hl
    by_cases s_11 : z9 = 11
    · refine lv_tableIn (off := 544) (tgt := 577) hx hb dL_law_33 (by rw [s_11]; decide) (by rw [s_11]; decide) (by rw [s_11]; decide) (by decide +kernel) ?_
      exact ld_walk C0 hE hK hAe hi hL hT hTX rfl rfl rfl rfl rfl rfl (K hi) hFX hFM hRL hRQ hP0 hD0 hS hl
    by_cases s_12 : z9 = 12
    · refine lv_tableIn (off := 587) (tgt := 620) hx hb dL_law_33 (by rw [s_12]; decide) (by rw [s_12]; decide) (by rw [s_12]; decide) (by decide +kernel) ?_
      exact ld_hear C0 hE hK hAe hi hL hT hTX rfl rfl rfl rfl rfl rfl (K hi) hFX hFM hRL hRQ hP0 hD0 hS hl
    by_cases s_13 : z9 = 13
    · refine lv_tableIn (off := 640) (tgt := 673) hx hb dL_law_33 (by rw [s_13]; decide) (by rw [s_13]; decide) (by rw [s_13]; decide) (by decide +kernel) ?_
      exact ld_fewest C0 hE hK hAe hi hL hT hTX rfl rfl rfl rfl rfl rfl (K hi) hFX hFM hRL hRQ hP0 hD0 hS hl
    by_cases s_14 : z9 = 14
    · refine lv_tableIn (off := 673) (tgt := 706) hx hb dL_law_33 (by rw [s_14]; decide) (by rw [s_14]; decide) (by rw [s_14]; decide) (by decide +kernel) ?_
      exact ld_sand C0 hE hK hAe hi hL hT hTX rfl rfl rfl rfl rfl rfl (K hi) hFX hFM hRL hRQ hP0 hD0 hS hl
    by_cases s_15 : z9 = 15
    · refine lv_tableIn (off := 706) (tgt := 739) hx hb dL_law_33 (by rw [s_15]; decide) (by rw [s_15]; decide) (by rw [s_15]; decide) (by decide +kernel) ?_
      exact ld_unlike C0 hE hK hAe hi hL hT hTX rfl rfl rfl rfl rfl rfl (K hi) hFX hFM hRL hRQ hP0 hD0 hS hl
    by_cases s_16 : z9 = 16
    · refine lv_tableIn (off := 749) (tgt := 782) hx hb dL_law_33 (by rw [s_16]; decide) (by rw [s_16]; decide) (by rw [s_16]; decide) (by decide +kernel) ?_
      exact ld_hardest C0 hE hK hAe hi hL hT hTX rfl rfl rfl rfl rfl rfl (K hi) hFX hFM hRL hRQ hP0 hD0 hS hl
    by_cases s_17 : z9 = 17
    · refine lv_tableIn (off := 782) (tgt := 815) hx hb dL_law_33 (by rw [s_17]; decide) (by rw [s_17]; decide) (by rw [s_17]; decide) (by decide +kernel) ?_
      exact ld_thick C0 hE hK hAe hi hL hT hTX rfl rfl rfl rfl rfl rfl (K hi) hFX hFM hRL hRQ hP0 hD0 hS hl
    by_cases s_18 : z9 = 18
    · refine lv_tableIn (off := 825) (tgt := 858) hx hb dL_law_33 (by rw [s_18]; decide) (by rw [s_18]; decide) (by rw [s_18]; decide) (by decide +kernel) ?_
      exact ld_order C0 hE hK hAe hi hL hT hTX rfl rfl rfl rfl rfl rfl (K hi) hFX hFM hRL hRQ hP0 hD0 hS hl
    by_cases s_19 : z9 = 19
    · refine lv_tableIn (off := 868) (tgt := 901) hx hb dL_law_33 (by rw [s_19]; decide) (by rw [s_19]; decide) (by rw [s_19]; decide) (by decide +kernel) ?_
      exact ld_counsel C0 hE hK hAe hi hL hT hTX rfl rfl rfl rfl rfl rfl (K hi) hFX hFM hRL hRQ hP0 hD0 hS hl
    by_cases s_20 : z9 = 20
    · refine lv_tableIn (off := 911) (tgt := 944) hx hb dL_law_33 (by rw [s_20]; decide) (by rw [s_20]; decide) (by rw [s_20]; decide) (by decide +kernel) ?_
      exact ld_reversed C0 hE hK hAe hi hL hT hTX rfl rfl rfl rfl rfl rfl (K hi) hFX hFM hRL hRQ hP0 hD0 hS hl
    by_cases s_21 : z9 = 21
    · refine lv_tableIn (off := 944) (tgt := 977) hx hb dL_law_33 (by rw [s_21]; decide) (by rw [s_21]; decide) (by rw [s_21]; decide) (by decide +kernel) ?_
      exact ld_kinds C0 hE hK hAe hi hL hT hTX rfl rfl rfl rfl rfl rfl (K hi) hFX hFM hRL hRQ hP0 hD0 hS hl
    by_cases s_22 : z9 = 22
    · refine lv_tableIn (off := 997) (tgt := 1030) hx hb dL_law_33 (by rw [s_22]; decide) (by rw [s_22]; decide) (by rw [s_22]; decide) (by decide +kernel) ?_
      exact ld_soled C0 hE hK hAe hi hL hT hTX rfl rfl rfl rfl rfl rfl (K hi) hFX hFM hRL hRQ hP0 hD0 hS hl
    by_cases s_23 : z9 = 23
    · refine lv_tableIn (off := 1030) (tgt := 1063) hx hb dL_law_33 (by rw [s_23]; decide) (by rw [s_23]; decide) (by rw [s_23]; decide) (by decide +kernel) ?_
      exact ld_sizes C0 hE hK hAe hi hL hT hTX rfl rfl rfl rfl rfl rfl (K hi) hFX hFM hRL hRQ hP0 hD0 hS hl
    by_cases s_24 : z9 = 24
    · refine lv_tableIn (off := 1083) (tgt := 1116) hx hb dL_law_33 (by rw [s_24]; decide) (by rw [s_24]; decide) (by rw [s_24]; decide) (by decide +kernel) ?_
      exact ld_whose C0 hE hK hAe hi hL hT hTX rfl rfl rfl rfl rfl rfl (K hi) hFX hFM hRL hRQ hP0 hD0 hS hl
    by_cases s_25 : z9 = 25
    · refine lv_tableIn (off := 1106) (tgt := 1139) hx hb dL_law_33 (by rw [s_25]; decide) (by rw [s_25]; decide) (by rw [s_25]; decide) (by decide +kernel) ?_
      exact ld_laws C0 hE hK hAe hi hL hT hTX rfl rfl rfl rfl rfl rfl (K hi) hFX hFM hRL hRQ hP0 hD0 hS hl
    by_cases s_26 : z9 = 26
    · refine lv_tableIn (off := 1139) (tgt := 1172) hx hb dL_law_33 (by rw [s_26]; decide) (by rw [s_26]; decide) (by rw [s_26]; decide) (by decide +kernel) ?_
      exact ld_film C0 hE hK hAe hi hL hT hTX rfl rfl rfl rfl rfl rfl (K hi) hFX hFM hRL hRQ hP0 hD0 hS hl
    by_cases s_27 : z9 = 27
    · refine lv_tableIn (off := 1182) (tgt := 1215) hx hb dL_law_33 (by rw [s_27]; decide) (by rw [s_27]; decide) (by rw [s_27]; decide) (by decide +kernel) ?_
      exact ld_drawn C0 hE hK hAe hi hL hT hTX rfl rfl rfl rfl rfl rfl (K hi) hFX hFM hRL hRQ hP0 hD0 hS hl
    by_cases s_28 : z9 = 28
    · refine lv_tableIn (off := 1245) (tgt := 1278) hx hb dL_law_33 (by rw [s_28]; decide) (by rw [s_28]; decide) (by rw [s_28]; decide) (by decide +kernel) ?_
      exact ld_odds C0 hE hK hAe hi hL hT hTX rfl rfl rfl rfl rfl rfl (K hi) hFX hFM hRL hRQ hP0 hD0 hS hl
    by_cases s_29 : z9 = 29
    · refine lv_tableIn (off := 1320) (tgt := 1353) hx hb dL_law_33 (by rw [s_29]; decide) (by rw [s_29]; decide) (by rw [s_29]; decide) (by decide +kernel) ?_
      exact ld_image C0 hE hK hAe hi hL hT hTX rfl rfl rfl rfl rfl rfl (K hi) hFX hFM hRL hRQ hP0 hD0 hS hl
    by_cases s_30 : z9 = 30
    · refine lv_tableIn (off := 1333) (tgt := 1366) hx hb dL_law_33 (by rw [s_30]; decide) (by rw [s_30]; decide) (by rw [s_30]; decide) (by decide +kernel) ?_
      exact ld_back C0 hE hK hAe hi hL hT hTX rfl rfl rfl rfl rfl rfl (K hi) hFX hFM hRL hRQ hP0 hD0 hS hl
    by_cases s_31 : z9 = 31
    · refine lv_tableIn (off := 1346) (tgt := 1379) hx hb dL_law_33 (by rw [s_31]; decide) (by rw [s_31]; decide) (by rw [s_31]; decide) (by decide +kernel) ?_
      exact ld_sheet C0 hE hK hAe hi hL hT hTX rfl rfl rfl rfl rfl rfl (K hi) hFX hFM hRL hRQ hP0 hD0 hS hl
    by_cases s_32 : z9 = 32
    · refine lv_tableIn (off := 1389) (tgt := 1422) hx hb dL_law_33 (by rw [s_32]; decide) (by rw [s_32]; decide) (by rw [s_32]; decide) (by decide +kernel) ?_
      exact ld_cell C0 hE hK hAe hi hL hT hTX rfl rfl rfl rfl rfl rfl (K hi) hFX hFM hRL hRQ hP0 hD0 hS hl
    by_cases s_33 : z9 = 33
    · refine lv_tableIn (off := 1432) (tgt := 1465) hx hb dL_law_33 (by rw [s_33]; decide) (by rw [s_33]; decide) (by rw [s_33]; decide) (by decide +kernel) ?_
      exact ld_copy C0 hE hK hAe hi hL hT hTX rfl rfl rfl rfl rfl rfl (K hi) hFX hFM hRL hRQ hP0 hD0 hS hl
    by_cases s_34 : z9 = 34
    · refine lv_tableIn (off := 1495) (tgt := 1528) hx hb dL_law_33 (by rw [s_34]; decide) (by rw [s_34]; decide) (by rw [s_34]; decide) (by decide +kernel) ?_
      exact ld_pebblesBy C0 hE hK hAe hi hL hT hTX rfl rfl rfl rfl rfl rfl (K hi) hFX hFM hRL hRQ hP0 hD0 hS hl
    by_cases s_35 : z9 = 35
    · refine lv_tableIn (off := 1548) (tgt := 1581) hx hb dL_law_33 (by rw [s_35]; decide) (by rw [s_35]; decide) (by rw [s_35]; decide) (by decide +kernel) ?_
      exact ld_taken C0 hE hK hAe hi hL hT hTX rfl rfl rfl rfl rfl rfl (K hi) hFX hFM hRL hRQ hP0 hD0 hS hl
    have s_0T := lv_neT (a := 0) s_0 (by decide +kernel)
    have s_1T := lv_neT (a := 1) s_1 (by decide +kernel)
    have s_2T := lv_neT (a := 2) s_2 (by decide +kernel)
    have s_3T := lv_neT (a := 3) s_3 (by decide +kernel)
    have s_4T := lv_neT (a := 4) s_4 (by decide +kernel)
    have s_5T := lv_neT (a := 5) s_5 (by decide +kernel)
    have s_6T := lv_neT (a := 6) s_6 (by decide +kernel)
    have s_7T := lv_neT (a := 7) s_7 (by decide +kernel)
    have s_8T := lv_neT (a := 8) s_8 (by decide +kernel)
    have s_9T := lv_neT (a := 9) s_9 (by decide +kernel)
    have s_10T := lv_neT (a := 10) s_10 (by decide +kernel)
    have s_11T := lv_neT (a := 11) s_11 (by decide +kernel)
    have s_12T := lv_neT (a := 12) s_12 (by decide +kernel)
    have s_13T := lv_neT (a := 13) s_13 (by decide +kernel)
    have s_14T := lv_neT (a := 14) s_14 (by decide +kernel)
    have s_15T := lv_neT (a := 15) s_15 (by decide +kernel)
    have s_16T := lv_neT (a := 16) s_16 (by decide +kernel)
    have s_17T := lv_neT (a := 17) s_17 (by decide +kernel)
    have s_18T := lv_neT (a := 18) s_18 (by decide +kernel)
    have s_19T := lv_neT (a := 19) s_19 (by decide +kernel)
    have s_20T := lv_neT (a := 20) s_20 (by decide +kernel)
    have s_21T := lv_neT (a := 21) s_21 (by decide +kernel)
    have s_22T := lv_neT (a := 22) s_22 (by decide +kernel)
    have s_23T := lv_neT (a := 23) s_23 (by decide +kernel)
    have s_24T := lv_neT (a := 24) s_24 (by decide +kernel)
    have s_25T := lv_neT (a := 25) s_25 (by decide +kernel)
    have s_26T := lv_neT (a := 26) s_26 (by decide +kernel)
    have s_27T := lv_neT (a := 27) s_27 (by decide +kernel)
    have s_28T := lv_neT (a := 28) s_28 (by decide +kernel)
    have s_29T := lv_neT (a := 29) s_29 (by decide +kernel)
    have s_30T := lv_neT (a := 30) s_30 (by decide +kernel)
    have s_31T := lv_neT (a := 31) s_31 (by decide +kernel)
    have s_32T := lv_neT (a := 32) s_32 (by decide +kernel)
    have s_33T := lv_neT (a := 33) s_33 (by decide +kernel)
    have s_34T := lv_neT (a := 34) s_34 (by decide +kernel)
    have s_35T := lv_neT (a := 35) s_35 (by decide +kernel)
    refine lv_tableOut (tgt := 1614) hx hb dL_law_33 (by omega) (by decide +kernel) ?_
    refine lv_iinc (v := nI (7 * (i7 + 1))) (lv' := [zI 3 (nI (7 * (i7 + 1))), zR 2 mo, zR 1 xo, zR 0 b]) hx hb dL_law_1614 hl (k := 0) rfl (by show nI (7 * i7) + 7 = nI (7 * (i7 + 1)); exact nI_add (7 * i7) 7) (by decide +kernel) rfl (fun ls hl => ?_)
    refine lv_goto (tgt := 18) hx hb dL_law_1617 (by decide +kernel) ?_
    exact K hi tx fcr0 fcr1 fcr2 fcr3 fcr4 fcr5 fer0 fer1 fer2 fer3 fer4 fer5 hTX him x2 x3 x4 x5 td fb wr fsk jg pb lw fnm fso fmi fpa fki fmo fsz frd tj tb tl unm uso umi upa uki umo usz urd kj kb kl gnm gso gmi gpa gki gmo gsz grd fs0 fs1 fs2 fs3 fqo fql fw0 fw1 fw2 fw3 fw4 fw5 ftr Npb Njg Ntd Ntx Nru Zhi Z19 Z20 Z21 Z22 Z25 Z26 Z27 Z31 Z32 Z33 Z34 Z39 Z40 Fkd Fmo Fst Fro Ftp Fcd Fsr Fir Fih Fss Fsq Fce Flw Fwo Fhe Fsk Fna Fkp Fgb Fgo Ffa Fga Fvo hFX hFM hRL hRQ H _ ls hP0 hD0 hS (lv_sub hl [0, 1, 2, 3] rfl)
theorem law_loop {p : Program} {l : Launch} {e : Env} {s : State} {m : MethodId} {below : List Frame} {meth : Method} {c : Code} {b L : Nat} {xs : Nat → Int32} {G : gG} {E : gS} {A : Nat → Prop} (C0 : lw_At p s m meth c b L xs) (hE : gE E A s s.heap) (hK : gK G s) (hAe : A = fun q => s.heap.size ≤ q) {xo tt rd nw th kp sh tu b0 co en sk c0 c1 c2 c3 c4 c5 e0 e1 e2 e3 e4 e5 n1 n2 n3 n4 n5 n6 n7 n8 t1 t2 t3 t4 t5 t6 t7 t8 k1 k2 k3 k4 k5 k6 k7 k8 qn qo ql r0 r1 r2 r3 tw tr w0 w1 w2 w3 w4 w5 mo Akd Amo Ast Aro Atp Acd Asr Air Aih Ass Asq Ace Alw Awo Ahe Ask Ana Akp Agb Ago Afa Aga Avo : Nat} {fc fe fn fw : Nat → Option Nat} (hL : L ≤ 3584) (hT : LTab c0 c1 c2 c3 c4 c5 e0 e1 e2 e3 e4 e5 r0 r1 r2 r3 w0 w1 w2 w3 w4 w5 fc fe fn fw) : ∀ (n i7 : Nat), 7 * i7 ≤ L → L ≤ 7 * i7 + 7 * n → LawK p l e s m below meth c b G A xo tt rd nw th kp sh tu b0 co en sk c0 c1 c2 c3 c4 c5 e0 e1 e2 e3 e4 e5 n1 n2 n3 n4 n5 n6 n7 n8 t1 t2 t3 t4 t5 t6 t7 t8 k1 k2 k3 k4 k5 k6 k7 k8 qn qo ql r0 r1 r2 r3 tw tr w0 w1 w2 w3 w4 w5 mo Akd Amo Ast Aro Atp Acd Asr Air Aih Ass Asq Ace Alw Awo Ahe Ask Ana Akp Agb Ago Afa Aga Avo fc fe fn fw i7
  | 0, i7, h1, h2 => law_head C0 hE hK hAe h1 hL hT (fun h => absurd h (by omega))
  | n + 1, i7, h1, h2 => law_head C0 hE hK hAe h1 hL hT (fun h => law_loop C0 hE hK hAe hL hT n (i7 + 1) (by omega) (by omega))
