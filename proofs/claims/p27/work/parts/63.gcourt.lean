noncomputable def m_X6_asksOf (ru : Nat) (fst : Nat → Int32) (fro : Nat → Int32) (fmo : Nat → Int32) (fcd : Nat → Int32) (fsr : Nat → Nat) (pt : Nat) (jn : Nat) (pn : Nat) : Int32 := if (nI pt) = 0 then m_X6_within (mSays fcd fsr ru pt (mNm (fst (2 * pn)) (fst (2 * pn + 1)) (fro (3 * jn)) (fro (3 * jn + 1)) (fmo pn) (nI jn))) 0 99 else (if (nI pt) = 1 then m_X6_within (mSays fcd fsr ru pt (mNm (fst (2 * pn)) (fst (2 * pn + 1)) (fro (3 * jn)) (fro (3 * jn + 1)) (fmo pn) (nI jn))) 0 20 else m_X6_within (mSays fcd fsr ru pt (mNm (fst (2 * pn)) (fst (2 * pn + 1)) (fro (3 * jn)) (fro (3 * jn + 1)) (fmo pn) (nI jn))) 0 9999)
abbrev q_X6_asksOf (G : gG) (h0 kd mo st ro tp cd sr ir ih ss sq ce lw wo he sk na kp gb go fa ga vo : Nat) (pb : Nat) (jg : Nat) (td : Nat) (tx : Nat) (ru : Nat) (him : Int32) (s19 : Int32) (s20 : Int32) (s21 : Int32) (s22 : Int32) (s25 : Int32) (s26 : Int32) (s27 : Int32) (s31 : Int32) (s32 : Int32) (s33 : Int32) (s34 : Int32) (s39 : Int32) (s40 : Int32) (fst : Nat → Int32) (fro : Nat → Int32) (fmo : Nat → Int32) (fcd : Nat → Int32) (fsr : Nat → Nat) (fsk : Nat → Int32) (fna : Nat → Int32) (pt : Nat) (jn : Nat) (pn : Nat) (A : Nat → Prop) : Array Value → State → Outcome → State → Prop := va_Qi (fun (r : Int32) (u : (Nat → Int32) × (Nat → Int32)) => match u with | (ysk, yna) => r = m_X6_asksOf ru fst fro fmo fcd fsr pt jn pn) (fun (u : (Nat → Int32) × (Nat → Int32)) t => match u with | (ysk, yna) => va_P G.1 vwCl [zo6 h0 (nI pb) kd mo st (nI jg) ro tp (nI td) cd sr (nI tx) (nI ru) him ir ih ss sq ce lw s19 s20 s21 s22 wo he s25 s26 s27 sk na kp s31 s32 s33 s34 gb go fa ga s39 s40 vo, zi G st 12 fst, zi G ro 12 fro, zi G mo 6 fmo, zi G cd 1200 fcd, zi G sr 24 (nF fsr), zi G sk 200 ysk, zi G na 6 yna] t.heap ∧ gK G t ∧ va_D A [zo6 h0 (nI pb) kd mo st (nI jg) ro tp (nI td) cd sr (nI tx) (nI ru) him ir ih ss sq ce lw s19 s20 s21 s22 wo he s25 s26 s27 sk na kp s31 s32 s33 s34 gb go fa ga s39 s40 vo, zi G st 12 fst, zi G ro 12 fro, zi G mo 6 fmo, zi G cd 1200 fcd, zi G sr 24 (nF fsr), zi G sk 200 ysk, zi G na 6 yna]) A
set_option maxHeartbeats 4000000 in
set_option maxRecDepth 100000 in
theorem c_X6_asksOf (l : Launch) (G : gG) (h0 kd mo st ro tp cd sr ir ih ss sq ce lw wo he sk na kp gb go fa ga vo : Nat) (pb : Nat) (jg : Nat) (td : Nat) (tx : Nat) (ru : Nat) (him : Int32) (s19 : Int32) (s20 : Int32) (s21 : Int32) (s22 : Int32) (s25 : Int32) (s26 : Int32) (s27 : Int32) (s31 : Int32) (s32 : Int32) (s33 : Int32) (s34 : Int32) (s39 : Int32) (s40 : Int32) (fst : Nat → Int32) (fro : Nat → Int32) (fmo : Nat → Int32) (fcd : Nat → Int32) (fsr : Nat → Nat) (fsk : Nat → Int32) (fna : Nat → Int32) (pt : Nat) (jn : Nat) (pn : Nat) (sz : Nat) (hpt : pt < 3) (hj : jn < 4) (hp : pn < 6) (hwf : mWf fcd fsr ru) (hpb : pb ≤ 6) (hjg : jg ≤ 4) (htx : tx ≤ 6) (hru : ru < tx) : Met l yX6_asksOf wsX6_asksOf ({ frames := 2, cells := 0, slots := 0, locals := 46 }) (gPre G [.ref h0, .int (nI pt), .int (nI jn), .int (nI pn)] [zo6 h0 (nI pb) kd mo st (nI jg) ro tp (nI td) cd sr (nI tx) (nI ru) him ir ih ss sq ce lw s19 s20 s21 s22 wo he s25 s26 s27 sk na kp s31 s32 s33 s34 gb go fa ga s39 s40 vo, zi G st 12 fst, zi G ro 12 fro, zi G mo 6 fmo, zi G cd 1200 fcd, zi G sr 24 (nF fsr), zi G sk 200 fsk, zi G na 6 fna] sz) (q_X6_asksOf G h0 kd mo st ro tp cd sr ir ih ss sq ce lw wo he sk na kp gb go fa ga vo pb jg td tx ru him s19 s20 s21 s22 s25 s26 s27 s31 s32 s33 s34 s39 s40 fst fro fmo fcd fsr fsk fna pt jn pn (va_A [zo6 h0 (nI pb) kd mo st (nI jg) ro tp (nI td) cd sr (nI tx) (nI ru) him ir ih ss sq ce lw s19 s20 s21 s22 wo he s25 s26 s27 sk na kp s31 s32 s33 s34 gb go fa ga s39 s40 vo, zi G st 12 fst, zi G ro 12 fro, zi G mo 6 fmo, zi G cd 1200 fcd, zi G sr 24 (nF fsr), zi G sk 200 fsk, zi G na 6 fna] sz)) 0 0 (va_A [zo6 h0 (nI pb) kd mo st (nI jg) ro tp (nI td) cd sr (nI tx) (nI ru) him ir ih ss sq ce lw s19 s20 s21 s22 wo he s25 s26 s27 sk na kp s31 s32 s33 s34 gb go fa ga s39 s40 vo, zi G st 12 fst, zi G ro 12 fro, zi G mo 6 fmo, zi G cd 1200 fcd, zi G sr 24 (nF fsr), zi G sk 200 fsk, zi G na 6 fna] sz) := by
  refine Met.ofW (cc := cX6_asksOf) (maxL := 4) (ret := (some .int)) (by decide +kernel) rfl ?_
  intro p e s m args below meth c s₁ B hml hv
  obtain ⟨rfl, hsz, hP, hK, hD0⟩ := hv
  have hx := B.exec
  have hb := B.bytes
  have hr := B.returns
  have hts := atoms_spec (ws := wsX6_asksOf) B.pre
  have hown : s.vm.findClass RX6 = some m.cls := findClass_of_methodNamed B.named
  have hlocks := B.notSynchronized
  subst hsz
  have hD := hD0.self (sz := s.heap.size)
  generalize hAe : va_A [zo6 h0 (nI pb) kd mo st (nI jg) ro tp (nI td) cd sr (nI tx) (nI ru) him ir ih ss sq ce lw s19 s20 s21 s22 wo he s25 s26 s27 sk na kp s31 s32 s33 s34 gb go fa ga s39 s40 vo, zi G st 12 fst, zi G ro 12 fro, zi G mo 6 fmo, zi G cd 1200 fcd, zi G sr 24 (nF fsr), zi G sk 200 fsk, zi G na 6 fna] s.heap.size = A at hD ⊢
  have hA : ∀ q : Nat, s.heap.size ≤ q → A q := fun q h => by rw [← hAe]; exact Or.inr h
  have hS : va_S A s.heap s.heap [] := va_S.rf
  have hz9 : gPD G A [zo6 h0 (nI pb) kd mo st (nI jg) ro tp (nI td) cd sr (nI tx) (nI ru) him ir ih ss sq ce lw s19 s20 s21 s22 wo he s25 s26 s27 sk na kp s31 s32 s33 s34 gb go fa ga s39 s40 vo, zi G st 12 fst, zi G ro 12 fro, zi G mo 6 fmo, zi G cd 1200 fcd, zi G sr 24 (nF fsr), zi G sk 200 fsk, zi G na 6 fna] s.heap := ⟨hP, hD⟩
  have hP := hz9.1
  have hD := hz9.2
  have hl := lv_entry ([.ref h0, .int (nI pt), .int (nI jn), .int (nI pn)]) (n := 4) (Nat.le_of_ble_eq_true rfl)
  rw [lg_entry_eq]
  generalize (lg_sl ([.ref h0, .int (nI pt), .int (nI jn), .int (nI pn)]) ++ List.replicate (4 - (lg_sl ([.ref h0, .int (nI pt), .int (nI jn), .int (nI pn)])).length) Slot.unset).toArray = ls at hl ⊢
  have hl : lv_has ls 4 [zR 0 h0, zI 1 (nI pt), zI 2 (nI jn), zI 3 (nI pn)] := hl
  have kf58 := hts (.fieldLink RX6 58 "PebbleInShoeModel" "named" "[I") (by decide +kernel)
  have hiX6 := (by decide +kernel : ∀ w ∈ wsX60, w ∈ wsX6_asksOf)
  have kf16 := hts (.fieldLink RX6 16 "PebbleInShoeModel" "stones" "[I") (by decide +kernel)
  have kf19 := hts (.fieldLink RX6 19 "PebbleInShoeModel" "rows" "[I") (by decide +kernel)
  have kf13 := hts (.fieldLink RX6 13 "PebbleInShoeModel" "moreOf" "[I") (by decide +kernel)
  refine g_aget (D := G.1) (ci := 6) (v := .ref na) (C := RX6) (T := TX6) (N := 42) hx hb dX6_asksOf_0 rfl (lv_at hl 0 rfl) hts hiX6 hown hK hP 0 rfl rfl 29 (by decide +kernel) kf58 (fun _ h9 => h9) rfl dX6_asksOf_1 ?_
  refine lv_iconst (v := 0) hx hb dX6_asksOf_4 (by decide +kernel) ?_
  refine g_aget (D := G.1) (ci := 6) (v := .ref st) (C := RX6) (T := TX6) (N := 42) hx hb dX6_asksOf_5 rfl (lv_at hl 0 rfl) hts hiX6 hown hK hP 0 rfl rfl 3 (by decide +kernel) kf16 (fun _ h9 => h9) rfl dX6_asksOf_6 ?_
  refine lv_iconst (v := 2) hx hb dX6_asksOf_9 (by decide +kernel) ?_
  refine lv_iload_n hx hb dX6_asksOf_10 rfl (lv_at hl 3 rfl) ?_
  refine lv_imul hx hb dX6_asksOf_11 ?_
  refine g_topi (y := nI (2 * pn)) (pk_mul 2 pn) ?_
  refine g_iald (D := G.1) hx hb hK hP 1 0 rfl rfl (k := 2 * pn) (y := fst (2 * pn)) (by omega) rfl rfl dX6_asksOf_12 ?_
  refine va_iast (D := G.1) hx hb hK hP hD hS 7 0 rfl rfl (i := 0) (x := (fst (2 * pn))) (gIn (by decide +kernel)) dX6_asksOf_13 (fun H locs hP hD hS => ?_)
  have hz9 : gPD G A [zo6 h0 (nI pb) kd mo st (nI jg) ro tp (nI td) cd sr (nI tx) (nI ru) him ir ih ss sq ce lw s19 s20 s21 s22 wo he s25 s26 s27 sk na kp s31 s32 s33 s34 gb go fa ga s39 s40 vo, zi G st 12 fst, zi G ro 12 fro, zi G mo 6 fmo, zi G cd 1200 fcd, zi G sr 24 (nF fsr), zi G sk 200 fsk, zi G na 6 (upd fna 0 (fst (2 * pn)))] H := ⟨hP, hD⟩
  have hP := hz9.1
  have hD := hz9.2
  refine g_aget (D := G.1) (ci := 6) (v := .ref na) (C := RX6) (T := TX6) (N := 42) hx hb dX6_asksOf_14 rfl (lv_at hl 0 rfl) hts hiX6 hown hK hP 0 rfl rfl 29 (by decide +kernel) kf58 (fun _ h9 => h9) rfl dX6_asksOf_15 ?_
  refine lv_iconst (v := 1) hx hb dX6_asksOf_18 (by decide +kernel) ?_
  refine g_aget (D := G.1) (ci := 6) (v := .ref st) (C := RX6) (T := TX6) (N := 42) hx hb dX6_asksOf_19 rfl (lv_at hl 0 rfl) hts hiX6 hown hK hP 0 rfl rfl 3 (by decide +kernel) kf16 (fun _ h9 => h9) rfl dX6_asksOf_20 ?_
  refine lv_iconst (v := 2) hx hb dX6_asksOf_23 (by decide +kernel) ?_
  refine lv_iload_n hx hb dX6_asksOf_24 rfl (lv_at hl 3 rfl) ?_
  refine lv_imul hx hb dX6_asksOf_25 ?_
  refine g_topi (y := nI (2 * pn)) (pk_mul 2 pn) ?_
  refine lv_iconst (v := 1) hx hb dX6_asksOf_26 (by decide +kernel) ?_
  refine lv_iadd hx hb dX6_asksOf_27 ?_
  refine g_topi (y := nI ((2 * pn) + 1)) (nI_add (2 * pn) 1) ?_
  refine g_iald (D := G.1) hx hb hK hP 1 0 rfl rfl (k := (2 * pn) + 1) (y := fst ((2 * pn) + 1)) (by omega) rfl rfl dX6_asksOf_28 ?_
  refine va_iast (D := G.1) hx hb hK hP hD hS 7 0 rfl rfl (i := 1) (x := (fst ((2 * pn) + 1))) (gIn (by decide +kernel)) dX6_asksOf_29 (fun H locs hP hD hS => ?_)
  have hz9 : gPD G A [zo6 h0 (nI pb) kd mo st (nI jg) ro tp (nI td) cd sr (nI tx) (nI ru) him ir ih ss sq ce lw s19 s20 s21 s22 wo he s25 s26 s27 sk na kp s31 s32 s33 s34 gb go fa ga s39 s40 vo, zi G st 12 fst, zi G ro 12 fro, zi G mo 6 fmo, zi G cd 1200 fcd, zi G sr 24 (nF fsr), zi G sk 200 fsk, zi G na 6 (upd (upd fna 0 (fst (2 * pn))) 1 (fst ((2 * pn) + 1)))] H := ⟨hP, hD⟩
  have hP := hz9.1
  have hD := hz9.2
  refine g_aget (D := G.1) (ci := 6) (v := .ref na) (C := RX6) (T := TX6) (N := 42) hx hb dX6_asksOf_30 rfl (lv_at hl 0 rfl) hts hiX6 hown hK hP 0 rfl rfl 29 (by decide +kernel) kf58 (fun _ h9 => h9) rfl dX6_asksOf_31 ?_
  refine lv_iconst (v := 2) hx hb dX6_asksOf_34 (by decide +kernel) ?_
  refine g_aget (D := G.1) (ci := 6) (v := .ref ro) (C := RX6) (T := TX6) (N := 42) hx hb dX6_asksOf_35 rfl (lv_at hl 0 rfl) hts hiX6 hown hK hP 0 rfl rfl 5 (by decide +kernel) kf19 (fun _ h9 => h9) rfl dX6_asksOf_36 ?_
  refine lv_iconst (v := 3) hx hb dX6_asksOf_39 (by decide +kernel) ?_
  refine lv_iload_n hx hb dX6_asksOf_40 rfl (lv_at hl 2 rfl) ?_
  refine lv_imul hx hb dX6_asksOf_41 ?_
  refine g_topi (y := nI (3 * jn)) (pk_mul 3 jn) ?_
  refine g_iald (D := G.1) hx hb hK hP 2 0 rfl rfl (k := 3 * jn) (y := fro (3 * jn)) (by omega) rfl rfl dX6_asksOf_42 ?_
  refine va_iast (D := G.1) hx hb hK hP hD hS 7 0 rfl rfl (i := 2) (x := (fro (3 * jn))) (gIn (by decide +kernel)) dX6_asksOf_43 (fun H locs hP hD hS => ?_)
  have hz9 : gPD G A [zo6 h0 (nI pb) kd mo st (nI jg) ro tp (nI td) cd sr (nI tx) (nI ru) him ir ih ss sq ce lw s19 s20 s21 s22 wo he s25 s26 s27 sk na kp s31 s32 s33 s34 gb go fa ga s39 s40 vo, zi G st 12 fst, zi G ro 12 fro, zi G mo 6 fmo, zi G cd 1200 fcd, zi G sr 24 (nF fsr), zi G sk 200 fsk, zi G na 6 (upd (upd (upd fna 0 (fst (2 * pn))) 1 (fst ((2 * pn) + 1))) 2 (fro (3 * jn)))] H := ⟨hP, hD⟩
  have hP := hz9.1
  have hD := hz9.2
  refine g_aget (D := G.1) (ci := 6) (v := .ref na) (C := RX6) (T := TX6) (N := 42) hx hb dX6_asksOf_44 rfl (lv_at hl 0 rfl) hts hiX6 hown hK hP 0 rfl rfl 29 (by decide +kernel) kf58 (fun _ h9 => h9) rfl dX6_asksOf_45 ?_
  refine lv_iconst (v := 3) hx hb dX6_asksOf_48 (by decide +kernel) ?_
  refine g_aget (D := G.1) (ci := 6) (v := .ref ro) (C := RX6) (T := TX6) (N := 42) hx hb dX6_asksOf_49 rfl (lv_at hl 0 rfl) hts hiX6 hown hK hP 0 rfl rfl 5 (by decide +kernel) kf19 (fun _ h9 => h9) rfl dX6_asksOf_50 ?_
  refine lv_iconst (v := 3) hx hb dX6_asksOf_53 (by decide +kernel) ?_
  refine lv_iload_n hx hb dX6_asksOf_54 rfl (lv_at hl 2 rfl) ?_
  refine lv_imul hx hb dX6_asksOf_55 ?_
  refine g_topi (y := nI (3 * jn)) (pk_mul 3 jn) ?_
  refine lv_iconst (v := 1) hx hb dX6_asksOf_56 (by decide +kernel) ?_
  refine lv_iadd hx hb dX6_asksOf_57 ?_
  refine g_topi (y := nI ((3 * jn) + 1)) (nI_add (3 * jn) 1) ?_
  refine g_iald (D := G.1) hx hb hK hP 2 0 rfl rfl (k := (3 * jn) + 1) (y := fro ((3 * jn) + 1)) (by omega) rfl rfl dX6_asksOf_58 ?_
  refine va_iast (D := G.1) hx hb hK hP hD hS 7 0 rfl rfl (i := 3) (x := (fro ((3 * jn) + 1))) (gIn (by decide +kernel)) dX6_asksOf_59 (fun H locs hP hD hS => ?_)
  have hz9 : gPD G A [zo6 h0 (nI pb) kd mo st (nI jg) ro tp (nI td) cd sr (nI tx) (nI ru) him ir ih ss sq ce lw s19 s20 s21 s22 wo he s25 s26 s27 sk na kp s31 s32 s33 s34 gb go fa ga s39 s40 vo, zi G st 12 fst, zi G ro 12 fro, zi G mo 6 fmo, zi G cd 1200 fcd, zi G sr 24 (nF fsr), zi G sk 200 fsk, zi G na 6 (upd (upd (upd (upd fna 0 (fst (2 * pn))) 1 (fst ((2 * pn) + 1))) 2 (fro (3 * jn))) 3 (fro ((3 * jn) + 1)))] H := ⟨hP, hD⟩
  have hP := hz9.1
  have hD := hz9.2
  refine g_aget (D := G.1) (ci := 6) (v := .ref na) (C := RX6) (T := TX6) (N := 42) hx hb dX6_asksOf_60 rfl (lv_at hl 0 rfl) hts hiX6 hown hK hP 0 rfl rfl 29 (by decide +kernel) kf58 (fun _ h9 => h9) rfl dX6_asksOf_61 ?_
  refine lv_iconst (v := 4) hx hb dX6_asksOf_64 (by decide +kernel) ?_
  refine g_aget (D := G.1) (ci := 6) (v := .ref mo) (C := RX6) (T := TX6) (N := 42) hx hb dX6_asksOf_65 rfl (lv_at hl 0 rfl) hts hiX6 hown hK hP 0 rfl rfl 2 (by decide +kernel) kf13 (fun _ h9 => h9) rfl dX6_asksOf_66 ?_
  refine lv_iload_n hx hb dX6_asksOf_69 rfl (lv_at hl 3 rfl) ?_
  refine g_iald (D := G.1) hx hb hK hP 3 0 rfl rfl (k := pn) (y := fmo pn) (by omega) rfl rfl dX6_asksOf_70 ?_
  refine va_iast (D := G.1) hx hb hK hP hD hS 7 0 rfl rfl (i := 4) (x := (fmo pn)) (gIn (by decide +kernel)) dX6_asksOf_71 (fun H locs hP hD hS => ?_)
  have hz9 : gPD G A [zo6 h0 (nI pb) kd mo st (nI jg) ro tp (nI td) cd sr (nI tx) (nI ru) him ir ih ss sq ce lw s19 s20 s21 s22 wo he s25 s26 s27 sk na kp s31 s32 s33 s34 gb go fa ga s39 s40 vo, zi G st 12 fst, zi G ro 12 fro, zi G mo 6 fmo, zi G cd 1200 fcd, zi G sr 24 (nF fsr), zi G sk 200 fsk, zi G na 6 (upd (upd (upd (upd (upd fna 0 (fst (2 * pn))) 1 (fst ((2 * pn) + 1))) 2 (fro (3 * jn))) 3 (fro ((3 * jn) + 1))) 4 (fmo pn))] H := ⟨hP, hD⟩
  have hP := hz9.1
  have hD := hz9.2
  refine g_aget (D := G.1) (ci := 6) (v := .ref na) (C := RX6) (T := TX6) (N := 42) hx hb dX6_asksOf_72 rfl (lv_at hl 0 rfl) hts hiX6 hown hK hP 0 rfl rfl 29 (by decide +kernel) kf58 (fun _ h9 => h9) rfl dX6_asksOf_73 ?_
  refine lv_iconst (v := 5) hx hb dX6_asksOf_76 (by decide +kernel) ?_
  refine lv_iload_n hx hb dX6_asksOf_77 rfl (lv_at hl 2 rfl) ?_
  refine va_iast (D := G.1) hx hb hK hP hD hS 7 0 rfl rfl (i := 5) (x := (nI jn)) (gIn (by decide +kernel)) dX6_asksOf_78 (fun H locs hP hD hS => ?_)
  have hz9 : gPD G A [zo6 h0 (nI pb) kd mo st (nI jg) ro tp (nI td) cd sr (nI tx) (nI ru) him ir ih ss sq ce lw s19 s20 s21 s22 wo he s25 s26 s27 sk na kp s31 s32 s33 s34 gb go fa ga s39 s40 vo, zi G st 12 fst, zi G ro 12 fro, zi G mo 6 fmo, zi G cd 1200 fcd, zi G sr 24 (nF fsr), zi G sk 200 fsk, zi G na 6 (upd (upd (upd (upd (upd (upd fna 0 (fst (2 * pn))) 1 (fst ((2 * pn) + 1))) 2 (fro (3 * jn))) 3 (fro ((3 * jn) + 1))) 4 (fmo pn)) 5 (nI jn))] H := ⟨hP, hD⟩
  have hP := hz9.1
  have hD := hz9.2
  refine lv_aload_n hx hb dX6_asksOf_79 rfl (lv_at hl 0 rfl) ?_
  refine lv_iload_n hx hb dX6_asksOf_80 rfl (lv_at hl 1 rfl) ?_
  refine z_callp [0, 4, 5, 6, 7] (va_runV (As := [.int (nI pt)]) (rest := []) ⟨hx, hb, hml, hown, hts⟩ (c_X6_says l G h0 kd mo st ro tp cd sr ir ih ss sq ce lw wo he sk na kp gb go fa ga vo pb jg td tx ru him s19 s20 s21 s22 s25 s26 s27 s31 s32 s33 s34 s39 s40 fcd fsr fsk (upd (upd (upd (upd (upd (upd fna 0 (fst (2 * pn))) 1 (fst ((2 * pn) + 1))) 2 (fro (3 * jn))) 3 (fro ((3 * jn) + 1))) 4 (fmo pn)) 5 (nI jn)) pt H.size (hpt) (hwf) (by first | exact hpb | assumption | omega) (by first | exact hjg | assumption | omega) (by first | exact htx | assumption | omega) (by first | exact hru | assumption | omega)) (cwV 1 hts gX6_asksOf_X6_says rfl rfl rfl (by decide +kernel) ⟨Nat.le_of_ble_eq_true rfl, Nat.le_of_ble_eq_true rfl⟩) ⟨gPre_blind, va_recv (q := (RX6, TX6, 42)) hK hP (ci := 6) (q0 := 0) rfl rfl, fun U hU hW => gPre_ofF [0, 4, 5, 6, 7] hU hW hK hP hD (by decide +kernel) rfl⟩ rfl rfl hl.1 rfl (lv_room (Nat.le_of_ble_eq_true rfl)) dX6_asksOf_81 ⟨Nat.le_of_ble_eq_true rfl, Nat.le_of_ble_eq_true rfl⟩) hS hD hA rfl (fun r_12 u t H locs ht hvm w_13 hB hz1 hk1 hFq hAq hS => ?_)
  obtain ⟨ysk_14, rfl⟩ : ∃ z, z = u := ⟨_, rfl⟩
  obtain ⟨hP1, hK1, hD1⟩ := hB
  have w_13 : r_12 = mSays fcd fsr ru pt (upd (upd (upd (upd (upd (upd fna 0 (fst (2 * pn))) 1 (fst ((2 * pn) + 1))) 2 (fro (3 * jn))) 3 (fro ((3 * jn) + 1))) 4 (fmo pn)) 5 (nI jn)) := w_13
  have hz9 : gPD G A [zo6 h0 (nI pb) kd mo st (nI jg) ro tp (nI td) cd sr (nI tx) (nI ru) him ir ih ss sq ce lw s19 s20 s21 s22 wo he s25 s26 s27 sk na kp s31 s32 s33 s34 gb go fa ga s39 s40 vo, zi G st 12 fst, zi G ro 12 fro, zi G mo 6 fmo, zi G cd 1200 fcd, zi G sr 24 (nF fsr), zi G sk 200 ysk_14, zi G na 6 (upd (upd (upd (upd (upd (upd fna 0 (fst (2 * pn))) 1 (fst ((2 * pn) + 1))) 2 (fro (3 * jn))) 3 (fro ((3 * jn) + 1))) 4 (fmo pn)) 5 (nI jn))] H := zFill hP hD [0, 4, 5, 6, 7] [1, 0, 0, 0, 2, 3, 4, 5] hAq hk1 hFq ht hP1 hD1 rfl (by decide +kernel)
  have hP := hz9.1
  have hD := hz9.2
  have w_13 : r_12 = mSays fcd fsr ru pt (mNm (fst (2 * pn)) (fst (2 * pn + 1)) (fro (3 * jn)) (fro (3 * jn + 1)) (fmo pn) (nI jn)) := w_13.trans (mSays_nm hwf hpt (fun i hi => mNm_of hi))
  subst w_13
  refine lv_iconst (v := 0) hx hb dX6_asksOf_84 (by decide +kernel) ?_
  refine lv_iload_n hx hb dX6_asksOf_85 rfl (lv_at hl 1 rfl) ?_
  refine lv_if_ne (tgt := 94) hx hb dX6_asksOf_86 (by decide +kernel) (fun c_15 => ?_) (fun c_15 => ?_)
  · skip
    have c_15N : ¬ pt = 0 := nI_eq0 (a := pt) (b := 0) (by omega) (by omega) c_15
    refine lv_iload_n hx hb dX6_asksOf_94 rfl (lv_at hl 1 rfl) ?_
    refine lv_iconst (v := 1) hx hb dX6_asksOf_95 (by decide +kernel) ?_
    refine lv_icmp_ne (tgt := 104) hx hb dX6_asksOf_96 (by decide +kernel) (fun c_16 => ?_) (fun c_16 => ?_)
    · skip
      have c_16N : ¬ pt = 1 := nI_eq0 (a := pt) (b := 1) (by omega) (by omega) c_16
      refine lv_sipush (v := 9999) hx hb dX6_asksOf_104 (by decide +kernel) ?_
      refine z_calli [] (v := m_X6_within (mSays fcd fsr ru pt (mNm (fst (2 * pn)) (fst (2 * pn + 1)) (fro (3 * jn)) (fro (3 * jn + 1)) (fmo pn) (nI jn))) 0 9999) (fun _ _ h => h) (va_runS (As := [.int (mSays fcd fsr ru pt (mNm (fst (2 * pn)) (fst (2 * pn + 1)) (fro (3 * jn)) (fro (3 * jn + 1)) (fmo pn) (nI jn))), .int 0, .int 9999]) (rest := []) ⟨hx, hb, hml, hown, hts⟩ (c_X6_within l G (mSays fcd fsr ru pt (mNm (fst (2 * pn)) (fst (2 * pn + 1)) (fro (3 * jn)) (fro (3 * jn + 1)) (fmo pn) (nI jn))) 0 9999 H.size) (va_cwS 3 hts gX6_asksOf_X6_within rfl rfl rfl (by decide +kernel) ⟨Nat.le_of_ble_eq_true rfl, Nat.le_of_ble_eq_true rfl⟩) ⟨gPre_blind, fun U hU hW => gPre_ofF [] hU hW hK hP hD (by decide +kernel) rfl⟩ rfl rfl hl.1 rfl (lv_room (Nat.le_of_ble_eq_true rfl)) dX6_asksOf_107 ⟨Nat.le_of_ble_eq_true rfl, Nat.le_of_ble_eq_true rfl⟩) hS hD hA rfl (fun u t H locs ht hvm hB hz1 hk1 hFq hAq hS => ?_)
      obtain ⟨hP1, hK1, hD1⟩ := hB
      have hP := zKeep hP hD [] hAq hk1 ht hP1 rfl
      have hpost : (fun (r : Int32) (u : (Nat → Int32) × (Nat → Int32)) => match u with | (ysk, yna) => r = m_X6_asksOf ru fst fro fmo fcd fsr pt jn pn) (m_X6_within (mSays fcd fsr ru pt (mNm (fst (2 * pn)) (fst (2 * pn + 1)) (fro (3 * jn)) (fro (3 * jn + 1)) (fmo pn) (nI jn))) 0 9999) (ysk_14, (upd (upd (upd (upd (upd (upd fna 0 (fst (2 * pn))) 1 (fst ((2 * pn) + 1))) 2 (fro (3 * jn))) 3 (fro ((3 * jn) + 1))) 4 (fmo pn)) 5 (nI jn))) := (show m_X6_asksOf ru fst fro fmo fcd fsr pt jn pn = (m_X6_within (mSays fcd fsr ru pt (mNm (fst (2 * pn)) (fst (2 * pn + 1)) (fro (3 * jn)) (fro (3 * jn + 1)) (fmo pn) (nI jn))) 0 9999) from by unfold m_X6_asksOf; rw [if_neg c_15, if_neg c_16]).symm
      exact W.iret (v := (m_X6_within (mSays fcd fsr ru pt (mNm (fst (2 * pn)) (fst (2 * pn + 1)) (fro (3 * jn)) (fro (3 * jn + 1)) (fmo pn) (nI jn))) 0 9999)) hx hb hr (fun t ht hW => ⟨⟨(m_X6_within (mSays fcd fsr ru pt (mNm (fst (2 * pn)) (fst (2 * pn + 1)) (fro (3 * jn)) (fro (3 * jn + 1)) (fmo pn) (nI jn))) 0 9999), (ysk_14, (upd (upd (upd (upd (upd (upd fna 0 (fst (2 * pn))) 1 (fst ((2 * pn) + 1))) 2 (fro (3 * jn))) 3 (fro ((3 * jn) + 1))) 4 (fmo pn)) 5 (nI jn))), rfl, hpost, by rw [ht]; exact hP, va_K.moved hW.alike hK, hD⟩, hS.F ht⟩) hS.2.2 dX6_asksOf_110
    · skip
      have c_16N : pt = 1 := nI_eq1 (a := pt) (b := 1) (by omega) (by omega) c_16
      refine lv_bipush (v := 20) hx hb dX6_asksOf_99 (by decide +kernel) ?_
      refine lv_goto (tgt := 107) hx hb dX6_asksOf_101 (by decide +kernel) ?_
      refine z_calli [] (v := m_X6_within (mSays fcd fsr ru pt (mNm (fst (2 * pn)) (fst (2 * pn + 1)) (fro (3 * jn)) (fro (3 * jn + 1)) (fmo pn) (nI jn))) 0 20) (fun _ _ h => h) (va_runS (As := [.int (mSays fcd fsr ru pt (mNm (fst (2 * pn)) (fst (2 * pn + 1)) (fro (3 * jn)) (fro (3 * jn + 1)) (fmo pn) (nI jn))), .int 0, .int 20]) (rest := []) ⟨hx, hb, hml, hown, hts⟩ (c_X6_within l G (mSays fcd fsr ru pt (mNm (fst (2 * pn)) (fst (2 * pn + 1)) (fro (3 * jn)) (fro (3 * jn + 1)) (fmo pn) (nI jn))) 0 20 H.size) (va_cwS 3 hts gX6_asksOf_X6_within rfl rfl rfl (by decide +kernel) ⟨Nat.le_of_ble_eq_true rfl, Nat.le_of_ble_eq_true rfl⟩) ⟨gPre_blind, fun U hU hW => gPre_ofF [] hU hW hK hP hD (by decide +kernel) rfl⟩ rfl rfl hl.1 rfl (lv_room (Nat.le_of_ble_eq_true rfl)) dX6_asksOf_107 ⟨Nat.le_of_ble_eq_true rfl, Nat.le_of_ble_eq_true rfl⟩) hS hD hA rfl (fun u t H locs ht hvm hB hz1 hk1 hFq hAq hS => ?_)
      obtain ⟨hP1, hK1, hD1⟩ := hB
      have hP := zKeep hP hD [] hAq hk1 ht hP1 rfl
      have hpost : (fun (r : Int32) (u : (Nat → Int32) × (Nat → Int32)) => match u with | (ysk, yna) => r = m_X6_asksOf ru fst fro fmo fcd fsr pt jn pn) (m_X6_within (mSays fcd fsr ru pt (mNm (fst (2 * pn)) (fst (2 * pn + 1)) (fro (3 * jn)) (fro (3 * jn + 1)) (fmo pn) (nI jn))) 0 20) (ysk_14, (upd (upd (upd (upd (upd (upd fna 0 (fst (2 * pn))) 1 (fst ((2 * pn) + 1))) 2 (fro (3 * jn))) 3 (fro ((3 * jn) + 1))) 4 (fmo pn)) 5 (nI jn))) := (show m_X6_asksOf ru fst fro fmo fcd fsr pt jn pn = (m_X6_within (mSays fcd fsr ru pt (mNm (fst (2 * pn)) (fst (2 * pn + 1)) (fro (3 * jn)) (fro (3 * jn + 1)) (fmo pn) (nI jn))) 0 20) from by unfold m_X6_asksOf; rw [if_neg c_15, if_pos c_16]).symm
      exact W.iret (v := (m_X6_within (mSays fcd fsr ru pt (mNm (fst (2 * pn)) (fst (2 * pn + 1)) (fro (3 * jn)) (fro (3 * jn + 1)) (fmo pn) (nI jn))) 0 20)) hx hb hr (fun t ht hW => ⟨⟨(m_X6_within (mSays fcd fsr ru pt (mNm (fst (2 * pn)) (fst (2 * pn + 1)) (fro (3 * jn)) (fro (3 * jn + 1)) (fmo pn) (nI jn))) 0 20), (ysk_14, (upd (upd (upd (upd (upd (upd fna 0 (fst (2 * pn))) 1 (fst ((2 * pn) + 1))) 2 (fro (3 * jn))) 3 (fro ((3 * jn) + 1))) 4 (fmo pn)) 5 (nI jn))), rfl, hpost, by rw [ht]; exact hP, va_K.moved hW.alike hK, hD⟩, hS.F ht⟩) hS.2.2 dX6_asksOf_110
  · skip
    have c_15N : pt = 0 := nI_eq1 (a := pt) (b := 0) (by omega) (by omega) c_15
    refine lv_bipush (v := 99) hx hb dX6_asksOf_89 (by decide +kernel) ?_
    refine lv_goto (tgt := 107) hx hb dX6_asksOf_91 (by decide +kernel) ?_
    refine z_calli [] (v := m_X6_within (mSays fcd fsr ru pt (mNm (fst (2 * pn)) (fst (2 * pn + 1)) (fro (3 * jn)) (fro (3 * jn + 1)) (fmo pn) (nI jn))) 0 99) (fun _ _ h => h) (va_runS (As := [.int (mSays fcd fsr ru pt (mNm (fst (2 * pn)) (fst (2 * pn + 1)) (fro (3 * jn)) (fro (3 * jn + 1)) (fmo pn) (nI jn))), .int 0, .int 99]) (rest := []) ⟨hx, hb, hml, hown, hts⟩ (c_X6_within l G (mSays fcd fsr ru pt (mNm (fst (2 * pn)) (fst (2 * pn + 1)) (fro (3 * jn)) (fro (3 * jn + 1)) (fmo pn) (nI jn))) 0 99 H.size) (va_cwS 3 hts gX6_asksOf_X6_within rfl rfl rfl (by decide +kernel) ⟨Nat.le_of_ble_eq_true rfl, Nat.le_of_ble_eq_true rfl⟩) ⟨gPre_blind, fun U hU hW => gPre_ofF [] hU hW hK hP hD (by decide +kernel) rfl⟩ rfl rfl hl.1 rfl (lv_room (Nat.le_of_ble_eq_true rfl)) dX6_asksOf_107 ⟨Nat.le_of_ble_eq_true rfl, Nat.le_of_ble_eq_true rfl⟩) hS hD hA rfl (fun u t H locs ht hvm hB hz1 hk1 hFq hAq hS => ?_)
    obtain ⟨hP1, hK1, hD1⟩ := hB
    have hP := zKeep hP hD [] hAq hk1 ht hP1 rfl
    have hpost : (fun (r : Int32) (u : (Nat → Int32) × (Nat → Int32)) => match u with | (ysk, yna) => r = m_X6_asksOf ru fst fro fmo fcd fsr pt jn pn) (m_X6_within (mSays fcd fsr ru pt (mNm (fst (2 * pn)) (fst (2 * pn + 1)) (fro (3 * jn)) (fro (3 * jn + 1)) (fmo pn) (nI jn))) 0 99) (ysk_14, (upd (upd (upd (upd (upd (upd fna 0 (fst (2 * pn))) 1 (fst ((2 * pn) + 1))) 2 (fro (3 * jn))) 3 (fro ((3 * jn) + 1))) 4 (fmo pn)) 5 (nI jn))) := (show m_X6_asksOf ru fst fro fmo fcd fsr pt jn pn = (m_X6_within (mSays fcd fsr ru pt (mNm (fst (2 * pn)) (fst (2 * pn + 1)) (fro (3 * jn)) (fro (3 * jn + 1)) (fmo pn) (nI jn))) 0 99) from by unfold m_X6_asksOf; rw [if_pos c_15]).symm
    exact W.iret (v := (m_X6_within (mSays fcd fsr ru pt (mNm (fst (2 * pn)) (fst (2 * pn + 1)) (fro (3 * jn)) (fro (3 * jn + 1)) (fmo pn) (nI jn))) 0 99)) hx hb hr (fun t ht hW => ⟨⟨(m_X6_within (mSays fcd fsr ru pt (mNm (fst (2 * pn)) (fst (2 * pn + 1)) (fro (3 * jn)) (fro (3 * jn + 1)) (fmo pn) (nI jn))) 0 99), (ysk_14, (upd (upd (upd (upd (upd (upd fna 0 (fst (2 * pn))) 1 (fst ((2 * pn) + 1))) 2 (fro (3 * jn))) 3 (fro ((3 * jn) + 1))) 4 (fmo pn)) 5 (nI jn))), rfl, hpost, by rw [ht]; exact hP, va_K.moved hW.alike hK, hD⟩, hS.F ht⟩) hS.2.2 dX6_asksOf_110
noncomputable def m_X6_isSand (fst : Nat → Int32) (fkd : Nat → Int32) (fmo : Nat → Int32) (pn : Nat) : Int32 := if (fkd pn) = 2 then (if (fmo pn) < (fst (2 * pn)) then 0 else 1) else (if (fkd pn) = 4 then (if (fmo pn) < (fst (2 * pn)) then 0 else 1) else (if (fkd pn) = 5 then (if 5 ≤ (fst (2 * pn)) then 0 else 1) else (if (fst (2 * pn)) = 0 then 1 else 0)))
abbrev q_X6_isSand (G : gG) (h0 kd mo st ro tp cd sr ir ih ss sq ce lw wo he sk na kp gb go fa ga vo : Nat) (pb : Nat) (jg : Nat) (td : Nat) (tx : Nat) (ru : Nat) (him : Int32) (s19 : Int32) (s20 : Int32) (s21 : Int32) (s22 : Int32) (s25 : Int32) (s26 : Int32) (s27 : Int32) (s31 : Int32) (s32 : Int32) (s33 : Int32) (s34 : Int32) (s39 : Int32) (s40 : Int32) (fst : Nat → Int32) (fkd : Nat → Int32) (fmo : Nat → Int32) (pn : Nat) (A : Nat → Prop) : Array Value → State → Outcome → State → Prop := va_Qi (fun (r : Int32) (u : Unit) => match u with | _ => r = m_X6_isSand fst fkd fmo pn) (fun (u : Unit) t => match u with | _ => va_P G.1 vwCl [zo6 h0 (nI pb) kd mo st (nI jg) ro tp (nI td) cd sr (nI tx) (nI ru) him ir ih ss sq ce lw s19 s20 s21 s22 wo he s25 s26 s27 sk na kp s31 s32 s33 s34 gb go fa ga s39 s40 vo, zi G st 12 fst, zi G kd 6 fkd, zi G mo 6 fmo] t.heap ∧ gK G t ∧ va_D A [zo6 h0 (nI pb) kd mo st (nI jg) ro tp (nI td) cd sr (nI tx) (nI ru) him ir ih ss sq ce lw s19 s20 s21 s22 wo he s25 s26 s27 sk na kp s31 s32 s33 s34 gb go fa ga s39 s40 vo, zi G st 12 fst, zi G kd 6 fkd, zi G mo 6 fmo]) A
set_option maxHeartbeats 4000000 in
set_option maxRecDepth 100000 in
theorem c_X6_isSand (l : Launch) (G : gG) (h0 kd mo st ro tp cd sr ir ih ss sq ce lw wo he sk na kp gb go fa ga vo : Nat) (pb : Nat) (jg : Nat) (td : Nat) (tx : Nat) (ru : Nat) (him : Int32) (s19 : Int32) (s20 : Int32) (s21 : Int32) (s22 : Int32) (s25 : Int32) (s26 : Int32) (s27 : Int32) (s31 : Int32) (s32 : Int32) (s33 : Int32) (s34 : Int32) (s39 : Int32) (s40 : Int32) (fst : Nat → Int32) (fkd : Nat → Int32) (fmo : Nat → Int32) (pn : Nat) (sz : Nat) (hp : pn < 6) (hpb : pb ≤ 6) (hjg : jg ≤ 4) (htx : tx ≤ 6) (hru : ru < tx) : Met l yX6_isSand wsX6_isSand ({ frames := 0, cells := 0, slots := 0, locals := 0 }) (gPre G [.ref h0, .int (nI pn)] [zo6 h0 (nI pb) kd mo st (nI jg) ro tp (nI td) cd sr (nI tx) (nI ru) him ir ih ss sq ce lw s19 s20 s21 s22 wo he s25 s26 s27 sk na kp s31 s32 s33 s34 gb go fa ga s39 s40 vo, zi G st 12 fst, zi G kd 6 fkd, zi G mo 6 fmo] sz) (q_X6_isSand G h0 kd mo st ro tp cd sr ir ih ss sq ce lw wo he sk na kp gb go fa ga vo pb jg td tx ru him s19 s20 s21 s22 s25 s26 s27 s31 s32 s33 s34 s39 s40 fst fkd fmo pn (va_A [zo6 h0 (nI pb) kd mo st (nI jg) ro tp (nI td) cd sr (nI tx) (nI ru) him ir ih ss sq ce lw s19 s20 s21 s22 wo he s25 s26 s27 sk na kp s31 s32 s33 s34 gb go fa ga s39 s40 vo, zi G st 12 fst, zi G kd 6 fkd, zi G mo 6 fmo] sz)) 0 0 (va_A [zo6 h0 (nI pb) kd mo st (nI jg) ro tp (nI td) cd sr (nI tx) (nI ru) him ir ih ss sq ce lw s19 s20 s21 s22 wo he s25 s26 s27 sk na kp s31 s32 s33 s34 gb go fa ga s39 s40 vo, zi G st 12 fst, zi G kd 6 fkd, zi G mo 6 fmo] sz) := by
  refine Met.ofW (cc := cX6_isSand) (maxL := 3) (ret := (some .boolean)) (by decide +kernel) rfl ?_
  intro p e s m args below meth c s₁ B hml hv
  obtain ⟨rfl, hsz, hP, hK, hD0⟩ := hv
  have hx := B.exec
  have hb := B.bytes
  have hr := B.returns
  have hts := atoms_spec (ws := wsX6_isSand) B.pre
  have hown : s.vm.findClass RX6 = some m.cls := findClass_of_methodNamed B.named
  have hlocks := B.notSynchronized
  subst hsz
  have hD := hD0.self (sz := s.heap.size)
  generalize hAe : va_A [zo6 h0 (nI pb) kd mo st (nI jg) ro tp (nI td) cd sr (nI tx) (nI ru) him ir ih ss sq ce lw s19 s20 s21 s22 wo he s25 s26 s27 sk na kp s31 s32 s33 s34 gb go fa ga s39 s40 vo, zi G st 12 fst, zi G kd 6 fkd, zi G mo 6 fmo] s.heap.size = A at hD ⊢
  have hA : ∀ q : Nat, s.heap.size ≤ q → A q := fun q h => by rw [← hAe]; exact Or.inr h
  have hS : va_S A s.heap s.heap [] := va_S.rf
  have hz9 : gPD G A [zo6 h0 (nI pb) kd mo st (nI jg) ro tp (nI td) cd sr (nI tx) (nI ru) him ir ih ss sq ce lw s19 s20 s21 s22 wo he s25 s26 s27 sk na kp s31 s32 s33 s34 gb go fa ga s39 s40 vo, zi G st 12 fst, zi G kd 6 fkd, zi G mo 6 fmo] s.heap := ⟨hP, hD⟩
  have hP := hz9.1
  have hD := hz9.2
  have hl := lv_entry ([.ref h0, .int (nI pn)]) (n := 3) (Nat.le_of_ble_eq_true rfl)
  rw [lg_entry_eq]
  generalize (lg_sl ([.ref h0, .int (nI pn)]) ++ List.replicate (3 - (lg_sl ([.ref h0, .int (nI pn)])).length) Slot.unset).toArray = ls at hl ⊢
  have hl : lv_has ls 3 [zR 0 h0, zI 1 (nI pn)] := hl
  have kf16 := hts (.fieldLink RX6 16 "PebbleInShoeModel" "stones" "[I") (by decide +kernel)
  have hiX6 := (by decide +kernel : ∀ w ∈ wsX60, w ∈ wsX6_isSand)
  have kf7 := hts (.fieldLink RX6 7 "PebbleInShoeModel" "kind" "[I") (by decide +kernel)
  have kf13 := hts (.fieldLink RX6 13 "PebbleInShoeModel" "moreOf" "[I") (by decide +kernel)
  refine g_aget (D := G.1) (ci := 6) (v := .ref st) (C := RX6) (T := TX6) (N := 42) hx hb dX6_isSand_0 rfl (lv_at hl 0 rfl) hts hiX6 hown hK hP 0 rfl rfl 3 (by decide +kernel) kf16 (fun _ h9 => h9) rfl dX6_isSand_1 ?_
  refine lv_iconst (v := 2) hx hb dX6_isSand_4 (by decide +kernel) ?_
  refine lv_iload_n hx hb dX6_isSand_5 rfl (lv_at hl 1 rfl) ?_
  refine lv_imul hx hb dX6_isSand_6 ?_
  refine g_topi (y := nI (2 * pn)) (pk_mul 2 pn) ?_
  refine g_iald (D := G.1) hx hb hK hP 1 0 rfl rfl (k := 2 * pn) (y := fst (2 * pn)) (by omega) rfl rfl dX6_isSand_7 ?_
  refine lv_istore_n (lv' := [zI 2 (fst (2 * pn)), zR 0 h0, zI 1 (nI pn)]) hx hb dX6_isSand_8 rfl hl (by decide +kernel) rfl (fun ls hl => ?_)
  refine g_aget (D := G.1) (ci := 6) (v := .ref kd) (C := RX6) (T := TX6) (N := 42) hx hb dX6_isSand_9 rfl (lv_at hl 1 rfl) hts hiX6 hown hK hP 0 rfl rfl 1 (by decide +kernel) kf7 (fun _ h9 => h9) rfl dX6_isSand_10 ?_
  refine lv_iload_n hx hb dX6_isSand_13 rfl (lv_at hl 2 rfl) ?_
  refine g_iald (D := G.1) hx hb hK hP 2 0 rfl rfl (k := pn) (y := fkd pn) (by omega) rfl rfl dX6_isSand_14 ?_
  refine lv_iconst (v := 2) hx hb dX6_isSand_15 (by decide +kernel) ?_
  refine lv_icmp_eq (tgt := 29) hx hb dX6_isSand_16 (by decide +kernel) (fun c_4 => ?_) (fun c_4 => ?_)
  · skip
    refine lv_iload_n hx hb dX6_isSand_29 rfl (lv_at hl 0 rfl) ?_
    refine g_aget (D := G.1) (ci := 6) (v := .ref mo) (C := RX6) (T := TX6) (N := 42) hx hb dX6_isSand_30 rfl (lv_at hl 1 rfl) hts hiX6 hown hK hP 0 rfl rfl 2 (by decide +kernel) kf13 (fun _ h9 => h9) rfl dX6_isSand_31 ?_
    refine lv_iload_n hx hb dX6_isSand_34 rfl (lv_at hl 2 rfl) ?_
    refine g_iald (D := G.1) hx hb hK hP 3 0 rfl rfl (k := pn) (y := fmo pn) (by omega) rfl rfl dX6_isSand_35 ?_
    refine lv_icmp_gt (tgt := 43) hx hb dX6_isSand_36 (by decide +kernel) (fun c_6 => ?_) (fun c_6 => ?_)
    · skip
      refine lv_iconst (v := 0) hx hb dX6_isSand_43 (by decide +kernel) ?_
      refine lv_goto (tgt := 79) hx hb dX6_isSand_44 (by decide +kernel) ?_
      have hpost : (fun (r : Int32) (u : Unit) => match u with | _ => r = m_X6_isSand fst fkd fmo pn) 0 () := (show m_X6_isSand fst fkd fmo pn = 0 from by unfold m_X6_isSand; rw [if_pos c_4, if_pos c_6]).symm
      exact W.zret (v := 0) hx hb hr (rfl) (fun t ht hW => ⟨⟨0, (), rfl, hpost, by rw [ht]; exact hP, va_K.moved hW.alike hK, hD⟩, hS.F ht⟩) hS.2.2 dX6_isSand_79
    · skip
      refine lv_iconst (v := 1) hx hb dX6_isSand_39 (by decide +kernel) ?_
      refine lv_goto (tgt := 79) hx hb dX6_isSand_40 (by decide +kernel) ?_
      have hpost : (fun (r : Int32) (u : Unit) => match u with | _ => r = m_X6_isSand fst fkd fmo pn) 1 () := (show m_X6_isSand fst fkd fmo pn = 1 from by unfold m_X6_isSand; rw [if_pos c_4, if_neg c_6]).symm
      exact W.zret (v := 1) hx hb hr (rfl) (fun t ht hW => ⟨⟨1, (), rfl, hpost, by rw [ht]; exact hP, va_K.moved hW.alike hK, hD⟩, hS.F ht⟩) hS.2.2 dX6_isSand_79
  · skip
    refine g_aget (D := G.1) (ci := 6) (v := .ref kd) (C := RX6) (T := TX6) (N := 42) hx hb dX6_isSand_19 rfl (lv_at hl 1 rfl) hts hiX6 hown hK hP 0 rfl rfl 1 (by decide +kernel) kf7 (fun _ h9 => h9) rfl dX6_isSand_20 ?_
    refine lv_iload_n hx hb dX6_isSand_23 rfl (lv_at hl 2 rfl) ?_
    refine g_iald (D := G.1) hx hb hK hP 2 0 rfl rfl (k := pn) (y := fkd pn) (by omega) rfl rfl dX6_isSand_24 ?_
    refine lv_iconst (v := 4) hx hb dX6_isSand_25 (by decide +kernel) ?_
    refine lv_icmp_ne (tgt := 47) hx hb dX6_isSand_26 (by decide +kernel) (fun c_8 => ?_) (fun c_8 => ?_)
    · skip
      refine g_aget (D := G.1) (ci := 6) (v := .ref kd) (C := RX6) (T := TX6) (N := 42) hx hb dX6_isSand_47 rfl (lv_at hl 1 rfl) hts hiX6 hown hK hP 0 rfl rfl 1 (by decide +kernel) kf7 (fun _ h9 => h9) rfl dX6_isSand_48 ?_
      refine lv_iload_n hx hb dX6_isSand_51 rfl (lv_at hl 2 rfl) ?_
      refine g_iald (D := G.1) hx hb hK hP 2 0 rfl rfl (k := pn) (y := fkd pn) (by omega) rfl rfl dX6_isSand_52 ?_
      refine lv_iconst (v := 5) hx hb dX6_isSand_53 (by decide +kernel) ?_
      refine lv_icmp_ne (tgt := 70) hx hb dX6_isSand_54 (by decide +kernel) (fun c_10 => ?_) (fun c_10 => ?_)
      · skip
        refine lv_iload_n hx hb dX6_isSand_70 rfl (lv_at hl 0 rfl) ?_
        refine lv_if_ne (tgt := 78) hx hb dX6_isSand_71 (by decide +kernel) (fun c_11 => ?_) (fun c_11 => ?_)
        · skip
          refine lv_iconst (v := 0) hx hb dX6_isSand_78 (by decide +kernel) ?_
          have hpost : (fun (r : Int32) (u : Unit) => match u with | _ => r = m_X6_isSand fst fkd fmo pn) 0 () := (show m_X6_isSand fst fkd fmo pn = 0 from by unfold m_X6_isSand; rw [if_neg c_4, if_neg c_8, if_neg c_10, if_neg c_11]).symm
          exact W.zret (v := 0) hx hb hr (rfl) (fun t ht hW => ⟨⟨0, (), rfl, hpost, by rw [ht]; exact hP, va_K.moved hW.alike hK, hD⟩, hS.F ht⟩) hS.2.2 dX6_isSand_79
        · skip
          refine lv_iconst (v := 1) hx hb dX6_isSand_74 (by decide +kernel) ?_
          refine lv_goto (tgt := 79) hx hb dX6_isSand_75 (by decide +kernel) ?_
          have hpost : (fun (r : Int32) (u : Unit) => match u with | _ => r = m_X6_isSand fst fkd fmo pn) 1 () := (show m_X6_isSand fst fkd fmo pn = 1 from by unfold m_X6_isSand; rw [if_neg c_4, if_neg c_8, if_neg c_10, if_pos c_11]).symm
          exact W.zret (v := 1) hx hb hr (rfl) (fun t ht hW => ⟨⟨1, (), rfl, hpost, by rw [ht]; exact hP, va_K.moved hW.alike hK, hD⟩, hS.F ht⟩) hS.2.2 dX6_isSand_79
      · skip
        refine lv_iload_n hx hb dX6_isSand_57 rfl (lv_at hl 0 rfl) ?_
        refine lv_iconst (v := 5) hx hb dX6_isSand_58 (by decide +kernel) ?_
        refine lv_icmp_ge (tgt := 66) hx hb dX6_isSand_59 (by decide +kernel) (fun c_12 => ?_) (fun c_12 => ?_)
        · skip
          refine lv_iconst (v := 0) hx hb dX6_isSand_66 (by decide +kernel) ?_
          refine lv_goto (tgt := 79) hx hb dX6_isSand_67 (by decide +kernel) ?_
          have hpost : (fun (r : Int32) (u : Unit) => match u with | _ => r = m_X6_isSand fst fkd fmo pn) 0 () := (show m_X6_isSand fst fkd fmo pn = 0 from by unfold m_X6_isSand; rw [if_neg c_4, if_neg c_8, if_pos c_10, if_pos c_12]).symm
          exact W.zret (v := 0) hx hb hr (rfl) (fun t ht hW => ⟨⟨0, (), rfl, hpost, by rw [ht]; exact hP, va_K.moved hW.alike hK, hD⟩, hS.F ht⟩) hS.2.2 dX6_isSand_79
        · skip
          refine lv_iconst (v := 1) hx hb dX6_isSand_62 (by decide +kernel) ?_
          refine lv_goto (tgt := 79) hx hb dX6_isSand_63 (by decide +kernel) ?_
          have hpost : (fun (r : Int32) (u : Unit) => match u with | _ => r = m_X6_isSand fst fkd fmo pn) 1 () := (show m_X6_isSand fst fkd fmo pn = 1 from by unfold m_X6_isSand; rw [if_neg c_4, if_neg c_8, if_pos c_10, if_neg c_12]).symm
          exact W.zret (v := 1) hx hb hr (rfl) (fun t ht hW => ⟨⟨1, (), rfl, hpost, by rw [ht]; exact hP, va_K.moved hW.alike hK, hD⟩, hS.F ht⟩) hS.2.2 dX6_isSand_79
    · skip
      refine lv_iload_n hx hb dX6_isSand_29 rfl (lv_at hl 0 rfl) ?_
      refine g_aget (D := G.1) (ci := 6) (v := .ref mo) (C := RX6) (T := TX6) (N := 42) hx hb dX6_isSand_30 rfl (lv_at hl 1 rfl) hts hiX6 hown hK hP 0 rfl rfl 2 (by decide +kernel) kf13 (fun _ h9 => h9) rfl dX6_isSand_31 ?_
      refine lv_iload_n hx hb dX6_isSand_34 rfl (lv_at hl 2 rfl) ?_
      refine g_iald (D := G.1) hx hb hK hP 3 0 rfl rfl (k := pn) (y := fmo pn) (by omega) rfl rfl dX6_isSand_35 ?_
      refine lv_icmp_gt (tgt := 43) hx hb dX6_isSand_36 (by decide +kernel) (fun c_14 => ?_) (fun c_14 => ?_)
      · skip
        refine lv_iconst (v := 0) hx hb dX6_isSand_43 (by decide +kernel) ?_
        refine lv_goto (tgt := 79) hx hb dX6_isSand_44 (by decide +kernel) ?_
        have hpost : (fun (r : Int32) (u : Unit) => match u with | _ => r = m_X6_isSand fst fkd fmo pn) 0 () := (show m_X6_isSand fst fkd fmo pn = 0 from by unfold m_X6_isSand; rw [if_neg c_4, if_pos c_8, if_pos c_14]).symm
        exact W.zret (v := 0) hx hb hr (rfl) (fun t ht hW => ⟨⟨0, (), rfl, hpost, by rw [ht]; exact hP, va_K.moved hW.alike hK, hD⟩, hS.F ht⟩) hS.2.2 dX6_isSand_79
      · skip
        refine lv_iconst (v := 1) hx hb dX6_isSand_39 (by decide +kernel) ?_
        refine lv_goto (tgt := 79) hx hb dX6_isSand_40 (by decide +kernel) ?_
        have hpost : (fun (r : Int32) (u : Unit) => match u with | _ => r = m_X6_isSand fst fkd fmo pn) 1 () := (show m_X6_isSand fst fkd fmo pn = 1 from by unfold m_X6_isSand; rw [if_neg c_4, if_pos c_8, if_neg c_14]).symm
        exact W.zret (v := 1) hx hb hr (rfl) (fun t ht hW => ⟨⟨1, (), rfl, hpost, by rw [ht]; exact hP, va_K.moved hW.alike hK, hD⟩, hS.F ht⟩) hS.2.2 dX6_isSand_79
noncomputable def m_X6_hurtsOf (ru : Nat) (fst : Nat → Int32) (fro : Nat → Int32) (fmo : Nat → Int32) (fkd : Nat → Int32) (fcd : Nat → Int32) (fsr : Nat → Nat) (jn : Nat) (pn : Nat) : Int32 := if fkd pn = 1 then (if 0 ≤ (((m_X6_asksOf ru fst fro fmo fcd fsr 0 jn pn) - (fro (3 * jn))) + (fmo pn)) then ((m_X6_asksOf ru fst fro fmo fcd fsr 0 jn pn) - (fro (3 * jn))) + (fmo pn) else 0) else (if fkd pn = 2 then (if 0 ≤ ((m_X6_asksOf ru fst fro fmo fcd fsr 0 jn pn) - (fro (3 * jn))) then (m_X6_asksOf ru fst fro fmo fcd fsr 0 jn pn) - (fro (3 * jn)) else 0) else (if fkd pn = 3 then (if 5 ≤ (fro (3 * jn)) then (if 0 ≤ (((m_X6_asksOf ru fst fro fmo fcd fsr 0 jn pn) - (fro (3 * jn))) + (fmo pn)) then ((m_X6_asksOf ru fst fro fmo fcd fsr 0 jn pn) - (fro (3 * jn))) + (fmo pn) else 0) else (if 0 ≤ (2 * (((m_X6_asksOf ru fst fro fmo fcd fsr 0 jn pn) - (fro (3 * jn))) + (fmo pn))) then 2 * (((m_X6_asksOf ru fst fro fmo fcd fsr 0 jn pn) - (fro (3 * jn))) + (fmo pn)) else 0)) else (if fkd pn = 4 then (if 0 ≤ (((m_X6_asksOf ru fst fro fmo fcd fsr 0 jn pn) - (fro (3 * jn))) / 2) then ((m_X6_asksOf ru fst fro fmo fcd fsr 0 jn pn) - (fro (3 * jn))) / 2 else 0) else (if fkd pn = 5 then (if 0 ≤ ((m_X6_asksOf ru fst fro fmo fcd fsr 0 jn pn) - (((fro (3 * jn)) * (fmo pn)) / 4)) then (m_X6_asksOf ru fst fro fmo fcd fsr 0 jn pn) - (((fro (3 * jn)) * (fmo pn)) / 4) else 0) else (if 0 ≤ ((m_X6_asksOf ru fst fro fmo fcd fsr 0 jn pn) - (fro (3 * jn))) then (m_X6_asksOf ru fst fro fmo fcd fsr 0 jn pn) - (fro (3 * jn)) else 0)))))
abbrev q_X6_hurtsOf (G : gG) (h0 kd mo st ro tp cd sr ir ih ss sq ce lw wo he sk na kp gb go fa ga vo : Nat) (pb : Nat) (jg : Nat) (td : Nat) (tx : Nat) (ru : Nat) (him : Int32) (s19 : Int32) (s20 : Int32) (s21 : Int32) (s22 : Int32) (s25 : Int32) (s26 : Int32) (s27 : Int32) (s31 : Int32) (s32 : Int32) (s33 : Int32) (s34 : Int32) (s39 : Int32) (s40 : Int32) (fst : Nat → Int32) (fro : Nat → Int32) (fmo : Nat → Int32) (fkd : Nat → Int32) (fcd : Nat → Int32) (fsr : Nat → Nat) (fsk : Nat → Int32) (fna : Nat → Int32) (jn : Nat) (pn : Nat) (A : Nat → Prop) : Array Value → State → Outcome → State → Prop := va_Qi (fun (r : Int32) (u : (Nat → Int32) × (Nat → Int32)) => match u with | (ysk, yna) => r = m_X6_hurtsOf ru fst fro fmo fkd fcd fsr jn pn) (fun (u : (Nat → Int32) × (Nat → Int32)) t => match u with | (ysk, yna) => va_P G.1 vwCl [zo6 h0 (nI pb) kd mo st (nI jg) ro tp (nI td) cd sr (nI tx) (nI ru) him ir ih ss sq ce lw s19 s20 s21 s22 wo he s25 s26 s27 sk na kp s31 s32 s33 s34 gb go fa ga s39 s40 vo, zi G st 12 fst, zi G ro 12 fro, zi G mo 6 fmo, zi G kd 6 fkd, zi G cd 1200 fcd, zi G sr 24 (nF fsr), zi G sk 200 ysk, zi G na 6 yna] t.heap ∧ gK G t ∧ va_D A [zo6 h0 (nI pb) kd mo st (nI jg) ro tp (nI td) cd sr (nI tx) (nI ru) him ir ih ss sq ce lw s19 s20 s21 s22 wo he s25 s26 s27 sk na kp s31 s32 s33 s34 gb go fa ga s39 s40 vo, zi G st 12 fst, zi G ro 12 fro, zi G mo 6 fmo, zi G kd 6 fkd, zi G cd 1200 fcd, zi G sr 24 (nF fsr), zi G sk 200 ysk, zi G na 6 yna]) A
set_option maxHeartbeats 4000000 in
set_option maxRecDepth 100000 in
theorem c_X6_hurtsOf (l : Launch) (G : gG) (h0 kd mo st ro tp cd sr ir ih ss sq ce lw wo he sk na kp gb go fa ga vo : Nat) (pb : Nat) (jg : Nat) (td : Nat) (tx : Nat) (ru : Nat) (him : Int32) (s19 : Int32) (s20 : Int32) (s21 : Int32) (s22 : Int32) (s25 : Int32) (s26 : Int32) (s27 : Int32) (s31 : Int32) (s32 : Int32) (s33 : Int32) (s34 : Int32) (s39 : Int32) (s40 : Int32) (fst : Nat → Int32) (fro : Nat → Int32) (fmo : Nat → Int32) (fkd : Nat → Int32) (fcd : Nat → Int32) (fsr : Nat → Nat) (fsk : Nat → Int32) (fna : Nat → Int32) (jn : Nat) (pn : Nat) (sz : Nat) (hj : jn < 4) (hp : pn < 6) (hwf : mWf fcd fsr ru) (hpb : pb ≤ 6) (hjg : jg ≤ 4) (htx : tx ≤ 6) (hru : ru < tx) : Met l yX6_hurtsOf wsX6_hurtsOf ({ frames := 3, cells := 0, slots := 0, locals := 69 }) (gPre G [.ref h0, .int (nI jn), .int (nI pn)] [zo6 h0 (nI pb) kd mo st (nI jg) ro tp (nI td) cd sr (nI tx) (nI ru) him ir ih ss sq ce lw s19 s20 s21 s22 wo he s25 s26 s27 sk na kp s31 s32 s33 s34 gb go fa ga s39 s40 vo, zi G st 12 fst, zi G ro 12 fro, zi G mo 6 fmo, zi G kd 6 fkd, zi G cd 1200 fcd, zi G sr 24 (nF fsr), zi G sk 200 fsk, zi G na 6 fna] sz) (q_X6_hurtsOf G h0 kd mo st ro tp cd sr ir ih ss sq ce lw wo he sk na kp gb go fa ga vo pb jg td tx ru him s19 s20 s21 s22 s25 s26 s27 s31 s32 s33 s34 s39 s40 fst fro fmo fkd fcd fsr fsk fna jn pn (va_A [zo6 h0 (nI pb) kd mo st (nI jg) ro tp (nI td) cd sr (nI tx) (nI ru) him ir ih ss sq ce lw s19 s20 s21 s22 wo he s25 s26 s27 sk na kp s31 s32 s33 s34 gb go fa ga s39 s40 vo, zi G st 12 fst, zi G ro 12 fro, zi G mo 6 fmo, zi G kd 6 fkd, zi G cd 1200 fcd, zi G sr 24 (nF fsr), zi G sk 200 fsk, zi G na 6 fna] sz)) 0 0 (va_A [zo6 h0 (nI pb) kd mo st (nI jg) ro tp (nI td) cd sr (nI tx) (nI ru) him ir ih ss sq ce lw s19 s20 s21 s22 wo he s25 s26 s27 sk na kp s31 s32 s33 s34 gb go fa ga s39 s40 vo, zi G st 12 fst, zi G ro 12 fro, zi G mo 6 fmo, zi G kd 6 fkd, zi G cd 1200 fcd, zi G sr 24 (nF fsr), zi G sk 200 fsk, zi G na 6 fna] sz) := by
  refine Met.ofW (cc := cX6_hurtsOf) (maxL := 7) (ret := (some .int)) (by decide +kernel) rfl ?_
  intro p e s m args below meth c s₁ B hml hv
  obtain ⟨rfl, hsz, hP, hK, hD0⟩ := hv
  have hx := B.exec
  have hb := B.bytes
  have hr := B.returns
  have hts := atoms_spec (ws := wsX6_hurtsOf) B.pre
  have hown : s.vm.findClass RX6 = some m.cls := findClass_of_methodNamed B.named
  have hlocks := B.notSynchronized
  subst hsz
  have hD := hD0.self (sz := s.heap.size)
  generalize hAe : va_A [zo6 h0 (nI pb) kd mo st (nI jg) ro tp (nI td) cd sr (nI tx) (nI ru) him ir ih ss sq ce lw s19 s20 s21 s22 wo he s25 s26 s27 sk na kp s31 s32 s33 s34 gb go fa ga s39 s40 vo, zi G st 12 fst, zi G ro 12 fro, zi G mo 6 fmo, zi G kd 6 fkd, zi G cd 1200 fcd, zi G sr 24 (nF fsr), zi G sk 200 fsk, zi G na 6 fna] s.heap.size = A at hD ⊢
  have hA : ∀ q : Nat, s.heap.size ≤ q → A q := fun q h => by rw [← hAe]; exact Or.inr h
  have hS : va_S A s.heap s.heap [] := va_S.rf
  have hz9 : gPD G A [zo6 h0 (nI pb) kd mo st (nI jg) ro tp (nI td) cd sr (nI tx) (nI ru) him ir ih ss sq ce lw s19 s20 s21 s22 wo he s25 s26 s27 sk na kp s31 s32 s33 s34 gb go fa ga s39 s40 vo, zi G st 12 fst, zi G ro 12 fro, zi G mo 6 fmo, zi G kd 6 fkd, zi G cd 1200 fcd, zi G sr 24 (nF fsr), zi G sk 200 fsk, zi G na 6 fna] s.heap := ⟨hP, hD⟩
  have hP := hz9.1
  have hD := hz9.2
  have hl := lv_entry ([.ref h0, .int (nI jn), .int (nI pn)]) (n := 7) (Nat.le_of_ble_eq_true rfl)
  rw [lg_entry_eq]
  generalize (lg_sl ([.ref h0, .int (nI jn), .int (nI pn)]) ++ List.replicate (7 - (lg_sl ([.ref h0, .int (nI jn), .int (nI pn)])).length) Slot.unset).toArray = ls at hl ⊢
  have hl : lv_has ls 7 [zR 0 h0, zI 1 (nI jn), zI 2 (nI pn)] := hl
  have kf19 := hts (.fieldLink RX6 19 "PebbleInShoeModel" "rows" "[I") (by decide +kernel)
  have hiX6 := (by decide +kernel : ∀ w ∈ wsX60, w ∈ wsX6_hurtsOf)
  have kf13 := hts (.fieldLink RX6 13 "PebbleInShoeModel" "moreOf" "[I") (by decide +kernel)
  have kf7 := hts (.fieldLink RX6 7 "PebbleInShoeModel" "kind" "[I") (by decide +kernel)
  refine g_aget (D := G.1) (ci := 6) (v := .ref ro) (C := RX6) (T := TX6) (N := 42) hx hb dX6_hurtsOf_0 rfl (lv_at hl 0 rfl) hts hiX6 hown hK hP 0 rfl rfl 5 (by decide +kernel) kf19 (fun _ h9 => h9) rfl dX6_hurtsOf_1 ?_
  refine lv_iconst (v := 3) hx hb dX6_hurtsOf_4 (by decide +kernel) ?_
  refine lv_iload_n hx hb dX6_hurtsOf_5 rfl (lv_at hl 1 rfl) ?_
  refine lv_imul hx hb dX6_hurtsOf_6 ?_
  refine g_topi (y := nI (3 * jn)) (pk_mul 3 jn) ?_
  refine g_iald (D := G.1) hx hb hK hP 2 0 rfl rfl (k := 3 * jn) (y := fro (3 * jn)) (by omega) rfl rfl dX6_hurtsOf_7 ?_
  refine lv_istore_n (lv' := [zI 3 (fro (3 * jn)), zR 0 h0, zI 1 (nI jn), zI 2 (nI pn)]) hx hb dX6_hurtsOf_8 rfl hl (by decide +kernel) rfl (fun ls hl => ?_)
  refine lv_aload_n hx hb dX6_hurtsOf_9 rfl (lv_at hl 1 rfl) ?_
  refine lv_iconst (v := 0) hx hb dX6_hurtsOf_10 (by decide +kernel) ?_
  refine lv_iload_n hx hb dX6_hurtsOf_11 rfl (lv_at hl 2 rfl) ?_
  refine lv_iload_n hx hb dX6_hurtsOf_12 rfl (lv_at hl 3 rfl) ?_
  refine z_calli [0, 1, 2, 3, 5, 6, 7, 8] (v := m_X6_asksOf ru fst fro fmo fcd fsr 0 jn pn) (fun _ ⟨_, _⟩ h => h) (va_runV (As := [.int 0, .int (nI jn), .int (nI pn)]) (rest := []) ⟨hx, hb, hml, hown, hts⟩ (c_X6_asksOf l G h0 kd mo st ro tp cd sr ir ih ss sq ce lw wo he sk na kp gb go fa ga vo pb jg td tx ru him s19 s20 s21 s22 s25 s26 s27 s31 s32 s33 s34 s39 s40 fst fro fmo fcd fsr fsk fna 0 jn pn s.heap.size (by omega) (by first | exact hj | assumption | omega) (by first | exact hp | assumption | omega) (by first | exact hwf | assumption | omega) (by first | exact hpb | assumption | omega) (by first | exact hjg | assumption | omega) (by first | exact htx | assumption | omega) (by first | exact hru | assumption | omega)) (cwV 3 hts gX6_hurtsOf_X6_asksOf rfl rfl rfl (by decide +kernel) ⟨Nat.le_of_ble_eq_true rfl, Nat.le_of_ble_eq_true rfl⟩) ⟨gPre_blind, va_recv (q := (RX6, TX6, 42)) hK hP (ci := 6) (q0 := 0) rfl rfl, fun U hU hW => gPre_ofF [0, 1, 2, 3, 5, 6, 7, 8] hU hW hK hP hD (by decide +kernel) rfl⟩ rfl rfl hl.1 rfl (lv_room (Nat.le_of_ble_eq_true rfl)) dX6_hurtsOf_13 ⟨Nat.le_of_ble_eq_true rfl, Nat.le_of_ble_eq_true rfl⟩) hS hD hA rfl (fun u t H locs ht hvm hB hz1 hk1 hFq hAq hS => ?_)
  obtain ⟨ysk_5, yna_6⟩ := u
  obtain ⟨hP1, hK1, hD1⟩ := hB
  have hz9 : gPD G A [zo6 h0 (nI pb) kd mo st (nI jg) ro tp (nI td) cd sr (nI tx) (nI ru) him ir ih ss sq ce lw s19 s20 s21 s22 wo he s25 s26 s27 sk na kp s31 s32 s33 s34 gb go fa ga s39 s40 vo, zi G st 12 fst, zi G ro 12 fro, zi G mo 6 fmo, zi G kd 6 fkd, zi G cd 1200 fcd, zi G sr 24 (nF fsr), zi G sk 200 ysk_5, zi G na 6 yna_6] H := zFill hP hD [0, 1, 2, 3, 5, 6, 7, 8] [1, 2, 3, 4, 0, 5, 6, 7, 8] hAq hk1 hFq ht hP1 hD1 rfl (by decide +kernel)
  have hP := hz9.1
  have hD := hz9.2
  refine lv_istore (lv' := [zI 4 (m_X6_asksOf ru fst fro fmo fcd fsr 0 jn pn), zI 3 (fro (3 * jn)), zR 0 h0, zI 1 (nI jn), zI 2 (nI pn)]) hx hb dX6_hurtsOf_16 hl (by decide +kernel) rfl (fun ls hl => ?_)
  refine g_aget (D := G.1) (ci := 6) (v := .ref mo) (C := RX6) (T := TX6) (N := 42) hx hb dX6_hurtsOf_18 rfl (lv_at hl 2 rfl) hts hiX6 hown hK hP 0 rfl rfl 2 (by decide +kernel) kf13 (fun _ h9 => h9) rfl dX6_hurtsOf_19 ?_
  refine lv_iload_n hx hb dX6_hurtsOf_22 rfl (lv_at hl 4 rfl) ?_
  refine g_iald (D := G.1) hx hb hK hP 3 0 rfl rfl (k := pn) (y := fmo pn) (by omega) rfl rfl dX6_hurtsOf_23 ?_
  refine lv_istore (lv' := [zI 5 (fmo pn), zI 4 (m_X6_asksOf ru fst fro fmo fcd fsr 0 jn pn), zI 3 (fro (3 * jn)), zR 0 h0, zI 1 (nI jn), zI 2 (nI pn)]) hx hb dX6_hurtsOf_24 hl (by decide +kernel) rfl (fun ls hl => ?_)
  refine lv_iload hx hb dX6_hurtsOf_26 (lv_at hl 1 rfl) ?_
  refine lv_iload_n hx hb dX6_hurtsOf_28 rfl (lv_at hl 2 rfl) ?_
  refine lv_isub hx hb dX6_hurtsOf_29 ?_
  refine lv_istore (lv' := [zI 6 ((m_X6_asksOf ru fst fro fmo fcd fsr 0 jn pn) - (fro (3 * jn))), zI 5 (fmo pn), zI 4 (m_X6_asksOf ru fst fro fmo fcd fsr 0 jn pn), zI 3 (fro (3 * jn)), zR 0 h0, zI 1 (nI jn), zI 2 (nI pn)]) hx hb dX6_hurtsOf_30 hl (by decide +kernel) rfl (fun ls hl => ?_)
  refine g_aget (D := G.1) (ci := 6) (v := .ref kd) (C := RX6) (T := TX6) (N := 42) hx hb dX6_hurtsOf_32 rfl (lv_at hl 4 rfl) hts hiX6 hown hK hP 0 rfl rfl 1 (by decide +kernel) kf7 (fun _ h9 => h9) rfl dX6_hurtsOf_33 ?_
  refine lv_iload_n hx hb dX6_hurtsOf_36 rfl (lv_at hl 6 rfl) ?_
  refine g_iald (D := G.1) hx hb hK hP 4 0 rfl rfl (k := pn) (y := fkd pn) (by omega) rfl rfl dX6_hurtsOf_37 ?_
  by_cases s_9 : fkd pn = 1
  · skip
    refine lv_tableIn (off := 34) (tgt := 72) hx hb dX6_hurtsOf_38 (by rw [s_9]; decide) (by rw [s_9]; decide) (by rw [s_9]; decide) (by decide +kernel) ?_
    refine lv_iload hx hb dX6_hurtsOf_72 (lv_at hl 0 rfl) ?_
    refine lv_iload hx hb dX6_hurtsOf_74 (lv_at hl 1 rfl) ?_
    refine lv_iadd hx hb dX6_hurtsOf_76 ?_
    refine lv_istore (lv' := [zI 6 (((m_X6_asksOf ru fst fro fmo fcd fsr 0 jn pn) - (fro (3 * jn))) + (fmo pn)), zI 5 (fmo pn), zI 4 (m_X6_asksOf ru fst fro fmo fcd fsr 0 jn pn), zI 3 (fro (3 * jn)), zR 0 h0, zI 1 (nI jn), zI 2 (nI pn)]) hx hb dX6_hurtsOf_77 hl (by decide +kernel) rfl (fun ls hl => ?_)
    refine lv_goto (tgt := 130) hx hb dX6_hurtsOf_79 (by decide +kernel) ?_
    refine lv_iload hx hb dX6_hurtsOf_130 (lv_at hl 0 rfl) ?_
    refine lv_if_ge (tgt := 139) hx hb dX6_hurtsOf_132 (by decide +kernel) (fun c_10 => ?_) (fun c_10 => ?_)
    · skip
      refine lv_iload hx hb dX6_hurtsOf_139 (lv_at hl 0 rfl) ?_
      have hpost : (fun (r : Int32) (u : (Nat → Int32) × (Nat → Int32)) => match u with | (ysk, yna) => r = m_X6_hurtsOf ru fst fro fmo fkd fcd fsr jn pn) (((m_X6_asksOf ru fst fro fmo fcd fsr 0 jn pn) - (fro (3 * jn))) + (fmo pn)) (ysk_5, yna_6) := (show m_X6_hurtsOf ru fst fro fmo fkd fcd fsr jn pn = (((m_X6_asksOf ru fst fro fmo fcd fsr 0 jn pn) - (fro (3 * jn))) + (fmo pn)) from by unfold m_X6_hurtsOf; rw [if_pos s_9, if_pos c_10]).symm
      exact W.iret (v := (((m_X6_asksOf ru fst fro fmo fcd fsr 0 jn pn) - (fro (3 * jn))) + (fmo pn))) hx hb hr (fun t ht hW => ⟨⟨(((m_X6_asksOf ru fst fro fmo fcd fsr 0 jn pn) - (fro (3 * jn))) + (fmo pn)), (ysk_5, yna_6), rfl, hpost, by rw [ht]; exact hP, va_K.moved hW.alike hK, hD⟩, hS.F ht⟩) hS.2.2 dX6_hurtsOf_141
    · skip
      refine lv_iconst (v := 0) hx hb dX6_hurtsOf_135 (by decide +kernel) ?_
      refine lv_goto (tgt := 141) hx hb dX6_hurtsOf_136 (by decide +kernel) ?_
      have hpost : (fun (r : Int32) (u : (Nat → Int32) × (Nat → Int32)) => match u with | (ysk, yna) => r = m_X6_hurtsOf ru fst fro fmo fkd fcd fsr jn pn) 0 (ysk_5, yna_6) := (show m_X6_hurtsOf ru fst fro fmo fkd fcd fsr jn pn = 0 from by unfold m_X6_hurtsOf; rw [if_pos s_9, if_neg c_10]).symm
      exact W.iret (v := 0) hx hb hr (fun t ht hW => ⟨⟨0, (ysk_5, yna_6), rfl, hpost, by rw [ht]; exact hP, va_K.moved hW.alike hK, hD⟩, hS.F ht⟩) hS.2.2 dX6_hurtsOf_141
  by_cases s_11 : fkd pn = 2
  · skip
    refine lv_tableIn (off := 92) (tgt := 130) hx hb dX6_hurtsOf_38 (by rw [s_11]; decide) (by rw [s_11]; decide) (by rw [s_11]; decide) (by decide +kernel) ?_
    refine lv_iload hx hb dX6_hurtsOf_130 (lv_at hl 0 rfl) ?_
    refine lv_if_ge (tgt := 139) hx hb dX6_hurtsOf_132 (by decide +kernel) (fun c_12 => ?_) (fun c_12 => ?_)
    · skip
      refine lv_iload hx hb dX6_hurtsOf_139 (lv_at hl 0 rfl) ?_
      have hpost : (fun (r : Int32) (u : (Nat → Int32) × (Nat → Int32)) => match u with | (ysk, yna) => r = m_X6_hurtsOf ru fst fro fmo fkd fcd fsr jn pn) ((m_X6_asksOf ru fst fro fmo fcd fsr 0 jn pn) - (fro (3 * jn))) (ysk_5, yna_6) := (show m_X6_hurtsOf ru fst fro fmo fkd fcd fsr jn pn = ((m_X6_asksOf ru fst fro fmo fcd fsr 0 jn pn) - (fro (3 * jn))) from by unfold m_X6_hurtsOf; rw [if_neg s_9, if_pos s_11, if_pos c_12]).symm
      exact W.iret (v := ((m_X6_asksOf ru fst fro fmo fcd fsr 0 jn pn) - (fro (3 * jn)))) hx hb hr (fun t ht hW => ⟨⟨((m_X6_asksOf ru fst fro fmo fcd fsr 0 jn pn) - (fro (3 * jn))), (ysk_5, yna_6), rfl, hpost, by rw [ht]; exact hP, va_K.moved hW.alike hK, hD⟩, hS.F ht⟩) hS.2.2 dX6_hurtsOf_141
    · skip
      refine lv_iconst (v := 0) hx hb dX6_hurtsOf_135 (by decide +kernel) ?_
      refine lv_goto (tgt := 141) hx hb dX6_hurtsOf_136 (by decide +kernel) ?_
      have hpost : (fun (r : Int32) (u : (Nat → Int32) × (Nat → Int32)) => match u with | (ysk, yna) => r = m_X6_hurtsOf ru fst fro fmo fkd fcd fsr jn pn) 0 (ysk_5, yna_6) := (show m_X6_hurtsOf ru fst fro fmo fkd fcd fsr jn pn = 0 from by unfold m_X6_hurtsOf; rw [if_neg s_9, if_pos s_11, if_neg c_12]).symm
      exact W.iret (v := 0) hx hb hr (fun t ht hW => ⟨⟨0, (ysk_5, yna_6), rfl, hpost, by rw [ht]; exact hP, va_K.moved hW.alike hK, hD⟩, hS.F ht⟩) hS.2.2 dX6_hurtsOf_141
  by_cases s_13 : fkd pn = 3
  · skip
    refine lv_tableIn (off := 44) (tgt := 82) hx hb dX6_hurtsOf_38 (by rw [s_13]; decide) (by rw [s_13]; decide) (by rw [s_13]; decide) (by decide +kernel) ?_
    refine lv_iload_n hx hb dX6_hurtsOf_82 rfl (lv_at hl 3 rfl) ?_
    refine lv_iconst (v := 5) hx hb dX6_hurtsOf_83 (by decide +kernel) ?_
    refine lv_icmp_ge (tgt := 97) hx hb dX6_hurtsOf_84 (by decide +kernel) (fun c_14 => ?_) (fun c_14 => ?_)
    · skip
      refine lv_iload hx hb dX6_hurtsOf_97 (lv_at hl 0 rfl) ?_
      refine lv_iload hx hb dX6_hurtsOf_99 (lv_at hl 1 rfl) ?_
      refine lv_iadd hx hb dX6_hurtsOf_101 ?_
      refine lv_istore (lv' := [zI 6 (((m_X6_asksOf ru fst fro fmo fcd fsr 0 jn pn) - (fro (3 * jn))) + (fmo pn)), zI 5 (fmo pn), zI 4 (m_X6_asksOf ru fst fro fmo fcd fsr 0 jn pn), zI 3 (fro (3 * jn)), zR 0 h0, zI 1 (nI jn), zI 2 (nI pn)]) hx hb dX6_hurtsOf_102 hl (by decide +kernel) rfl (fun ls hl => ?_)
      refine lv_goto (tgt := 130) hx hb dX6_hurtsOf_104 (by decide +kernel) ?_
      refine lv_iload hx hb dX6_hurtsOf_130 (lv_at hl 0 rfl) ?_
      refine lv_if_ge (tgt := 139) hx hb dX6_hurtsOf_132 (by decide +kernel) (fun c_15 => ?_) (fun c_15 => ?_)
      · skip
        refine lv_iload hx hb dX6_hurtsOf_139 (lv_at hl 0 rfl) ?_
        have hpost : (fun (r : Int32) (u : (Nat → Int32) × (Nat → Int32)) => match u with | (ysk, yna) => r = m_X6_hurtsOf ru fst fro fmo fkd fcd fsr jn pn) (((m_X6_asksOf ru fst fro fmo fcd fsr 0 jn pn) - (fro (3 * jn))) + (fmo pn)) (ysk_5, yna_6) := (show m_X6_hurtsOf ru fst fro fmo fkd fcd fsr jn pn = (((m_X6_asksOf ru fst fro fmo fcd fsr 0 jn pn) - (fro (3 * jn))) + (fmo pn)) from by unfold m_X6_hurtsOf; rw [if_neg s_9, if_neg s_11, if_pos s_13, if_pos c_14, if_pos c_15]).symm
        exact W.iret (v := (((m_X6_asksOf ru fst fro fmo fcd fsr 0 jn pn) - (fro (3 * jn))) + (fmo pn))) hx hb hr (fun t ht hW => ⟨⟨(((m_X6_asksOf ru fst fro fmo fcd fsr 0 jn pn) - (fro (3 * jn))) + (fmo pn)), (ysk_5, yna_6), rfl, hpost, by rw [ht]; exact hP, va_K.moved hW.alike hK, hD⟩, hS.F ht⟩) hS.2.2 dX6_hurtsOf_141
      · skip
        refine lv_iconst (v := 0) hx hb dX6_hurtsOf_135 (by decide +kernel) ?_
        refine lv_goto (tgt := 141) hx hb dX6_hurtsOf_136 (by decide +kernel) ?_
        have hpost : (fun (r : Int32) (u : (Nat → Int32) × (Nat → Int32)) => match u with | (ysk, yna) => r = m_X6_hurtsOf ru fst fro fmo fkd fcd fsr jn pn) 0 (ysk_5, yna_6) := (show m_X6_hurtsOf ru fst fro fmo fkd fcd fsr jn pn = 0 from by unfold m_X6_hurtsOf; rw [if_neg s_9, if_neg s_11, if_pos s_13, if_pos c_14, if_neg c_15]).symm
        exact W.iret (v := 0) hx hb hr (fun t ht hW => ⟨⟨0, (ysk_5, yna_6), rfl, hpost, by rw [ht]; exact hP, va_K.moved hW.alike hK, hD⟩, hS.F ht⟩) hS.2.2 dX6_hurtsOf_141
    · skip
      refine lv_iconst (v := 2) hx hb dX6_hurtsOf_87 (by decide +kernel) ?_
      refine lv_iload hx hb dX6_hurtsOf_88 (lv_at hl 0 rfl) ?_
      refine lv_iload hx hb dX6_hurtsOf_90 (lv_at hl 1 rfl) ?_
      refine lv_iadd hx hb dX6_hurtsOf_92 ?_
      refine lv_imul hx hb dX6_hurtsOf_93 ?_
      refine lv_goto (tgt := 102) hx hb dX6_hurtsOf_94 (by decide +kernel) ?_
      refine lv_istore (lv' := [zI 6 (2 * (((m_X6_asksOf ru fst fro fmo fcd fsr 0 jn pn) - (fro (3 * jn))) + (fmo pn))), zI 5 (fmo pn), zI 4 (m_X6_asksOf ru fst fro fmo fcd fsr 0 jn pn), zI 3 (fro (3 * jn)), zR 0 h0, zI 1 (nI jn), zI 2 (nI pn)]) hx hb dX6_hurtsOf_102 hl (by decide +kernel) rfl (fun ls hl => ?_)
      refine lv_goto (tgt := 130) hx hb dX6_hurtsOf_104 (by decide +kernel) ?_
      refine lv_iload hx hb dX6_hurtsOf_130 (lv_at hl 0 rfl) ?_
      refine lv_if_ge (tgt := 139) hx hb dX6_hurtsOf_132 (by decide +kernel) (fun c_16 => ?_) (fun c_16 => ?_)
      · skip
        refine lv_iload hx hb dX6_hurtsOf_139 (lv_at hl 0 rfl) ?_
        have hpost : (fun (r : Int32) (u : (Nat → Int32) × (Nat → Int32)) => match u with | (ysk, yna) => r = m_X6_hurtsOf ru fst fro fmo fkd fcd fsr jn pn) (2 * (((m_X6_asksOf ru fst fro fmo fcd fsr 0 jn pn) - (fro (3 * jn))) + (fmo pn))) (ysk_5, yna_6) := (show m_X6_hurtsOf ru fst fro fmo fkd fcd fsr jn pn = (2 * (((m_X6_asksOf ru fst fro fmo fcd fsr 0 jn pn) - (fro (3 * jn))) + (fmo pn))) from by unfold m_X6_hurtsOf; rw [if_neg s_9, if_neg s_11, if_pos s_13, if_neg c_14, if_pos c_16]).symm
        exact W.iret (v := (2 * (((m_X6_asksOf ru fst fro fmo fcd fsr 0 jn pn) - (fro (3 * jn))) + (fmo pn)))) hx hb hr (fun t ht hW => ⟨⟨(2 * (((m_X6_asksOf ru fst fro fmo fcd fsr 0 jn pn) - (fro (3 * jn))) + (fmo pn))), (ysk_5, yna_6), rfl, hpost, by rw [ht]; exact hP, va_K.moved hW.alike hK, hD⟩, hS.F ht⟩) hS.2.2 dX6_hurtsOf_141
      · skip
        refine lv_iconst (v := 0) hx hb dX6_hurtsOf_135 (by decide +kernel) ?_
        refine lv_goto (tgt := 141) hx hb dX6_hurtsOf_136 (by decide +kernel) ?_
        have hpost : (fun (r : Int32) (u : (Nat → Int32) × (Nat → Int32)) => match u with | (ysk, yna) => r = m_X6_hurtsOf ru fst fro fmo fkd fcd fsr jn pn) 0 (ysk_5, yna_6) := (show m_X6_hurtsOf ru fst fro fmo fkd fcd fsr jn pn = 0 from by unfold m_X6_hurtsOf; rw [if_neg s_9, if_neg s_11, if_pos s_13, if_neg c_14, if_neg c_16]).symm
        exact W.iret (v := 0) hx hb hr (fun t ht hW => ⟨⟨0, (ysk_5, yna_6), rfl, hpost, by rw [ht]; exact hP, va_K.moved hW.alike hK, hD⟩, hS.F ht⟩) hS.2.2 dX6_hurtsOf_141
  by_cases s_17 : fkd pn = 4
  · skip
    refine lv_tableIn (off := 69) (tgt := 107) hx hb dX6_hurtsOf_38 (by rw [s_17]; decide) (by rw [s_17]; decide) (by rw [s_17]; decide) (by decide +kernel) ?_
    refine lv_iload hx hb dX6_hurtsOf_107 (lv_at hl 0 rfl) ?_
    refine lv_iconst (v := 2) hx hb dX6_hurtsOf_109 (by decide +kernel) ?_
    refine lv_idiv hx hb dX6_hurtsOf_110 (by decide +kernel) ?_
    refine lv_istore (lv' := [zI 6 (((m_X6_asksOf ru fst fro fmo fcd fsr 0 jn pn) - (fro (3 * jn))) / 2), zI 5 (fmo pn), zI 4 (m_X6_asksOf ru fst fro fmo fcd fsr 0 jn pn), zI 3 (fro (3 * jn)), zR 0 h0, zI 1 (nI jn), zI 2 (nI pn)]) hx hb dX6_hurtsOf_111 hl (by decide +kernel) rfl (fun ls hl => ?_)
    refine lv_goto (tgt := 130) hx hb dX6_hurtsOf_113 (by decide +kernel) ?_
    refine lv_iload hx hb dX6_hurtsOf_130 (lv_at hl 0 rfl) ?_
    refine lv_if_ge (tgt := 139) hx hb dX6_hurtsOf_132 (by decide +kernel) (fun c_18 => ?_) (fun c_18 => ?_)
    · skip
      refine lv_iload hx hb dX6_hurtsOf_139 (lv_at hl 0 rfl) ?_
      have hpost : (fun (r : Int32) (u : (Nat → Int32) × (Nat → Int32)) => match u with | (ysk, yna) => r = m_X6_hurtsOf ru fst fro fmo fkd fcd fsr jn pn) (((m_X6_asksOf ru fst fro fmo fcd fsr 0 jn pn) - (fro (3 * jn))) / 2) (ysk_5, yna_6) := (show m_X6_hurtsOf ru fst fro fmo fkd fcd fsr jn pn = (((m_X6_asksOf ru fst fro fmo fcd fsr 0 jn pn) - (fro (3 * jn))) / 2) from by unfold m_X6_hurtsOf; rw [if_neg s_9, if_neg s_11, if_neg s_13, if_pos s_17, if_pos c_18]).symm
      exact W.iret (v := (((m_X6_asksOf ru fst fro fmo fcd fsr 0 jn pn) - (fro (3 * jn))) / 2)) hx hb hr (fun t ht hW => ⟨⟨(((m_X6_asksOf ru fst fro fmo fcd fsr 0 jn pn) - (fro (3 * jn))) / 2), (ysk_5, yna_6), rfl, hpost, by rw [ht]; exact hP, va_K.moved hW.alike hK, hD⟩, hS.F ht⟩) hS.2.2 dX6_hurtsOf_141
    · skip
      refine lv_iconst (v := 0) hx hb dX6_hurtsOf_135 (by decide +kernel) ?_
      refine lv_goto (tgt := 141) hx hb dX6_hurtsOf_136 (by decide +kernel) ?_
      have hpost : (fun (r : Int32) (u : (Nat → Int32) × (Nat → Int32)) => match u with | (ysk, yna) => r = m_X6_hurtsOf ru fst fro fmo fkd fcd fsr jn pn) 0 (ysk_5, yna_6) := (show m_X6_hurtsOf ru fst fro fmo fkd fcd fsr jn pn = 0 from by unfold m_X6_hurtsOf; rw [if_neg s_9, if_neg s_11, if_neg s_13, if_pos s_17, if_neg c_18]).symm
      exact W.iret (v := 0) hx hb hr (fun t ht hW => ⟨⟨0, (ysk_5, yna_6), rfl, hpost, by rw [ht]; exact hP, va_K.moved hW.alike hK, hD⟩, hS.F ht⟩) hS.2.2 dX6_hurtsOf_141
  by_cases s_19 : fkd pn = 5
  · skip
    refine lv_tableIn (off := 78) (tgt := 116) hx hb dX6_hurtsOf_38 (by rw [s_19]; decide) (by rw [s_19]; decide) (by rw [s_19]; decide) (by decide +kernel) ?_
    refine lv_iload hx hb dX6_hurtsOf_116 (lv_at hl 2 rfl) ?_
    refine lv_iload_n hx hb dX6_hurtsOf_118 rfl (lv_at hl 3 rfl) ?_
    refine lv_iload hx hb dX6_hurtsOf_119 (lv_at hl 1 rfl) ?_
    refine lv_imul hx hb dX6_hurtsOf_121 ?_
    refine lv_iconst (v := 4) hx hb dX6_hurtsOf_122 (by decide +kernel) ?_
    refine lv_idiv hx hb dX6_hurtsOf_123 (by decide +kernel) ?_
    refine lv_isub hx hb dX6_hurtsOf_124 ?_
    refine lv_istore (lv' := [zI 6 ((m_X6_asksOf ru fst fro fmo fcd fsr 0 jn pn) - (((fro (3 * jn)) * (fmo pn)) / 4)), zI 5 (fmo pn), zI 4 (m_X6_asksOf ru fst fro fmo fcd fsr 0 jn pn), zI 3 (fro (3 * jn)), zR 0 h0, zI 1 (nI jn), zI 2 (nI pn)]) hx hb dX6_hurtsOf_125 hl (by decide +kernel) rfl (fun ls hl => ?_)
    refine lv_goto (tgt := 130) hx hb dX6_hurtsOf_127 (by decide +kernel) ?_
    refine lv_iload hx hb dX6_hurtsOf_130 (lv_at hl 0 rfl) ?_
    refine lv_if_ge (tgt := 139) hx hb dX6_hurtsOf_132 (by decide +kernel) (fun c_20 => ?_) (fun c_20 => ?_)
    · skip
      refine lv_iload hx hb dX6_hurtsOf_139 (lv_at hl 0 rfl) ?_
      have hpost : (fun (r : Int32) (u : (Nat → Int32) × (Nat → Int32)) => match u with | (ysk, yna) => r = m_X6_hurtsOf ru fst fro fmo fkd fcd fsr jn pn) ((m_X6_asksOf ru fst fro fmo fcd fsr 0 jn pn) - (((fro (3 * jn)) * (fmo pn)) / 4)) (ysk_5, yna_6) := (show m_X6_hurtsOf ru fst fro fmo fkd fcd fsr jn pn = ((m_X6_asksOf ru fst fro fmo fcd fsr 0 jn pn) - (((fro (3 * jn)) * (fmo pn)) / 4)) from by unfold m_X6_hurtsOf; rw [if_neg s_9, if_neg s_11, if_neg s_13, if_neg s_17, if_pos s_19, if_pos c_20]).symm
      exact W.iret (v := ((m_X6_asksOf ru fst fro fmo fcd fsr 0 jn pn) - (((fro (3 * jn)) * (fmo pn)) / 4))) hx hb hr (fun t ht hW => ⟨⟨((m_X6_asksOf ru fst fro fmo fcd fsr 0 jn pn) - (((fro (3 * jn)) * (fmo pn)) / 4)), (ysk_5, yna_6), rfl, hpost, by rw [ht]; exact hP, va_K.moved hW.alike hK, hD⟩, hS.F ht⟩) hS.2.2 dX6_hurtsOf_141
    · skip
      refine lv_iconst (v := 0) hx hb dX6_hurtsOf_135 (by decide +kernel) ?_
      refine lv_goto (tgt := 141) hx hb dX6_hurtsOf_136 (by decide +kernel) ?_
      have hpost : (fun (r : Int32) (u : (Nat → Int32) × (Nat → Int32)) => match u with | (ysk, yna) => r = m_X6_hurtsOf ru fst fro fmo fkd fcd fsr jn pn) 0 (ysk_5, yna_6) := (show m_X6_hurtsOf ru fst fro fmo fkd fcd fsr jn pn = 0 from by unfold m_X6_hurtsOf; rw [if_neg s_9, if_neg s_11, if_neg s_13, if_neg s_17, if_pos s_19, if_neg c_20]).symm
      exact W.iret (v := 0) hx hb hr (fun t ht hW => ⟨⟨0, (ysk_5, yna_6), rfl, hpost, by rw [ht]; exact hP, va_K.moved hW.alike hK, hD⟩, hS.F ht⟩) hS.2.2 dX6_hurtsOf_141
  have s_9T := lv_neT (a := 1) s_9 (by decide +kernel)
  have s_11T := lv_neT (a := 2) s_11 (by decide +kernel)
  have s_13T := lv_neT (a := 3) s_13 (by decide +kernel)
  have s_17T := lv_neT (a := 4) s_17 (by decide +kernel)
  have s_19T := lv_neT (a := 5) s_19 (by decide +kernel)
  refine lv_tableOut (tgt := 130) hx hb dX6_hurtsOf_38 (by omega) (by decide +kernel) ?_
  refine lv_iload hx hb dX6_hurtsOf_130 (lv_at hl 0 rfl) ?_
  refine lv_if_ge (tgt := 139) hx hb dX6_hurtsOf_132 (by decide +kernel) (fun c_21 => ?_) (fun c_21 => ?_)
  · skip
    refine lv_iload hx hb dX6_hurtsOf_139 (lv_at hl 0 rfl) ?_
    have hpost : (fun (r : Int32) (u : (Nat → Int32) × (Nat → Int32)) => match u with | (ysk, yna) => r = m_X6_hurtsOf ru fst fro fmo fkd fcd fsr jn pn) ((m_X6_asksOf ru fst fro fmo fcd fsr 0 jn pn) - (fro (3 * jn))) (ysk_5, yna_6) := (show m_X6_hurtsOf ru fst fro fmo fkd fcd fsr jn pn = ((m_X6_asksOf ru fst fro fmo fcd fsr 0 jn pn) - (fro (3 * jn))) from by unfold m_X6_hurtsOf; rw [if_neg s_9, if_neg s_11, if_neg s_13, if_neg s_17, if_neg s_19, if_pos c_21]).symm
    exact W.iret (v := ((m_X6_asksOf ru fst fro fmo fcd fsr 0 jn pn) - (fro (3 * jn)))) hx hb hr (fun t ht hW => ⟨⟨((m_X6_asksOf ru fst fro fmo fcd fsr 0 jn pn) - (fro (3 * jn))), (ysk_5, yna_6), rfl, hpost, by rw [ht]; exact hP, va_K.moved hW.alike hK, hD⟩, hS.F ht⟩) hS.2.2 dX6_hurtsOf_141
  · skip
    refine lv_iconst (v := 0) hx hb dX6_hurtsOf_135 (by decide +kernel) ?_
    refine lv_goto (tgt := 141) hx hb dX6_hurtsOf_136 (by decide +kernel) ?_
    have hpost : (fun (r : Int32) (u : (Nat → Int32) × (Nat → Int32)) => match u with | (ysk, yna) => r = m_X6_hurtsOf ru fst fro fmo fkd fcd fsr jn pn) 0 (ysk_5, yna_6) := (show m_X6_hurtsOf ru fst fro fmo fkd fcd fsr jn pn = 0 from by unfold m_X6_hurtsOf; rw [if_neg s_9, if_neg s_11, if_neg s_13, if_neg s_17, if_neg s_19, if_neg c_21]).symm
    exact W.iret (v := 0) hx hb hr (fun t ht hW => ⟨⟨0, (ysk_5, yna_6), rfl, hpost, by rw [ht]; exact hP, va_K.moved hW.alike hK, hD⟩, hS.F ht⟩) hS.2.2 dX6_hurtsOf_141
noncomputable def m_X6_wearsOf (ru : Nat) (fst : Nat → Int32) (fro : Nat → Int32) (fmo : Nat → Int32) (fkd : Nat → Int32) (fcd : Nat → Int32) (fsr : Nat → Nat) (jn : Nat) (pn : Nat) : Int32 := if fkd pn = 2 then 2 * (m_X6_asksOf ru fst fro fmo fcd fsr 1 jn pn) else (if fkd pn = 3 then (m_X6_asksOf ru fst fro fmo fcd fsr 1 jn pn) / 2 else (if fkd pn = 4 then (if 5 < (m_X6_asksOf ru fst fro fmo fcd fsr 1 jn pn) then 2 * (m_X6_asksOf ru fst fro fmo fcd fsr 1 jn pn) else 0) else m_X6_asksOf ru fst fro fmo fcd fsr 1 jn pn))
abbrev q_X6_wearsOf (G : gG) (h0 kd mo st ro tp cd sr ir ih ss sq ce lw wo he sk na kp gb go fa ga vo : Nat) (pb : Nat) (jg : Nat) (td : Nat) (tx : Nat) (ru : Nat) (him : Int32) (s19 : Int32) (s20 : Int32) (s21 : Int32) (s22 : Int32) (s25 : Int32) (s26 : Int32) (s27 : Int32) (s31 : Int32) (s32 : Int32) (s33 : Int32) (s34 : Int32) (s39 : Int32) (s40 : Int32) (fst : Nat → Int32) (fro : Nat → Int32) (fmo : Nat → Int32) (fkd : Nat → Int32) (fcd : Nat → Int32) (fsr : Nat → Nat) (fsk : Nat → Int32) (fna : Nat → Int32) (jn : Nat) (pn : Nat) (A : Nat → Prop) : Array Value → State → Outcome → State → Prop := va_Qi (fun (r : Int32) (u : (Nat → Int32) × (Nat → Int32)) => match u with | (ysk, yna) => r = m_X6_wearsOf ru fst fro fmo fkd fcd fsr jn pn) (fun (u : (Nat → Int32) × (Nat → Int32)) t => match u with | (ysk, yna) => va_P G.1 vwCl [zo6 h0 (nI pb) kd mo st (nI jg) ro tp (nI td) cd sr (nI tx) (nI ru) him ir ih ss sq ce lw s19 s20 s21 s22 wo he s25 s26 s27 sk na kp s31 s32 s33 s34 gb go fa ga s39 s40 vo, zi G st 12 fst, zi G ro 12 fro, zi G mo 6 fmo, zi G kd 6 fkd, zi G cd 1200 fcd, zi G sr 24 (nF fsr), zi G sk 200 ysk, zi G na 6 yna] t.heap ∧ gK G t ∧ va_D A [zo6 h0 (nI pb) kd mo st (nI jg) ro tp (nI td) cd sr (nI tx) (nI ru) him ir ih ss sq ce lw s19 s20 s21 s22 wo he s25 s26 s27 sk na kp s31 s32 s33 s34 gb go fa ga s39 s40 vo, zi G st 12 fst, zi G ro 12 fro, zi G mo 6 fmo, zi G kd 6 fkd, zi G cd 1200 fcd, zi G sr 24 (nF fsr), zi G sk 200 ysk, zi G na 6 yna]) A
set_option maxHeartbeats 4000000 in
set_option maxRecDepth 100000 in
theorem c_X6_wearsOf (l : Launch) (G : gG) (h0 kd mo st ro tp cd sr ir ih ss sq ce lw wo he sk na kp gb go fa ga vo : Nat) (pb : Nat) (jg : Nat) (td : Nat) (tx : Nat) (ru : Nat) (him : Int32) (s19 : Int32) (s20 : Int32) (s21 : Int32) (s22 : Int32) (s25 : Int32) (s26 : Int32) (s27 : Int32) (s31 : Int32) (s32 : Int32) (s33 : Int32) (s34 : Int32) (s39 : Int32) (s40 : Int32) (fst : Nat → Int32) (fro : Nat → Int32) (fmo : Nat → Int32) (fkd : Nat → Int32) (fcd : Nat → Int32) (fsr : Nat → Nat) (fsk : Nat → Int32) (fna : Nat → Int32) (jn : Nat) (pn : Nat) (sz : Nat) (hj : jn < 4) (hp : pn < 6) (hwf : mWf fcd fsr ru) (hpb : pb ≤ 6) (hjg : jg ≤ 4) (htx : tx ≤ 6) (hru : ru < tx) : Met l yX6_wearsOf wsX6_wearsOf ({ frames := 3, cells := 0, slots := 0, locals := 69 }) (gPre G [.ref h0, .int (nI jn), .int (nI pn)] [zo6 h0 (nI pb) kd mo st (nI jg) ro tp (nI td) cd sr (nI tx) (nI ru) him ir ih ss sq ce lw s19 s20 s21 s22 wo he s25 s26 s27 sk na kp s31 s32 s33 s34 gb go fa ga s39 s40 vo, zi G st 12 fst, zi G ro 12 fro, zi G mo 6 fmo, zi G kd 6 fkd, zi G cd 1200 fcd, zi G sr 24 (nF fsr), zi G sk 200 fsk, zi G na 6 fna] sz) (q_X6_wearsOf G h0 kd mo st ro tp cd sr ir ih ss sq ce lw wo he sk na kp gb go fa ga vo pb jg td tx ru him s19 s20 s21 s22 s25 s26 s27 s31 s32 s33 s34 s39 s40 fst fro fmo fkd fcd fsr fsk fna jn pn (va_A [zo6 h0 (nI pb) kd mo st (nI jg) ro tp (nI td) cd sr (nI tx) (nI ru) him ir ih ss sq ce lw s19 s20 s21 s22 wo he s25 s26 s27 sk na kp s31 s32 s33 s34 gb go fa ga s39 s40 vo, zi G st 12 fst, zi G ro 12 fro, zi G mo 6 fmo, zi G kd 6 fkd, zi G cd 1200 fcd, zi G sr 24 (nF fsr), zi G sk 200 fsk, zi G na 6 fna] sz)) 0 0 (va_A [zo6 h0 (nI pb) kd mo st (nI jg) ro tp (nI td) cd sr (nI tx) (nI ru) him ir ih ss sq ce lw s19 s20 s21 s22 wo he s25 s26 s27 sk na kp s31 s32 s33 s34 gb go fa ga s39 s40 vo, zi G st 12 fst, zi G ro 12 fro, zi G mo 6 fmo, zi G kd 6 fkd, zi G cd 1200 fcd, zi G sr 24 (nF fsr), zi G sk 200 fsk, zi G na 6 fna] sz) := by
  refine Met.ofW (cc := cX6_wearsOf) (maxL := 4) (ret := (some .int)) (by decide +kernel) rfl ?_
  intro p e s m args below meth c s₁ B hml hv
  obtain ⟨rfl, hsz, hP, hK, hD0⟩ := hv
  have hx := B.exec
  have hb := B.bytes
  have hr := B.returns
  have hts := atoms_spec (ws := wsX6_wearsOf) B.pre
  have hown : s.vm.findClass RX6 = some m.cls := findClass_of_methodNamed B.named
  have hlocks := B.notSynchronized
  subst hsz
  have hD := hD0.self (sz := s.heap.size)
  generalize hAe : va_A [zo6 h0 (nI pb) kd mo st (nI jg) ro tp (nI td) cd sr (nI tx) (nI ru) him ir ih ss sq ce lw s19 s20 s21 s22 wo he s25 s26 s27 sk na kp s31 s32 s33 s34 gb go fa ga s39 s40 vo, zi G st 12 fst, zi G ro 12 fro, zi G mo 6 fmo, zi G kd 6 fkd, zi G cd 1200 fcd, zi G sr 24 (nF fsr), zi G sk 200 fsk, zi G na 6 fna] s.heap.size = A at hD ⊢
  have hA : ∀ q : Nat, s.heap.size ≤ q → A q := fun q h => by rw [← hAe]; exact Or.inr h
  have hS : va_S A s.heap s.heap [] := va_S.rf
  have hz9 : gPD G A [zo6 h0 (nI pb) kd mo st (nI jg) ro tp (nI td) cd sr (nI tx) (nI ru) him ir ih ss sq ce lw s19 s20 s21 s22 wo he s25 s26 s27 sk na kp s31 s32 s33 s34 gb go fa ga s39 s40 vo, zi G st 12 fst, zi G ro 12 fro, zi G mo 6 fmo, zi G kd 6 fkd, zi G cd 1200 fcd, zi G sr 24 (nF fsr), zi G sk 200 fsk, zi G na 6 fna] s.heap := ⟨hP, hD⟩
  have hP := hz9.1
  have hD := hz9.2
  have hl := lv_entry ([.ref h0, .int (nI jn), .int (nI pn)]) (n := 4) (Nat.le_of_ble_eq_true rfl)
  rw [lg_entry_eq]
  generalize (lg_sl ([.ref h0, .int (nI jn), .int (nI pn)]) ++ List.replicate (4 - (lg_sl ([.ref h0, .int (nI jn), .int (nI pn)])).length) Slot.unset).toArray = ls at hl ⊢
  have hl : lv_has ls 4 [zR 0 h0, zI 1 (nI jn), zI 2 (nI pn)] := hl
  have kf7 := hts (.fieldLink RX6 7 "PebbleInShoeModel" "kind" "[I") (by decide +kernel)
  have hiX6 := (by decide +kernel : ∀ w ∈ wsX60, w ∈ wsX6_wearsOf)
  refine lv_aload_n hx hb dX6_wearsOf_0 rfl (lv_at hl 0 rfl) ?_
  refine lv_iconst (v := 1) hx hb dX6_wearsOf_1 (by decide +kernel) ?_
  refine lv_iload_n hx hb dX6_wearsOf_2 rfl (lv_at hl 1 rfl) ?_
  refine lv_iload_n hx hb dX6_wearsOf_3 rfl (lv_at hl 2 rfl) ?_
  refine z_calli [0, 1, 2, 3, 5, 6, 7, 8] (v := m_X6_asksOf ru fst fro fmo fcd fsr 1 jn pn) (fun _ ⟨_, _⟩ h => h) (va_runV (As := [.int 1, .int (nI jn), .int (nI pn)]) (rest := []) ⟨hx, hb, hml, hown, hts⟩ (c_X6_asksOf l G h0 kd mo st ro tp cd sr ir ih ss sq ce lw wo he sk na kp gb go fa ga vo pb jg td tx ru him s19 s20 s21 s22 s25 s26 s27 s31 s32 s33 s34 s39 s40 fst fro fmo fcd fsr fsk fna 1 jn pn s.heap.size (by omega) (by first | exact hj | assumption | omega) (by first | exact hp | assumption | omega) (by first | exact hwf | assumption | omega) (by first | exact hpb | assumption | omega) (by first | exact hjg | assumption | omega) (by first | exact htx | assumption | omega) (by first | exact hru | assumption | omega)) (cwV 3 hts gX6_wearsOf_X6_asksOf rfl rfl rfl (by decide +kernel) ⟨Nat.le_of_ble_eq_true rfl, Nat.le_of_ble_eq_true rfl⟩) ⟨gPre_blind, va_recv (q := (RX6, TX6, 42)) hK hP (ci := 6) (q0 := 0) rfl rfl, fun U hU hW => gPre_ofF [0, 1, 2, 3, 5, 6, 7, 8] hU hW hK hP hD (by decide +kernel) rfl⟩ rfl rfl hl.1 rfl (lv_room (Nat.le_of_ble_eq_true rfl)) dX6_wearsOf_4 ⟨Nat.le_of_ble_eq_true rfl, Nat.le_of_ble_eq_true rfl⟩) hS hD hA rfl (fun u t H locs ht hvm hB hz1 hk1 hFq hAq hS => ?_)
  obtain ⟨ysk_3, yna_4⟩ := u
  obtain ⟨hP1, hK1, hD1⟩ := hB
  have hz9 : gPD G A [zo6 h0 (nI pb) kd mo st (nI jg) ro tp (nI td) cd sr (nI tx) (nI ru) him ir ih ss sq ce lw s19 s20 s21 s22 wo he s25 s26 s27 sk na kp s31 s32 s33 s34 gb go fa ga s39 s40 vo, zi G st 12 fst, zi G ro 12 fro, zi G mo 6 fmo, zi G kd 6 fkd, zi G cd 1200 fcd, zi G sr 24 (nF fsr), zi G sk 200 ysk_3, zi G na 6 yna_4] H := zFill hP hD [0, 1, 2, 3, 5, 6, 7, 8] [1, 2, 3, 4, 0, 5, 6, 7, 8] hAq hk1 hFq ht hP1 hD1 rfl (by decide +kernel)
  have hP := hz9.1
  have hD := hz9.2
  refine lv_istore_n (lv' := [zI 3 (m_X6_asksOf ru fst fro fmo fcd fsr 1 jn pn), zR 0 h0, zI 1 (nI jn), zI 2 (nI pn)]) hx hb dX6_wearsOf_7 rfl hl (by decide +kernel) rfl (fun ls hl => ?_)
  refine g_aget (D := G.1) (ci := 6) (v := .ref kd) (C := RX6) (T := TX6) (N := 42) hx hb dX6_wearsOf_8 rfl (lv_at hl 1 rfl) hts hiX6 hown hK hP 0 rfl rfl 1 (by decide +kernel) kf7 (fun _ h9 => h9) rfl dX6_wearsOf_9 ?_
  refine lv_iload_n hx hb dX6_wearsOf_12 rfl (lv_at hl 3 rfl) ?_
  refine g_iald (D := G.1) hx hb hK hP 4 0 rfl rfl (k := pn) (y := fkd pn) (by omega) rfl rfl dX6_wearsOf_13 ?_
  by_cases s_6 : fkd pn = 2
  · skip
    refine lv_tableIn (off := 26) (tgt := 40) hx hb dX6_wearsOf_14 (by rw [s_6]; decide) (by rw [s_6]; decide) (by rw [s_6]; decide) (by decide +kernel) ?_
    refine lv_iconst (v := 2) hx hb dX6_wearsOf_40 (by decide +kernel) ?_
    refine lv_iload_n hx hb dX6_wearsOf_41 rfl (lv_at hl 0 rfl) ?_
    refine lv_imul hx hb dX6_wearsOf_42 ?_
    have hpost : (fun (r : Int32) (u : (Nat → Int32) × (Nat → Int32)) => match u with | (ysk, yna) => r = m_X6_wearsOf ru fst fro fmo fkd fcd fsr jn pn) (2 * (m_X6_asksOf ru fst fro fmo fcd fsr 1 jn pn)) (ysk_3, yna_4) := (show m_X6_wearsOf ru fst fro fmo fkd fcd fsr jn pn = (2 * (m_X6_asksOf ru fst fro fmo fcd fsr 1 jn pn)) from by unfold m_X6_wearsOf; rw [if_pos s_6]).symm
    exact W.iret (v := (2 * (m_X6_asksOf ru fst fro fmo fcd fsr 1 jn pn))) hx hb hr (fun t ht hW => ⟨⟨(2 * (m_X6_asksOf ru fst fro fmo fcd fsr 1 jn pn)), (ysk_3, yna_4), rfl, hpost, by rw [ht]; exact hP, va_K.moved hW.alike hK, hD⟩, hS.F ht⟩) hS.2.2 dX6_wearsOf_43
  by_cases s_7 : fkd pn = 3
  · skip
    refine lv_tableIn (off := 30) (tgt := 44) hx hb dX6_wearsOf_14 (by rw [s_7]; decide) (by rw [s_7]; decide) (by rw [s_7]; decide) (by decide +kernel) ?_
    refine lv_iload_n hx hb dX6_wearsOf_44 rfl (lv_at hl 0 rfl) ?_
    refine lv_iconst (v := 2) hx hb dX6_wearsOf_45 (by decide +kernel) ?_
    refine lv_idiv hx hb dX6_wearsOf_46 (by decide +kernel) ?_
    have hpost : (fun (r : Int32) (u : (Nat → Int32) × (Nat → Int32)) => match u with | (ysk, yna) => r = m_X6_wearsOf ru fst fro fmo fkd fcd fsr jn pn) ((m_X6_asksOf ru fst fro fmo fcd fsr 1 jn pn) / 2) (ysk_3, yna_4) := (show m_X6_wearsOf ru fst fro fmo fkd fcd fsr jn pn = ((m_X6_asksOf ru fst fro fmo fcd fsr 1 jn pn) / 2) from by unfold m_X6_wearsOf; rw [if_neg s_6, if_pos s_7]).symm
    exact W.iret (v := ((m_X6_asksOf ru fst fro fmo fcd fsr 1 jn pn) / 2)) hx hb hr (fun t ht hW => ⟨⟨((m_X6_asksOf ru fst fro fmo fcd fsr 1 jn pn) / 2), (ysk_3, yna_4), rfl, hpost, by rw [ht]; exact hP, va_K.moved hW.alike hK, hD⟩, hS.F ht⟩) hS.2.2 dX6_wearsOf_47
  by_cases s_8 : fkd pn = 4
  · skip
    refine lv_tableIn (off := 34) (tgt := 48) hx hb dX6_wearsOf_14 (by rw [s_8]; decide) (by rw [s_8]; decide) (by rw [s_8]; decide) (by decide +kernel) ?_
    refine lv_iload_n hx hb dX6_wearsOf_48 rfl (lv_at hl 0 rfl) ?_
    refine lv_iconst (v := 5) hx hb dX6_wearsOf_49 (by decide +kernel) ?_
    refine lv_icmp_gt (tgt := 57) hx hb dX6_wearsOf_50 (by decide +kernel) (fun c_9 => ?_) (fun c_9 => ?_)
    · skip
      refine lv_iconst (v := 2) hx hb dX6_wearsOf_57 (by decide +kernel) ?_
      refine lv_iload_n hx hb dX6_wearsOf_58 rfl (lv_at hl 0 rfl) ?_
      refine lv_imul hx hb dX6_wearsOf_59 ?_
      have hpost : (fun (r : Int32) (u : (Nat → Int32) × (Nat → Int32)) => match u with | (ysk, yna) => r = m_X6_wearsOf ru fst fro fmo fkd fcd fsr jn pn) (2 * (m_X6_asksOf ru fst fro fmo fcd fsr 1 jn pn)) (ysk_3, yna_4) := (show m_X6_wearsOf ru fst fro fmo fkd fcd fsr jn pn = (2 * (m_X6_asksOf ru fst fro fmo fcd fsr 1 jn pn)) from by unfold m_X6_wearsOf; rw [if_neg s_6, if_neg s_7, if_pos s_8, if_pos c_9]).symm
      exact W.iret (v := (2 * (m_X6_asksOf ru fst fro fmo fcd fsr 1 jn pn))) hx hb hr (fun t ht hW => ⟨⟨(2 * (m_X6_asksOf ru fst fro fmo fcd fsr 1 jn pn)), (ysk_3, yna_4), rfl, hpost, by rw [ht]; exact hP, va_K.moved hW.alike hK, hD⟩, hS.F ht⟩) hS.2.2 dX6_wearsOf_60
    · skip
      refine lv_iconst (v := 0) hx hb dX6_wearsOf_53 (by decide +kernel) ?_
      refine lv_goto (tgt := 60) hx hb dX6_wearsOf_54 (by decide +kernel) ?_
      have hpost : (fun (r : Int32) (u : (Nat → Int32) × (Nat → Int32)) => match u with | (ysk, yna) => r = m_X6_wearsOf ru fst fro fmo fkd fcd fsr jn pn) 0 (ysk_3, yna_4) := (show m_X6_wearsOf ru fst fro fmo fkd fcd fsr jn pn = 0 from by unfold m_X6_wearsOf; rw [if_neg s_6, if_neg s_7, if_pos s_8, if_neg c_9]).symm
      exact W.iret (v := 0) hx hb hr (fun t ht hW => ⟨⟨0, (ysk_3, yna_4), rfl, hpost, by rw [ht]; exact hP, va_K.moved hW.alike hK, hD⟩, hS.F ht⟩) hS.2.2 dX6_wearsOf_60
  have s_6T := lv_neT (a := 2) s_6 (by decide +kernel)
  have s_7T := lv_neT (a := 3) s_7 (by decide +kernel)
  have s_8T := lv_neT (a := 4) s_8 (by decide +kernel)
  refine lv_tableOut (tgt := 61) hx hb dX6_wearsOf_14 (by omega) (by decide +kernel) ?_
  refine lv_iload_n hx hb dX6_wearsOf_61 rfl (lv_at hl 0 rfl) ?_
  have hpost : (fun (r : Int32) (u : (Nat → Int32) × (Nat → Int32)) => match u with | (ysk, yna) => r = m_X6_wearsOf ru fst fro fmo fkd fcd fsr jn pn) (m_X6_asksOf ru fst fro fmo fcd fsr 1 jn pn) (ysk_3, yna_4) := (show m_X6_wearsOf ru fst fro fmo fkd fcd fsr jn pn = (m_X6_asksOf ru fst fro fmo fcd fsr 1 jn pn) from by unfold m_X6_wearsOf; rw [if_neg s_6, if_neg s_7, if_neg s_8]).symm
  exact W.iret (v := (m_X6_asksOf ru fst fro fmo fcd fsr 1 jn pn)) hx hb hr (fun t ht hW => ⟨⟨(m_X6_asksOf ru fst fro fmo fcd fsr 1 jn pn), (ysk_3, yna_4), rfl, hpost, by rw [ht]; exact hP, va_K.moved hW.alike hK, hD⟩, hS.F ht⟩) hS.2.2 dX6_wearsOf_62
noncomputable def m_X6_mile (ru : Nat) (fst : Nat → Int32) (fro : Nat → Int32) (fmo : Nat → Int32) (fkd : Nat → Int32) (fcd : Nat → Int32) (fsr : Nat → Nat) (jn : Nat) (pn : Nat) : Int32 := if (m_X6_isSand fst fkd fmo pn) = 0 then m_X6_hurtsOf ru fst fro fmo fkd fcd fsr jn pn else 0
noncomputable def m_X6_mile_st (ru : Nat) (fst : Nat → Int32) (fro : Nat → Int32) (fmo : Nat → Int32) (fkd : Nat → Int32) (fcd : Nat → Int32) (fsr : Nat → Nat) (v3 : Int32) (jn : Nat) (pn : Nat) : Nat → Int32 := if (m_X6_isSand fst fkd fmo pn) = 0 then upd fst (2 * pn) (m_X6_within ((fst (2 * pn)) - ((m_X6_wearsOf ru fst fro fmo fkd fcd fsr jn pn) + v3)) 0 99) else fst
noncomputable def m_X6_mile_ro (ru : Nat) (fst : Nat → Int32) (fro : Nat → Int32) (fmo : Nat → Int32) (fkd : Nat → Int32) (fcd : Nat → Int32) (fsr : Nat → Nat) (jn : Nat) (pn : Nat) : Nat → Int32 := if (m_X6_isSand fst fkd fmo pn) = 0 then (if (iRem ((fro ((3 * jn) + 1)) + 1) 10) = 0 then upd (upd (upd fro ((3 * jn) + 2) (m_X6_within ((fro ((3 * jn) + 2)) + (m_X6_hurtsOf ru fst fro fmo fkd fcd fsr jn pn)) 0 99999)) ((3 * jn) + 1) ((fro ((3 * jn) + 1)) + 1)) (3 * jn) (m_X6_within ((fro (3 * jn)) + 1) 0 20) else upd (upd (upd fro ((3 * jn) + 2) (m_X6_within ((fro ((3 * jn) + 2)) + (m_X6_hurtsOf ru fst fro fmo fkd fcd fsr jn pn)) 0 99999)) ((3 * jn) + 1) ((fro ((3 * jn) + 1)) + 1)) (3 * jn) (fro (3 * jn))) else (if (iRem ((fro ((3 * jn) + 1)) + 1) 10) = 0 then upd (upd fro ((3 * jn) + 1) ((fro ((3 * jn) + 1)) + 1)) (3 * jn) (m_X6_within ((fro (3 * jn)) + 1) 0 20) else upd (upd fro ((3 * jn) + 1) ((fro ((3 * jn) + 1)) + 1)) (3 * jn) (fro (3 * jn)))
abbrev q_X6_mile (G : gG) (h0 kd mo st ro tp cd sr ir ih ss sq ce lw wo he sk na kp gb go fa ga vo : Nat) (pb : Nat) (jg : Nat) (td : Nat) (tx : Nat) (ru : Nat) (him : Int32) (s19 : Int32) (s20 : Int32) (s21 : Int32) (s22 : Int32) (s25 : Int32) (s26 : Int32) (s27 : Int32) (s31 : Int32) (s32 : Int32) (s33 : Int32) (s34 : Int32) (s39 : Int32) (s40 : Int32) (fst : Nat → Int32) (fro : Nat → Int32) (fmo : Nat → Int32) (fkd : Nat → Int32) (fcd : Nat → Int32) (fsr : Nat → Nat) (fsk : Nat → Int32) (fna : Nat → Int32) (v3 : Int32) (jn : Nat) (pn : Nat) (A : Nat → Prop) : Array Value → State → Outcome → State → Prop := va_Qi (fun (r : Int32) (u : (Nat → Int32) × (Nat → Int32)) => match u with | (ysk, yna) => r = m_X6_mile ru fst fro fmo fkd fcd fsr jn pn) (fun (u : (Nat → Int32) × (Nat → Int32)) t => match u with | (ysk, yna) => va_P G.1 vwCl [zo6 h0 (nI pb) kd mo st (nI jg) ro tp (nI td) cd sr (nI tx) (nI ru) him ir ih ss sq ce lw s19 s20 s21 s22 wo he s25 s26 s27 sk na kp s31 s32 s33 s34 gb go fa ga s39 s40 vo, zi G st 12 (m_X6_mile_st ru fst fro fmo fkd fcd fsr v3 jn pn), zi G ro 12 (m_X6_mile_ro ru fst fro fmo fkd fcd fsr jn pn), zi G mo 6 fmo, zi G kd 6 fkd, zi G cd 1200 fcd, zi G sr 24 (nF fsr), zi G sk 200 ysk, zi G na 6 yna] t.heap ∧ gK G t ∧ va_D A [zo6 h0 (nI pb) kd mo st (nI jg) ro tp (nI td) cd sr (nI tx) (nI ru) him ir ih ss sq ce lw s19 s20 s21 s22 wo he s25 s26 s27 sk na kp s31 s32 s33 s34 gb go fa ga s39 s40 vo, zi G st 12 (m_X6_mile_st ru fst fro fmo fkd fcd fsr v3 jn pn), zi G ro 12 (m_X6_mile_ro ru fst fro fmo fkd fcd fsr jn pn), zi G mo 6 fmo, zi G kd 6 fkd, zi G cd 1200 fcd, zi G sr 24 (nF fsr), zi G sk 200 ysk, zi G na 6 yna]) A
set_option maxHeartbeats 4000000 in
set_option maxRecDepth 100000 in
theorem c_X6_mile (l : Launch) (G : gG) (h0 kd mo st ro tp cd sr ir ih ss sq ce lw wo he sk na kp gb go fa ga vo : Nat) (pb : Nat) (jg : Nat) (td : Nat) (tx : Nat) (ru : Nat) (him : Int32) (s19 : Int32) (s20 : Int32) (s21 : Int32) (s22 : Int32) (s25 : Int32) (s26 : Int32) (s27 : Int32) (s31 : Int32) (s32 : Int32) (s33 : Int32) (s34 : Int32) (s39 : Int32) (s40 : Int32) (fst : Nat → Int32) (fro : Nat → Int32) (fmo : Nat → Int32) (fkd : Nat → Int32) (fcd : Nat → Int32) (fsr : Nat → Nat) (fsk : Nat → Int32) (fna : Nat → Int32) (v3 : Int32) (jn : Nat) (pn : Nat) (sz : Nat) (hj : jn < 4) (hp : pn < 6) (hwf : mWf fcd fsr ru) (hpb : pb ≤ 6) (hjg : jg ≤ 4) (htx : tx ≤ 6) (hru : ru < tx) : Met l yX6_mile wsX6_mile ({ frames := 4, cells := 0, slots := 0, locals := 95 }) (gPre G [.ref h0, .int (nI jn), .int (nI pn), .int v3] [zo6 h0 (nI pb) kd mo st (nI jg) ro tp (nI td) cd sr (nI tx) (nI ru) him ir ih ss sq ce lw s19 s20 s21 s22 wo he s25 s26 s27 sk na kp s31 s32 s33 s34 gb go fa ga s39 s40 vo, zi G st 12 fst, zi G ro 12 fro, zi G mo 6 fmo, zi G kd 6 fkd, zi G cd 1200 fcd, zi G sr 24 (nF fsr), zi G sk 200 fsk, zi G na 6 fna] sz) (q_X6_mile G h0 kd mo st ro tp cd sr ir ih ss sq ce lw wo he sk na kp gb go fa ga vo pb jg td tx ru him s19 s20 s21 s22 s25 s26 s27 s31 s32 s33 s34 s39 s40 fst fro fmo fkd fcd fsr fsk fna v3 jn pn (va_A [zo6 h0 (nI pb) kd mo st (nI jg) ro tp (nI td) cd sr (nI tx) (nI ru) him ir ih ss sq ce lw s19 s20 s21 s22 wo he s25 s26 s27 sk na kp s31 s32 s33 s34 gb go fa ga s39 s40 vo, zi G st 12 fst, zi G ro 12 fro, zi G mo 6 fmo, zi G kd 6 fkd, zi G cd 1200 fcd, zi G sr 24 (nF fsr), zi G sk 200 fsk, zi G na 6 fna] sz)) 0 0 (va_A [zo6 h0 (nI pb) kd mo st (nI jg) ro tp (nI td) cd sr (nI tx) (nI ru) him ir ih ss sq ce lw s19 s20 s21 s22 wo he s25 s26 s27 sk na kp s31 s32 s33 s34 gb go fa ga s39 s40 vo, zi G st 12 fst, zi G ro 12 fro, zi G mo 6 fmo, zi G kd 6 fkd, zi G cd 1200 fcd, zi G sr 24 (nF fsr), zi G sk 200 fsk, zi G na 6 fna] sz) := by
  refine Met.ofW (cc := cX6_mile) (maxL := 6) (ret := (some .int)) (by decide +kernel) rfl ?_
  intro p e s m args below meth c s₁ B hml hv
  obtain ⟨rfl, hsz, hP, hK, hD0⟩ := hv
  have hx := B.exec
  have hb := B.bytes
  have hr := B.returns
  have hts := atoms_spec (ws := wsX6_mile) B.pre
  have hown : s.vm.findClass RX6 = some m.cls := findClass_of_methodNamed B.named
  have hlocks := B.notSynchronized
  subst hsz
  have hD := hD0.self (sz := s.heap.size)
  generalize hAe : va_A [zo6 h0 (nI pb) kd mo st (nI jg) ro tp (nI td) cd sr (nI tx) (nI ru) him ir ih ss sq ce lw s19 s20 s21 s22 wo he s25 s26 s27 sk na kp s31 s32 s33 s34 gb go fa ga s39 s40 vo, zi G st 12 fst, zi G ro 12 fro, zi G mo 6 fmo, zi G kd 6 fkd, zi G cd 1200 fcd, zi G sr 24 (nF fsr), zi G sk 200 fsk, zi G na 6 fna] s.heap.size = A at hD ⊢
  have hA : ∀ q : Nat, s.heap.size ≤ q → A q := fun q h => by rw [← hAe]; exact Or.inr h
  have hS : va_S A s.heap s.heap [] := va_S.rf
  have hz9 : gPD G A [zo6 h0 (nI pb) kd mo st (nI jg) ro tp (nI td) cd sr (nI tx) (nI ru) him ir ih ss sq ce lw s19 s20 s21 s22 wo he s25 s26 s27 sk na kp s31 s32 s33 s34 gb go fa ga s39 s40 vo, zi G st 12 fst, zi G ro 12 fro, zi G mo 6 fmo, zi G kd 6 fkd, zi G cd 1200 fcd, zi G sr 24 (nF fsr), zi G sk 200 fsk, zi G na 6 fna] s.heap := ⟨hP, hD⟩
  have hP := hz9.1
  have hD := hz9.2
  have hl := lv_entry ([.ref h0, .int (nI jn), .int (nI pn), .int v3]) (n := 6) (Nat.le_of_ble_eq_true rfl)
  rw [lg_entry_eq]
  generalize (lg_sl ([.ref h0, .int (nI jn), .int (nI pn), .int v3]) ++ List.replicate (6 - (lg_sl ([.ref h0, .int (nI jn), .int (nI pn), .int v3])).length) Slot.unset).toArray = ls at hl ⊢
  have hl : lv_has ls 6 [zR 0 h0, zI 1 (nI jn), zI 2 (nI pn), zI 3 v3] := hl
  have kf19 := hts (.fieldLink RX6 19 "PebbleInShoeModel" "rows" "[I") (by decide +kernel)
  have hiX6 := (by decide +kernel : ∀ w ∈ wsX60, w ∈ wsX6_mile)
  have kf16 := hts (.fieldLink RX6 16 "PebbleInShoeModel" "stones" "[I") (by decide +kernel)
  refine lv_iconst (v := 0) hx hb dX6_mile_0 (by decide +kernel) ?_
  refine lv_istore (lv' := [zI 4 0, zR 0 h0, zI 1 (nI jn), zI 2 (nI pn), zI 3 v3]) hx hb dX6_mile_1 hl (by decide +kernel) rfl (fun ls hl => ?_)
  refine lv_aload_n hx hb dX6_mile_3 rfl (lv_at hl 1 rfl) ?_
  refine lv_iload_n hx hb dX6_mile_4 rfl (lv_at hl 3 rfl) ?_
  refine z_calli [0, 1, 4, 3] (v := m_X6_isSand fst fkd fmo pn) (fun _ _ h => h) (va_runV (As := [.int (nI pn)]) (rest := []) ⟨hx, hb, hml, hown, hts⟩ (c_X6_isSand l G h0 kd mo st ro tp cd sr ir ih ss sq ce lw wo he sk na kp gb go fa ga vo pb jg td tx ru him s19 s20 s21 s22 s25 s26 s27 s31 s32 s33 s34 s39 s40 fst fkd fmo pn s.heap.size (by first | exact hp | assumption | omega) (by first | exact hpb | assumption | omega) (by first | exact hjg | assumption | omega) (by first | exact htx | assumption | omega) (by first | exact hru | assumption | omega)) (cwV 1 hts gX6_mile_X6_isSand rfl rfl rfl (by decide +kernel) ⟨Nat.le_of_ble_eq_true rfl, Nat.le_of_ble_eq_true rfl⟩) ⟨gPre_blind, va_recv (q := (RX6, TX6, 42)) hK hP (ci := 6) (q0 := 0) rfl rfl, fun U hU hW => gPre_ofF [0, 1, 4, 3] hU hW hK hP hD (by decide +kernel) rfl⟩ rfl rfl hl.1 rfl (lv_room (Nat.le_of_ble_eq_true rfl)) dX6_mile_5 ⟨Nat.le_of_ble_eq_true rfl, Nat.le_of_ble_eq_true rfl⟩) hS hD hA rfl (fun u t H locs ht hvm hB hz1 hk1 hFq hAq hS => ?_)
  obtain ⟨hP1, hK1, hD1⟩ := hB
  have hP := zKeep hP hD [0, 1, 4, 3] hAq hk1 ht hP1 rfl
  refine lv_if_ne (tgt := 83) hx hb dX6_mile_8 (by decide +kernel) (fun c_3 => ?_) (fun c_3 => ?_)
  · skip
    refine g_aget (D := G.1) (ci := 6) (v := .ref ro) (C := RX6) (T := TX6) (N := 42) hx hb dX6_mile_83 rfl (lv_at hl 1 rfl) hts hiX6 hown hK hP 0 rfl rfl 5 (by decide +kernel) kf19 (fun _ h9 => h9) rfl dX6_mile_84 ?_
    refine lv_iconst (v := 3) hx hb dX6_mile_87 (by decide +kernel) ?_
    refine lv_iload_n hx hb dX6_mile_88 rfl (lv_at hl 2 rfl) ?_
    refine lv_imul hx hb dX6_mile_89 ?_
    refine g_topi (y := nI (3 * jn)) (pk_mul 3 jn) ?_
    refine lv_iconst (v := 1) hx hb dX6_mile_90 (by decide +kernel) ?_
    refine lv_iadd hx hb dX6_mile_91 ?_
    refine g_topi (y := nI ((3 * jn) + 1)) (nI_add (3 * jn) 1) ?_
    refine lv_dup2_11 hx hb dX6_mile_92 rfl rfl ?_
    refine g_iald (D := G.1) hx hb hK hP 2 0 rfl rfl (k := (3 * jn) + 1) (y := fro ((3 * jn) + 1)) (by omega) rfl rfl dX6_mile_93 ?_
    refine lv_iconst (v := 1) hx hb dX6_mile_94 (by decide +kernel) ?_
    refine lv_iadd hx hb dX6_mile_95 ?_
    refine g_iast (D := G.1) hx hb hK hP hD hS 2 0 rfl rfl (k := (3 * jn) + 1) (x := ((fro ((3 * jn) + 1)) + 1)) (by omega) rfl dX6_mile_96 (fun H locs hP hD hS => ?_)
    have hz9 : gPD G A [zo6 h0 (nI pb) kd mo st (nI jg) ro tp (nI td) cd sr (nI tx) (nI ru) him ir ih ss sq ce lw s19 s20 s21 s22 wo he s25 s26 s27 sk na kp s31 s32 s33 s34 gb go fa ga s39 s40 vo, zi G st 12 fst, zi G ro 12 (upd fro ((3 * jn) + 1) ((fro ((3 * jn) + 1)) + 1)), zi G mo 6 fmo, zi G kd 6 fkd, zi G cd 1200 fcd, zi G sr 24 (nF fsr), zi G sk 200 fsk, zi G na 6 fna] H := ⟨hP, hD⟩
    have hP := hz9.1
    have hD := hz9.2
    refine g_aget (D := G.1) (ci := 6) (v := .ref ro) (C := RX6) (T := TX6) (N := 42) hx hb dX6_mile_97 rfl (lv_at hl 1 rfl) hts hiX6 hown hK hP 0 rfl rfl 5 (by decide +kernel) kf19 (fun _ h9 => h9) rfl dX6_mile_98 ?_
    refine lv_iconst (v := 3) hx hb dX6_mile_101 (by decide +kernel) ?_
    refine lv_iload_n hx hb dX6_mile_102 rfl (lv_at hl 2 rfl) ?_
    refine lv_imul hx hb dX6_mile_103 ?_
    refine g_topi (y := nI (3 * jn)) (pk_mul 3 jn) ?_
    refine g_aget (D := G.1) (ci := 6) (v := .ref ro) (C := RX6) (T := TX6) (N := 42) hx hb dX6_mile_104 rfl (lv_at hl 1 rfl) hts hiX6 hown hK hP 0 rfl rfl 5 (by decide +kernel) kf19 (fun _ h9 => h9) rfl dX6_mile_105 ?_
    refine lv_iconst (v := 3) hx hb dX6_mile_108 (by decide +kernel) ?_
    refine lv_iload_n hx hb dX6_mile_109 rfl (lv_at hl 2 rfl) ?_
    refine lv_imul hx hb dX6_mile_110 ?_
    refine g_topi (y := nI (3 * jn)) (pk_mul 3 jn) ?_
    refine lv_iconst (v := 1) hx hb dX6_mile_111 (by decide +kernel) ?_
    refine lv_iadd hx hb dX6_mile_112 ?_
    refine g_topi (y := nI ((3 * jn) + 1)) (nI_add (3 * jn) 1) ?_
    refine va_iald (D := G.1) hx hb hK hP 2 0 rfl rfl (i := (nI ((3 * jn) + 1))) (vpn (by omega) rfl) dX6_mile_113 ?_
    refine g_topi (y := (fro ((3 * jn) + 1)) + 1) (by rw [nI_clamp (by omega), upd_a9 (by omega)]) ?_
    refine lv_bipush (v := 10) hx hb dX6_mile_114 (by decide +kernel) ?_
    refine lv_irem hx hb dX6_mile_116 (by decide +kernel) ?_
    refine g_topi (y := iRem ((fro ((3 * jn) + 1)) + 1) 10) (rfl) ?_
    refine lv_if_ne (tgt := 139) hx hb dX6_mile_117 (by decide +kernel) (fun c_12 => ?_) (fun c_12 => ?_)
    · skip
      refine g_aget (D := G.1) (ci := 6) (v := .ref ro) (C := RX6) (T := TX6) (N := 42) hx hb dX6_mile_139 rfl (lv_at hl 1 rfl) hts hiX6 hown hK hP 0 rfl rfl 5 (by decide +kernel) kf19 (fun _ h9 => h9) rfl dX6_mile_140 ?_
      refine lv_iconst (v := 3) hx hb dX6_mile_143 (by decide +kernel) ?_
      refine lv_iload_n hx hb dX6_mile_144 rfl (lv_at hl 2 rfl) ?_
      refine lv_imul hx hb dX6_mile_145 ?_
      refine g_topi (y := nI (3 * jn)) (pk_mul 3 jn) ?_
      refine va_iald (D := G.1) hx hb hK hP 2 0 rfl rfl (i := (nI (3 * jn))) (vpn (by omega) rfl) dX6_mile_146 ?_
      refine g_topi (y := fro (3 * jn)) (by rw [nI_clamp (by omega), upd_n9 (by omega)]) ?_
      refine g_iast (D := G.1) hx hb hK hP hD hS 2 0 rfl rfl (k := 3 * jn) (x := (fro (3 * jn))) (by omega) rfl dX6_mile_147 (fun H locs hP hD hS => ?_)
      have hz9 : gPD G A [zo6 h0 (nI pb) kd mo st (nI jg) ro tp (nI td) cd sr (nI tx) (nI ru) him ir ih ss sq ce lw s19 s20 s21 s22 wo he s25 s26 s27 sk na kp s31 s32 s33 s34 gb go fa ga s39 s40 vo, zi G st 12 fst, zi G ro 12 (upd (upd fro ((3 * jn) + 1) ((fro ((3 * jn) + 1)) + 1)) (3 * jn) (fro (3 * jn))), zi G mo 6 fmo, zi G kd 6 fkd, zi G cd 1200 fcd, zi G sr 24 (nF fsr), zi G sk 200 fsk, zi G na 6 fna] H := ⟨hP, hD⟩
      have hP := hz9.1
      have hD := hz9.2
      refine lv_iload hx hb dX6_mile_148 (lv_at hl 0 rfl) ?_
      have q_15 : m_X6_mile_st ru fst fro fmo fkd fcd fsr v3 jn pn = fst := by unfold m_X6_mile_st; rw [if_neg c_3]
      have q_16 : m_X6_mile_ro ru fst fro fmo fkd fcd fsr jn pn = upd (upd fro ((3 * jn) + 1) ((fro ((3 * jn) + 1)) + 1)) (3 * jn) (fro (3 * jn)) := by unfold m_X6_mile_ro; rw [if_neg c_3, if_neg c_12]
      have hz9 : gPD G A [zo6 h0 (nI pb) kd mo st (nI jg) ro tp (nI td) cd sr (nI tx) (nI ru) him ir ih ss sq ce lw s19 s20 s21 s22 wo he s25 s26 s27 sk na kp s31 s32 s33 s34 gb go fa ga s39 s40 vo, zi G st 12 (m_X6_mile_st ru fst fro fmo fkd fcd fsr v3 jn pn), zi G ro 12 (m_X6_mile_ro ru fst fro fmo fkd fcd fsr jn pn), zi G mo 6 fmo, zi G kd 6 fkd, zi G cd 1200 fcd, zi G sr 24 (nF fsr), zi G sk 200 fsk, zi G na 6 fna] H := ⟨by rw [q_15, q_16]; exact hP, by rw [q_15, q_16]; exact hD⟩
      have hP9 := hz9.1
      have hD9 := hz9.2
      have hpost : (fun (r : Int32) (u : (Nat → Int32) × (Nat → Int32)) => match u with | (ysk, yna) => r = m_X6_mile ru fst fro fmo fkd fcd fsr jn pn) 0 (fsk, fna) := (show m_X6_mile ru fst fro fmo fkd fcd fsr jn pn = 0 from by unfold m_X6_mile; rw [if_neg c_3]).symm
      exact W.iret (v := 0) hx hb hr (fun t ht hW => ⟨⟨0, (fsk, fna), rfl, hpost, by rw [ht]; exact hP9, va_K.moved hW.alike hK, hD9⟩, hS.F ht⟩) hS.2.2 dX6_mile_150
    · skip
      refine g_aget (D := G.1) (ci := 6) (v := .ref ro) (C := RX6) (T := TX6) (N := 42) hx hb dX6_mile_120 rfl (lv_at hl 1 rfl) hts hiX6 hown hK hP 0 rfl rfl 5 (by decide +kernel) kf19 (fun _ h9 => h9) rfl dX6_mile_121 ?_
      refine lv_iconst (v := 3) hx hb dX6_mile_124 (by decide +kernel) ?_
      refine lv_iload_n hx hb dX6_mile_125 rfl (lv_at hl 2 rfl) ?_
      refine lv_imul hx hb dX6_mile_126 ?_
      refine g_topi (y := nI (3 * jn)) (pk_mul 3 jn) ?_
      refine va_iald (D := G.1) hx hb hK hP 2 0 rfl rfl (i := (nI (3 * jn))) (vpn (by omega) rfl) dX6_mile_127 ?_
      refine g_topi (y := fro (3 * jn)) (by rw [nI_clamp (by omega), upd_n9 (by omega)]) ?_
      refine lv_iconst (v := 1) hx hb dX6_mile_128 (by decide +kernel) ?_
      refine lv_iadd hx hb dX6_mile_129 ?_
      refine lv_iconst (v := 0) hx hb dX6_mile_130 (by decide +kernel) ?_
      refine lv_bipush (v := 20) hx hb dX6_mile_131 (by decide +kernel) ?_
      refine z_calli [] (v := m_X6_within ((fro (3 * jn)) + 1) 0 20) (fun _ _ h => h) (va_runS (As := [.int ((fro (3 * jn)) + 1), .int 0, .int 20]) (rest := [.int (nI (3 * jn)), .ref ro]) ⟨hx, hb, hml, hown, hts⟩ (c_X6_within l G ((fro (3 * jn)) + 1) 0 20 H.size) (va_cwS 3 hts gX6_mile_X6_within rfl rfl rfl (by decide +kernel) ⟨Nat.le_of_ble_eq_true rfl, Nat.le_of_ble_eq_true rfl⟩) ⟨gPre_blind, fun U hU hW => gPre_ofF [] hU hW hK hP hD (by decide +kernel) rfl⟩ rfl rfl hl.1 rfl (lv_room (Nat.le_of_ble_eq_true rfl)) dX6_mile_133 ⟨Nat.le_of_ble_eq_true rfl, Nat.le_of_ble_eq_true rfl⟩) hS hD hA rfl (fun u t H locs ht hvm hB hz1 hk1 hFq hAq hS => ?_)
      obtain ⟨hP1, hK1, hD1⟩ := hB
      have hP := zKeep hP hD [] hAq hk1 ht hP1 rfl
      refine lv_goto (tgt := 147) hx hb dX6_mile_136 (by decide +kernel) ?_
      refine g_iast (D := G.1) hx hb hK hP hD hS 2 0 rfl rfl (k := 3 * jn) (x := (m_X6_within ((fro (3 * jn)) + 1) 0 20)) (by omega) rfl dX6_mile_147 (fun H locs hP hD hS => ?_)
      have hz9 : gPD G A [zo6 h0 (nI pb) kd mo st (nI jg) ro tp (nI td) cd sr (nI tx) (nI ru) him ir ih ss sq ce lw s19 s20 s21 s22 wo he s25 s26 s27 sk na kp s31 s32 s33 s34 gb go fa ga s39 s40 vo, zi G st 12 fst, zi G ro 12 (upd (upd fro ((3 * jn) + 1) ((fro ((3 * jn) + 1)) + 1)) (3 * jn) (m_X6_within ((fro (3 * jn)) + 1) 0 20)), zi G mo 6 fmo, zi G kd 6 fkd, zi G cd 1200 fcd, zi G sr 24 (nF fsr), zi G sk 200 fsk, zi G na 6 fna] H := ⟨hP, hD⟩
      have hP := hz9.1
      have hD := hz9.2
      refine lv_iload hx hb dX6_mile_148 (lv_at hl 0 rfl) ?_
      have q_21 : m_X6_mile_st ru fst fro fmo fkd fcd fsr v3 jn pn = fst := by unfold m_X6_mile_st; rw [if_neg c_3]
      have q_22 : m_X6_mile_ro ru fst fro fmo fkd fcd fsr jn pn = upd (upd fro ((3 * jn) + 1) ((fro ((3 * jn) + 1)) + 1)) (3 * jn) (m_X6_within ((fro (3 * jn)) + 1) 0 20) := by unfold m_X6_mile_ro; rw [if_neg c_3, if_pos c_12]
      have hz9 : gPD G A [zo6 h0 (nI pb) kd mo st (nI jg) ro tp (nI td) cd sr (nI tx) (nI ru) him ir ih ss sq ce lw s19 s20 s21 s22 wo he s25 s26 s27 sk na kp s31 s32 s33 s34 gb go fa ga s39 s40 vo, zi G st 12 (m_X6_mile_st ru fst fro fmo fkd fcd fsr v3 jn pn), zi G ro 12 (m_X6_mile_ro ru fst fro fmo fkd fcd fsr jn pn), zi G mo 6 fmo, zi G kd 6 fkd, zi G cd 1200 fcd, zi G sr 24 (nF fsr), zi G sk 200 fsk, zi G na 6 fna] H := ⟨by rw [q_21, q_22]; exact hP, by rw [q_21, q_22]; exact hD⟩
      have hP9 := hz9.1
      have hD9 := hz9.2
      have hpost : (fun (r : Int32) (u : (Nat → Int32) × (Nat → Int32)) => match u with | (ysk, yna) => r = m_X6_mile ru fst fro fmo fkd fcd fsr jn pn) 0 (fsk, fna) := (show m_X6_mile ru fst fro fmo fkd fcd fsr jn pn = 0 from by unfold m_X6_mile; rw [if_neg c_3]).symm
      exact W.iret (v := 0) hx hb hr (fun t ht hW => ⟨⟨0, (fsk, fna), rfl, hpost, by rw [ht]; exact hP9, va_K.moved hW.alike hK, hD9⟩, hS.F ht⟩) hS.2.2 dX6_mile_150
  · skip
    refine lv_aload_n hx hb dX6_mile_11 rfl (lv_at hl 1 rfl) ?_
    refine lv_iload_n hx hb dX6_mile_12 rfl (lv_at hl 2 rfl) ?_
    refine lv_iload_n hx hb dX6_mile_13 rfl (lv_at hl 3 rfl) ?_
    refine z_calli [0, 1, 2, 3, 4, 5, 6, 7, 8] (v := m_X6_hurtsOf ru fst fro fmo fkd fcd fsr jn pn) (fun _ ⟨_, _⟩ h => h) (va_runV (As := [.int (nI jn), .int (nI pn)]) (rest := []) ⟨hx, hb, hml, hown, hts⟩ (c_X6_hurtsOf l G h0 kd mo st ro tp cd sr ir ih ss sq ce lw wo he sk na kp gb go fa ga vo pb jg td tx ru him s19 s20 s21 s22 s25 s26 s27 s31 s32 s33 s34 s39 s40 fst fro fmo fkd fcd fsr fsk fna jn pn H.size (by first | exact hj | assumption | omega) (by first | exact hp | assumption | omega) (by first | exact hwf | assumption | omega) (by first | exact hpb | assumption | omega) (by first | exact hjg | assumption | omega) (by first | exact htx | assumption | omega) (by first | exact hru | assumption | omega)) (cwV 2 hts gX6_mile_X6_hurtsOf rfl rfl rfl (by decide +kernel) ⟨Nat.le_of_ble_eq_true rfl, Nat.le_of_ble_eq_true rfl⟩) ⟨gPre_blind, va_recv (q := (RX6, TX6, 42)) hK hP (ci := 6) (q0 := 0) rfl rfl, fun U hU hW => gPre_of hU hW hK hP hD⟩ rfl rfl hl.1 rfl (lv_room (Nat.le_of_ble_eq_true rfl)) dX6_mile_14 ⟨Nat.le_of_ble_eq_true rfl, Nat.le_of_ble_eq_true rfl⟩) hS hD hA rfl (fun u t H locs ht hvm hB hz1 hk1 hFq hAq hS => ?_)
    obtain ⟨ysk_25, yna_26⟩ := u
    obtain ⟨hP1, hK1, hD1⟩ := hB
    have hz9 : gPD G A [zo6 h0 (nI pb) kd mo st (nI jg) ro tp (nI td) cd sr (nI tx) (nI ru) him ir ih ss sq ce lw s19 s20 s21 s22 wo he s25 s26 s27 sk na kp s31 s32 s33 s34 gb go fa ga s39 s40 vo, zi G st 12 fst, zi G ro 12 fro, zi G mo 6 fmo, zi G kd 6 fkd, zi G cd 1200 fcd, zi G sr 24 (nF fsr), zi G sk 200 ysk_25, zi G na 6 yna_26] H := zFill hP hD [0, 1, 2, 3, 4, 5, 6, 7, 8] [1, 2, 3, 4, 5, 6, 7, 8, 9] hAq hk1 hFq ht hP1 hD1 rfl (by decide +kernel)
    have hP := hz9.1
    have hD := hz9.2
    refine lv_istore (lv' := [zI 4 (m_X6_hurtsOf ru fst fro fmo fkd fcd fsr jn pn), zR 0 h0, zI 1 (nI jn), zI 2 (nI pn), zI 3 v3]) hx hb dX6_mile_17 hl (by decide +kernel) rfl (fun ls hl => ?_)
    refine lv_aload_n hx hb dX6_mile_19 rfl (lv_at hl 1 rfl) ?_
    refine lv_iload_n hx hb dX6_mile_20 rfl (lv_at hl 2 rfl) ?_
    refine lv_iload_n hx hb dX6_mile_21 rfl (lv_at hl 3 rfl) ?_
    refine z_calli [0, 1, 2, 3, 4, 5, 6, 7, 8] (v := m_X6_wearsOf ru fst fro fmo fkd fcd fsr jn pn) (fun _ ⟨_, _⟩ h => h) (va_runV (As := [.int (nI jn), .int (nI pn)]) (rest := []) ⟨hx, hb, hml, hown, hts⟩ (c_X6_wearsOf l G h0 kd mo st ro tp cd sr ir ih ss sq ce lw wo he sk na kp gb go fa ga vo pb jg td tx ru him s19 s20 s21 s22 s25 s26 s27 s31 s32 s33 s34 s39 s40 fst fro fmo fkd fcd fsr ysk_25 yna_26 jn pn H.size (by first | exact hj | assumption | omega) (by first | exact hp | assumption | omega) (by first | exact hwf | assumption | omega) (by first | exact hpb | assumption | omega) (by first | exact hjg | assumption | omega) (by first | exact htx | assumption | omega) (by first | exact hru | assumption | omega)) (cwV 2 hts gX6_mile_X6_wearsOf rfl rfl rfl (by decide +kernel) ⟨Nat.le_of_ble_eq_true rfl, Nat.le_of_ble_eq_true rfl⟩) ⟨gPre_blind, va_recv (q := (RX6, TX6, 42)) hK hP (ci := 6) (q0 := 0) rfl rfl, fun U hU hW => gPre_of hU hW hK hP hD⟩ rfl rfl hl.1 rfl (lv_room (Nat.le_of_ble_eq_true rfl)) dX6_mile_22 ⟨Nat.le_of_ble_eq_true rfl, Nat.le_of_ble_eq_true rfl⟩) hS hD hA rfl (fun u t H locs ht hvm hB hz1 hk1 hFq hAq hS => ?_)
    obtain ⟨ysk_29, yna_30⟩ := u
    obtain ⟨hP1, hK1, hD1⟩ := hB
    have hz9 : gPD G A [zo6 h0 (nI pb) kd mo st (nI jg) ro tp (nI td) cd sr (nI tx) (nI ru) him ir ih ss sq ce lw s19 s20 s21 s22 wo he s25 s26 s27 sk na kp s31 s32 s33 s34 gb go fa ga s39 s40 vo, zi G st 12 fst, zi G ro 12 fro, zi G mo 6 fmo, zi G kd 6 fkd, zi G cd 1200 fcd, zi G sr 24 (nF fsr), zi G sk 200 ysk_29, zi G na 6 yna_30] H := zFill hP hD [0, 1, 2, 3, 4, 5, 6, 7, 8] [1, 2, 3, 4, 5, 6, 7, 8, 9] hAq hk1 hFq ht hP1 hD1 rfl (by decide +kernel)
    have hP := hz9.1
    have hD := hz9.2
    refine lv_iload_n hx hb dX6_mile_25 rfl (lv_at hl 4 rfl) ?_
    refine lv_iadd hx hb dX6_mile_26 ?_
    refine lv_istore (lv' := [zI 5 ((m_X6_wearsOf ru fst fro fmo fkd fcd fsr jn pn) + v3), zI 4 (m_X6_hurtsOf ru fst fro fmo fkd fcd fsr jn pn), zR 0 h0, zI 1 (nI jn), zI 2 (nI pn), zI 3 v3]) hx hb dX6_mile_27 hl (by decide +kernel) rfl (fun ls hl => ?_)
    refine g_aget (D := G.1) (ci := 6) (v := .ref ro) (C := RX6) (T := TX6) (N := 42) hx hb dX6_mile_29 rfl (lv_at hl 2 rfl) hts hiX6 hown hK hP 0 rfl rfl 5 (by decide +kernel) kf19 (fun _ h9 => h9) rfl dX6_mile_30 ?_
    refine lv_iconst (v := 3) hx hb dX6_mile_33 (by decide +kernel) ?_
    refine lv_iload_n hx hb dX6_mile_34 rfl (lv_at hl 3 rfl) ?_
    refine lv_imul hx hb dX6_mile_35 ?_
    refine g_topi (y := nI (3 * jn)) (pk_mul 3 jn) ?_
    refine lv_iconst (v := 2) hx hb dX6_mile_36 (by decide +kernel) ?_
    refine lv_iadd hx hb dX6_mile_37 ?_
    refine g_topi (y := nI ((3 * jn) + 2)) (nI_add (3 * jn) 2) ?_
    refine g_aget (D := G.1) (ci := 6) (v := .ref ro) (C := RX6) (T := TX6) (N := 42) hx hb dX6_mile_38 rfl (lv_at hl 2 rfl) hts hiX6 hown hK hP 0 rfl rfl 5 (by decide +kernel) kf19 (fun _ h9 => h9) rfl dX6_mile_39 ?_
    refine lv_iconst (v := 3) hx hb dX6_mile_42 (by decide +kernel) ?_
    refine lv_iload_n hx hb dX6_mile_43 rfl (lv_at hl 3 rfl) ?_
    refine lv_imul hx hb dX6_mile_44 ?_
    refine g_topi (y := nI (3 * jn)) (pk_mul 3 jn) ?_
    refine lv_iconst (v := 2) hx hb dX6_mile_45 (by decide +kernel) ?_
    refine lv_iadd hx hb dX6_mile_46 ?_
    refine g_topi (y := nI ((3 * jn) + 2)) (nI_add (3 * jn) 2) ?_
    refine g_iald (D := G.1) hx hb hK hP 2 0 rfl rfl (k := (3 * jn) + 2) (y := fro ((3 * jn) + 2)) (by omega) rfl rfl dX6_mile_47 ?_
    refine lv_iload hx hb dX6_mile_48 (lv_at hl 1 rfl) ?_
    refine lv_iadd hx hb dX6_mile_50 ?_
    refine lv_iconst (v := 0) hx hb dX6_mile_51 (by decide +kernel) ?_
    refine lv_ldc hx hb hown (hts (.constant RX6 192 (99999)) (by decide +kernel)) dX6_mile_52 ?_
    refine z_calli [] (v := m_X6_within ((fro ((3 * jn) + 2)) + (m_X6_hurtsOf ru fst fro fmo fkd fcd fsr jn pn)) 0 99999) (fun _ _ h => h) (va_runS (As := [.int ((fro ((3 * jn) + 2)) + (m_X6_hurtsOf ru fst fro fmo fkd fcd fsr jn pn)), .int 0, .int 99999]) (rest := [.int (nI ((3 * jn) + 2)), .ref ro]) ⟨hx, hb, hml, hown, hts⟩ (c_X6_within l G ((fro ((3 * jn) + 2)) + (m_X6_hurtsOf ru fst fro fmo fkd fcd fsr jn pn)) 0 99999 H.size) (va_cwS 3 hts gX6_mile_X6_within rfl rfl rfl (by decide +kernel) ⟨Nat.le_of_ble_eq_true rfl, Nat.le_of_ble_eq_true rfl⟩) ⟨gPre_blind, fun U hU hW => gPre_ofF [] hU hW hK hP hD (by decide +kernel) rfl⟩ rfl rfl hl.1 rfl (lv_room (Nat.le_of_ble_eq_true rfl)) dX6_mile_54 ⟨Nat.le_of_ble_eq_true rfl, Nat.le_of_ble_eq_true rfl⟩) hS hD hA rfl (fun u t H locs ht hvm hB hz1 hk1 hFq hAq hS => ?_)
    obtain ⟨hP1, hK1, hD1⟩ := hB
    have hP := zKeep hP hD [] hAq hk1 ht hP1 rfl
    refine g_iast (D := G.1) hx hb hK hP hD hS 2 0 rfl rfl (k := (3 * jn) + 2) (x := (m_X6_within ((fro ((3 * jn) + 2)) + (m_X6_hurtsOf ru fst fro fmo fkd fcd fsr jn pn)) 0 99999)) (by omega) rfl dX6_mile_57 (fun H locs hP hD hS => ?_)
    have hz9 : gPD G A [zo6 h0 (nI pb) kd mo st (nI jg) ro tp (nI td) cd sr (nI tx) (nI ru) him ir ih ss sq ce lw s19 s20 s21 s22 wo he s25 s26 s27 sk na kp s31 s32 s33 s34 gb go fa ga s39 s40 vo, zi G st 12 fst, zi G ro 12 (upd fro ((3 * jn) + 2) (m_X6_within ((fro ((3 * jn) + 2)) + (m_X6_hurtsOf ru fst fro fmo fkd fcd fsr jn pn)) 0 99999)), zi G mo 6 fmo, zi G kd 6 fkd, zi G cd 1200 fcd, zi G sr 24 (nF fsr), zi G sk 200 ysk_29, zi G na 6 yna_30] H := ⟨hP, hD⟩
    have hP := hz9.1
    have hD := hz9.2
    refine g_aget (D := G.1) (ci := 6) (v := .ref st) (C := RX6) (T := TX6) (N := 42) hx hb dX6_mile_58 rfl (lv_at hl 2 rfl) hts hiX6 hown hK hP 0 rfl rfl 3 (by decide +kernel) kf16 (fun _ h9 => h9) rfl dX6_mile_59 ?_
    refine lv_iconst (v := 2) hx hb dX6_mile_62 (by decide +kernel) ?_
    refine lv_iload_n hx hb dX6_mile_63 rfl (lv_at hl 4 rfl) ?_
    refine lv_imul hx hb dX6_mile_64 ?_
    refine g_topi (y := nI (2 * pn)) (pk_mul 2 pn) ?_
    refine g_aget (D := G.1) (ci := 6) (v := .ref st) (C := RX6) (T := TX6) (N := 42) hx hb dX6_mile_65 rfl (lv_at hl 2 rfl) hts hiX6 hown hK hP 0 rfl rfl 3 (by decide +kernel) kf16 (fun _ h9 => h9) rfl dX6_mile_66 ?_
    refine lv_iconst (v := 2) hx hb dX6_mile_69 (by decide +kernel) ?_
    refine lv_iload_n hx hb dX6_mile_70 rfl (lv_at hl 4 rfl) ?_
    refine lv_imul hx hb dX6_mile_71 ?_
    refine g_topi (y := nI (2 * pn)) (pk_mul 2 pn) ?_
    refine g_iald (D := G.1) hx hb hK hP 1 0 rfl rfl (k := 2 * pn) (y := fst (2 * pn)) (by omega) rfl rfl dX6_mile_72 ?_
    refine lv_iload hx hb dX6_mile_73 (lv_at hl 0 rfl) ?_
    refine lv_isub hx hb dX6_mile_75 ?_
    refine lv_iconst (v := 0) hx hb dX6_mile_76 (by decide +kernel) ?_
    refine lv_bipush (v := 99) hx hb dX6_mile_77 (by decide +kernel) ?_
    refine z_calli [] (v := m_X6_within ((fst (2 * pn)) - ((m_X6_wearsOf ru fst fro fmo fkd fcd fsr jn pn) + v3)) 0 99) (fun _ _ h => h) (va_runS (As := [.int ((fst (2 * pn)) - ((m_X6_wearsOf ru fst fro fmo fkd fcd fsr jn pn) + v3)), .int 0, .int 99]) (rest := [.int (nI (2 * pn)), .ref st]) ⟨hx, hb, hml, hown, hts⟩ (c_X6_within l G ((fst (2 * pn)) - ((m_X6_wearsOf ru fst fro fmo fkd fcd fsr jn pn) + v3)) 0 99 H.size) (va_cwS 3 hts gX6_mile_X6_within rfl rfl rfl (by decide +kernel) ⟨Nat.le_of_ble_eq_true rfl, Nat.le_of_ble_eq_true rfl⟩) ⟨gPre_blind, fun U hU hW => gPre_ofF [] hU hW hK hP hD (by decide +kernel) rfl⟩ rfl rfl hl.1 rfl (lv_room (Nat.le_of_ble_eq_true rfl)) dX6_mile_79 ⟨Nat.le_of_ble_eq_true rfl, Nat.le_of_ble_eq_true rfl⟩) hS hD hA rfl (fun u t H locs ht hvm hB hz1 hk1 hFq hAq hS => ?_)
    obtain ⟨hP1, hK1, hD1⟩ := hB
    have hP := zKeep hP hD [] hAq hk1 ht hP1 rfl
    refine g_iast (D := G.1) hx hb hK hP hD hS 1 0 rfl rfl (k := 2 * pn) (x := (m_X6_within ((fst (2 * pn)) - ((m_X6_wearsOf ru fst fro fmo fkd fcd fsr jn pn) + v3)) 0 99)) (by omega) rfl dX6_mile_82 (fun H locs hP hD hS => ?_)
    have hz9 : gPD G A [zo6 h0 (nI pb) kd mo st (nI jg) ro tp (nI td) cd sr (nI tx) (nI ru) him ir ih ss sq ce lw s19 s20 s21 s22 wo he s25 s26 s27 sk na kp s31 s32 s33 s34 gb go fa ga s39 s40 vo, zi G st 12 (upd fst (2 * pn) (m_X6_within ((fst (2 * pn)) - ((m_X6_wearsOf ru fst fro fmo fkd fcd fsr jn pn) + v3)) 0 99)), zi G ro 12 (upd fro ((3 * jn) + 2) (m_X6_within ((fro ((3 * jn) + 2)) + (m_X6_hurtsOf ru fst fro fmo fkd fcd fsr jn pn)) 0 99999)), zi G mo 6 fmo, zi G kd 6 fkd, zi G cd 1200 fcd, zi G sr 24 (nF fsr), zi G sk 200 ysk_29, zi G na 6 yna_30] H := ⟨hP, hD⟩
    have hP := hz9.1
    have hD := hz9.2
    refine g_aget (D := G.1) (ci := 6) (v := .ref ro) (C := RX6) (T := TX6) (N := 42) hx hb dX6_mile_83 rfl (lv_at hl 2 rfl) hts hiX6 hown hK hP 0 rfl rfl 5 (by decide +kernel) kf19 (fun _ h9 => h9) rfl dX6_mile_84 ?_
    refine lv_iconst (v := 3) hx hb dX6_mile_87 (by decide +kernel) ?_
    refine lv_iload_n hx hb dX6_mile_88 rfl (lv_at hl 3 rfl) ?_
    refine lv_imul hx hb dX6_mile_89 ?_
    refine g_topi (y := nI (3 * jn)) (pk_mul 3 jn) ?_
    refine lv_iconst (v := 1) hx hb dX6_mile_90 (by decide +kernel) ?_
    refine lv_iadd hx hb dX6_mile_91 ?_
    refine g_topi (y := nI ((3 * jn) + 1)) (nI_add (3 * jn) 1) ?_
    refine lv_dup2_11 hx hb dX6_mile_92 rfl rfl ?_
    refine va_iald (D := G.1) hx hb hK hP 2 0 rfl rfl (i := (nI ((3 * jn) + 1))) (vpn (by omega) rfl) dX6_mile_93 ?_
    refine g_topi (y := fro ((3 * jn) + 1)) (by rw [nI_clamp (by omega), upd_n9 (by omega)]) ?_
    refine lv_iconst (v := 1) hx hb dX6_mile_94 (by decide +kernel) ?_
    refine lv_iadd hx hb dX6_mile_95 ?_
    refine g_iast (D := G.1) hx hb hK hP hD hS 2 0 rfl rfl (k := (3 * jn) + 1) (x := ((fro ((3 * jn) + 1)) + 1)) (by omega) rfl dX6_mile_96 (fun H locs hP hD hS => ?_)
    have hz9 : gPD G A [zo6 h0 (nI pb) kd mo st (nI jg) ro tp (nI td) cd sr (nI tx) (nI ru) him ir ih ss sq ce lw s19 s20 s21 s22 wo he s25 s26 s27 sk na kp s31 s32 s33 s34 gb go fa ga s39 s40 vo, zi G st 12 (upd fst (2 * pn) (m_X6_within ((fst (2 * pn)) - ((m_X6_wearsOf ru fst fro fmo fkd fcd fsr jn pn) + v3)) 0 99)), zi G ro 12 (upd (upd fro ((3 * jn) + 2) (m_X6_within ((fro ((3 * jn) + 2)) + (m_X6_hurtsOf ru fst fro fmo fkd fcd fsr jn pn)) 0 99999)) ((3 * jn) + 1) ((fro ((3 * jn) + 1)) + 1)), zi G mo 6 fmo, zi G kd 6 fkd, zi G cd 1200 fcd, zi G sr 24 (nF fsr), zi G sk 200 ysk_29, zi G na 6 yna_30] H := ⟨hP, hD⟩
    have hP := hz9.1
    have hD := hz9.2
    refine g_aget (D := G.1) (ci := 6) (v := .ref ro) (C := RX6) (T := TX6) (N := 42) hx hb dX6_mile_97 rfl (lv_at hl 2 rfl) hts hiX6 hown hK hP 0 rfl rfl 5 (by decide +kernel) kf19 (fun _ h9 => h9) rfl dX6_mile_98 ?_
    refine lv_iconst (v := 3) hx hb dX6_mile_101 (by decide +kernel) ?_
    refine lv_iload_n hx hb dX6_mile_102 rfl (lv_at hl 3 rfl) ?_
    refine lv_imul hx hb dX6_mile_103 ?_
    refine g_topi (y := nI (3 * jn)) (pk_mul 3 jn) ?_
    refine g_aget (D := G.1) (ci := 6) (v := .ref ro) (C := RX6) (T := TX6) (N := 42) hx hb dX6_mile_104 rfl (lv_at hl 2 rfl) hts hiX6 hown hK hP 0 rfl rfl 5 (by decide +kernel) kf19 (fun _ h9 => h9) rfl dX6_mile_105 ?_
    refine lv_iconst (v := 3) hx hb dX6_mile_108 (by decide +kernel) ?_
    refine lv_iload_n hx hb dX6_mile_109 rfl (lv_at hl 3 rfl) ?_
    refine lv_imul hx hb dX6_mile_110 ?_
    refine g_topi (y := nI (3 * jn)) (pk_mul 3 jn) ?_
    refine lv_iconst (v := 1) hx hb dX6_mile_111 (by decide +kernel) ?_
    refine lv_iadd hx hb dX6_mile_112 ?_
    refine g_topi (y := nI ((3 * jn) + 1)) (nI_add (3 * jn) 1) ?_
    refine va_iald (D := G.1) hx hb hK hP 2 0 rfl rfl (i := (nI ((3 * jn) + 1))) (vpn (by omega) rfl) dX6_mile_113 ?_
    refine g_topi (y := (fro ((3 * jn) + 1)) + 1) (by rw [nI_clamp (by omega), upd_a9 (by omega)]) ?_
    refine lv_bipush (v := 10) hx hb dX6_mile_114 (by decide +kernel) ?_
    refine lv_irem hx hb dX6_mile_116 (by decide +kernel) ?_
    refine g_topi (y := iRem ((fro ((3 * jn) + 1)) + 1) 10) (rfl) ?_
    refine lv_if_ne (tgt := 139) hx hb dX6_mile_117 (by decide +kernel) (fun c_51 => ?_) (fun c_51 => ?_)
    · skip
      refine g_aget (D := G.1) (ci := 6) (v := .ref ro) (C := RX6) (T := TX6) (N := 42) hx hb dX6_mile_139 rfl (lv_at hl 2 rfl) hts hiX6 hown hK hP 0 rfl rfl 5 (by decide +kernel) kf19 (fun _ h9 => h9) rfl dX6_mile_140 ?_
      refine lv_iconst (v := 3) hx hb dX6_mile_143 (by decide +kernel) ?_
      refine lv_iload_n hx hb dX6_mile_144 rfl (lv_at hl 3 rfl) ?_
      refine lv_imul hx hb dX6_mile_145 ?_
      refine g_topi (y := nI (3 * jn)) (pk_mul 3 jn) ?_
      refine va_iald (D := G.1) hx hb hK hP 2 0 rfl rfl (i := (nI (3 * jn))) (vpn (by omega) rfl) dX6_mile_146 ?_
      refine g_topi (y := fro (3 * jn)) (by rw [nI_clamp (by omega), upd_n9 (by omega), upd_n9 (by omega)]) ?_
      refine g_iast (D := G.1) hx hb hK hP hD hS 2 0 rfl rfl (k := 3 * jn) (x := (fro (3 * jn))) (by omega) rfl dX6_mile_147 (fun H locs hP hD hS => ?_)
      have hz9 : gPD G A [zo6 h0 (nI pb) kd mo st (nI jg) ro tp (nI td) cd sr (nI tx) (nI ru) him ir ih ss sq ce lw s19 s20 s21 s22 wo he s25 s26 s27 sk na kp s31 s32 s33 s34 gb go fa ga s39 s40 vo, zi G st 12 (upd fst (2 * pn) (m_X6_within ((fst (2 * pn)) - ((m_X6_wearsOf ru fst fro fmo fkd fcd fsr jn pn) + v3)) 0 99)), zi G ro 12 (upd (upd (upd fro ((3 * jn) + 2) (m_X6_within ((fro ((3 * jn) + 2)) + (m_X6_hurtsOf ru fst fro fmo fkd fcd fsr jn pn)) 0 99999)) ((3 * jn) + 1) ((fro ((3 * jn) + 1)) + 1)) (3 * jn) (fro (3 * jn))), zi G mo 6 fmo, zi G kd 6 fkd, zi G cd 1200 fcd, zi G sr 24 (nF fsr), zi G sk 200 ysk_29, zi G na 6 yna_30] H := ⟨hP, hD⟩
      have hP := hz9.1
      have hD := hz9.2
      refine lv_iload hx hb dX6_mile_148 (lv_at hl 1 rfl) ?_
      have q_54 : m_X6_mile_st ru fst fro fmo fkd fcd fsr v3 jn pn = upd fst (2 * pn) (m_X6_within ((fst (2 * pn)) - ((m_X6_wearsOf ru fst fro fmo fkd fcd fsr jn pn) + v3)) 0 99) := by unfold m_X6_mile_st; rw [if_pos c_3]
      have q_55 : m_X6_mile_ro ru fst fro fmo fkd fcd fsr jn pn = upd (upd (upd fro ((3 * jn) + 2) (m_X6_within ((fro ((3 * jn) + 2)) + (m_X6_hurtsOf ru fst fro fmo fkd fcd fsr jn pn)) 0 99999)) ((3 * jn) + 1) ((fro ((3 * jn) + 1)) + 1)) (3 * jn) (fro (3 * jn)) := by unfold m_X6_mile_ro; rw [if_pos c_3, if_neg c_51]
      have hz9 : gPD G A [zo6 h0 (nI pb) kd mo st (nI jg) ro tp (nI td) cd sr (nI tx) (nI ru) him ir ih ss sq ce lw s19 s20 s21 s22 wo he s25 s26 s27 sk na kp s31 s32 s33 s34 gb go fa ga s39 s40 vo, zi G st 12 (m_X6_mile_st ru fst fro fmo fkd fcd fsr v3 jn pn), zi G ro 12 (m_X6_mile_ro ru fst fro fmo fkd fcd fsr jn pn), zi G mo 6 fmo, zi G kd 6 fkd, zi G cd 1200 fcd, zi G sr 24 (nF fsr), zi G sk 200 ysk_29, zi G na 6 yna_30] H := ⟨by rw [q_54, q_55]; exact hP, by rw [q_54, q_55]; exact hD⟩
      have hP9 := hz9.1
      have hD9 := hz9.2
      have hpost : (fun (r : Int32) (u : (Nat → Int32) × (Nat → Int32)) => match u with | (ysk, yna) => r = m_X6_mile ru fst fro fmo fkd fcd fsr jn pn) (m_X6_hurtsOf ru fst fro fmo fkd fcd fsr jn pn) (ysk_29, yna_30) := (show m_X6_mile ru fst fro fmo fkd fcd fsr jn pn = (m_X6_hurtsOf ru fst fro fmo fkd fcd fsr jn pn) from by unfold m_X6_mile; rw [if_pos c_3]).symm
      exact W.iret (v := (m_X6_hurtsOf ru fst fro fmo fkd fcd fsr jn pn)) hx hb hr (fun t ht hW => ⟨⟨(m_X6_hurtsOf ru fst fro fmo fkd fcd fsr jn pn), (ysk_29, yna_30), rfl, hpost, by rw [ht]; exact hP9, va_K.moved hW.alike hK, hD9⟩, hS.F ht⟩) hS.2.2 dX6_mile_150
    · skip
      refine g_aget (D := G.1) (ci := 6) (v := .ref ro) (C := RX6) (T := TX6) (N := 42) hx hb dX6_mile_120 rfl (lv_at hl 2 rfl) hts hiX6 hown hK hP 0 rfl rfl 5 (by decide +kernel) kf19 (fun _ h9 => h9) rfl dX6_mile_121 ?_
      refine lv_iconst (v := 3) hx hb dX6_mile_124 (by decide +kernel) ?_
      refine lv_iload_n hx hb dX6_mile_125 rfl (lv_at hl 3 rfl) ?_
      refine lv_imul hx hb dX6_mile_126 ?_
      refine g_topi (y := nI (3 * jn)) (pk_mul 3 jn) ?_
      refine va_iald (D := G.1) hx hb hK hP 2 0 rfl rfl (i := (nI (3 * jn))) (vpn (by omega) rfl) dX6_mile_127 ?_
      refine g_topi (y := fro (3 * jn)) (by rw [nI_clamp (by omega), upd_n9 (by omega), upd_n9 (by omega)]) ?_
      refine lv_iconst (v := 1) hx hb dX6_mile_128 (by decide +kernel) ?_
      refine lv_iadd hx hb dX6_mile_129 ?_
      refine lv_iconst (v := 0) hx hb dX6_mile_130 (by decide +kernel) ?_
      refine lv_bipush (v := 20) hx hb dX6_mile_131 (by decide +kernel) ?_
      refine z_calli [] (v := m_X6_within ((fro (3 * jn)) + 1) 0 20) (fun _ _ h => h) (va_runS (As := [.int ((fro (3 * jn)) + 1), .int 0, .int 20]) (rest := [.int (nI (3 * jn)), .ref ro]) ⟨hx, hb, hml, hown, hts⟩ (c_X6_within l G ((fro (3 * jn)) + 1) 0 20 H.size) (va_cwS 3 hts gX6_mile_X6_within rfl rfl rfl (by decide +kernel) ⟨Nat.le_of_ble_eq_true rfl, Nat.le_of_ble_eq_true rfl⟩) ⟨gPre_blind, fun U hU hW => gPre_ofF [] hU hW hK hP hD (by decide +kernel) rfl⟩ rfl rfl hl.1 rfl (lv_room (Nat.le_of_ble_eq_true rfl)) dX6_mile_133 ⟨Nat.le_of_ble_eq_true rfl, Nat.le_of_ble_eq_true rfl⟩) hS hD hA rfl (fun u t H locs ht hvm hB hz1 hk1 hFq hAq hS => ?_)
      obtain ⟨hP1, hK1, hD1⟩ := hB
      have hP := zKeep hP hD [] hAq hk1 ht hP1 rfl
      refine lv_goto (tgt := 147) hx hb dX6_mile_136 (by decide +kernel) ?_
      refine g_iast (D := G.1) hx hb hK hP hD hS 2 0 rfl rfl (k := 3 * jn) (x := (m_X6_within ((fro (3 * jn)) + 1) 0 20)) (by omega) rfl dX6_mile_147 (fun H locs hP hD hS => ?_)
      have hz9 : gPD G A [zo6 h0 (nI pb) kd mo st (nI jg) ro tp (nI td) cd sr (nI tx) (nI ru) him ir ih ss sq ce lw s19 s20 s21 s22 wo he s25 s26 s27 sk na kp s31 s32 s33 s34 gb go fa ga s39 s40 vo, zi G st 12 (upd fst (2 * pn) (m_X6_within ((fst (2 * pn)) - ((m_X6_wearsOf ru fst fro fmo fkd fcd fsr jn pn) + v3)) 0 99)), zi G ro 12 (upd (upd (upd fro ((3 * jn) + 2) (m_X6_within ((fro ((3 * jn) + 2)) + (m_X6_hurtsOf ru fst fro fmo fkd fcd fsr jn pn)) 0 99999)) ((3 * jn) + 1) ((fro ((3 * jn) + 1)) + 1)) (3 * jn) (m_X6_within ((fro (3 * jn)) + 1) 0 20)), zi G mo 6 fmo, zi G kd 6 fkd, zi G cd 1200 fcd, zi G sr 24 (nF fsr), zi G sk 200 ysk_29, zi G na 6 yna_30] H := ⟨hP, hD⟩
      have hP := hz9.1
      have hD := hz9.2
      refine lv_iload hx hb dX6_mile_148 (lv_at hl 1 rfl) ?_
      have q_60 : m_X6_mile_st ru fst fro fmo fkd fcd fsr v3 jn pn = upd fst (2 * pn) (m_X6_within ((fst (2 * pn)) - ((m_X6_wearsOf ru fst fro fmo fkd fcd fsr jn pn) + v3)) 0 99) := by unfold m_X6_mile_st; rw [if_pos c_3]
      have q_61 : m_X6_mile_ro ru fst fro fmo fkd fcd fsr jn pn = upd (upd (upd fro ((3 * jn) + 2) (m_X6_within ((fro ((3 * jn) + 2)) + (m_X6_hurtsOf ru fst fro fmo fkd fcd fsr jn pn)) 0 99999)) ((3 * jn) + 1) ((fro ((3 * jn) + 1)) + 1)) (3 * jn) (m_X6_within ((fro (3 * jn)) + 1) 0 20) := by unfold m_X6_mile_ro; rw [if_pos c_3, if_pos c_51]
      have hz9 : gPD G A [zo6 h0 (nI pb) kd mo st (nI jg) ro tp (nI td) cd sr (nI tx) (nI ru) him ir ih ss sq ce lw s19 s20 s21 s22 wo he s25 s26 s27 sk na kp s31 s32 s33 s34 gb go fa ga s39 s40 vo, zi G st 12 (m_X6_mile_st ru fst fro fmo fkd fcd fsr v3 jn pn), zi G ro 12 (m_X6_mile_ro ru fst fro fmo fkd fcd fsr jn pn), zi G mo 6 fmo, zi G kd 6 fkd, zi G cd 1200 fcd, zi G sr 24 (nF fsr), zi G sk 200 ysk_29, zi G na 6 yna_30] H := ⟨by rw [q_60, q_61]; exact hP, by rw [q_60, q_61]; exact hD⟩
      have hP9 := hz9.1
      have hD9 := hz9.2
      have hpost : (fun (r : Int32) (u : (Nat → Int32) × (Nat → Int32)) => match u with | (ysk, yna) => r = m_X6_mile ru fst fro fmo fkd fcd fsr jn pn) (m_X6_hurtsOf ru fst fro fmo fkd fcd fsr jn pn) (ysk_29, yna_30) := (show m_X6_mile ru fst fro fmo fkd fcd fsr jn pn = (m_X6_hurtsOf ru fst fro fmo fkd fcd fsr jn pn) from by unfold m_X6_mile; rw [if_pos c_3]).symm
      exact W.iret (v := (m_X6_hurtsOf ru fst fro fmo fkd fcd fsr jn pn)) hx hb hr (fun t ht hW => ⟨⟨(m_X6_hurtsOf ru fst fro fmo fkd fcd fsr jn pn), (ysk_29, yna_30), rfl, hpost, by rw [ht]; exact hP9, va_K.moved hW.alike hK, hD9⟩, hS.F ht⟩) hS.2.2 dX6_mile_150
noncomputable def p_X6_caseOf_6 (ru : Nat) (fmo : Nat → Int32) (fkd : Nat → Int32) (fcd : Nat → Int32) (fsr : Nat → Nat) (jn : Nat) (pn : Nat) : Nat → Nat → Int32 → (Nat → Int32) → (Nat → Int32) → Nat × Int32 × (Nat → Int32) × (Nat → Int32)
  | 0, i6, fe, y6st, y6ro => (i6, fe, y6st, y6ro)
  | q9 + 1, i6, fe, y6st, y6ro => p_X6_caseOf_6 ru fmo fkd fcd fsr jn pn q9 (i6 + 1) (fe + (m_X6_mile ru y6st y6ro fmo fkd fcd fsr jn pn)) (m_X6_mile_st ru y6st y6ro fmo fkd fcd fsr 0 jn pn) (m_X6_mile_ro ru y6st y6ro fmo fkd fcd fsr jn pn)
noncomputable def g_X6_caseOf_6 (ru : Nat) (fst : Nat → Int32) (fro : Nat → Int32) (fmo : Nat → Int32) (fkd : Nat → Int32) (fcd : Nat → Int32) (fsr : Nat → Nat) (jn : Nat) (pn : Nat) (nn : Nat) : Nat × Int32 × (Nat → Int32) × (Nat → Int32) := p_X6_caseOf_6 ru fmo fkd fcd fsr jn pn (nn - 0) 0 0 fst fro
noncomputable def m_X6_caseOf (ru : Nat) (fst : Nat → Int32) (fro : Nat → Int32) (fmo : Nat → Int32) (fkd : Nat → Int32) (fcd : Nat → Int32) (fsr : Nat → Nat) (jn : Nat) (pn : Nat) (nn : Nat) : Int32 := ((g_X6_caseOf_6 ru fst fro fmo fkd fcd fsr jn pn nn).2.1)
noncomputable def m_X6_caseOf_st (ru : Nat) (fst : Nat → Int32) (fro : Nat → Int32) (fmo : Nat → Int32) (fkd : Nat → Int32) (fcd : Nat → Int32) (fsr : Nat → Nat) (jn : Nat) (pn : Nat) (nn : Nat) : Nat → Int32 := ((g_X6_caseOf_6 ru fst fro fmo fkd fcd fsr jn pn nn).2.2.1)
noncomputable def m_X6_caseOf_ro (ru : Nat) (fst : Nat → Int32) (fro : Nat → Int32) (fmo : Nat → Int32) (fkd : Nat → Int32) (fcd : Nat → Int32) (fsr : Nat → Nat) (jn : Nat) (pn : Nat) (nn : Nat) : Nat → Int32 := ((g_X6_caseOf_6 ru fst fro fmo fkd fcd fsr jn pn nn).2.2.2)
abbrev q_X6_caseOf (G : gG) (h0 kd mo st ro tp cd sr ir ih ss sq ce lw wo he sk na kp gb go fa ga vo : Nat) (pb : Nat) (jg : Nat) (td : Nat) (tx : Nat) (ru : Nat) (him : Int32) (s19 : Int32) (s20 : Int32) (s21 : Int32) (s22 : Int32) (s25 : Int32) (s26 : Int32) (s27 : Int32) (s31 : Int32) (s32 : Int32) (s33 : Int32) (s34 : Int32) (s39 : Int32) (s40 : Int32) (fst : Nat → Int32) (fro : Nat → Int32) (fmo : Nat → Int32) (fkd : Nat → Int32) (fcd : Nat → Int32) (fsr : Nat → Nat) (fsk : Nat → Int32) (fna : Nat → Int32) (jn : Nat) (pn : Nat) (nn : Nat) (A : Nat → Prop) : Array Value → State → Outcome → State → Prop := va_Qi (fun (r : Int32) (u : (Nat → Int32) × (Nat → Int32)) => match u with | (ysk, yna) => r = m_X6_caseOf ru fst fro fmo fkd fcd fsr jn pn nn) (fun (u : (Nat → Int32) × (Nat → Int32)) t => match u with | (ysk, yna) => va_P G.1 vwCl [zo6 h0 (nI pb) kd mo st (nI jg) ro tp (nI td) cd sr (nI tx) (nI ru) him ir ih ss sq ce lw s19 s20 s21 s22 wo he s25 s26 s27 sk na kp s31 s32 s33 s34 gb go fa ga s39 s40 vo, zi G st 12 (m_X6_caseOf_st ru fst fro fmo fkd fcd fsr jn pn nn), zi G ro 12 (m_X6_caseOf_ro ru fst fro fmo fkd fcd fsr jn pn nn), zi G mo 6 fmo, zi G kd 6 fkd, zi G cd 1200 fcd, zi G sr 24 (nF fsr), zi G sk 200 ysk, zi G na 6 yna] t.heap ∧ gK G t ∧ va_D A [zo6 h0 (nI pb) kd mo st (nI jg) ro tp (nI td) cd sr (nI tx) (nI ru) him ir ih ss sq ce lw s19 s20 s21 s22 wo he s25 s26 s27 sk na kp s31 s32 s33 s34 gb go fa ga s39 s40 vo, zi G st 12 (m_X6_caseOf_st ru fst fro fmo fkd fcd fsr jn pn nn), zi G ro 12 (m_X6_caseOf_ro ru fst fro fmo fkd fcd fsr jn pn nn), zi G mo 6 fmo, zi G kd 6 fkd, zi G cd 1200 fcd, zi G sr 24 (nF fsr), zi G sk 200 ysk, zi G na 6 yna]) A
set_option maxHeartbeats 4000000 in
set_option maxRecDepth 100000 in
theorem c_X6_caseOf (l : Launch) (G : gG) (h0 kd mo st ro tp cd sr ir ih ss sq ce lw wo he sk na kp gb go fa ga vo : Nat) (pb : Nat) (jg : Nat) (td : Nat) (tx : Nat) (ru : Nat) (him : Int32) (s19 : Int32) (s20 : Int32) (s21 : Int32) (s22 : Int32) (s25 : Int32) (s26 : Int32) (s27 : Int32) (s31 : Int32) (s32 : Int32) (s33 : Int32) (s34 : Int32) (s39 : Int32) (s40 : Int32) (fst : Nat → Int32) (fro : Nat → Int32) (fmo : Nat → Int32) (fkd : Nat → Int32) (fcd : Nat → Int32) (fsr : Nat → Nat) (fsk : Nat → Int32) (fna : Nat → Int32) (jn : Nat) (pn : Nat) (nn : Nat) (sz : Nat) (hj : jn < 4) (hp : pn < 6) (hnn : nn ≤ 60) (hwf : mWf fcd fsr ru) (hpb : pb ≤ 6) (hjg : jg ≤ 4) (htx : tx ≤ 6) (hru : ru < tx) : Met l yX6_caseOf wsX6_caseOf ({ frames := 5, cells := 0, slots := 0, locals := 120 }) (gPre G [.ref h0, .int (nI jn), .int (nI pn), .int (nI nn)] [zo6 h0 (nI pb) kd mo st (nI jg) ro tp (nI td) cd sr (nI tx) (nI ru) him ir ih ss sq ce lw s19 s20 s21 s22 wo he s25 s26 s27 sk na kp s31 s32 s33 s34 gb go fa ga s39 s40 vo, zi G st 12 fst, zi G ro 12 fro, zi G mo 6 fmo, zi G kd 6 fkd, zi G cd 1200 fcd, zi G sr 24 (nF fsr), zi G sk 200 fsk, zi G na 6 fna] sz) (q_X6_caseOf G h0 kd mo st ro tp cd sr ir ih ss sq ce lw wo he sk na kp gb go fa ga vo pb jg td tx ru him s19 s20 s21 s22 s25 s26 s27 s31 s32 s33 s34 s39 s40 fst fro fmo fkd fcd fsr fsk fna jn pn nn (va_A [zo6 h0 (nI pb) kd mo st (nI jg) ro tp (nI td) cd sr (nI tx) (nI ru) him ir ih ss sq ce lw s19 s20 s21 s22 wo he s25 s26 s27 sk na kp s31 s32 s33 s34 gb go fa ga s39 s40 vo, zi G st 12 fst, zi G ro 12 fro, zi G mo 6 fmo, zi G kd 6 fkd, zi G cd 1200 fcd, zi G sr 24 (nF fsr), zi G sk 200 fsk, zi G na 6 fna] sz)) 0 0 (va_A [zo6 h0 (nI pb) kd mo st (nI jg) ro tp (nI td) cd sr (nI tx) (nI ru) him ir ih ss sq ce lw s19 s20 s21 s22 wo he s25 s26 s27 sk na kp s31 s32 s33 s34 gb go fa ga s39 s40 vo, zi G st 12 fst, zi G ro 12 fro, zi G mo 6 fmo, zi G kd 6 fkd, zi G cd 1200 fcd, zi G sr 24 (nF fsr), zi G sk 200 fsk, zi G na 6 fna] sz) := by
  refine Met.ofW (cc := cX6_caseOf) (maxL := 6) (ret := (some .int)) (by decide +kernel) rfl ?_
  intro p e s m args below meth c s₁ B hml hv
  obtain ⟨rfl, hsz, hP, hK, hD0⟩ := hv
  have hx := B.exec
  have hb := B.bytes
  have hr := B.returns
  have hts := atoms_spec (ws := wsX6_caseOf) B.pre
  have hown : s.vm.findClass RX6 = some m.cls := findClass_of_methodNamed B.named
  have hlocks := B.notSynchronized
  subst hsz
  have hD := hD0.self (sz := s.heap.size)
  generalize hAe : va_A [zo6 h0 (nI pb) kd mo st (nI jg) ro tp (nI td) cd sr (nI tx) (nI ru) him ir ih ss sq ce lw s19 s20 s21 s22 wo he s25 s26 s27 sk na kp s31 s32 s33 s34 gb go fa ga s39 s40 vo, zi G st 12 fst, zi G ro 12 fro, zi G mo 6 fmo, zi G kd 6 fkd, zi G cd 1200 fcd, zi G sr 24 (nF fsr), zi G sk 200 fsk, zi G na 6 fna] s.heap.size = A at hD ⊢
  have hA : ∀ q : Nat, s.heap.size ≤ q → A q := fun q h => by rw [← hAe]; exact Or.inr h
  have hS : va_S A s.heap s.heap [] := va_S.rf
  have hz9 : gPD G A [zo6 h0 (nI pb) kd mo st (nI jg) ro tp (nI td) cd sr (nI tx) (nI ru) him ir ih ss sq ce lw s19 s20 s21 s22 wo he s25 s26 s27 sk na kp s31 s32 s33 s34 gb go fa ga s39 s40 vo, zi G st 12 fst, zi G ro 12 fro, zi G mo 6 fmo, zi G kd 6 fkd, zi G cd 1200 fcd, zi G sr 24 (nF fsr), zi G sk 200 fsk, zi G na 6 fna] s.heap := ⟨hP, hD⟩
  have hP := hz9.1
  have hD := hz9.2
  have hl := lv_entry ([.ref h0, .int (nI jn), .int (nI pn), .int (nI nn)]) (n := 6) (Nat.le_of_ble_eq_true rfl)
  rw [lg_entry_eq]
  generalize (lg_sl ([.ref h0, .int (nI jn), .int (nI pn), .int (nI nn)]) ++ List.replicate (6 - (lg_sl ([.ref h0, .int (nI jn), .int (nI pn), .int (nI nn)])).length) Slot.unset).toArray = ls at hl ⊢
  have hl : lv_has ls 6 [zR 0 h0, zI 1 (nI jn), zI 2 (nI pn), zI 3 (nI nn)] := hl
  refine lv_iconst (v := 0) hx hb dX6_caseOf_0 (by decide +kernel) ?_
  refine lv_istore (lv' := [zI 4 0, zR 0 h0, zI 1 (nI jn), zI 2 (nI pn), zI 3 (nI nn)]) hx hb dX6_caseOf_1 hl (by decide +kernel) rfl (fun ls hl => ?_)
  refine lv_iconst (v := 0) hx hb dX6_caseOf_3 (by decide +kernel) ?_
  refine lv_istore (lv' := [zI 5 0, zI 4 0, zR 0 h0, zI 1 (nI jn), zI 2 (nI pn), zI 3 (nI nn)]) hx hb dX6_caseOf_4 hl (by decide +kernel) rfl (fun ls hl => ?_)
  have loop_6 : ∀ (n9 : Nat) (i6 : Nat) (fe : Int32) (y6st : Nat → Int32) (y6ro : Nat → Int32) (x6sk : Nat → Int32) (x6na : Nat → Int32), (i6 ≤ nn) → (p_X6_caseOf_6 ru fmo fkd fcd fsr jn pn (nn - i6) i6 fe y6st y6ro = (g_X6_caseOf_6 ru fst fro fmo fkd fcd fsr jn pn nn)) → (nn - i6) < n9 → ∀ (H : Heap) (locs : List Loc), va_P G.1 vwCl [zo6 h0 (nI pb) kd mo st (nI jg) ro tp (nI td) cd sr (nI tx) (nI ru) him ir ih ss sq ce lw s19 s20 s21 s22 wo he s25 s26 s27 sk na kp s31 s32 s33 s34 gb go fa ga s39 s40 vo, zi G st 12 y6st, zi G ro 12 y6ro, zi G mo 6 fmo, zi G kd 6 fkd, zi G cd 1200 fcd, zi G sr 24 (nF fsr), zi G sk 200 x6sk, zi G na 6 x6na] H → va_D A [zo6 h0 (nI pb) kd mo st (nI jg) ro tp (nI td) cd sr (nI tx) (nI ru) him ir ih ss sq ce lw s19 s20 s21 s22 wo he s25 s26 s27 sk na kp s31 s32 s33 s34 gb go fa ga s39 s40 vo, zi G st 12 y6st, zi G ro 12 y6ro, zi G mo 6 fmo, zi G kd 6 fkd, zi G cd 1200 fcd, zi G sr 24 (nF fsr), zi G sk 200 x6sk, zi G na 6 x6na] → va_S A s.heap H locs → ∀ ls : Array Slot, lv_has ls 6 [zI 5 (nI i6), zI 4 fe, zR 0 h0, zI 1 (nI jn), zI 2 (nI pn), zI 3 (nI nn)] → W p l e (headSpec wsX6_caseOf ({ frames := 5, cells := 0, slots := 0, locals := 120 })).room s m ([.ref h0, .int (nI jn), .int (nI pn), .int (nI nn)] : List Value).toArray below meth c H locs 0 0 (MQ below (q_X6_caseOf G h0 kd mo st ro tp cd sr ir ih ss sq ce lw wo he sk na kp gb go fa ga vo pb jg td tx ru him s19 s20 s21 s22 s25 s26 s27 s31 s32 s33 s34 s39 s40 fst fro fmo fkd fcd fsr fsk fna jn pn nn A) ([.ref h0, .int (nI jn), .int (nI pn), .int (nI nn)] : List Value).toArray s 0 0 A) (F0 m 6 ls []) := by
    intro n9
    induction n9 with
    | zero => intro i6 fe y6st y6ro x6sk x6na hi6 R6 hm9_6; exact absurd hm9_6 (Nat.not_lt_zero _)
    | succ n9 ih9_6 =>
      intro i6 fe y6st y6ro x6sk x6na hi6 R6 hm9_6 H locs hP hD hS ls hl
      refine lv_iload hx hb dX6_caseOf_6 (lv_at hl 0 rfl) ?_
      refine lv_iload_n hx hb dX6_caseOf_8 rfl (lv_at hl 5 rfl) ?_
      refine lv_icmp_ge (tgt := 30) hx hb dX6_caseOf_9 (by decide +kernel) (fun c_1 => ?_) (fun c_1 => ?_)
      · skip
        have c_1N : nn ≤ i6 := nI_le1 (a := nn) (b := i6) (by omega) (by omega) c_1
        have hF6 : (g_X6_caseOf_6 ru fst fro fmo fkd fcd fsr jn pn nn) = (i6, fe, y6st, y6ro) := by rw [← R6, show nn - i6 = 0 by omega]; rfl
        have hE6_0 : i6 = ((g_X6_caseOf_6 ru fst fro fmo fkd fcd fsr jn pn nn).1) := by rw [hF6]
        have hE6_1 : fe = ((g_X6_caseOf_6 ru fst fro fmo fkd fcd fsr jn pn nn).2.1) := by rw [hF6]
        have hE6_2 : y6st = ((g_X6_caseOf_6 ru fst fro fmo fkd fcd fsr jn pn nn).2.2.1) := by rw [hF6]
        have hE6_3 : y6ro = ((g_X6_caseOf_6 ru fst fro fmo fkd fcd fsr jn pn nn).2.2.2) := by rw [hF6]
        clear hF6 R6
        subst hE6_0
        subst hE6_1
        subst hE6_2
        subst hE6_3
        refine lv_iload hx hb dX6_caseOf_30 (lv_at hl 1 rfl) ?_
        have q_2 : m_X6_caseOf_st ru fst fro fmo fkd fcd fsr jn pn nn = ((g_X6_caseOf_6 ru fst fro fmo fkd fcd fsr jn pn nn).2.2.1) := rfl
        have q_3 : m_X6_caseOf_ro ru fst fro fmo fkd fcd fsr jn pn nn = ((g_X6_caseOf_6 ru fst fro fmo fkd fcd fsr jn pn nn).2.2.2) := rfl
        have hz9 : gPD G A [zo6 h0 (nI pb) kd mo st (nI jg) ro tp (nI td) cd sr (nI tx) (nI ru) him ir ih ss sq ce lw s19 s20 s21 s22 wo he s25 s26 s27 sk na kp s31 s32 s33 s34 gb go fa ga s39 s40 vo, zi G st 12 (m_X6_caseOf_st ru fst fro fmo fkd fcd fsr jn pn nn), zi G ro 12 (m_X6_caseOf_ro ru fst fro fmo fkd fcd fsr jn pn nn), zi G mo 6 fmo, zi G kd 6 fkd, zi G cd 1200 fcd, zi G sr 24 (nF fsr), zi G sk 200 x6sk, zi G na 6 x6na] H := ⟨by rw [q_2, q_3]; exact hP, by rw [q_2, q_3]; exact hD⟩
        have hP9 := hz9.1
        have hD9 := hz9.2
        have hpost : (fun (r : Int32) (u : (Nat → Int32) × (Nat → Int32)) => match u with | (ysk, yna) => r = m_X6_caseOf ru fst fro fmo fkd fcd fsr jn pn nn) ((g_X6_caseOf_6 ru fst fro fmo fkd fcd fsr jn pn nn).2.1) (x6sk, x6na) := (show m_X6_caseOf ru fst fro fmo fkd fcd fsr jn pn nn = ((g_X6_caseOf_6 ru fst fro fmo fkd fcd fsr jn pn nn).2.1) from rfl).symm
        exact W.iret (v := ((g_X6_caseOf_6 ru fst fro fmo fkd fcd fsr jn pn nn).2.1)) hx hb hr (fun t ht hW => ⟨⟨((g_X6_caseOf_6 ru fst fro fmo fkd fcd fsr jn pn nn).2.1), (x6sk, x6na), rfl, hpost, by rw [ht]; exact hP9, va_K.moved hW.alike hK, hD9⟩, hS.F ht⟩) hS.2.2 dX6_caseOf_32
      · skip
        have c_1N : i6 < nn := nI_le0 (a := nn) (b := i6) (by omega) (by omega) c_1
        refine lv_iload hx hb dX6_caseOf_12 (lv_at hl 1 rfl) ?_
        refine lv_aload_n hx hb dX6_caseOf_14 rfl (lv_at hl 2 rfl) ?_
        refine lv_iload_n hx hb dX6_caseOf_15 rfl (lv_at hl 3 rfl) ?_
        refine lv_iload_n hx hb dX6_caseOf_16 rfl (lv_at hl 4 rfl) ?_
        refine lv_iconst (v := 0) hx hb dX6_caseOf_17 (by decide +kernel) ?_
        refine z_calli [0, 1, 2, 3, 4, 5, 6, 7, 8] (v := m_X6_mile ru y6st y6ro fmo fkd fcd fsr jn pn) (fun _ ⟨_, _⟩ h => h) (va_runV (As := [.int (nI jn), .int (nI pn), .int 0]) (rest := [.int fe]) ⟨hx, hb, hml, hown, hts⟩ (c_X6_mile l G h0 kd mo st ro tp cd sr ir ih ss sq ce lw wo he sk na kp gb go fa ga vo pb jg td tx ru him s19 s20 s21 s22 s25 s26 s27 s31 s32 s33 s34 s39 s40 y6st y6ro fmo fkd fcd fsr x6sk x6na 0 jn pn H.size (by first | exact hj | assumption | omega) (by first | exact hp | assumption | omega) (by first | exact hwf | assumption | omega) (by first | exact hpb | assumption | omega) (by first | exact hjg | assumption | omega) (by first | exact htx | assumption | omega) (by first | exact hru | assumption | omega)) (cwV 3 hts gX6_caseOf_X6_mile rfl rfl rfl (by decide +kernel) ⟨Nat.le_of_ble_eq_true rfl, Nat.le_of_ble_eq_true rfl⟩) ⟨gPre_blind, va_recv (q := (RX6, TX6, 42)) hK hP (ci := 6) (q0 := 0) rfl rfl, fun U hU hW => gPre_of hU hW hK hP hD⟩ rfl rfl hl.1 rfl (lv_room (Nat.le_of_ble_eq_true rfl)) dX6_caseOf_18 ⟨Nat.le_of_ble_eq_true rfl, Nat.le_of_ble_eq_true rfl⟩) hS hD hA rfl (fun u t H locs ht hvm hB hz1 hk1 hFq hAq hS => ?_)
        obtain ⟨ysk_6, yna_7⟩ := u
        obtain ⟨hP1, hK1, hD1⟩ := hB
        have hz9 : gPD G A [zo6 h0 (nI pb) kd mo st (nI jg) ro tp (nI td) cd sr (nI tx) (nI ru) him ir ih ss sq ce lw s19 s20 s21 s22 wo he s25 s26 s27 sk na kp s31 s32 s33 s34 gb go fa ga s39 s40 vo, zi G st 12 (m_X6_mile_st ru y6st y6ro fmo fkd fcd fsr 0 jn pn), zi G ro 12 (m_X6_mile_ro ru y6st y6ro fmo fkd fcd fsr jn pn), zi G mo 6 fmo, zi G kd 6 fkd, zi G cd 1200 fcd, zi G sr 24 (nF fsr), zi G sk 200 ysk_6, zi G na 6 yna_7] H := zFill hP hD [0, 1, 2, 3, 4, 5, 6, 7, 8] [1, 2, 3, 4, 5, 6, 7, 8, 9] hAq hk1 hFq ht hP1 hD1 rfl (by decide +kernel)
        have hP := hz9.1
        have hD := hz9.2
        refine lv_iadd hx hb dX6_caseOf_21 ?_
        refine lv_istore (lv' := [zI 4 (fe + (m_X6_mile ru y6st y6ro fmo fkd fcd fsr jn pn)), zI 5 (nI i6), zR 0 h0, zI 1 (nI jn), zI 2 (nI pn), zI 3 (nI nn)]) hx hb dX6_caseOf_22 hl (by decide +kernel) rfl (fun ls hl => ?_)
        refine lv_iinc (v := nI (i6 + 1)) (lv' := [zI 5 (nI (i6 + 1)), zI 4 (fe + (m_X6_mile ru y6st y6ro fmo fkd fcd fsr jn pn)), zR 0 h0, zI 1 (nI jn), zI 2 (nI pn), zI 3 (nI nn)]) hx hb dX6_caseOf_24 hl (k := 1) rfl (nI_add i6 1) (by decide +kernel) rfl (fun ls hl => ?_)
        refine lv_goto (tgt := 6) hx hb dX6_caseOf_27 (by decide +kernel) ?_
        exact ih9_6 (i6 + 1) (fe + (m_X6_mile ru y6st y6ro fmo fkd fcd fsr jn pn)) (m_X6_mile_st ru y6st y6ro fmo fkd fcd fsr 0 jn pn) (m_X6_mile_ro ru y6st y6ro fmo fkd fcd fsr jn pn) ysk_6 yna_7 (by omega) (Eq.trans (Eq.symm ((congrArg (fun z9 => p_X6_caseOf_6 ru fmo fkd fcd fsr jn pn (z9) i6 fe y6st y6ro) (show nn - i6 = nn - (i6 + 1) + 1 by omega)).trans (by show p_X6_caseOf_6 ru fmo fkd fcd fsr jn pn (nn - (i6 + 1) + 1) i6 fe y6st y6ro = _; rw [p_X6_caseOf_6]))) R6) (by omega) _ _ hP hD hS ls hl
  exact loop_6 (nn - 0 + 1) 0 0 fst fro fsk fna (by omega) (rfl) (by omega) _ _ hP hD hS ls hl
abbrev q_X6_keeps (G : gG) (h0 kd mo st ro tp cd sr ir ih ss sq ce lw wo he sk na kp gb go fa ga vo : Nat) (pb : Nat) (jg : Nat) (td : Nat) (tx : Nat) (ru : Nat) (him : Int32) (s19 : Int32) (s20 : Int32) (s21 : Int32) (s22 : Int32) (s25 : Int32) (s26 : Int32) (s27 : Int32) (s31 : Int32) (s32 : Int32) (s33 : Int32) (s34 : Int32) (s39 : Int32) (s40 : Int32) (fkp : Nat → Int32) (fro : Nat → Int32) (fst : Nat → Int32) (A : Nat → Prop) : Array Value → State → Outcome → State → Prop := va_Qv (fun (u : Unit) => match u with | _ => True) (fun (u : Unit) t => match u with | _ => va_P G.1 vwCl [zo6 h0 (nI pb) kd mo st (nI jg) ro tp (nI td) cd sr (nI tx) (nI ru) him ir ih ss sq ce lw s19 s20 s21 s22 wo he s25 s26 s27 sk na kp s31 s32 s33 s34 gb go fa ga s39 s40 vo, zi G kp 24 (mKeep fro fst), zi G ro 12 fro, zi G st 12 fst] t.heap ∧ gK G t ∧ va_D A [zo6 h0 (nI pb) kd mo st (nI jg) ro tp (nI td) cd sr (nI tx) (nI ru) him ir ih ss sq ce lw s19 s20 s21 s22 wo he s25 s26 s27 sk na kp s31 s32 s33 s34 gb go fa ga s39 s40 vo, zi G kp 24 (mKeep fro fst), zi G ro 12 fro, zi G st 12 fst]) A
set_option maxHeartbeats 4000000 in
set_option maxRecDepth 100000 in
theorem c_X6_keeps (l : Launch) (G : gG) (h0 kd mo st ro tp cd sr ir ih ss sq ce lw wo he sk na kp gb go fa ga vo : Nat) (pb : Nat) (jg : Nat) (td : Nat) (tx : Nat) (ru : Nat) (him : Int32) (s19 : Int32) (s20 : Int32) (s21 : Int32) (s22 : Int32) (s25 : Int32) (s26 : Int32) (s27 : Int32) (s31 : Int32) (s32 : Int32) (s33 : Int32) (s34 : Int32) (s39 : Int32) (s40 : Int32) (fkp : Nat → Int32) (fro : Nat → Int32) (fst : Nat → Int32) (sz : Nat) (hpb : pb ≤ 6) (hjg : jg ≤ 4) (htx : tx ≤ 6) (hru : ru < tx) : Met l yX6_keeps wsX6_keeps ({ frames := 0, cells := 0, slots := 0, locals := 0 }) (gPre G [.ref h0] [zo6 h0 (nI pb) kd mo st (nI jg) ro tp (nI td) cd sr (nI tx) (nI ru) him ir ih ss sq ce lw s19 s20 s21 s22 wo he s25 s26 s27 sk na kp s31 s32 s33 s34 gb go fa ga s39 s40 vo, zi G kp 24 fkp, zi G ro 12 fro, zi G st 12 fst] sz) (q_X6_keeps G h0 kd mo st ro tp cd sr ir ih ss sq ce lw wo he sk na kp gb go fa ga vo pb jg td tx ru him s19 s20 s21 s22 s25 s26 s27 s31 s32 s33 s34 s39 s40 fkp fro fst (va_A [zo6 h0 (nI pb) kd mo st (nI jg) ro tp (nI td) cd sr (nI tx) (nI ru) him ir ih ss sq ce lw s19 s20 s21 s22 wo he s25 s26 s27 sk na kp s31 s32 s33 s34 gb go fa ga s39 s40 vo, zi G kp 24 fkp, zi G ro 12 fro, zi G st 12 fst] sz)) 0 0 (va_A [zo6 h0 (nI pb) kd mo st (nI jg) ro tp (nI td) cd sr (nI tx) (nI ru) him ir ih ss sq ce lw s19 s20 s21 s22 wo he s25 s26 s27 sk na kp s31 s32 s33 s34 gb go fa ga s39 s40 vo, zi G kp 24 fkp, zi G ro 12 fro, zi G st 12 fst] sz) := by
  refine Met.ofW (cc := cX6_keeps) (maxL := 2) (ret := none) (by decide +kernel) rfl ?_
  intro p e s m args below meth c s₁ B hml hv
  obtain ⟨rfl, hsz, hP, hK, hD0⟩ := hv
  have hx := B.exec
  have hb := B.bytes
  have hr := B.returns
  have hts := atoms_spec (ws := wsX6_keeps) B.pre
  have hown : s.vm.findClass RX6 = some m.cls := findClass_of_methodNamed B.named
  have hlocks := B.notSynchronized
  subst hsz
  have hD := hD0.self (sz := s.heap.size)
  generalize hAe : va_A [zo6 h0 (nI pb) kd mo st (nI jg) ro tp (nI td) cd sr (nI tx) (nI ru) him ir ih ss sq ce lw s19 s20 s21 s22 wo he s25 s26 s27 sk na kp s31 s32 s33 s34 gb go fa ga s39 s40 vo, zi G kp 24 fkp, zi G ro 12 fro, zi G st 12 fst] s.heap.size = A at hD ⊢
  have hA : ∀ q : Nat, s.heap.size ≤ q → A q := fun q h => by rw [← hAe]; exact Or.inr h
  have hS : va_S A s.heap s.heap [] := va_S.rf
  have hz9 : gPD G A [zo6 h0 (nI pb) kd mo st (nI jg) ro tp (nI td) cd sr (nI tx) (nI ru) him ir ih ss sq ce lw s19 s20 s21 s22 wo he s25 s26 s27 sk na kp s31 s32 s33 s34 gb go fa ga s39 s40 vo, zi G kp 24 fkp, zi G ro 12 fro, zi G st 12 fst] s.heap := ⟨hP, hD⟩
  have hP := hz9.1
  have hD := hz9.2
  have hl := lv_entry ([.ref h0]) (n := 2) (Nat.le_of_ble_eq_true rfl)
  rw [lg_entry_eq]
  generalize (lg_sl ([.ref h0]) ++ List.replicate (2 - (lg_sl ([.ref h0])).length) Slot.unset).toArray = ls at hl ⊢
  have hl : lv_has ls 2 [zR 0 h0] := hl
  have kf61 := hts (.fieldLink RX6 61 "PebbleInShoeModel" "kept" "[I") (by decide +kernel)
  have hiX6 := (by decide +kernel : ∀ w ∈ wsX60, w ∈ wsX6_keeps)
  have kf19 := hts (.fieldLink RX6 19 "PebbleInShoeModel" "rows" "[I") (by decide +kernel)
  have kf16 := hts (.fieldLink RX6 16 "PebbleInShoeModel" "stones" "[I") (by decide +kernel)
  refine lv_iconst (v := 0) hx hb dX6_keeps_0 (by decide +kernel) ?_
  refine lv_istore_n (lv' := [zI 1 0, zR 0 h0]) hx hb dX6_keeps_1 rfl hl (by decide +kernel) rfl (fun ls hl => ?_)
  have loop_2 : ∀ (n9 : Nat) (k6 : Nat) (xk : Nat → Int32), (k6 ≤ 12) → (∀ q, q < k6 → xk q = fro q ∧ xk (12 + q) = fst q) → (12 - k6) < n9 → ∀ (H : Heap) (locs : List Loc), va_P G.1 vwCl [zo6 h0 (nI pb) kd mo st (nI jg) ro tp (nI td) cd sr (nI tx) (nI ru) him ir ih ss sq ce lw s19 s20 s21 s22 wo he s25 s26 s27 sk na kp s31 s32 s33 s34 gb go fa ga s39 s40 vo, zi G kp 24 xk, zi G ro 12 fro, zi G st 12 fst] H → va_D A [zo6 h0 (nI pb) kd mo st (nI jg) ro tp (nI td) cd sr (nI tx) (nI ru) him ir ih ss sq ce lw s19 s20 s21 s22 wo he s25 s26 s27 sk na kp s31 s32 s33 s34 gb go fa ga s39 s40 vo, zi G kp 24 xk, zi G ro 12 fro, zi G st 12 fst] → va_S A s.heap H locs → ∀ ls : Array Slot, lv_has ls 2 [zI 1 (nI k6), zR 0 h0] → W p l e (headSpec wsX6_keeps ({ frames := 0, cells := 0, slots := 0, locals := 0 })).room s m ([.ref h0] : List Value).toArray below meth c H locs 0 0 (MQ below (q_X6_keeps G h0 kd mo st ro tp cd sr ir ih ss sq ce lw wo he sk na kp gb go fa ga vo pb jg td tx ru him s19 s20 s21 s22 s25 s26 s27 s31 s32 s33 s34 s39 s40 fkp fro fst A) ([.ref h0] : List Value).toArray s 0 0 A) (F0 m 2 ls []) := by
    intro n9
    induction n9 with
    | zero => intro k6 xk hk6 hK6 hm9; exact absurd hm9 (Nat.not_lt_zero _)
    | succ n9 ih9 =>
      intro k6 xk hk6 hK6 hm9 H locs hP hD hS ls hl
      refine lv_iload_n hx hb dX6_keeps_2 rfl (lv_at hl 0 rfl) ?_
      refine lv_bipush (v := 12) hx hb dX6_keeps_3 (by decide +kernel) ?_
      refine lv_icmp_ge (tgt := 41) hx hb dX6_keeps_5 (by decide +kernel) (fun c_1 => ?_) (fun c_1 => ?_)
      · skip
        have c_1N : 12 ≤ k6 := nI_le1 (a := 12) (b := k6) (by omega) (by omega) c_1
        have hz9 : gPD G A [zo6 h0 (nI pb) kd mo st (nI jg) ro tp (nI td) cd sr (nI tx) (nI ru) him ir ih ss sq ce lw s19 s20 s21 s22 wo he s25 s26 s27 sk na kp s31 s32 s33 s34 gb go fa ga s39 s40 vo, zi G kp 24 (mKeep fro fst), zi G ro 12 fro, zi G st 12 fst] H := ⟨g_ext hP 1 rfl (fun i h9 => mKeep_of (fun q z => hK6 q (by omega)) h9), g_extD hD 1 rfl⟩
        have hP := hz9.1
        have hD := hz9.2
        have hpost : (fun (u : Unit) => match u with | _ => True) () := trivial
        exact W.vret hx hb hr (fun t ht hW => ⟨⟨(), rfl, hpost, by rw [ht]; exact hP, va_K.moved hW.alike hK, hD⟩, hS.F ht⟩) hS.2.2 dX6_keeps_41
      · skip
        have c_1N : k6 < 12 := nI_le0 (a := 12) (b := k6) (by omega) (by omega) c_1
        refine g_aget (D := G.1) (ci := 6) (v := .ref kp) (C := RX6) (T := TX6) (N := 42) hx hb dX6_keeps_8 rfl (lv_at hl 1 rfl) hts hiX6 hown hK hP 0 rfl rfl 30 (by decide +kernel) kf61 (fun _ h9 => h9) rfl dX6_keeps_9 ?_
        refine lv_iload_n hx hb dX6_keeps_12 rfl (lv_at hl 0 rfl) ?_
        refine g_aget (D := G.1) (ci := 6) (v := .ref ro) (C := RX6) (T := TX6) (N := 42) hx hb dX6_keeps_13 rfl (lv_at hl 1 rfl) hts hiX6 hown hK hP 0 rfl rfl 5 (by decide +kernel) kf19 (fun _ h9 => h9) rfl dX6_keeps_14 ?_
        refine lv_iload_n hx hb dX6_keeps_17 rfl (lv_at hl 0 rfl) ?_
        refine g_iald (D := G.1) hx hb hK hP 2 0 rfl rfl (k := k6) (y := fro k6) (by omega) rfl rfl dX6_keeps_18 ?_
        refine g_iast (D := G.1) hx hb hK hP hD hS 1 0 rfl rfl (k := k6) (x := (fro k6)) (by omega) rfl dX6_keeps_19 (fun H locs hP hD hS => ?_)
        have hz9 : gPD G A [zo6 h0 (nI pb) kd mo st (nI jg) ro tp (nI td) cd sr (nI tx) (nI ru) him ir ih ss sq ce lw s19 s20 s21 s22 wo he s25 s26 s27 sk na kp s31 s32 s33 s34 gb go fa ga s39 s40 vo, zi G kp 24 (upd xk k6 (fro k6)), zi G ro 12 fro, zi G st 12 fst] H := ⟨hP, hD⟩
        have hP := hz9.1
        have hD := hz9.2
        refine g_aget (D := G.1) (ci := 6) (v := .ref kp) (C := RX6) (T := TX6) (N := 42) hx hb dX6_keeps_20 rfl (lv_at hl 1 rfl) hts hiX6 hown hK hP 0 rfl rfl 30 (by decide +kernel) kf61 (fun _ h9 => h9) rfl dX6_keeps_21 ?_
        refine lv_bipush (v := 12) hx hb dX6_keeps_24 (by decide +kernel) ?_
        refine lv_iload_n hx hb dX6_keeps_26 rfl (lv_at hl 0 rfl) ?_
        refine lv_iadd hx hb dX6_keeps_27 ?_
        refine g_topi (y := nI (12 + k6)) (nI_add 12 k6) ?_
        refine g_aget (D := G.1) (ci := 6) (v := .ref st) (C := RX6) (T := TX6) (N := 42) hx hb dX6_keeps_28 rfl (lv_at hl 1 rfl) hts hiX6 hown hK hP 0 rfl rfl 3 (by decide +kernel) kf16 (fun _ h9 => h9) rfl dX6_keeps_29 ?_
        refine lv_iload_n hx hb dX6_keeps_32 rfl (lv_at hl 0 rfl) ?_
        refine g_iald (D := G.1) hx hb hK hP 3 0 rfl rfl (k := k6) (y := fst k6) (by omega) rfl rfl dX6_keeps_33 ?_
        refine g_iast (D := G.1) hx hb hK hP hD hS 1 0 rfl rfl (k := 12 + k6) (x := (fst k6)) (by omega) rfl dX6_keeps_34 (fun H locs hP hD hS => ?_)
        have hz9 : gPD G A [zo6 h0 (nI pb) kd mo st (nI jg) ro tp (nI td) cd sr (nI tx) (nI ru) him ir ih ss sq ce lw s19 s20 s21 s22 wo he s25 s26 s27 sk na kp s31 s32 s33 s34 gb go fa ga s39 s40 vo, zi G kp 24 (upd (upd xk k6 (fro k6)) (12 + k6) (fst k6)), zi G ro 12 fro, zi G st 12 fst] H := ⟨hP, hD⟩
        have hP := hz9.1
        have hD := hz9.2
        refine lv_iinc (v := nI (k6 + 1)) (lv' := [zI 1 (nI (k6 + 1)), zR 0 h0]) hx hb dX6_keeps_35 hl (k := 0) rfl (nI_add k6 1) (by decide +kernel) rfl (fun ls hl => ?_)
        refine lv_goto (tgt := 2) hx hb dX6_keeps_38 (by decide +kernel) ?_
        exact ih9 (k6 + 1) (upd (upd xk k6 (fro k6)) (12 + k6) (fst k6)) (by omega) (fun q z => mKeep_step (by omega) hK6 q z) (by omega) _ _ hP hD hS ls hl
  exact loop_2 (13) 0 fkp (Nat.zero_le _) (fun q z => absurd z (Nat.not_lt_zero q)) (by omega) _ _ hP hD hS ls hl
abbrev q_X6_laysBack (G : gG) (h0 kd mo st ro tp cd sr ir ih ss sq ce lw wo he sk na kp gb go fa ga vo : Nat) (pb : Nat) (jg : Nat) (td : Nat) (tx : Nat) (ru : Nat) (him : Int32) (s19 : Int32) (s20 : Int32) (s21 : Int32) (s22 : Int32) (s25 : Int32) (s26 : Int32) (s27 : Int32) (s31 : Int32) (s32 : Int32) (s33 : Int32) (s34 : Int32) (s39 : Int32) (s40 : Int32) (fro : Nat → Int32) (fst : Nat → Int32) (ga6 : Nat → Int32) (gb6 : Nat → Int32) (A : Nat → Prop) : Array Value → State → Outcome → State → Prop := va_Qv (fun (u : Unit) => match u with | _ => True) (fun (u : Unit) t => match u with | _ => va_P G.1 vwCl [zo6 h0 (nI pb) kd mo st (nI jg) ro tp (nI td) cd sr (nI tx) (nI ru) him ir ih ss sq ce lw s19 s20 s21 s22 wo he s25 s26 s27 sk na kp s31 s32 s33 s34 gb go fa ga s39 s40 vo, zi G kp 24 (mKeep ga6 gb6), zi G ro 12 ga6, zi G st 12 gb6] t.heap ∧ gK G t ∧ va_D A [zo6 h0 (nI pb) kd mo st (nI jg) ro tp (nI td) cd sr (nI tx) (nI ru) him ir ih ss sq ce lw s19 s20 s21 s22 wo he s25 s26 s27 sk na kp s31 s32 s33 s34 gb go fa ga s39 s40 vo, zi G kp 24 (mKeep ga6 gb6), zi G ro 12 ga6, zi G st 12 gb6]) A
set_option maxHeartbeats 4000000 in
set_option maxRecDepth 100000 in
theorem c_X6_laysBack (l : Launch) (G : gG) (h0 kd mo st ro tp cd sr ir ih ss sq ce lw wo he sk na kp gb go fa ga vo : Nat) (pb : Nat) (jg : Nat) (td : Nat) (tx : Nat) (ru : Nat) (him : Int32) (s19 : Int32) (s20 : Int32) (s21 : Int32) (s22 : Int32) (s25 : Int32) (s26 : Int32) (s27 : Int32) (s31 : Int32) (s32 : Int32) (s33 : Int32) (s34 : Int32) (s39 : Int32) (s40 : Int32) (fro : Nat → Int32) (fst : Nat → Int32) (ga6 : Nat → Int32) (gb6 : Nat → Int32) (sz : Nat) (hpb : pb ≤ 6) (hjg : jg ≤ 4) (htx : tx ≤ 6) (hru : ru < tx) : Met l yX6_laysBack wsX6_laysBack ({ frames := 0, cells := 0, slots := 0, locals := 0 }) (gPre G [.ref h0] [zo6 h0 (nI pb) kd mo st (nI jg) ro tp (nI td) cd sr (nI tx) (nI ru) him ir ih ss sq ce lw s19 s20 s21 s22 wo he s25 s26 s27 sk na kp s31 s32 s33 s34 gb go fa ga s39 s40 vo, zi G kp 24 (mKeep ga6 gb6), zi G ro 12 fro, zi G st 12 fst] sz) (q_X6_laysBack G h0 kd mo st ro tp cd sr ir ih ss sq ce lw wo he sk na kp gb go fa ga vo pb jg td tx ru him s19 s20 s21 s22 s25 s26 s27 s31 s32 s33 s34 s39 s40 fro fst ga6 gb6 (va_A [zo6 h0 (nI pb) kd mo st (nI jg) ro tp (nI td) cd sr (nI tx) (nI ru) him ir ih ss sq ce lw s19 s20 s21 s22 wo he s25 s26 s27 sk na kp s31 s32 s33 s34 gb go fa ga s39 s40 vo, zi G kp 24 (mKeep ga6 gb6), zi G ro 12 fro, zi G st 12 fst] sz)) 0 0 (va_A [zo6 h0 (nI pb) kd mo st (nI jg) ro tp (nI td) cd sr (nI tx) (nI ru) him ir ih ss sq ce lw s19 s20 s21 s22 wo he s25 s26 s27 sk na kp s31 s32 s33 s34 gb go fa ga s39 s40 vo, zi G kp 24 (mKeep ga6 gb6), zi G ro 12 fro, zi G st 12 fst] sz) := by
  refine Met.ofW (cc := cX6_laysBack) (maxL := 2) (ret := none) (by decide +kernel) rfl ?_
  intro p e s m args below meth c s₁ B hml hv
  obtain ⟨rfl, hsz, hP, hK, hD0⟩ := hv
  have hx := B.exec
  have hb := B.bytes
  have hr := B.returns
  have hts := atoms_spec (ws := wsX6_laysBack) B.pre
  have hown : s.vm.findClass RX6 = some m.cls := findClass_of_methodNamed B.named
  have hlocks := B.notSynchronized
  subst hsz
  have hD := hD0.self (sz := s.heap.size)
  generalize hAe : va_A [zo6 h0 (nI pb) kd mo st (nI jg) ro tp (nI td) cd sr (nI tx) (nI ru) him ir ih ss sq ce lw s19 s20 s21 s22 wo he s25 s26 s27 sk na kp s31 s32 s33 s34 gb go fa ga s39 s40 vo, zi G kp 24 (mKeep ga6 gb6), zi G ro 12 fro, zi G st 12 fst] s.heap.size = A at hD ⊢
  have hA : ∀ q : Nat, s.heap.size ≤ q → A q := fun q h => by rw [← hAe]; exact Or.inr h
  have hS : va_S A s.heap s.heap [] := va_S.rf
  have hz9 : gPD G A [zo6 h0 (nI pb) kd mo st (nI jg) ro tp (nI td) cd sr (nI tx) (nI ru) him ir ih ss sq ce lw s19 s20 s21 s22 wo he s25 s26 s27 sk na kp s31 s32 s33 s34 gb go fa ga s39 s40 vo, zi G kp 24 (mKeep ga6 gb6), zi G ro 12 fro, zi G st 12 fst] s.heap := ⟨hP, hD⟩
  have hP := hz9.1
  have hD := hz9.2
  have hl := lv_entry ([.ref h0]) (n := 2) (Nat.le_of_ble_eq_true rfl)
  rw [lg_entry_eq]
  generalize (lg_sl ([.ref h0]) ++ List.replicate (2 - (lg_sl ([.ref h0])).length) Slot.unset).toArray = ls at hl ⊢
  have hl : lv_has ls 2 [zR 0 h0] := hl
  have kf19 := hts (.fieldLink RX6 19 "PebbleInShoeModel" "rows" "[I") (by decide +kernel)
  have hiX6 := (by decide +kernel : ∀ w ∈ wsX60, w ∈ wsX6_laysBack)
  have kf61 := hts (.fieldLink RX6 61 "PebbleInShoeModel" "kept" "[I") (by decide +kernel)
  have kf16 := hts (.fieldLink RX6 16 "PebbleInShoeModel" "stones" "[I") (by decide +kernel)
  refine lv_iconst (v := 0) hx hb dX6_laysBack_0 (by decide +kernel) ?_
  refine lv_istore_n (lv' := [zI 1 0, zR 0 h0]) hx hb dX6_laysBack_1 rfl hl (by decide +kernel) rfl (fun ls hl => ?_)
  have loop_2 : ∀ (n9 : Nat) (k6 : Nat) (xr : Nat → Int32) (xs6 : Nat → Int32), (k6 ≤ 12) → (∀ q, q < k6 → xr q = ga6 q ∧ xs6 q = gb6 q) → (12 - k6) < n9 → ∀ (H : Heap) (locs : List Loc), va_P G.1 vwCl [zo6 h0 (nI pb) kd mo st (nI jg) ro tp (nI td) cd sr (nI tx) (nI ru) him ir ih ss sq ce lw s19 s20 s21 s22 wo he s25 s26 s27 sk na kp s31 s32 s33 s34 gb go fa ga s39 s40 vo, zi G kp 24 (mKeep ga6 gb6), zi G ro 12 xr, zi G st 12 xs6] H → va_D A [zo6 h0 (nI pb) kd mo st (nI jg) ro tp (nI td) cd sr (nI tx) (nI ru) him ir ih ss sq ce lw s19 s20 s21 s22 wo he s25 s26 s27 sk na kp s31 s32 s33 s34 gb go fa ga s39 s40 vo, zi G kp 24 (mKeep ga6 gb6), zi G ro 12 xr, zi G st 12 xs6] → va_S A s.heap H locs → ∀ ls : Array Slot, lv_has ls 2 [zI 1 (nI k6), zR 0 h0] → W p l e (headSpec wsX6_laysBack ({ frames := 0, cells := 0, slots := 0, locals := 0 })).room s m ([.ref h0] : List Value).toArray below meth c H locs 0 0 (MQ below (q_X6_laysBack G h0 kd mo st ro tp cd sr ir ih ss sq ce lw wo he sk na kp gb go fa ga vo pb jg td tx ru him s19 s20 s21 s22 s25 s26 s27 s31 s32 s33 s34 s39 s40 fro fst ga6 gb6 A) ([.ref h0] : List Value).toArray s 0 0 A) (F0 m 2 ls []) := by
    intro n9
    induction n9 with
    | zero => intro k6 xr xs6 hk6 hK6 hm9; exact absurd hm9 (Nat.not_lt_zero _)
    | succ n9 ih9 =>
      intro k6 xr xs6 hk6 hK6 hm9 H locs hP hD hS ls hl
      refine lv_iload_n hx hb dX6_laysBack_2 rfl (lv_at hl 0 rfl) ?_
      refine lv_bipush (v := 12) hx hb dX6_laysBack_3 (by decide +kernel) ?_
      refine lv_icmp_ge (tgt := 41) hx hb dX6_laysBack_5 (by decide +kernel) (fun c_1 => ?_) (fun c_1 => ?_)
      · skip
        have c_1N : 12 ≤ k6 := nI_le1 (a := 12) (b := k6) (by omega) (by omega) c_1
        have hz9 : gPD G A [zo6 h0 (nI pb) kd mo st (nI jg) ro tp (nI td) cd sr (nI tx) (nI ru) him ir ih ss sq ce lw s19 s20 s21 s22 wo he s25 s26 s27 sk na kp s31 s32 s33 s34 gb go fa ga s39 s40 vo, zi G kp 24 (mKeep ga6 gb6), zi G ro 12 ga6, zi G st 12 xs6] H := ⟨g_ext hP 2 rfl (fun i h9 => (hK6 i (by omega)).1), g_extD hD 2 rfl⟩
        have hP := hz9.1
        have hD := hz9.2
        have hz9 : gPD G A [zo6 h0 (nI pb) kd mo st (nI jg) ro tp (nI td) cd sr (nI tx) (nI ru) him ir ih ss sq ce lw s19 s20 s21 s22 wo he s25 s26 s27 sk na kp s31 s32 s33 s34 gb go fa ga s39 s40 vo, zi G kp 24 (mKeep ga6 gb6), zi G ro 12 ga6, zi G st 12 gb6] H := ⟨g_ext hP 3 rfl (fun i h9 => (hK6 i (by omega)).2), g_extD hD 3 rfl⟩
        have hP := hz9.1
        have hD := hz9.2
        have hpost : (fun (u : Unit) => match u with | _ => True) () := trivial
        exact W.vret hx hb hr (fun t ht hW => ⟨⟨(), rfl, hpost, by rw [ht]; exact hP, va_K.moved hW.alike hK, hD⟩, hS.F ht⟩) hS.2.2 dX6_laysBack_41
      · skip
        have c_1N : k6 < 12 := nI_le0 (a := 12) (b := k6) (by omega) (by omega) c_1
        refine g_aget (D := G.1) (ci := 6) (v := .ref ro) (C := RX6) (T := TX6) (N := 42) hx hb dX6_laysBack_8 rfl (lv_at hl 1 rfl) hts hiX6 hown hK hP 0 rfl rfl 5 (by decide +kernel) kf19 (fun _ h9 => h9) rfl dX6_laysBack_9 ?_
        refine lv_iload_n hx hb dX6_laysBack_12 rfl (lv_at hl 0 rfl) ?_
        refine g_aget (D := G.1) (ci := 6) (v := .ref kp) (C := RX6) (T := TX6) (N := 42) hx hb dX6_laysBack_13 rfl (lv_at hl 1 rfl) hts hiX6 hown hK hP 0 rfl rfl 30 (by decide +kernel) kf61 (fun _ h9 => h9) rfl dX6_laysBack_14 ?_
        refine lv_iload_n hx hb dX6_laysBack_17 rfl (lv_at hl 0 rfl) ?_
        refine g_iald (D := G.1) hx hb hK hP 1 0 rfl rfl (k := k6) (y := (mKeep ga6 gb6) k6) (by omega) rfl rfl dX6_laysBack_18 ?_
        refine g_iast (D := G.1) hx hb hK hP hD hS 2 0 rfl rfl (k := k6) (x := ((mKeep ga6 gb6) k6)) (by omega) rfl dX6_laysBack_19 (fun H locs hP hD hS => ?_)
        have hz9 : gPD G A [zo6 h0 (nI pb) kd mo st (nI jg) ro tp (nI td) cd sr (nI tx) (nI ru) him ir ih ss sq ce lw s19 s20 s21 s22 wo he s25 s26 s27 sk na kp s31 s32 s33 s34 gb go fa ga s39 s40 vo, zi G kp 24 (mKeep ga6 gb6), zi G ro 12 (upd xr k6 ((mKeep ga6 gb6) k6)), zi G st 12 xs6] H := ⟨hP, hD⟩
        have hP := hz9.1
        have hD := hz9.2
        refine g_aget (D := G.1) (ci := 6) (v := .ref st) (C := RX6) (T := TX6) (N := 42) hx hb dX6_laysBack_20 rfl (lv_at hl 1 rfl) hts hiX6 hown hK hP 0 rfl rfl 3 (by decide +kernel) kf16 (fun _ h9 => h9) rfl dX6_laysBack_21 ?_
        refine lv_iload_n hx hb dX6_laysBack_24 rfl (lv_at hl 0 rfl) ?_
        refine g_aget (D := G.1) (ci := 6) (v := .ref kp) (C := RX6) (T := TX6) (N := 42) hx hb dX6_laysBack_25 rfl (lv_at hl 1 rfl) hts hiX6 hown hK hP 0 rfl rfl 30 (by decide +kernel) kf61 (fun _ h9 => h9) rfl dX6_laysBack_26 ?_
        refine lv_bipush (v := 12) hx hb dX6_laysBack_29 (by decide +kernel) ?_
        refine lv_iload_n hx hb dX6_laysBack_31 rfl (lv_at hl 0 rfl) ?_
        refine lv_iadd hx hb dX6_laysBack_32 ?_
        refine g_topi (y := nI (12 + k6)) (nI_add 12 k6) ?_
        refine g_iald (D := G.1) hx hb hK hP 1 0 rfl rfl (k := 12 + k6) (y := (mKeep ga6 gb6) (12 + k6)) (by omega) rfl rfl dX6_laysBack_33 ?_
        refine g_iast (D := G.1) hx hb hK hP hD hS 3 0 rfl rfl (k := k6) (x := ((mKeep ga6 gb6) (12 + k6))) (by omega) rfl dX6_laysBack_34 (fun H locs hP hD hS => ?_)
        have hz9 : gPD G A [zo6 h0 (nI pb) kd mo st (nI jg) ro tp (nI td) cd sr (nI tx) (nI ru) him ir ih ss sq ce lw s19 s20 s21 s22 wo he s25 s26 s27 sk na kp s31 s32 s33 s34 gb go fa ga s39 s40 vo, zi G kp 24 (mKeep ga6 gb6), zi G ro 12 (upd xr k6 ((mKeep ga6 gb6) k6)), zi G st 12 (upd xs6 k6 ((mKeep ga6 gb6) (12 + k6)))] H := ⟨hP, hD⟩
        have hP := hz9.1
        have hD := hz9.2
        refine lv_iinc (v := nI (k6 + 1)) (lv' := [zI 1 (nI (k6 + 1)), zR 0 h0]) hx hb dX6_laysBack_35 hl (k := 0) rfl (nI_add k6 1) (by decide +kernel) rfl (fun ls hl => ?_)
        refine lv_goto (tgt := 2) hx hb dX6_laysBack_38 (by decide +kernel) ?_
        exact ih9 (k6 + 1) (upd xr k6 ((mKeep ga6 gb6) k6)) (upd xs6 k6 ((mKeep ga6 gb6) (12 + k6))) (by omega) (fun q z => mLay_step (by omega) hK6 q z) (by omega) _ _ hP hD hS ls hl
  exact loop_2 (13) 0 fro fst (Nat.zero_le _) (fun q z => absurd z (Nat.not_lt_zero q)) (by omega) _ _ hP hD hS ls hl
noncomputable def m_X6_heard_h031 (ru : Nat) (fst : Nat → Int32) (fro : Nat → Int32) (fmo : Nat → Int32) (fkd : Nat → Int32) (fcd : Nat → Int32) (fsr : Nat → Nat) (jn : Nat) (pn : Nat) (nn : Nat) : Int32 := (m_X6_caseOf ru fst fro fmo fkd fcd fsr jn pn nn)
noncomputable def m_X6_heard_h032 (ru : Nat) (fst : Nat → Int32) (fro : Nat → Int32) (fmo : Nat → Int32) (fkd : Nat → Int32) (fcd : Nat → Int32) (fsr : Nat → Nat) (jn : Nat) (pn : Nat) (nn : Nat) : Int32 := ((m_X6_caseOf_st ru fst fro fmo fkd fcd fsr jn pn nn) (2 * pn))
noncomputable def m_X6_heard_h033 (ru : Nat) (fst : Nat → Int32) (fro : Nat → Int32) (fmo : Nat → Int32) (fkd : Nat → Int32) (fcd : Nat → Int32) (fsr : Nat → Nat) (jn : Nat) (pn : Nat) (nn : Nat) : Int32 := ((m_X6_caseOf_ro ru fst fro fmo fkd fcd fsr jn pn nn) (3 * jn))
noncomputable def m_X6_heard_h034 (ru : Nat) (fst : Nat → Int32) (fro : Nat → Int32) (fmo : Nat → Int32) (fkd : Nat → Int32) (fcd : Nat → Int32) (fsr : Nat → Nat) (jn : Nat) (pn : Nat) (nn : Nat) : Int32 := if (m_X6_caseOf ru fst fro fmo fkd fcd fsr jn pn nn) < (m_X6_asksOf ru (m_X6_caseOf_st ru fst fro fmo fkd fcd fsr jn pn nn) (m_X6_caseOf_ro ru fst fro fmo fkd fcd fsr jn pn nn) fmo fcd fsr 2 jn pn) then 0 else 1
abbrev q_X6_heard (G : gG) (h0 kd mo st ro tp cd sr ir ih ss sq ce lw wo he sk na kp gb go fa ga vo : Nat) (pb : Nat) (jg : Nat) (td : Nat) (tx : Nat) (ru : Nat) (him : Int32) (s19 : Int32) (s20 : Int32) (s21 : Int32) (s22 : Int32) (s25 : Int32) (s26 : Int32) (s27 : Int32) (s31 : Int32) (s32 : Int32) (s33 : Int32) (s34 : Int32) (s39 : Int32) (s40 : Int32) (fst : Nat → Int32) (fro : Nat → Int32) (fmo : Nat → Int32) (fkd : Nat → Int32) (fcd : Nat → Int32) (fsr : Nat → Nat) (fsk : Nat → Int32) (fna : Nat → Int32) (fkp : Nat → Int32) (jn : Nat) (pn : Nat) (nn : Nat) (A : Nat → Prop) : Array Value → State → Outcome → State → Prop := va_Qv (fun (u : (Nat → Int32) × (Nat → Int32) × (Nat → Int32)) => match u with | (ysk, yna, ykp) => True) (fun (u : (Nat → Int32) × (Nat → Int32) × (Nat → Int32)) t => match u with | (ysk, yna, ykp) => va_P G.1 vwCl [zo6 h0 (nI pb) kd mo st (nI jg) ro tp (nI td) cd sr (nI tx) (nI ru) him ir ih ss sq ce lw s19 s20 s21 s22 wo he s25 s26 s27 sk na kp (m_X6_heard_h031 ru fst fro fmo fkd fcd fsr jn pn nn) (m_X6_heard_h032 ru fst fro fmo fkd fcd fsr jn pn nn) (m_X6_heard_h033 ru fst fro fmo fkd fcd fsr jn pn nn) (m_X6_heard_h034 ru fst fro fmo fkd fcd fsr jn pn nn) gb go fa ga s39 s40 vo, zi G st 12 fst, zi G ro 12 fro, zi G mo 6 fmo, zi G kd 6 fkd, zi G cd 1200 fcd, zi G sr 24 (nF fsr), zi G sk 200 ysk, zi G na 6 yna, zi G kp 24 ykp] t.heap ∧ gK G t ∧ va_D A [zo6 h0 (nI pb) kd mo st (nI jg) ro tp (nI td) cd sr (nI tx) (nI ru) him ir ih ss sq ce lw s19 s20 s21 s22 wo he s25 s26 s27 sk na kp (m_X6_heard_h031 ru fst fro fmo fkd fcd fsr jn pn nn) (m_X6_heard_h032 ru fst fro fmo fkd fcd fsr jn pn nn) (m_X6_heard_h033 ru fst fro fmo fkd fcd fsr jn pn nn) (m_X6_heard_h034 ru fst fro fmo fkd fcd fsr jn pn nn) gb go fa ga s39 s40 vo, zi G st 12 fst, zi G ro 12 fro, zi G mo 6 fmo, zi G kd 6 fkd, zi G cd 1200 fcd, zi G sr 24 (nF fsr), zi G sk 200 ysk, zi G na 6 yna, zi G kp 24 ykp]) A
set_option maxHeartbeats 4000000 in
set_option maxRecDepth 100000 in
theorem c_X6_heard (l : Launch) (G : gG) (h0 kd mo st ro tp cd sr ir ih ss sq ce lw wo he sk na kp gb go fa ga vo : Nat) (pb : Nat) (jg : Nat) (td : Nat) (tx : Nat) (ru : Nat) (him : Int32) (s19 : Int32) (s20 : Int32) (s21 : Int32) (s22 : Int32) (s25 : Int32) (s26 : Int32) (s27 : Int32) (s31 : Int32) (s32 : Int32) (s33 : Int32) (s34 : Int32) (s39 : Int32) (s40 : Int32) (fst : Nat → Int32) (fro : Nat → Int32) (fmo : Nat → Int32) (fkd : Nat → Int32) (fcd : Nat → Int32) (fsr : Nat → Nat) (fsk : Nat → Int32) (fna : Nat → Int32) (fkp : Nat → Int32) (jn : Nat) (pn : Nat) (nn : Nat) (sz : Nat) (hj : jn < 4) (hp : pn < 6) (hnn : nn ≤ 60) (hwf : mWf fcd fsr ru) (hpb : pb ≤ 6) (hjg : jg ≤ 4) (htx : tx ≤ 6) (hru : ru < tx) : Met l yX6_heard wsX6_heard ({ frames := 6, cells := 0, slots := 0, locals := 145 }) (gPre G [.ref h0, .int (nI jn), .int (nI pn), .int (nI nn)] [zo6 h0 (nI pb) kd mo st (nI jg) ro tp (nI td) cd sr (nI tx) (nI ru) him ir ih ss sq ce lw s19 s20 s21 s22 wo he s25 s26 s27 sk na kp s31 s32 s33 s34 gb go fa ga s39 s40 vo, zi G st 12 fst, zi G ro 12 fro, zi G mo 6 fmo, zi G kd 6 fkd, zi G cd 1200 fcd, zi G sr 24 (nF fsr), zi G sk 200 fsk, zi G na 6 fna, zi G kp 24 fkp] sz) (q_X6_heard G h0 kd mo st ro tp cd sr ir ih ss sq ce lw wo he sk na kp gb go fa ga vo pb jg td tx ru him s19 s20 s21 s22 s25 s26 s27 s31 s32 s33 s34 s39 s40 fst fro fmo fkd fcd fsr fsk fna fkp jn pn nn (va_A [zo6 h0 (nI pb) kd mo st (nI jg) ro tp (nI td) cd sr (nI tx) (nI ru) him ir ih ss sq ce lw s19 s20 s21 s22 wo he s25 s26 s27 sk na kp s31 s32 s33 s34 gb go fa ga s39 s40 vo, zi G st 12 fst, zi G ro 12 fro, zi G mo 6 fmo, zi G kd 6 fkd, zi G cd 1200 fcd, zi G sr 24 (nF fsr), zi G sk 200 fsk, zi G na 6 fna, zi G kp 24 fkp] sz)) 0 0 (va_A [zo6 h0 (nI pb) kd mo st (nI jg) ro tp (nI td) cd sr (nI tx) (nI ru) him ir ih ss sq ce lw s19 s20 s21 s22 wo he s25 s26 s27 sk na kp s31 s32 s33 s34 gb go fa ga s39 s40 vo, zi G st 12 fst, zi G ro 12 fro, zi G mo 6 fmo, zi G kd 6 fkd, zi G cd 1200 fcd, zi G sr 24 (nF fsr), zi G sk 200 fsk, zi G na 6 fna, zi G kp 24 fkp] sz) := by
  refine Met.ofW (cc := cX6_heard) (maxL := 4) (ret := none) (by decide +kernel) rfl ?_
  intro p e s m args below meth c s₁ B hml hv
  obtain ⟨rfl, hsz, hP, hK, hD0⟩ := hv
  have hx := B.exec
  have hb := B.bytes
  have hr := B.returns
  have hts := atoms_spec (ws := wsX6_heard) B.pre
  have hown : s.vm.findClass RX6 = some m.cls := findClass_of_methodNamed B.named
  have hlocks := B.notSynchronized
  subst hsz
  have hD := hD0.self (sz := s.heap.size)
  generalize hAe : va_A [zo6 h0 (nI pb) kd mo st (nI jg) ro tp (nI td) cd sr (nI tx) (nI ru) him ir ih ss sq ce lw s19 s20 s21 s22 wo he s25 s26 s27 sk na kp s31 s32 s33 s34 gb go fa ga s39 s40 vo, zi G st 12 fst, zi G ro 12 fro, zi G mo 6 fmo, zi G kd 6 fkd, zi G cd 1200 fcd, zi G sr 24 (nF fsr), zi G sk 200 fsk, zi G na 6 fna, zi G kp 24 fkp] s.heap.size = A at hD ⊢
  have hA : ∀ q : Nat, s.heap.size ≤ q → A q := fun q h => by rw [← hAe]; exact Or.inr h
  have hS : va_S A s.heap s.heap [] := va_S.rf
  have hz9 : gPD G A [zo6 h0 (nI pb) kd mo st (nI jg) ro tp (nI td) cd sr (nI tx) (nI ru) him ir ih ss sq ce lw s19 s20 s21 s22 wo he s25 s26 s27 sk na kp s31 s32 s33 s34 gb go fa ga s39 s40 vo, zi G st 12 fst, zi G ro 12 fro, zi G mo 6 fmo, zi G kd 6 fkd, zi G cd 1200 fcd, zi G sr 24 (nF fsr), zi G sk 200 fsk, zi G na 6 fna, zi G kp 24 fkp] s.heap := ⟨hP, hD⟩
  have hP := hz9.1
  have hD := hz9.2
  have hl := lv_entry ([.ref h0, .int (nI jn), .int (nI pn), .int (nI nn)]) (n := 4) (Nat.le_of_ble_eq_true rfl)
  rw [lg_entry_eq]
  generalize (lg_sl ([.ref h0, .int (nI jn), .int (nI pn), .int (nI nn)]) ++ List.replicate (4 - (lg_sl ([.ref h0, .int (nI jn), .int (nI pn), .int (nI nn)])).length) Slot.unset).toArray = ls at hl ⊢
  have hl : lv_has ls 4 [zR 0 h0, zI 1 (nI jn), zI 2 (nI pn), zI 3 (nI nn)] := hl
  have kf205 := hts (.fieldLink RX6 205 "PebbleInShoeModel" "caseFelt" "I") (by decide +kernel)
  have hiX6 := (by decide +kernel : ∀ w ∈ wsX60, w ∈ wsX6_heard)
  have kf16 := hts (.fieldLink RX6 16 "PebbleInShoeModel" "stones" "[I") (by decide +kernel)
  have kf208 := hts (.fieldLink RX6 208 "PebbleInShoeModel" "caseSize" "I") (by decide +kernel)
  have kf19 := hts (.fieldLink RX6 19 "PebbleInShoeModel" "rows" "[I") (by decide +kernel)
  have kf211 := hts (.fieldLink RX6 211 "PebbleInShoeModel" "caseSoles" "I") (by decide +kernel)
  have kf214 := hts (.fieldLink RX6 214 "PebbleInShoeModel" "isGuilty" "Z") (by decide +kernel)
  refine lv_aload_n hx hb dX6_heard_0 rfl (lv_at hl 0 rfl) ?_
  refine z_callv [0, 9, 2, 1] (va_runV (As := []) (rest := []) ⟨hx, hb, hml, hown, hts⟩ (c_X6_keeps l G h0 kd mo st ro tp cd sr ir ih ss sq ce lw wo he sk na kp gb go fa ga vo pb jg td tx ru him s19 s20 s21 s22 s25 s26 s27 s31 s32 s33 s34 s39 s40 fkp fro fst s.heap.size (by first | exact hpb | assumption | omega) (by first | exact hjg | assumption | omega) (by first | exact htx | assumption | omega) (by first | exact hru | assumption | omega)) (cwV 0 hts gX6_heard_X6_keeps rfl rfl rfl (by decide +kernel) ⟨Nat.le_of_ble_eq_true rfl, Nat.le_of_ble_eq_true rfl⟩) ⟨gPre_blind, va_recv (q := (RX6, TX6, 42)) hK hP (ci := 6) (q0 := 0) rfl rfl, fun U hU hW => gPre_ofF [0, 9, 2, 1] hU hW hK hP hD (by decide +kernel) rfl⟩ rfl rfl hl.1 rfl (lv_room (Nat.le_of_ble_eq_true rfl)) dX6_heard_1 ⟨Nat.le_of_ble_eq_true rfl, Nat.le_of_ble_eq_true rfl⟩) hS hD hA rfl (fun u t H locs ht hvm w_2 hB hz1 hk1 hFq hAq hS => ?_)
  obtain ⟨hP1, hK1, hD1⟩ := hB
  have hz9 : gPD G A [zo6 h0 (nI pb) kd mo st (nI jg) ro tp (nI td) cd sr (nI tx) (nI ru) him ir ih ss sq ce lw s19 s20 s21 s22 wo he s25 s26 s27 sk na kp s31 s32 s33 s34 gb go fa ga s39 s40 vo, zi G st 12 fst, zi G ro 12 fro, zi G mo 6 fmo, zi G kd 6 fkd, zi G cd 1200 fcd, zi G sr 24 (nF fsr), zi G sk 200 fsk, zi G na 6 fna, zi G kp 24 (mKeep fro fst)] H := zFill hP hD [0, 9, 2, 1] [1, 4, 3, 0, 0, 0, 0, 0, 0, 2] hAq hk1 hFq ht hP1 hD1 rfl (by decide +kernel)
  have hP := hz9.1
  have hD := hz9.2
  refine lv_aload_n hx hb dX6_heard_4 rfl (lv_at hl 0 rfl) ?_
  refine lv_aload_n hx hb dX6_heard_5 rfl (lv_at hl 0 rfl) ?_
  refine lv_iload_n hx hb dX6_heard_6 rfl (lv_at hl 1 rfl) ?_
  refine lv_iload_n hx hb dX6_heard_7 rfl (lv_at hl 2 rfl) ?_
  refine lv_iload_n hx hb dX6_heard_8 rfl (lv_at hl 3 rfl) ?_
  refine z_calli [0, 1, 2, 3, 4, 5, 6, 7, 8] (v := m_X6_caseOf ru fst fro fmo fkd fcd fsr jn pn nn) (fun _ ⟨_, _⟩ h => h) (va_runV (As := [.int (nI jn), .int (nI pn), .int (nI nn)]) (rest := [.ref h0]) ⟨hx, hb, hml, hown, hts⟩ (c_X6_caseOf l G h0 kd mo st ro tp cd sr ir ih ss sq ce lw wo he sk na kp gb go fa ga vo pb jg td tx ru him s19 s20 s21 s22 s25 s26 s27 s31 s32 s33 s34 s39 s40 fst fro fmo fkd fcd fsr fsk fna jn pn nn H.size (by first | exact hj | assumption | omega) (by first | exact hp | assumption | omega) (by first | exact hnn | assumption | omega) (by first | exact hwf | assumption | omega) (by first | exact hpb | assumption | omega) (by first | exact hjg | assumption | omega) (by first | exact htx | assumption | omega) (by first | exact hru | assumption | omega)) (cwV 3 hts gX6_heard_X6_caseOf rfl rfl rfl (by decide +kernel) ⟨Nat.le_of_ble_eq_true rfl, Nat.le_of_ble_eq_true rfl⟩) ⟨gPre_blind, va_recv (q := (RX6, TX6, 42)) hK hP (ci := 6) (q0 := 0) rfl rfl, fun U hU hW => gPre_ofF [0, 1, 2, 3, 4, 5, 6, 7, 8] hU hW hK hP hD (by decide +kernel) rfl⟩ rfl rfl hl.1 rfl (lv_room (Nat.le_of_ble_eq_true rfl)) dX6_heard_9 ⟨Nat.le_of_ble_eq_true rfl, Nat.le_of_ble_eq_true rfl⟩) hS hD hA rfl (fun u t H locs ht hvm hB hz1 hk1 hFq hAq hS => ?_)
  obtain ⟨ysk_5, yna_6⟩ := u
  obtain ⟨hP1, hK1, hD1⟩ := hB
  have hz9 : gPD G A [zo6 h0 (nI pb) kd mo st (nI jg) ro tp (nI td) cd sr (nI tx) (nI ru) him ir ih ss sq ce lw s19 s20 s21 s22 wo he s25 s26 s27 sk na kp s31 s32 s33 s34 gb go fa ga s39 s40 vo, zi G st 12 (m_X6_caseOf_st ru fst fro fmo fkd fcd fsr jn pn nn), zi G ro 12 (m_X6_caseOf_ro ru fst fro fmo fkd fcd fsr jn pn nn), zi G mo 6 fmo, zi G kd 6 fkd, zi G cd 1200 fcd, zi G sr 24 (nF fsr), zi G sk 200 ysk_5, zi G na 6 yna_6, zi G kp 24 (mKeep fro fst)] H := zFill hP hD [0, 1, 2, 3, 4, 5, 6, 7, 8] [1, 2, 3, 4, 5, 6, 7, 8, 9] hAq hk1 hFq ht hP1 hD1 rfl (by decide +kernel)
  have hP := hz9.1
  have hD := hz9.2
  refine va_put (D := G.1) (ci := 6) (v := .int (m_X6_caseOf ru fst fro fmo fkd fcd fsr jn pn nn)) (ty := .int) (C := RX6) (T := TX6) (N := 42) hx hb hts hiX6 tyX6 tyX6_ok nmX6 hown hK hP hD hS 0 rfl rfl 31 (by decide +kernel) kf205 (fun _ h9 => h9) rfl (by decide +kernel) rfl rfl (Nat.le_of_ble_eq_true rfl) dX6_heard_12 (fun H locs hP hD hS => ?_)
  have hz9 : gPD G A [zo6 h0 (nI pb) kd mo st (nI jg) ro tp (nI td) cd sr (nI tx) (nI ru) him ir ih ss sq ce lw s19 s20 s21 s22 wo he s25 s26 s27 sk na kp (m_X6_caseOf ru fst fro fmo fkd fcd fsr jn pn nn) s32 s33 s34 gb go fa ga s39 s40 vo, zi G st 12 (m_X6_caseOf_st ru fst fro fmo fkd fcd fsr jn pn nn), zi G ro 12 (m_X6_caseOf_ro ru fst fro fmo fkd fcd fsr jn pn nn), zi G mo 6 fmo, zi G kd 6 fkd, zi G cd 1200 fcd, zi G sr 24 (nF fsr), zi G sk 200 ysk_5, zi G na 6 yna_6, zi G kp 24 (mKeep fro fst)] H := ⟨hP, hD⟩
  have hP := hz9.1
  have hD := hz9.2
  refine lv_aload_n hx hb dX6_heard_15 rfl (lv_at hl 0 rfl) ?_
  refine g_aget (D := G.1) (ci := 6) (v := .ref st) (C := RX6) (T := TX6) (N := 42) hx hb dX6_heard_16 rfl (lv_at hl 0 rfl) hts hiX6 hown hK hP 0 rfl rfl 3 (by decide +kernel) kf16 (fun _ h9 => h9) rfl dX6_heard_17 ?_
  refine lv_iconst (v := 2) hx hb dX6_heard_20 (by decide +kernel) ?_
  refine lv_iload_n hx hb dX6_heard_21 rfl (lv_at hl 2 rfl) ?_
  refine lv_imul hx hb dX6_heard_22 ?_
  refine g_topi (y := nI (2 * pn)) (pk_mul 2 pn) ?_
  refine g_iald (D := G.1) hx hb hK hP 1 0 rfl rfl (k := 2 * pn) (y := (m_X6_caseOf_st ru fst fro fmo fkd fcd fsr jn pn nn) (2 * pn)) (by omega) rfl rfl dX6_heard_23 ?_
  refine va_put (D := G.1) (ci := 6) (v := .int ((m_X6_caseOf_st ru fst fro fmo fkd fcd fsr jn pn nn) (2 * pn))) (ty := .int) (C := RX6) (T := TX6) (N := 42) hx hb hts hiX6 tyX6 tyX6_ok nmX6 hown hK hP hD hS 0 rfl rfl 32 (by decide +kernel) kf208 (fun _ h9 => h9) rfl (by decide +kernel) rfl rfl (Nat.le_of_ble_eq_true rfl) dX6_heard_24 (fun H locs hP hD hS => ?_)
  have hz9 : gPD G A [zo6 h0 (nI pb) kd mo st (nI jg) ro tp (nI td) cd sr (nI tx) (nI ru) him ir ih ss sq ce lw s19 s20 s21 s22 wo he s25 s26 s27 sk na kp (m_X6_caseOf ru fst fro fmo fkd fcd fsr jn pn nn) ((m_X6_caseOf_st ru fst fro fmo fkd fcd fsr jn pn nn) (2 * pn)) s33 s34 gb go fa ga s39 s40 vo, zi G st 12 (m_X6_caseOf_st ru fst fro fmo fkd fcd fsr jn pn nn), zi G ro 12 (m_X6_caseOf_ro ru fst fro fmo fkd fcd fsr jn pn nn), zi G mo 6 fmo, zi G kd 6 fkd, zi G cd 1200 fcd, zi G sr 24 (nF fsr), zi G sk 200 ysk_5, zi G na 6 yna_6, zi G kp 24 (mKeep fro fst)] H := ⟨hP, hD⟩
  have hP := hz9.1
  have hD := hz9.2
  refine lv_aload_n hx hb dX6_heard_27 rfl (lv_at hl 0 rfl) ?_
  refine g_aget (D := G.1) (ci := 6) (v := .ref ro) (C := RX6) (T := TX6) (N := 42) hx hb dX6_heard_28 rfl (lv_at hl 0 rfl) hts hiX6 hown hK hP 0 rfl rfl 5 (by decide +kernel) kf19 (fun _ h9 => h9) rfl dX6_heard_29 ?_
  refine lv_iconst (v := 3) hx hb dX6_heard_32 (by decide +kernel) ?_
  refine lv_iload_n hx hb dX6_heard_33 rfl (lv_at hl 1 rfl) ?_
  refine lv_imul hx hb dX6_heard_34 ?_
  refine g_topi (y := nI (3 * jn)) (pk_mul 3 jn) ?_
  refine g_iald (D := G.1) hx hb hK hP 2 0 rfl rfl (k := 3 * jn) (y := (m_X6_caseOf_ro ru fst fro fmo fkd fcd fsr jn pn nn) (3 * jn)) (by omega) rfl rfl dX6_heard_35 ?_
  refine va_put (D := G.1) (ci := 6) (v := .int ((m_X6_caseOf_ro ru fst fro fmo fkd fcd fsr jn pn nn) (3 * jn))) (ty := .int) (C := RX6) (T := TX6) (N := 42) hx hb hts hiX6 tyX6 tyX6_ok nmX6 hown hK hP hD hS 0 rfl rfl 33 (by decide +kernel) kf211 (fun _ h9 => h9) rfl (by decide +kernel) rfl rfl (Nat.le_of_ble_eq_true rfl) dX6_heard_36 (fun H locs hP hD hS => ?_)
  have hz9 : gPD G A [zo6 h0 (nI pb) kd mo st (nI jg) ro tp (nI td) cd sr (nI tx) (nI ru) him ir ih ss sq ce lw s19 s20 s21 s22 wo he s25 s26 s27 sk na kp (m_X6_caseOf ru fst fro fmo fkd fcd fsr jn pn nn) ((m_X6_caseOf_st ru fst fro fmo fkd fcd fsr jn pn nn) (2 * pn)) ((m_X6_caseOf_ro ru fst fro fmo fkd fcd fsr jn pn nn) (3 * jn)) s34 gb go fa ga s39 s40 vo, zi G st 12 (m_X6_caseOf_st ru fst fro fmo fkd fcd fsr jn pn nn), zi G ro 12 (m_X6_caseOf_ro ru fst fro fmo fkd fcd fsr jn pn nn), zi G mo 6 fmo, zi G kd 6 fkd, zi G cd 1200 fcd, zi G sr 24 (nF fsr), zi G sk 200 ysk_5, zi G na 6 yna_6, zi G kp 24 (mKeep fro fst)] H := ⟨hP, hD⟩
  have hP := hz9.1
  have hD := hz9.2
  refine lv_aload_n hx hb dX6_heard_39 rfl (lv_at hl 0 rfl) ?_
  refine g_aget (D := G.1) (ci := 6) (v := .int (m_X6_caseOf ru fst fro fmo fkd fcd fsr jn pn nn)) (C := RX6) (T := TX6) (N := 42) hx hb dX6_heard_40 rfl (lv_at hl 0 rfl) hts hiX6 hown hK hP 0 rfl rfl 31 (by decide +kernel) kf205 (fun _ h9 => h9) rfl dX6_heard_41 ?_
  refine lv_aload_n hx hb dX6_heard_44 rfl (lv_at hl 0 rfl) ?_
  refine lv_iconst (v := 2) hx hb dX6_heard_45 (by decide +kernel) ?_
  refine lv_iload_n hx hb dX6_heard_46 rfl (lv_at hl 1 rfl) ?_
  refine lv_iload_n hx hb dX6_heard_47 rfl (lv_at hl 2 rfl) ?_
  refine z_calli [0, 1, 2, 3, 5, 6, 7, 8] (v := m_X6_asksOf ru (m_X6_caseOf_st ru fst fro fmo fkd fcd fsr jn pn nn) (m_X6_caseOf_ro ru fst fro fmo fkd fcd fsr jn pn nn) fmo fcd fsr 2 jn pn) (fun _ ⟨_, _⟩ h => h) (va_runV (As := [.int 2, .int (nI jn), .int (nI pn)]) (rest := [.int (m_X6_caseOf ru fst fro fmo fkd fcd fsr jn pn nn), .ref h0]) ⟨hx, hb, hml, hown, hts⟩ (c_X6_asksOf l G h0 kd mo st ro tp cd sr ir ih ss sq ce lw wo he sk na kp gb go fa ga vo pb jg td tx ru him s19 s20 s21 s22 s25 s26 s27 (m_X6_caseOf ru fst fro fmo fkd fcd fsr jn pn nn) ((m_X6_caseOf_st ru fst fro fmo fkd fcd fsr jn pn nn) (2 * pn)) ((m_X6_caseOf_ro ru fst fro fmo fkd fcd fsr jn pn nn) (3 * jn)) s34 s39 s40 (m_X6_caseOf_st ru fst fro fmo fkd fcd fsr jn pn nn) (m_X6_caseOf_ro ru fst fro fmo fkd fcd fsr jn pn nn) fmo fcd fsr ysk_5 yna_6 2 jn pn H.size (by omega) (by first | exact hj | assumption | omega) (by first | exact hp | assumption | omega) (by first | exact hwf | assumption | omega) (by first | exact hpb | assumption | omega) (by first | exact hjg | assumption | omega) (by first | exact htx | assumption | omega) (by first | exact hru | assumption | omega)) (cwV 3 hts gX6_heard_X6_asksOf rfl rfl rfl (by decide +kernel) ⟨Nat.le_of_ble_eq_true rfl, Nat.le_of_ble_eq_true rfl⟩) ⟨gPre_blind, va_recv (q := (RX6, TX6, 42)) hK hP (ci := 6) (q0 := 0) rfl rfl, fun U hU hW => gPre_ofF [0, 1, 2, 3, 5, 6, 7, 8] hU hW hK hP hD (by decide +kernel) rfl⟩ rfl rfl hl.1 rfl (lv_room (Nat.le_of_ble_eq_true rfl)) dX6_heard_48 ⟨Nat.le_of_ble_eq_true rfl, Nat.le_of_ble_eq_true rfl⟩) hS hD hA rfl (fun u t H locs ht hvm hB hz1 hk1 hFq hAq hS => ?_)
  obtain ⟨ysk_13, yna_14⟩ := u
  obtain ⟨hP1, hK1, hD1⟩ := hB
  have hz9 : gPD G A [zo6 h0 (nI pb) kd mo st (nI jg) ro tp (nI td) cd sr (nI tx) (nI ru) him ir ih ss sq ce lw s19 s20 s21 s22 wo he s25 s26 s27 sk na kp (m_X6_caseOf ru fst fro fmo fkd fcd fsr jn pn nn) ((m_X6_caseOf_st ru fst fro fmo fkd fcd fsr jn pn nn) (2 * pn)) ((m_X6_caseOf_ro ru fst fro fmo fkd fcd fsr jn pn nn) (3 * jn)) s34 gb go fa ga s39 s40 vo, zi G st 12 (m_X6_caseOf_st ru fst fro fmo fkd fcd fsr jn pn nn), zi G ro 12 (m_X6_caseOf_ro ru fst fro fmo fkd fcd fsr jn pn nn), zi G mo 6 fmo, zi G kd 6 fkd, zi G cd 1200 fcd, zi G sr 24 (nF fsr), zi G sk 200 ysk_13, zi G na 6 yna_14, zi G kp 24 (mKeep fro fst)] H := zFill hP hD [0, 1, 2, 3, 5, 6, 7, 8] [1, 2, 3, 4, 0, 5, 6, 7, 8] hAq hk1 hFq ht hP1 hD1 rfl (by decide +kernel)
  have hP := hz9.1
  have hD := hz9.2
  refine lv_icmp_lt (tgt := 58) hx hb dX6_heard_51 (by decide +kernel) (fun c_15 => ?_) (fun c_15 => ?_)
  · skip
    refine lv_iconst (v := 0) hx hb dX6_heard_58 (by decide +kernel) ?_
    refine va_put (D := G.1) (ci := 6) (v := .int 0) (ty := .boolean) (C := RX6) (T := TX6) (N := 42) hx hb hts hiX6 tyX6 tyX6_ok nmX6 hown hK hP hD hS 0 rfl rfl 34 (by decide +kernel) kf214 (fun _ h9 => h9) rfl (by decide +kernel) rfl rfl (Nat.le_of_ble_eq_true rfl) dX6_heard_59 (fun H locs hP hD hS => ?_)
    have hz9 : gPD G A [zo6 h0 (nI pb) kd mo st (nI jg) ro tp (nI td) cd sr (nI tx) (nI ru) him ir ih ss sq ce lw s19 s20 s21 s22 wo he s25 s26 s27 sk na kp (m_X6_caseOf ru fst fro fmo fkd fcd fsr jn pn nn) ((m_X6_caseOf_st ru fst fro fmo fkd fcd fsr jn pn nn) (2 * pn)) ((m_X6_caseOf_ro ru fst fro fmo fkd fcd fsr jn pn nn) (3 * jn)) 0 gb go fa ga s39 s40 vo, zi G st 12 (m_X6_caseOf_st ru fst fro fmo fkd fcd fsr jn pn nn), zi G ro 12 (m_X6_caseOf_ro ru fst fro fmo fkd fcd fsr jn pn nn), zi G mo 6 fmo, zi G kd 6 fkd, zi G cd 1200 fcd, zi G sr 24 (nF fsr), zi G sk 200 ysk_13, zi G na 6 yna_14, zi G kp 24 (mKeep fro fst)] H := ⟨hP, hD⟩
    have hP := hz9.1
    have hD := hz9.2
    refine lv_aload_n hx hb dX6_heard_62 rfl (lv_at hl 0 rfl) ?_
    refine z_callv [0, 9, 2, 1] (va_runV (As := []) (rest := []) ⟨hx, hb, hml, hown, hts⟩ (c_X6_laysBack l G h0 kd mo st ro tp cd sr ir ih ss sq ce lw wo he sk na kp gb go fa ga vo pb jg td tx ru him s19 s20 s21 s22 s25 s26 s27 (m_X6_caseOf ru fst fro fmo fkd fcd fsr jn pn nn) ((m_X6_caseOf_st ru fst fro fmo fkd fcd fsr jn pn nn) (2 * pn)) ((m_X6_caseOf_ro ru fst fro fmo fkd fcd fsr jn pn nn) (3 * jn)) 0 s39 s40 (m_X6_caseOf_ro ru fst fro fmo fkd fcd fsr jn pn nn) (m_X6_caseOf_st ru fst fro fmo fkd fcd fsr jn pn nn) fro fst H.size (by first | exact hpb | assumption | omega) (by first | exact hjg | assumption | omega) (by first | exact htx | assumption | omega) (by first | exact hru | assumption | omega)) (cwV 0 hts gX6_heard_X6_laysBack rfl rfl rfl (by decide +kernel) ⟨Nat.le_of_ble_eq_true rfl, Nat.le_of_ble_eq_true rfl⟩) ⟨gPre_blind, va_recv (q := (RX6, TX6, 42)) hK hP (ci := 6) (q0 := 0) rfl rfl, fun U hU hW => gPre_ofF [0, 9, 2, 1] hU hW hK hP hD (by decide +kernel) rfl⟩ rfl rfl hl.1 rfl (lv_room (Nat.le_of_ble_eq_true rfl)) dX6_heard_63 ⟨Nat.le_of_ble_eq_true rfl, Nat.le_of_ble_eq_true rfl⟩) hS hD hA rfl (fun u t H locs ht hvm w_17 hB hz1 hk1 hFq hAq hS => ?_)
    obtain ⟨hP1, hK1, hD1⟩ := hB
    have hz9 : gPD G A [zo6 h0 (nI pb) kd mo st (nI jg) ro tp (nI td) cd sr (nI tx) (nI ru) him ir ih ss sq ce lw s19 s20 s21 s22 wo he s25 s26 s27 sk na kp (m_X6_caseOf ru fst fro fmo fkd fcd fsr jn pn nn) ((m_X6_caseOf_st ru fst fro fmo fkd fcd fsr jn pn nn) (2 * pn)) ((m_X6_caseOf_ro ru fst fro fmo fkd fcd fsr jn pn nn) (3 * jn)) 0 gb go fa ga s39 s40 vo, zi G st 12 fst, zi G ro 12 fro, zi G mo 6 fmo, zi G kd 6 fkd, zi G cd 1200 fcd, zi G sr 24 (nF fsr), zi G sk 200 ysk_13, zi G na 6 yna_14, zi G kp 24 (mKeep fro fst)] H := zFill hP hD [0, 9, 2, 1] [1, 4, 3, 0, 0, 0, 0, 0, 0, 2] hAq hk1 hFq ht hP1 hD1 rfl (by decide +kernel)
    have hP := hz9.1
    have hD := hz9.2
    have q_18 : m_X6_heard_h031 ru fst fro fmo fkd fcd fsr jn pn nn = (m_X6_caseOf ru fst fro fmo fkd fcd fsr jn pn nn) := rfl
    have q_19 : m_X6_heard_h032 ru fst fro fmo fkd fcd fsr jn pn nn = ((m_X6_caseOf_st ru fst fro fmo fkd fcd fsr jn pn nn) (2 * pn)) := rfl
    have q_20 : m_X6_heard_h033 ru fst fro fmo fkd fcd fsr jn pn nn = ((m_X6_caseOf_ro ru fst fro fmo fkd fcd fsr jn pn nn) (3 * jn)) := rfl
    have q_21 : m_X6_heard_h034 ru fst fro fmo fkd fcd fsr jn pn nn = 0 := by unfold m_X6_heard_h034; rw [if_pos c_15]
    have hz9 : gPD G A [zo6 h0 (nI pb) kd mo st (nI jg) ro tp (nI td) cd sr (nI tx) (nI ru) him ir ih ss sq ce lw s19 s20 s21 s22 wo he s25 s26 s27 sk na kp (m_X6_heard_h031 ru fst fro fmo fkd fcd fsr jn pn nn) (m_X6_heard_h032 ru fst fro fmo fkd fcd fsr jn pn nn) (m_X6_heard_h033 ru fst fro fmo fkd fcd fsr jn pn nn) (m_X6_heard_h034 ru fst fro fmo fkd fcd fsr jn pn nn) gb go fa ga s39 s40 vo, zi G st 12 fst, zi G ro 12 fro, zi G mo 6 fmo, zi G kd 6 fkd, zi G cd 1200 fcd, zi G sr 24 (nF fsr), zi G sk 200 ysk_13, zi G na 6 yna_14, zi G kp 24 (mKeep fro fst)] H := ⟨by rw [q_18, q_19, q_20, q_21]; exact hP, by rw [q_18, q_19, q_20, q_21]; exact hD⟩
    have hP9 := hz9.1
    have hD9 := hz9.2
    have hpost : (fun (u : (Nat → Int32) × (Nat → Int32) × (Nat → Int32)) => match u with | (ysk, yna, ykp) => True) (ysk_13, yna_14, mKeep fro fst) := trivial
    exact W.vret hx hb hr (fun t ht hW => ⟨⟨(ysk_13, yna_14, mKeep fro fst), rfl, hpost, by rw [ht]; exact hP9, va_K.moved hW.alike hK, hD9⟩, hS.F ht⟩) hS.2.2 dX6_heard_66
  · skip
    refine lv_iconst (v := 1) hx hb dX6_heard_54 (by decide +kernel) ?_
    refine lv_goto (tgt := 59) hx hb dX6_heard_55 (by decide +kernel) ?_
    refine va_put (D := G.1) (ci := 6) (v := .int 1) (ty := .boolean) (C := RX6) (T := TX6) (N := 42) hx hb hts hiX6 tyX6 tyX6_ok nmX6 hown hK hP hD hS 0 rfl rfl 34 (by decide +kernel) kf214 (fun _ h9 => h9) rfl (by decide +kernel) rfl rfl (Nat.le_of_ble_eq_true rfl) dX6_heard_59 (fun H locs hP hD hS => ?_)
    have hz9 : gPD G A [zo6 h0 (nI pb) kd mo st (nI jg) ro tp (nI td) cd sr (nI tx) (nI ru) him ir ih ss sq ce lw s19 s20 s21 s22 wo he s25 s26 s27 sk na kp (m_X6_caseOf ru fst fro fmo fkd fcd fsr jn pn nn) ((m_X6_caseOf_st ru fst fro fmo fkd fcd fsr jn pn nn) (2 * pn)) ((m_X6_caseOf_ro ru fst fro fmo fkd fcd fsr jn pn nn) (3 * jn)) 1 gb go fa ga s39 s40 vo, zi G st 12 (m_X6_caseOf_st ru fst fro fmo fkd fcd fsr jn pn nn), zi G ro 12 (m_X6_caseOf_ro ru fst fro fmo fkd fcd fsr jn pn nn), zi G mo 6 fmo, zi G kd 6 fkd, zi G cd 1200 fcd, zi G sr 24 (nF fsr), zi G sk 200 ysk_13, zi G na 6 yna_14, zi G kp 24 (mKeep fro fst)] H := ⟨hP, hD⟩
    have hP := hz9.1
    have hD := hz9.2
    refine lv_aload_n hx hb dX6_heard_62 rfl (lv_at hl 0 rfl) ?_
    refine z_callv [0, 9, 2, 1] (va_runV (As := []) (rest := []) ⟨hx, hb, hml, hown, hts⟩ (c_X6_laysBack l G h0 kd mo st ro tp cd sr ir ih ss sq ce lw wo he sk na kp gb go fa ga vo pb jg td tx ru him s19 s20 s21 s22 s25 s26 s27 (m_X6_caseOf ru fst fro fmo fkd fcd fsr jn pn nn) ((m_X6_caseOf_st ru fst fro fmo fkd fcd fsr jn pn nn) (2 * pn)) ((m_X6_caseOf_ro ru fst fro fmo fkd fcd fsr jn pn nn) (3 * jn)) 1 s39 s40 (m_X6_caseOf_ro ru fst fro fmo fkd fcd fsr jn pn nn) (m_X6_caseOf_st ru fst fro fmo fkd fcd fsr jn pn nn) fro fst H.size (by first | exact hpb | assumption | omega) (by first | exact hjg | assumption | omega) (by first | exact htx | assumption | omega) (by first | exact hru | assumption | omega)) (cwV 0 hts gX6_heard_X6_laysBack rfl rfl rfl (by decide +kernel) ⟨Nat.le_of_ble_eq_true rfl, Nat.le_of_ble_eq_true rfl⟩) ⟨gPre_blind, va_recv (q := (RX6, TX6, 42)) hK hP (ci := 6) (q0 := 0) rfl rfl, fun U hU hW => gPre_ofF [0, 9, 2, 1] hU hW hK hP hD (by decide +kernel) rfl⟩ rfl rfl hl.1 rfl (lv_room (Nat.le_of_ble_eq_true rfl)) dX6_heard_63 ⟨Nat.le_of_ble_eq_true rfl, Nat.le_of_ble_eq_true rfl⟩) hS hD hA rfl (fun u t H locs ht hvm w_23 hB hz1 hk1 hFq hAq hS => ?_)
    obtain ⟨hP1, hK1, hD1⟩ := hB
    have hz9 : gPD G A [zo6 h0 (nI pb) kd mo st (nI jg) ro tp (nI td) cd sr (nI tx) (nI ru) him ir ih ss sq ce lw s19 s20 s21 s22 wo he s25 s26 s27 sk na kp (m_X6_caseOf ru fst fro fmo fkd fcd fsr jn pn nn) ((m_X6_caseOf_st ru fst fro fmo fkd fcd fsr jn pn nn) (2 * pn)) ((m_X6_caseOf_ro ru fst fro fmo fkd fcd fsr jn pn nn) (3 * jn)) 1 gb go fa ga s39 s40 vo, zi G st 12 fst, zi G ro 12 fro, zi G mo 6 fmo, zi G kd 6 fkd, zi G cd 1200 fcd, zi G sr 24 (nF fsr), zi G sk 200 ysk_13, zi G na 6 yna_14, zi G kp 24 (mKeep fro fst)] H := zFill hP hD [0, 9, 2, 1] [1, 4, 3, 0, 0, 0, 0, 0, 0, 2] hAq hk1 hFq ht hP1 hD1 rfl (by decide +kernel)
    have hP := hz9.1
    have hD := hz9.2
    have q_24 : m_X6_heard_h031 ru fst fro fmo fkd fcd fsr jn pn nn = (m_X6_caseOf ru fst fro fmo fkd fcd fsr jn pn nn) := rfl
    have q_25 : m_X6_heard_h032 ru fst fro fmo fkd fcd fsr jn pn nn = ((m_X6_caseOf_st ru fst fro fmo fkd fcd fsr jn pn nn) (2 * pn)) := rfl
    have q_26 : m_X6_heard_h033 ru fst fro fmo fkd fcd fsr jn pn nn = ((m_X6_caseOf_ro ru fst fro fmo fkd fcd fsr jn pn nn) (3 * jn)) := rfl
    have q_27 : m_X6_heard_h034 ru fst fro fmo fkd fcd fsr jn pn nn = 1 := by unfold m_X6_heard_h034; rw [if_neg c_15]
    have hz9 : gPD G A [zo6 h0 (nI pb) kd mo st (nI jg) ro tp (nI td) cd sr (nI tx) (nI ru) him ir ih ss sq ce lw s19 s20 s21 s22 wo he s25 s26 s27 sk na kp (m_X6_heard_h031 ru fst fro fmo fkd fcd fsr jn pn nn) (m_X6_heard_h032 ru fst fro fmo fkd fcd fsr jn pn nn) (m_X6_heard_h033 ru fst fro fmo fkd fcd fsr jn pn nn) (m_X6_heard_h034 ru fst fro fmo fkd fcd fsr jn pn nn) gb go fa ga s39 s40 vo, zi G st 12 fst, zi G ro 12 fro, zi G mo 6 fmo, zi G kd 6 fkd, zi G cd 1200 fcd, zi G sr 24 (nF fsr), zi G sk 200 ysk_13, zi G na 6 yna_14, zi G kp 24 (mKeep fro fst)] H := ⟨by rw [q_24, q_25, q_26, q_27]; exact hP, by rw [q_24, q_25, q_26, q_27]; exact hD⟩
    have hP9 := hz9.1
    have hD9 := hz9.2
    have hpost : (fun (u : (Nat → Int32) × (Nat → Int32) × (Nat → Int32)) => match u with | (ysk, yna, ykp) => True) (ysk_13, yna_14, mKeep fro fst) := trivial
    exact W.vret hx hb hr (fun t ht hW => ⟨⟨(ysk_13, yna_14, mKeep fro fst), rfl, hpost, by rw [ht]; exact hP9, va_K.moved hW.alike hK, hD9⟩, hS.F ht⟩) hS.2.2 dX6_heard_66
noncomputable def m_X6_toldCase (s31 : Int32) (s32 : Int32) (s33 : Int32) (s34 : Int32) (v0 : Int32) : Int32 := if v0 = 0 then s31 else (if v0 = 1 then s32 else (if v0 = 2 then (if s34 = 0 then 0 else 1) else s33))
abbrev q_X6_toldCase (G : gG) (h0 kd mo st ro tp cd sr ir ih ss sq ce lw wo he sk na kp gb go fa ga vo : Nat) (pb : Nat) (jg : Nat) (td : Nat) (tx : Nat) (ru : Nat) (him : Int32) (s19 : Int32) (s20 : Int32) (s21 : Int32) (s22 : Int32) (s25 : Int32) (s26 : Int32) (s27 : Int32) (s31 : Int32) (s32 : Int32) (s33 : Int32) (s34 : Int32) (s39 : Int32) (s40 : Int32) (v0 : Int32) (A : Nat → Prop) : Array Value → State → Outcome → State → Prop := va_Qi (fun (r : Int32) (u : Unit) => match u with | _ => r = m_X6_toldCase s31 s32 s33 s34 v0) (fun (u : Unit) t => match u with | _ => va_P G.1 vwCl [zo6 h0 (nI pb) kd mo st (nI jg) ro tp (nI td) cd sr (nI tx) (nI ru) him ir ih ss sq ce lw s19 s20 s21 s22 wo he s25 s26 s27 sk na kp s31 s32 s33 s34 gb go fa ga s39 s40 vo] t.heap ∧ gK G t ∧ va_D A [zo6 h0 (nI pb) kd mo st (nI jg) ro tp (nI td) cd sr (nI tx) (nI ru) him ir ih ss sq ce lw s19 s20 s21 s22 wo he s25 s26 s27 sk na kp s31 s32 s33 s34 gb go fa ga s39 s40 vo]) A
set_option maxHeartbeats 4000000 in
set_option maxRecDepth 100000 in
theorem c_X6_toldCase (l : Launch) (G : gG) (h0 kd mo st ro tp cd sr ir ih ss sq ce lw wo he sk na kp gb go fa ga vo : Nat) (pb : Nat) (jg : Nat) (td : Nat) (tx : Nat) (ru : Nat) (him : Int32) (s19 : Int32) (s20 : Int32) (s21 : Int32) (s22 : Int32) (s25 : Int32) (s26 : Int32) (s27 : Int32) (s31 : Int32) (s32 : Int32) (s33 : Int32) (s34 : Int32) (s39 : Int32) (s40 : Int32) (v0 : Int32) (sz : Nat) (hpb : pb ≤ 6) (hjg : jg ≤ 4) (htx : tx ≤ 6) (hru : ru < tx) : Met l yX6_toldCase wsX6_toldCase ({ frames := 0, cells := 0, slots := 0, locals := 0 }) (gPre G [.ref h0, .int v0] [zo6 h0 (nI pb) kd mo st (nI jg) ro tp (nI td) cd sr (nI tx) (nI ru) him ir ih ss sq ce lw s19 s20 s21 s22 wo he s25 s26 s27 sk na kp s31 s32 s33 s34 gb go fa ga s39 s40 vo] sz) (q_X6_toldCase G h0 kd mo st ro tp cd sr ir ih ss sq ce lw wo he sk na kp gb go fa ga vo pb jg td tx ru him s19 s20 s21 s22 s25 s26 s27 s31 s32 s33 s34 s39 s40 v0 (va_A [zo6 h0 (nI pb) kd mo st (nI jg) ro tp (nI td) cd sr (nI tx) (nI ru) him ir ih ss sq ce lw s19 s20 s21 s22 wo he s25 s26 s27 sk na kp s31 s32 s33 s34 gb go fa ga s39 s40 vo] sz)) 0 0 (va_A [zo6 h0 (nI pb) kd mo st (nI jg) ro tp (nI td) cd sr (nI tx) (nI ru) him ir ih ss sq ce lw s19 s20 s21 s22 wo he s25 s26 s27 sk na kp s31 s32 s33 s34 gb go fa ga s39 s40 vo] sz) := by
  refine Met.ofW (cc := cX6_toldCase) (maxL := 2) (ret := (some .int)) (by decide +kernel) rfl ?_
  intro p e s m args below meth c s₁ B hml hv
  obtain ⟨rfl, hsz, hP, hK, hD0⟩ := hv
  have hx := B.exec
  have hb := B.bytes
  have hr := B.returns
  have hts := atoms_spec (ws := wsX6_toldCase) B.pre
  have hown : s.vm.findClass RX6 = some m.cls := findClass_of_methodNamed B.named
  have hlocks := B.notSynchronized
  subst hsz
  have hD := hD0.self (sz := s.heap.size)
  generalize hAe : va_A [zo6 h0 (nI pb) kd mo st (nI jg) ro tp (nI td) cd sr (nI tx) (nI ru) him ir ih ss sq ce lw s19 s20 s21 s22 wo he s25 s26 s27 sk na kp s31 s32 s33 s34 gb go fa ga s39 s40 vo] s.heap.size = A at hD ⊢
  have hA : ∀ q : Nat, s.heap.size ≤ q → A q := fun q h => by rw [← hAe]; exact Or.inr h
  have hS : va_S A s.heap s.heap [] := va_S.rf
  have hz9 : gPD G A [zo6 h0 (nI pb) kd mo st (nI jg) ro tp (nI td) cd sr (nI tx) (nI ru) him ir ih ss sq ce lw s19 s20 s21 s22 wo he s25 s26 s27 sk na kp s31 s32 s33 s34 gb go fa ga s39 s40 vo] s.heap := ⟨hP, hD⟩
  have hP := hz9.1
  have hD := hz9.2
  have hl := lv_entry ([.ref h0, .int v0]) (n := 2) (Nat.le_of_ble_eq_true rfl)
  rw [lg_entry_eq]
  generalize (lg_sl ([.ref h0, .int v0]) ++ List.replicate (2 - (lg_sl ([.ref h0, .int v0])).length) Slot.unset).toArray = ls at hl ⊢
  have hl : lv_has ls 2 [zR 0 h0, zI 1 v0] := hl
  have kf211 := hts (.fieldLink RX6 211 "PebbleInShoeModel" "caseSoles" "I") (by decide +kernel)
  have hiX6 := (by decide +kernel : ∀ w ∈ wsX60, w ∈ wsX6_toldCase)
  have kf214 := hts (.fieldLink RX6 214 "PebbleInShoeModel" "isGuilty" "Z") (by decide +kernel)
  have kf208 := hts (.fieldLink RX6 208 "PebbleInShoeModel" "caseSize" "I") (by decide +kernel)
  have kf205 := hts (.fieldLink RX6 205 "PebbleInShoeModel" "caseFelt" "I") (by decide +kernel)
  refine lv_iload_n hx hb dX6_toldCase_0 rfl (lv_at hl 1 rfl) ?_
  refine lv_if_ne (tgt := 11) hx hb dX6_toldCase_1 (by decide +kernel) (fun c_1 => ?_) (fun c_1 => ?_)
  · skip
    refine lv_iload_n hx hb dX6_toldCase_11 rfl (lv_at hl 1 rfl) ?_
    refine lv_iconst (v := 1) hx hb dX6_toldCase_12 (by decide +kernel) ?_
    refine lv_icmp_ne (tgt := 23) hx hb dX6_toldCase_13 (by decide +kernel) (fun c_2 => ?_) (fun c_2 => ?_)
    · skip
      refine lv_iload_n hx hb dX6_toldCase_23 rfl (lv_at hl 1 rfl) ?_
      refine lv_iconst (v := 2) hx hb dX6_toldCase_24 (by decide +kernel) ?_
      refine lv_icmp_ne (tgt := 43) hx hb dX6_toldCase_25 (by decide +kernel) (fun c_3 => ?_) (fun c_3 => ?_)
      · skip
        refine g_aget (D := G.1) (ci := 6) (v := .int s33) (C := RX6) (T := TX6) (N := 42) hx hb dX6_toldCase_43 rfl (lv_at hl 0 rfl) hts hiX6 hown hK hP 0 rfl rfl 33 (by decide +kernel) kf211 (fun _ h9 => h9) rfl dX6_toldCase_44 ?_
        have hpost : (fun (r : Int32) (u : Unit) => match u with | _ => r = m_X6_toldCase s31 s32 s33 s34 v0) s33 () := (show m_X6_toldCase s31 s32 s33 s34 v0 = s33 from by unfold m_X6_toldCase; rw [if_neg c_1, if_neg c_2, if_neg c_3]).symm
        exact W.iret (v := s33) hx hb hr (fun t ht hW => ⟨⟨s33, (), rfl, hpost, by rw [ht]; exact hP, va_K.moved hW.alike hK, hD⟩, hS.F ht⟩) hS.2.2 dX6_toldCase_47
      · skip
        refine g_aget (D := G.1) (ci := 6) (v := .int s34) (C := RX6) (T := TX6) (N := 42) hx hb dX6_toldCase_28 rfl (lv_at hl 0 rfl) hts hiX6 hown hK hP 0 rfl rfl 34 (by decide +kernel) kf214 (fun _ h9 => h9) rfl dX6_toldCase_29 ?_
        refine lv_if_eq (tgt := 39) hx hb dX6_toldCase_32 (by decide +kernel) (fun c_4 => ?_) (fun c_4 => ?_)
        · skip
          refine lv_iconst (v := 0) hx hb dX6_toldCase_39 (by decide +kernel) ?_
          refine lv_goto (tgt := 47) hx hb dX6_toldCase_40 (by decide +kernel) ?_
          have hpost : (fun (r : Int32) (u : Unit) => match u with | _ => r = m_X6_toldCase s31 s32 s33 s34 v0) 0 () := (show m_X6_toldCase s31 s32 s33 s34 v0 = 0 from by unfold m_X6_toldCase; rw [if_neg c_1, if_neg c_2, if_pos c_3, if_pos c_4]).symm
          exact W.iret (v := 0) hx hb hr (fun t ht hW => ⟨⟨0, (), rfl, hpost, by rw [ht]; exact hP, va_K.moved hW.alike hK, hD⟩, hS.F ht⟩) hS.2.2 dX6_toldCase_47
        · skip
          refine lv_iconst (v := 1) hx hb dX6_toldCase_35 (by decide +kernel) ?_
          refine lv_goto (tgt := 47) hx hb dX6_toldCase_36 (by decide +kernel) ?_
          have hpost : (fun (r : Int32) (u : Unit) => match u with | _ => r = m_X6_toldCase s31 s32 s33 s34 v0) 1 () := (show m_X6_toldCase s31 s32 s33 s34 v0 = 1 from by unfold m_X6_toldCase; rw [if_neg c_1, if_neg c_2, if_pos c_3, if_neg c_4]).symm
          exact W.iret (v := 1) hx hb hr (fun t ht hW => ⟨⟨1, (), rfl, hpost, by rw [ht]; exact hP, va_K.moved hW.alike hK, hD⟩, hS.F ht⟩) hS.2.2 dX6_toldCase_47
    · skip
      refine g_aget (D := G.1) (ci := 6) (v := .int s32) (C := RX6) (T := TX6) (N := 42) hx hb dX6_toldCase_16 rfl (lv_at hl 0 rfl) hts hiX6 hown hK hP 0 rfl rfl 32 (by decide +kernel) kf208 (fun _ h9 => h9) rfl dX6_toldCase_17 ?_
      refine lv_goto (tgt := 47) hx hb dX6_toldCase_20 (by decide +kernel) ?_
      have hpost : (fun (r : Int32) (u : Unit) => match u with | _ => r = m_X6_toldCase s31 s32 s33 s34 v0) s32 () := (show m_X6_toldCase s31 s32 s33 s34 v0 = s32 from by unfold m_X6_toldCase; rw [if_neg c_1, if_pos c_2]).symm
      exact W.iret (v := s32) hx hb hr (fun t ht hW => ⟨⟨s32, (), rfl, hpost, by rw [ht]; exact hP, va_K.moved hW.alike hK, hD⟩, hS.F ht⟩) hS.2.2 dX6_toldCase_47
  · skip
    refine g_aget (D := G.1) (ci := 6) (v := .int s31) (C := RX6) (T := TX6) (N := 42) hx hb dX6_toldCase_4 rfl (lv_at hl 0 rfl) hts hiX6 hown hK hP 0 rfl rfl 31 (by decide +kernel) kf205 (fun _ h9 => h9) rfl dX6_toldCase_5 ?_
    refine lv_goto (tgt := 47) hx hb dX6_toldCase_8 (by decide +kernel) ?_
    have hpost : (fun (r : Int32) (u : Unit) => match u with | _ => r = m_X6_toldCase s31 s32 s33 s34 v0) s31 () := (show m_X6_toldCase s31 s32 s33 s34 v0 = s31 from by unfold m_X6_toldCase; rw [if_pos c_1]).symm
    exact W.iret (v := s31) hx hb hr (fun t ht hW => ⟨⟨s31, (), rfl, hpost, by rw [ht]; exact hP, va_K.moved hW.alike hK, hD⟩, hS.F ht⟩) hS.2.2 dX6_toldCase_47
noncomputable def p_X6_tellsMiles_12 (ru : Nat) (fmo : Nat → Int32) (fkd : Nat → Int32) (fcd : Nat → Int32) (fsr : Nat → Nat) (jn : Nat) (pn : Nat) : Nat → Nat → Int32 → Int32 → (Nat → Int32) → (Nat → Int32) → (Nat → Int32) → Nat × Int32 × Int32 × (Nat → Int32) × (Nat → Int32) × (Nat → Int32)
  | 0, n6, fe, sa, y12gb, y12ro, y12st => (n6, fe, sa, y12gb, y12ro, y12st)
  | q9 + 1, n6, fe, sa, y12gb, y12ro, y12st => if fe < (m_X6_asksOf ru y12st y12ro fmo fcd fsr 2 jn pn) then (if sa = (-1) then (if (m_X6_isSand y12st fkd fmo pn) = 0 then p_X6_tellsMiles_12 ru fmo fkd fcd fsr jn pn q9 (n6 + 1) (fe + (m_X6_mile ru y12st y12ro fmo fkd fcd fsr jn pn)) sa (upd y12gb n6 0) (m_X6_mile_ro ru y12st y12ro fmo fkd fcd fsr jn pn) (m_X6_mile_st ru y12st y12ro fmo fkd fcd fsr 0 jn pn) else p_X6_tellsMiles_12 ru fmo fkd fcd fsr jn pn q9 (n6 + 1) (fe + (m_X6_mile ru y12st y12ro fmo fkd fcd fsr jn pn)) (nI n6) (upd y12gb n6 0) (m_X6_mile_ro ru y12st y12ro fmo fkd fcd fsr jn pn) (m_X6_mile_st ru y12st y12ro fmo fkd fcd fsr 0 jn pn)) else p_X6_tellsMiles_12 ru fmo fkd fcd fsr jn pn q9 (n6 + 1) (fe + (m_X6_mile ru y12st y12ro fmo fkd fcd fsr jn pn)) sa (upd y12gb n6 0) (m_X6_mile_ro ru y12st y12ro fmo fkd fcd fsr jn pn) (m_X6_mile_st ru y12st y12ro fmo fkd fcd fsr 0 jn pn)) else (if sa = (-1) then (if (m_X6_isSand y12st fkd fmo pn) = 0 then p_X6_tellsMiles_12 ru fmo fkd fcd fsr jn pn q9 (n6 + 1) (fe + (m_X6_mile ru y12st y12ro fmo fkd fcd fsr jn pn)) sa (upd y12gb n6 1) (m_X6_mile_ro ru y12st y12ro fmo fkd fcd fsr jn pn) (m_X6_mile_st ru y12st y12ro fmo fkd fcd fsr 0 jn pn) else p_X6_tellsMiles_12 ru fmo fkd fcd fsr jn pn q9 (n6 + 1) (fe + (m_X6_mile ru y12st y12ro fmo fkd fcd fsr jn pn)) (nI n6) (upd y12gb n6 1) (m_X6_mile_ro ru y12st y12ro fmo fkd fcd fsr jn pn) (m_X6_mile_st ru y12st y12ro fmo fkd fcd fsr 0 jn pn)) else p_X6_tellsMiles_12 ru fmo fkd fcd fsr jn pn q9 (n6 + 1) (fe + (m_X6_mile ru y12st y12ro fmo fkd fcd fsr jn pn)) sa (upd y12gb n6 1) (m_X6_mile_ro ru y12st y12ro fmo fkd fcd fsr jn pn) (m_X6_mile_st ru y12st y12ro fmo fkd fcd fsr 0 jn pn))
noncomputable def g_X6_tellsMiles_12 (ru : Nat) (fst : Nat → Int32) (fro : Nat → Int32) (fmo : Nat → Int32) (fkd : Nat → Int32) (fcd : Nat → Int32) (fsr : Nat → Nat) (fgb : Nat → Int32) (jn : Nat) (pn : Nat) : Nat × Int32 × Int32 × (Nat → Int32) × (Nat → Int32) × (Nat → Int32) := p_X6_tellsMiles_12 ru fmo fkd fcd fsr jn pn (61 - 0) 0 0 (-1) fgb fro fst
noncomputable def m_X6_tellsMiles (ru : Nat) (fst : Nat → Int32) (fro : Nat → Int32) (fmo : Nat → Int32) (fkd : Nat → Int32) (fcd : Nat → Int32) (fsr : Nat → Nat) (fgb : Nat → Int32) (jn : Nat) (pn : Nat) : Int32 := ((g_X6_tellsMiles_12 ru fst fro fmo fkd fcd fsr fgb jn pn).2.2.1)
noncomputable def m_X6_tellsMiles_gb (ru : Nat) (fst : Nat → Int32) (fro : Nat → Int32) (fmo : Nat → Int32) (fkd : Nat → Int32) (fcd : Nat → Int32) (fsr : Nat → Nat) (fgb : Nat → Int32) (jn : Nat) (pn : Nat) : Nat → Int32 := ((g_X6_tellsMiles_12 ru fst fro fmo fkd fcd fsr fgb jn pn).2.2.2.1)
abbrev q_X6_tellsMiles (G : gG) (h0 kd mo st ro tp cd sr ir ih ss sq ce lw wo he sk na kp gb go fa ga vo : Nat) (pb : Nat) (jg : Nat) (td : Nat) (tx : Nat) (ru : Nat) (him : Int32) (s19 : Int32) (s20 : Int32) (s21 : Int32) (s22 : Int32) (s25 : Int32) (s26 : Int32) (s27 : Int32) (s31 : Int32) (s32 : Int32) (s33 : Int32) (s34 : Int32) (s39 : Int32) (s40 : Int32) (fst : Nat → Int32) (fro : Nat → Int32) (fmo : Nat → Int32) (fkd : Nat → Int32) (fcd : Nat → Int32) (fsr : Nat → Nat) (fsk : Nat → Int32) (fna : Nat → Int32) (fkp : Nat → Int32) (fgb : Nat → Int32) (jn : Nat) (pn : Nat) (A : Nat → Prop) : Array Value → State → Outcome → State → Prop := va_Qi (fun (r : Int32) (u : (Nat → Int32) × (Nat → Int32) × (Nat → Int32)) => match u with | (ysk, yna, ykp) => r = m_X6_tellsMiles ru fst fro fmo fkd fcd fsr fgb jn pn) (fun (u : (Nat → Int32) × (Nat → Int32) × (Nat → Int32)) t => match u with | (ysk, yna, ykp) => va_P G.1 vwCl [zo6 h0 (nI pb) kd mo st (nI jg) ro tp (nI td) cd sr (nI tx) (nI ru) him ir ih ss sq ce lw s19 s20 s21 s22 wo he s25 s26 s27 sk na kp s31 s32 s33 s34 gb go fa ga s39 s40 vo, zi G st 12 fst, zi G ro 12 fro, zi G mo 6 fmo, zi G kd 6 fkd, zi G cd 1200 fcd, zi G sr 24 (nF fsr), zi G sk 200 ysk, zi G na 6 yna, zi G kp 24 ykp, zb G gb 61 (m_X6_tellsMiles_gb ru fst fro fmo fkd fcd fsr fgb jn pn)] t.heap ∧ gK G t ∧ va_D A [zo6 h0 (nI pb) kd mo st (nI jg) ro tp (nI td) cd sr (nI tx) (nI ru) him ir ih ss sq ce lw s19 s20 s21 s22 wo he s25 s26 s27 sk na kp s31 s32 s33 s34 gb go fa ga s39 s40 vo, zi G st 12 fst, zi G ro 12 fro, zi G mo 6 fmo, zi G kd 6 fkd, zi G cd 1200 fcd, zi G sr 24 (nF fsr), zi G sk 200 ysk, zi G na 6 yna, zi G kp 24 ykp, zb G gb 61 (m_X6_tellsMiles_gb ru fst fro fmo fkd fcd fsr fgb jn pn)]) A
set_option maxHeartbeats 4000000 in
set_option maxRecDepth 100000 in
theorem c_X6_tellsMiles (l : Launch) (G : gG) (h0 kd mo st ro tp cd sr ir ih ss sq ce lw wo he sk na kp gb go fa ga vo : Nat) (pb : Nat) (jg : Nat) (td : Nat) (tx : Nat) (ru : Nat) (him : Int32) (s19 : Int32) (s20 : Int32) (s21 : Int32) (s22 : Int32) (s25 : Int32) (s26 : Int32) (s27 : Int32) (s31 : Int32) (s32 : Int32) (s33 : Int32) (s34 : Int32) (s39 : Int32) (s40 : Int32) (fst : Nat → Int32) (fro : Nat → Int32) (fmo : Nat → Int32) (fkd : Nat → Int32) (fcd : Nat → Int32) (fsr : Nat → Nat) (fsk : Nat → Int32) (fna : Nat → Int32) (fkp : Nat → Int32) (fgb : Nat → Int32) (jn : Nat) (pn : Nat) (sz : Nat) (hj : jn < 4) (hp : pn < 6) (hwf : mWf fcd fsr ru) (hpb : pb ≤ 6) (hjg : jg ≤ 4) (htx : tx ≤ 6) (hru : ru < tx) : Met l yX6_tellsMiles wsX6_tellsMiles ({ frames := 5, cells := 0, slots := 0, locals := 120 }) (gPre G [.ref h0, .int (nI jn), .int (nI pn)] [zo6 h0 (nI pb) kd mo st (nI jg) ro tp (nI td) cd sr (nI tx) (nI ru) him ir ih ss sq ce lw s19 s20 s21 s22 wo he s25 s26 s27 sk na kp s31 s32 s33 s34 gb go fa ga s39 s40 vo, zi G st 12 fst, zi G ro 12 fro, zi G mo 6 fmo, zi G kd 6 fkd, zi G cd 1200 fcd, zi G sr 24 (nF fsr), zi G sk 200 fsk, zi G na 6 fna, zi G kp 24 fkp, zb G gb 61 fgb] sz) (q_X6_tellsMiles G h0 kd mo st ro tp cd sr ir ih ss sq ce lw wo he sk na kp gb go fa ga vo pb jg td tx ru him s19 s20 s21 s22 s25 s26 s27 s31 s32 s33 s34 s39 s40 fst fro fmo fkd fcd fsr fsk fna fkp fgb jn pn (va_A [zo6 h0 (nI pb) kd mo st (nI jg) ro tp (nI td) cd sr (nI tx) (nI ru) him ir ih ss sq ce lw s19 s20 s21 s22 wo he s25 s26 s27 sk na kp s31 s32 s33 s34 gb go fa ga s39 s40 vo, zi G st 12 fst, zi G ro 12 fro, zi G mo 6 fmo, zi G kd 6 fkd, zi G cd 1200 fcd, zi G sr 24 (nF fsr), zi G sk 200 fsk, zi G na 6 fna, zi G kp 24 fkp, zb G gb 61 fgb] sz)) 0 0 (va_A [zo6 h0 (nI pb) kd mo st (nI jg) ro tp (nI td) cd sr (nI tx) (nI ru) him ir ih ss sq ce lw s19 s20 s21 s22 wo he s25 s26 s27 sk na kp s31 s32 s33 s34 gb go fa ga s39 s40 vo, zi G st 12 fst, zi G ro 12 fro, zi G mo 6 fmo, zi G kd 6 fkd, zi G cd 1200 fcd, zi G sr 24 (nF fsr), zi G sk 200 fsk, zi G na 6 fna, zi G kp 24 fkp, zb G gb 61 fgb] sz) := by
  refine Met.ofW (cc := cX6_tellsMiles) (maxL := 6) (ret := (some .int)) (by decide +kernel) rfl ?_
  intro p e s m args below meth c s₁ B hml hv
  obtain ⟨rfl, hsz, hP, hK, hD0⟩ := hv
  have hx := B.exec
  have hb := B.bytes
  have hr := B.returns
  have hts := atoms_spec (ws := wsX6_tellsMiles) B.pre
  have hown : s.vm.findClass RX6 = some m.cls := findClass_of_methodNamed B.named
  have hlocks := B.notSynchronized
  subst hsz
  have hD := hD0.self (sz := s.heap.size)
  generalize hAe : va_A [zo6 h0 (nI pb) kd mo st (nI jg) ro tp (nI td) cd sr (nI tx) (nI ru) him ir ih ss sq ce lw s19 s20 s21 s22 wo he s25 s26 s27 sk na kp s31 s32 s33 s34 gb go fa ga s39 s40 vo, zi G st 12 fst, zi G ro 12 fro, zi G mo 6 fmo, zi G kd 6 fkd, zi G cd 1200 fcd, zi G sr 24 (nF fsr), zi G sk 200 fsk, zi G na 6 fna, zi G kp 24 fkp, zb G gb 61 fgb] s.heap.size = A at hD ⊢
  have hA : ∀ q : Nat, s.heap.size ≤ q → A q := fun q h => by rw [← hAe]; exact Or.inr h
  have hS : va_S A s.heap s.heap [] := va_S.rf
  have hz9 : gPD G A [zo6 h0 (nI pb) kd mo st (nI jg) ro tp (nI td) cd sr (nI tx) (nI ru) him ir ih ss sq ce lw s19 s20 s21 s22 wo he s25 s26 s27 sk na kp s31 s32 s33 s34 gb go fa ga s39 s40 vo, zi G st 12 fst, zi G ro 12 fro, zi G mo 6 fmo, zi G kd 6 fkd, zi G cd 1200 fcd, zi G sr 24 (nF fsr), zi G sk 200 fsk, zi G na 6 fna, zi G kp 24 fkp, zb G gb 61 fgb] s.heap := ⟨hP, hD⟩
  have hP := hz9.1
  have hD := hz9.2
  have hl := lv_entry ([.ref h0, .int (nI jn), .int (nI pn)]) (n := 6) (Nat.le_of_ble_eq_true rfl)
  rw [lg_entry_eq]
  generalize (lg_sl ([.ref h0, .int (nI jn), .int (nI pn)]) ++ List.replicate (6 - (lg_sl ([.ref h0, .int (nI jn), .int (nI pn)])).length) Slot.unset).toArray = ls at hl ⊢
  have hl : lv_has ls 6 [zR 0 h0, zI 1 (nI jn), zI 2 (nI pn)] := hl
  have kf64 := hts (.fieldLink RX6 64 "PebbleInShoeModel" "guiltyBy" "[Z") (by decide +kernel)
  have hiX6 := (by decide +kernel : ∀ w ∈ wsX60, w ∈ wsX6_tellsMiles)
  refine lv_iconst (v := 0) hx hb dX6_tellsMiles_0 (by decide +kernel) ?_
  refine lv_istore_n (lv' := [zI 3 0, zR 0 h0, zI 1 (nI jn), zI 2 (nI pn)]) hx hb dX6_tellsMiles_1 rfl hl (by decide +kernel) rfl (fun ls hl => ?_)
  refine lv_iconst (v := -1) hx hb dX6_tellsMiles_2 (by decide +kernel) ?_
  refine lv_istore (lv' := [zI 4 (-1), zI 3 0, zR 0 h0, zI 1 (nI jn), zI 2 (nI pn)]) hx hb dX6_tellsMiles_3 hl (by decide +kernel) rfl (fun ls hl => ?_)
  refine lv_aload_n hx hb dX6_tellsMiles_5 rfl (lv_at hl 2 rfl) ?_
  refine z_callv [0, 9, 2, 1] (va_runV (As := []) (rest := []) ⟨hx, hb, hml, hown, hts⟩ (c_X6_keeps l G h0 kd mo st ro tp cd sr ir ih ss sq ce lw wo he sk na kp gb go fa ga vo pb jg td tx ru him s19 s20 s21 s22 s25 s26 s27 s31 s32 s33 s34 s39 s40 fkp fro fst s.heap.size (by first | exact hpb | assumption | omega) (by first | exact hjg | assumption | omega) (by first | exact htx | assumption | omega) (by first | exact hru | assumption | omega)) (cwV 0 hts gX6_tellsMiles_X6_keeps rfl rfl rfl (by decide +kernel) ⟨Nat.le_of_ble_eq_true rfl, Nat.le_of_ble_eq_true rfl⟩) ⟨gPre_blind, va_recv (q := (RX6, TX6, 42)) hK hP (ci := 6) (q0 := 0) rfl rfl, fun U hU hW => gPre_ofF [0, 9, 2, 1] hU hW hK hP hD (by decide +kernel) rfl⟩ rfl rfl hl.1 rfl (lv_room (Nat.le_of_ble_eq_true rfl)) dX6_tellsMiles_6 ⟨Nat.le_of_ble_eq_true rfl, Nat.le_of_ble_eq_true rfl⟩) hS hD hA rfl (fun u t H locs ht hvm w_2 hB hz1 hk1 hFq hAq hS => ?_)
  obtain ⟨hP1, hK1, hD1⟩ := hB
  have hz9 : gPD G A [zo6 h0 (nI pb) kd mo st (nI jg) ro tp (nI td) cd sr (nI tx) (nI ru) him ir ih ss sq ce lw s19 s20 s21 s22 wo he s25 s26 s27 sk na kp s31 s32 s33 s34 gb go fa ga s39 s40 vo, zi G st 12 fst, zi G ro 12 fro, zi G mo 6 fmo, zi G kd 6 fkd, zi G cd 1200 fcd, zi G sr 24 (nF fsr), zi G sk 200 fsk, zi G na 6 fna, zi G kp 24 (mKeep fro fst), zb G gb 61 fgb] H := zFill hP hD [0, 9, 2, 1] [1, 4, 3, 0, 0, 0, 0, 0, 0, 2] hAq hk1 hFq ht hP1 hD1 rfl (by decide +kernel)
  have hP := hz9.1
  have hD := hz9.2
  refine lv_iconst (v := 0) hx hb dX6_tellsMiles_9 (by decide +kernel) ?_
  refine lv_istore (lv' := [zI 5 0, zI 4 (-1), zI 3 0, zR 0 h0, zI 1 (nI jn), zI 2 (nI pn)]) hx hb dX6_tellsMiles_10 hl (by decide +kernel) rfl (fun ls hl => ?_)
  have loop_12 : ∀ (n9 : Nat) (n6 : Nat) (fe : Int32) (sa : Int32) (y12gb : Nat → Int32) (y12ro : Nat → Int32) (y12st : Nat → Int32) (x12sk : Nat → Int32) (x12na : Nat → Int32), (n6 ≤ 61) → (p_X6_tellsMiles_12 ru fmo fkd fcd fsr jn pn (61 - n6) n6 fe sa y12gb y12ro y12st = (g_X6_tellsMiles_12 ru fst fro fmo fkd fcd fsr fgb jn pn)) → (61 - n6) < n9 → ∀ (H : Heap) (locs : List Loc), va_P G.1 vwCl [zo6 h0 (nI pb) kd mo st (nI jg) ro tp (nI td) cd sr (nI tx) (nI ru) him ir ih ss sq ce lw s19 s20 s21 s22 wo he s25 s26 s27 sk na kp s31 s32 s33 s34 gb go fa ga s39 s40 vo, zi G st 12 y12st, zi G ro 12 y12ro, zi G mo 6 fmo, zi G kd 6 fkd, zi G cd 1200 fcd, zi G sr 24 (nF fsr), zi G sk 200 x12sk, zi G na 6 x12na, zi G kp 24 (mKeep fro fst), zb G gb 61 y12gb] H → va_D A [zo6 h0 (nI pb) kd mo st (nI jg) ro tp (nI td) cd sr (nI tx) (nI ru) him ir ih ss sq ce lw s19 s20 s21 s22 wo he s25 s26 s27 sk na kp s31 s32 s33 s34 gb go fa ga s39 s40 vo, zi G st 12 y12st, zi G ro 12 y12ro, zi G mo 6 fmo, zi G kd 6 fkd, zi G cd 1200 fcd, zi G sr 24 (nF fsr), zi G sk 200 x12sk, zi G na 6 x12na, zi G kp 24 (mKeep fro fst), zb G gb 61 y12gb] → va_S A s.heap H locs → ∀ ls : Array Slot, lv_has ls 6 [zI 5 (nI n6), zI 4 sa, zI 3 fe, zR 0 h0, zI 1 (nI jn), zI 2 (nI pn)] → W p l e (headSpec wsX6_tellsMiles ({ frames := 5, cells := 0, slots := 0, locals := 120 })).room s m ([.ref h0, .int (nI jn), .int (nI pn)] : List Value).toArray below meth c H locs 0 0 (MQ below (q_X6_tellsMiles G h0 kd mo st ro tp cd sr ir ih ss sq ce lw wo he sk na kp gb go fa ga vo pb jg td tx ru him s19 s20 s21 s22 s25 s26 s27 s31 s32 s33 s34 s39 s40 fst fro fmo fkd fcd fsr fsk fna fkp fgb jn pn A) ([.ref h0, .int (nI jn), .int (nI pn)] : List Value).toArray s 0 0 A) (F0 m 12 ls []) := by
    intro n9
    induction n9 with
    | zero => intro n6 fe sa y12gb y12ro y12st x12sk x12na hn6 R12 hm9_12; exact absurd hm9_12 (Nat.not_lt_zero _)
    | succ n9 ih9_12 =>
      intro n6 fe sa y12gb y12ro y12st x12sk x12na hn6 R12 hm9_12 H locs hP hD hS ls hl
      refine lv_iload hx hb dX6_tellsMiles_12 (lv_at hl 0 rfl) ?_
      refine lv_bipush (v := 60) hx hb dX6_tellsMiles_14 (by decide +kernel) ?_
      refine lv_icmp_gt (tgt := 81) hx hb dX6_tellsMiles_16 (by decide +kernel) (fun c_3 => ?_) (fun c_3 => ?_)
      · skip
        have c_3N : 60 < n6 := nI_lt1 (a := 60) (b := n6) (by omega) (by omega) c_3
        have hF12 : (g_X6_tellsMiles_12 ru fst fro fmo fkd fcd fsr fgb jn pn) = (n6, fe, sa, y12gb, y12ro, y12st) := by rw [← R12, show 61 - n6 = 0 by omega]; rfl
        have hE12_0 : n6 = ((g_X6_tellsMiles_12 ru fst fro fmo fkd fcd fsr fgb jn pn).1) := by rw [hF12]
        have hE12_1 : fe = ((g_X6_tellsMiles_12 ru fst fro fmo fkd fcd fsr fgb jn pn).2.1) := by rw [hF12]
        have hE12_2 : sa = ((g_X6_tellsMiles_12 ru fst fro fmo fkd fcd fsr fgb jn pn).2.2.1) := by rw [hF12]
        have hE12_3 : y12gb = ((g_X6_tellsMiles_12 ru fst fro fmo fkd fcd fsr fgb jn pn).2.2.2.1) := by rw [hF12]
        have hE12_4 : y12ro = ((g_X6_tellsMiles_12 ru fst fro fmo fkd fcd fsr fgb jn pn).2.2.2.2.1) := by rw [hF12]
        have hE12_5 : y12st = ((g_X6_tellsMiles_12 ru fst fro fmo fkd fcd fsr fgb jn pn).2.2.2.2.2) := by rw [hF12]
        clear hF12 R12
        subst hE12_0
        subst hE12_1
        subst hE12_2
        subst hE12_3
        subst hE12_4
        subst hE12_5
        refine lv_aload_n hx hb dX6_tellsMiles_81 rfl (lv_at hl 3 rfl) ?_
        refine z_callv [0, 9, 2, 1] (va_runV (As := []) (rest := []) ⟨hx, hb, hml, hown, hts⟩ (c_X6_laysBack l G h0 kd mo st ro tp cd sr ir ih ss sq ce lw wo he sk na kp gb go fa ga vo pb jg td tx ru him s19 s20 s21 s22 s25 s26 s27 s31 s32 s33 s34 s39 s40 ((g_X6_tellsMiles_12 ru fst fro fmo fkd fcd fsr fgb jn pn).2.2.2.2.1) ((g_X6_tellsMiles_12 ru fst fro fmo fkd fcd fsr fgb jn pn).2.2.2.2.2) fro fst H.size (by first | exact hpb | assumption | omega) (by first | exact hjg | assumption | omega) (by first | exact htx | assumption | omega) (by first | exact hru | assumption | omega)) (cwV 0 hts gX6_tellsMiles_X6_laysBack rfl rfl rfl (by decide +kernel) ⟨Nat.le_of_ble_eq_true rfl, Nat.le_of_ble_eq_true rfl⟩) ⟨gPre_blind, va_recv (q := (RX6, TX6, 42)) hK hP (ci := 6) (q0 := 0) rfl rfl, fun U hU hW => gPre_ofF [0, 9, 2, 1] hU hW hK hP hD (by decide +kernel) rfl⟩ rfl rfl hl.1 rfl (lv_room (Nat.le_of_ble_eq_true rfl)) dX6_tellsMiles_82 ⟨Nat.le_of_ble_eq_true rfl, Nat.le_of_ble_eq_true rfl⟩) hS hD hA rfl (fun u t H locs ht hvm w_5 hB hz1 hk1 hFq hAq hS => ?_)
        obtain ⟨hP1, hK1, hD1⟩ := hB
        have hz9 : gPD G A [zo6 h0 (nI pb) kd mo st (nI jg) ro tp (nI td) cd sr (nI tx) (nI ru) him ir ih ss sq ce lw s19 s20 s21 s22 wo he s25 s26 s27 sk na kp s31 s32 s33 s34 gb go fa ga s39 s40 vo, zi G st 12 fst, zi G ro 12 fro, zi G mo 6 fmo, zi G kd 6 fkd, zi G cd 1200 fcd, zi G sr 24 (nF fsr), zi G sk 200 x12sk, zi G na 6 x12na, zi G kp 24 (mKeep fro fst), zb G gb 61 ((g_X6_tellsMiles_12 ru fst fro fmo fkd fcd fsr fgb jn pn).2.2.2.1)] H := zFill hP hD [0, 9, 2, 1] [1, 4, 3, 0, 0, 0, 0, 0, 0, 2] hAq hk1 hFq ht hP1 hD1 rfl (by decide +kernel)
        have hP := hz9.1
        have hD := hz9.2
        refine lv_iload hx hb dX6_tellsMiles_85 (lv_at hl 1 rfl) ?_
        have q_6 : m_X6_tellsMiles_gb ru fst fro fmo fkd fcd fsr fgb jn pn = ((g_X6_tellsMiles_12 ru fst fro fmo fkd fcd fsr fgb jn pn).2.2.2.1) := rfl
        have hz9 : gPD G A [zo6 h0 (nI pb) kd mo st (nI jg) ro tp (nI td) cd sr (nI tx) (nI ru) him ir ih ss sq ce lw s19 s20 s21 s22 wo he s25 s26 s27 sk na kp s31 s32 s33 s34 gb go fa ga s39 s40 vo, zi G st 12 fst, zi G ro 12 fro, zi G mo 6 fmo, zi G kd 6 fkd, zi G cd 1200 fcd, zi G sr 24 (nF fsr), zi G sk 200 x12sk, zi G na 6 x12na, zi G kp 24 (mKeep fro fst), zb G gb 61 (m_X6_tellsMiles_gb ru fst fro fmo fkd fcd fsr fgb jn pn)] H := ⟨by rw [q_6]; exact hP, by rw [q_6]; exact hD⟩
        have hP9 := hz9.1
        have hD9 := hz9.2
        have hpost : (fun (r : Int32) (u : (Nat → Int32) × (Nat → Int32) × (Nat → Int32)) => match u with | (ysk, yna, ykp) => r = m_X6_tellsMiles ru fst fro fmo fkd fcd fsr fgb jn pn) ((g_X6_tellsMiles_12 ru fst fro fmo fkd fcd fsr fgb jn pn).2.2.1) (x12sk, x12na, mKeep fro fst) := (show m_X6_tellsMiles ru fst fro fmo fkd fcd fsr fgb jn pn = ((g_X6_tellsMiles_12 ru fst fro fmo fkd fcd fsr fgb jn pn).2.2.1) from rfl).symm
        exact W.iret (v := ((g_X6_tellsMiles_12 ru fst fro fmo fkd fcd fsr fgb jn pn).2.2.1)) hx hb hr (fun t ht hW => ⟨⟨((g_X6_tellsMiles_12 ru fst fro fmo fkd fcd fsr fgb jn pn).2.2.1), (x12sk, x12na, mKeep fro fst), rfl, hpost, by rw [ht]; exact hP9, va_K.moved hW.alike hK, hD9⟩, hS.F ht⟩) hS.2.2 dX6_tellsMiles_87
      · skip
        have c_3N : n6 ≤ 60 := nI_lt0 (a := 60) (b := n6) (by omega) (by omega) c_3
        refine g_aget (D := G.1) (ci := 6) (v := .ref gb) (C := RX6) (T := TX6) (N := 42) hx hb dX6_tellsMiles_19 rfl (lv_at hl 3 rfl) hts hiX6 hown hK hP 0 rfl rfl 35 (by decide +kernel) kf64 (fun _ h9 => h9) rfl dX6_tellsMiles_20 ?_
        refine lv_iload hx hb dX6_tellsMiles_23 (lv_at hl 0 rfl) ?_
        refine lv_iload_n hx hb dX6_tellsMiles_25 rfl (lv_at hl 2 rfl) ?_
        refine lv_aload_n hx hb dX6_tellsMiles_26 rfl (lv_at hl 3 rfl) ?_
        refine lv_iconst (v := 2) hx hb dX6_tellsMiles_27 (by decide +kernel) ?_
        refine lv_iload_n hx hb dX6_tellsMiles_28 rfl (lv_at hl 4 rfl) ?_
        refine lv_iload_n hx hb dX6_tellsMiles_29 rfl (lv_at hl 5 rfl) ?_
        refine z_calli [0, 1, 2, 3, 5, 6, 7, 8] (v := m_X6_asksOf ru y12st y12ro fmo fcd fsr 2 jn pn) (fun _ ⟨_, _⟩ h => h) (va_runV (As := [.int 2, .int (nI jn), .int (nI pn)]) (rest := [.int fe, .int (nI n6), .ref gb]) ⟨hx, hb, hml, hown, hts⟩ (c_X6_asksOf l G h0 kd mo st ro tp cd sr ir ih ss sq ce lw wo he sk na kp gb go fa ga vo pb jg td tx ru him s19 s20 s21 s22 s25 s26 s27 s31 s32 s33 s34 s39 s40 y12st y12ro fmo fcd fsr x12sk x12na 2 jn pn H.size (by omega) (by first | exact hj | assumption | omega) (by first | exact hp | assumption | omega) (by first | exact hwf | assumption | omega) (by first | exact hpb | assumption | omega) (by first | exact hjg | assumption | omega) (by first | exact htx | assumption | omega) (by first | exact hru | assumption | omega)) (cwV 3 hts gX6_tellsMiles_X6_asksOf rfl rfl rfl (by decide +kernel) ⟨Nat.le_of_ble_eq_true rfl, Nat.le_of_ble_eq_true rfl⟩) ⟨gPre_blind, va_recv (q := (RX6, TX6, 42)) hK hP (ci := 6) (q0 := 0) rfl rfl, fun U hU hW => gPre_ofF [0, 1, 2, 3, 5, 6, 7, 8] hU hW hK hP hD (by decide +kernel) rfl⟩ rfl rfl hl.1 rfl (lv_room (Nat.le_of_ble_eq_true rfl)) dX6_tellsMiles_30 ⟨Nat.le_of_ble_eq_true rfl, Nat.le_of_ble_eq_true rfl⟩) hS hD hA rfl (fun u t H locs ht hvm hB hz1 hk1 hFq hAq hS => ?_)
        obtain ⟨ysk_9, yna_10⟩ := u
        obtain ⟨hP1, hK1, hD1⟩ := hB
        have hz9 : gPD G A [zo6 h0 (nI pb) kd mo st (nI jg) ro tp (nI td) cd sr (nI tx) (nI ru) him ir ih ss sq ce lw s19 s20 s21 s22 wo he s25 s26 s27 sk na kp s31 s32 s33 s34 gb go fa ga s39 s40 vo, zi G st 12 y12st, zi G ro 12 y12ro, zi G mo 6 fmo, zi G kd 6 fkd, zi G cd 1200 fcd, zi G sr 24 (nF fsr), zi G sk 200 ysk_9, zi G na 6 yna_10, zi G kp 24 (mKeep fro fst), zb G gb 61 y12gb] H := zFill hP hD [0, 1, 2, 3, 5, 6, 7, 8] [1, 2, 3, 4, 0, 5, 6, 7, 8] hAq hk1 hFq ht hP1 hD1 rfl (by decide +kernel)
        have hP := hz9.1
        have hD := hz9.2
        refine lv_icmp_lt (tgt := 40) hx hb dX6_tellsMiles_33 (by decide +kernel) (fun c_11 => ?_) (fun c_11 => ?_)
        · skip
          refine lv_iconst (v := 0) hx hb dX6_tellsMiles_40 (by decide +kernel) ?_
          refine va_zast (D := G.1) hx hb hK hP hD hS 10 1 rfl rfl (i := (nI n6)) (x := 0) (vpn (by omega) rfl) dX6_tellsMiles_41 (fun H locs hP hD hS => ?_)
          have hz9 : gPD G A [zo6 h0 (nI pb) kd mo st (nI jg) ro tp (nI td) cd sr (nI tx) (nI ru) him ir ih ss sq ce lw s19 s20 s21 s22 wo he s25 s26 s27 sk na kp s31 s32 s33 s34 gb go fa ga s39 s40 vo, zi G st 12 y12st, zi G ro 12 y12ro, zi G mo 6 fmo, zi G kd 6 fkd, zi G cd 1200 fcd, zi G sr 24 (nF fsr), zi G sk 200 ysk_9, zi G na 6 yna_10, zi G kp 24 (mKeep fro fst), zb G gb 61 (upd y12gb n6 0)] H := ⟨by rw [nI_clamp (by omega)] at hP; exact hP, by rw [nI_clamp (by omega)] at hD; exact hD⟩
          have hP := hz9.1
          have hD := hz9.2
          refine lv_iload hx hb dX6_tellsMiles_42 (lv_at hl 1 rfl) ?_
          refine lv_iconst (v := -1) hx hb dX6_tellsMiles_44 (by decide +kernel) ?_
          refine lv_icmp_ne (tgt := 61) hx hb dX6_tellsMiles_45 (by decide +kernel) (fun c_12 => ?_) (fun c_12 => ?_)
          · skip
            refine lv_iload hx hb dX6_tellsMiles_61 (lv_at hl 1 rfl) ?_
            refine lv_istore (lv' := [zI 4 sa, zI 5 (nI n6), zI 3 fe, zR 0 h0, zI 1 (nI jn), zI 2 (nI pn)]) hx hb dX6_tellsMiles_63 hl (by decide +kernel) rfl (fun ls hl => ?_)
            refine lv_iload_n hx hb dX6_tellsMiles_65 rfl (lv_at hl 2 rfl) ?_
            refine lv_aload_n hx hb dX6_tellsMiles_66 rfl (lv_at hl 3 rfl) ?_
            refine lv_iload_n hx hb dX6_tellsMiles_67 rfl (lv_at hl 4 rfl) ?_
            refine lv_iload_n hx hb dX6_tellsMiles_68 rfl (lv_at hl 5 rfl) ?_
            refine lv_iconst (v := 0) hx hb dX6_tellsMiles_69 (by decide +kernel) ?_
            refine z_calli [0, 1, 2, 3, 4, 5, 6, 7, 8] (v := m_X6_mile ru y12st y12ro fmo fkd fcd fsr jn pn) (fun _ ⟨_, _⟩ h => h) (va_runV (As := [.int (nI jn), .int (nI pn), .int 0]) (rest := [.int fe]) ⟨hx, hb, hml, hown, hts⟩ (c_X6_mile l G h0 kd mo st ro tp cd sr ir ih ss sq ce lw wo he sk na kp gb go fa ga vo pb jg td tx ru him s19 s20 s21 s22 s25 s26 s27 s31 s32 s33 s34 s39 s40 y12st y12ro fmo fkd fcd fsr ysk_9 yna_10 0 jn pn H.size (by first | exact hj | assumption | omega) (by first | exact hp | assumption | omega) (by first | exact hwf | assumption | omega) (by first | exact hpb | assumption | omega) (by first | exact hjg | assumption | omega) (by first | exact htx | assumption | omega) (by first | exact hru | assumption | omega)) (cwV 3 hts gX6_tellsMiles_X6_mile rfl rfl rfl (by decide +kernel) ⟨Nat.le_of_ble_eq_true rfl, Nat.le_of_ble_eq_true rfl⟩) ⟨gPre_blind, va_recv (q := (RX6, TX6, 42)) hK hP (ci := 6) (q0 := 0) rfl rfl, fun U hU hW => gPre_ofF [0, 1, 2, 3, 4, 5, 6, 7, 8] hU hW hK hP hD (by decide +kernel) rfl⟩ rfl rfl hl.1 rfl (lv_room (Nat.le_of_ble_eq_true rfl)) dX6_tellsMiles_70 ⟨Nat.le_of_ble_eq_true rfl, Nat.le_of_ble_eq_true rfl⟩) hS hD hA rfl (fun u t H locs ht hvm hB hz1 hk1 hFq hAq hS => ?_)
            obtain ⟨ysk_15, yna_16⟩ := u
            obtain ⟨hP1, hK1, hD1⟩ := hB
            have hz9 : gPD G A [zo6 h0 (nI pb) kd mo st (nI jg) ro tp (nI td) cd sr (nI tx) (nI ru) him ir ih ss sq ce lw s19 s20 s21 s22 wo he s25 s26 s27 sk na kp s31 s32 s33 s34 gb go fa ga s39 s40 vo, zi G st 12 (m_X6_mile_st ru y12st y12ro fmo fkd fcd fsr 0 jn pn), zi G ro 12 (m_X6_mile_ro ru y12st y12ro fmo fkd fcd fsr jn pn), zi G mo 6 fmo, zi G kd 6 fkd, zi G cd 1200 fcd, zi G sr 24 (nF fsr), zi G sk 200 ysk_15, zi G na 6 yna_16, zi G kp 24 (mKeep fro fst), zb G gb 61 (upd y12gb n6 0)] H := zFill hP hD [0, 1, 2, 3, 4, 5, 6, 7, 8] [1, 2, 3, 4, 5, 6, 7, 8, 9] hAq hk1 hFq ht hP1 hD1 rfl (by decide +kernel)
            have hP := hz9.1
            have hD := hz9.2
            refine lv_iadd hx hb dX6_tellsMiles_73 ?_
            refine lv_istore_n (lv' := [zI 3 (fe + (m_X6_mile ru y12st y12ro fmo fkd fcd fsr jn pn)), zI 4 sa, zI 5 (nI n6), zR 0 h0, zI 1 (nI jn), zI 2 (nI pn)]) hx hb dX6_tellsMiles_74 rfl hl (by decide +kernel) rfl (fun ls hl => ?_)
            refine lv_iinc (v := nI (n6 + 1)) (lv' := [zI 5 (nI (n6 + 1)), zI 3 (fe + (m_X6_mile ru y12st y12ro fmo fkd fcd fsr jn pn)), zI 4 sa, zR 0 h0, zI 1 (nI jn), zI 2 (nI pn)]) hx hb dX6_tellsMiles_75 hl (k := 2) rfl (nI_add n6 1) (by decide +kernel) rfl (fun ls hl => ?_)
            refine lv_goto (tgt := 12) hx hb dX6_tellsMiles_78 (by decide +kernel) ?_
            exact ih9_12 (n6 + 1) (fe + (m_X6_mile ru y12st y12ro fmo fkd fcd fsr jn pn)) sa (upd y12gb n6 0) (m_X6_mile_ro ru y12st y12ro fmo fkd fcd fsr jn pn) (m_X6_mile_st ru y12st y12ro fmo fkd fcd fsr 0 jn pn) ysk_15 yna_16 (by omega) (Eq.trans (Eq.symm ((congrArg (fun z9 => p_X6_tellsMiles_12 ru fmo fkd fcd fsr jn pn (z9) n6 fe sa y12gb y12ro y12st) (show 61 - n6 = 61 - (n6 + 1) + 1 by omega)).trans (by show p_X6_tellsMiles_12 ru fmo fkd fcd fsr jn pn (61 - (n6 + 1) + 1) n6 fe sa y12gb y12ro y12st = _; rw [p_X6_tellsMiles_12, if_pos c_11, if_neg c_12]))) R12) (by omega) _ _ hP hD hS ls (lv_sub hl [0, 2, 1, 3, 4, 5] rfl)
          · skip
            refine lv_aload_n hx hb dX6_tellsMiles_48 rfl (lv_at hl 3 rfl) ?_
            refine lv_iload_n hx hb dX6_tellsMiles_49 rfl (lv_at hl 5 rfl) ?_
            refine z_calli [0, 1, 4, 3] (v := m_X6_isSand y12st fkd fmo pn) (fun _ _ h => h) (va_runV (As := [.int (nI pn)]) (rest := []) ⟨hx, hb, hml, hown, hts⟩ (c_X6_isSand l G h0 kd mo st ro tp cd sr ir ih ss sq ce lw wo he sk na kp gb go fa ga vo pb jg td tx ru him s19 s20 s21 s22 s25 s26 s27 s31 s32 s33 s34 s39 s40 y12st fkd fmo pn H.size (by first | exact hp | assumption | omega) (by first | exact hpb | assumption | omega) (by first | exact hjg | assumption | omega) (by first | exact htx | assumption | omega) (by first | exact hru | assumption | omega)) (cwV 1 hts gX6_tellsMiles_X6_isSand rfl rfl rfl (by decide +kernel) ⟨Nat.le_of_ble_eq_true rfl, Nat.le_of_ble_eq_true rfl⟩) ⟨gPre_blind, va_recv (q := (RX6, TX6, 42)) hK hP (ci := 6) (q0 := 0) rfl rfl, fun U hU hW => gPre_ofF [0, 1, 4, 3] hU hW hK hP hD (by decide +kernel) rfl⟩ rfl rfl hl.1 rfl (lv_room (Nat.le_of_ble_eq_true rfl)) dX6_tellsMiles_50 ⟨Nat.le_of_ble_eq_true rfl, Nat.le_of_ble_eq_true rfl⟩) hS hD hA rfl (fun u t H locs ht hvm hB hz1 hk1 hFq hAq hS => ?_)
            obtain ⟨hP1, hK1, hD1⟩ := hB
            have hP := zKeep hP hD [0, 1, 4, 3] hAq hk1 ht hP1 rfl
            refine lv_if_eq (tgt := 61) hx hb dX6_tellsMiles_53 (by decide +kernel) (fun c_19 => ?_) (fun c_19 => ?_)
            · skip
              refine lv_iload hx hb dX6_tellsMiles_61 (lv_at hl 1 rfl) ?_
              refine lv_istore (lv' := [zI 4 sa, zI 5 (nI n6), zI 3 fe, zR 0 h0, zI 1 (nI jn), zI 2 (nI pn)]) hx hb dX6_tellsMiles_63 hl (by decide +kernel) rfl (fun ls hl => ?_)
              refine lv_iload_n hx hb dX6_tellsMiles_65 rfl (lv_at hl 2 rfl) ?_
              refine lv_aload_n hx hb dX6_tellsMiles_66 rfl (lv_at hl 3 rfl) ?_
              refine lv_iload_n hx hb dX6_tellsMiles_67 rfl (lv_at hl 4 rfl) ?_
              refine lv_iload_n hx hb dX6_tellsMiles_68 rfl (lv_at hl 5 rfl) ?_
              refine lv_iconst (v := 0) hx hb dX6_tellsMiles_69 (by decide +kernel) ?_
              refine z_calli [0, 1, 2, 3, 4, 5, 6, 7, 8] (v := m_X6_mile ru y12st y12ro fmo fkd fcd fsr jn pn) (fun _ ⟨_, _⟩ h => h) (va_runV (As := [.int (nI jn), .int (nI pn), .int 0]) (rest := [.int fe]) ⟨hx, hb, hml, hown, hts⟩ (c_X6_mile l G h0 kd mo st ro tp cd sr ir ih ss sq ce lw wo he sk na kp gb go fa ga vo pb jg td tx ru him s19 s20 s21 s22 s25 s26 s27 s31 s32 s33 s34 s39 s40 y12st y12ro fmo fkd fcd fsr ysk_9 yna_10 0 jn pn H.size (by first | exact hj | assumption | omega) (by first | exact hp | assumption | omega) (by first | exact hwf | assumption | omega) (by first | exact hpb | assumption | omega) (by first | exact hjg | assumption | omega) (by first | exact htx | assumption | omega) (by first | exact hru | assumption | omega)) (cwV 3 hts gX6_tellsMiles_X6_mile rfl rfl rfl (by decide +kernel) ⟨Nat.le_of_ble_eq_true rfl, Nat.le_of_ble_eq_true rfl⟩) ⟨gPre_blind, va_recv (q := (RX6, TX6, 42)) hK hP (ci := 6) (q0 := 0) rfl rfl, fun U hU hW => gPre_ofF [0, 1, 2, 3, 4, 5, 6, 7, 8] hU hW hK hP hD (by decide +kernel) rfl⟩ rfl rfl hl.1 rfl (lv_room (Nat.le_of_ble_eq_true rfl)) dX6_tellsMiles_70 ⟨Nat.le_of_ble_eq_true rfl, Nat.le_of_ble_eq_true rfl⟩) hS hD hA rfl (fun u t H locs ht hvm hB hz1 hk1 hFq hAq hS => ?_)
              obtain ⟨ysk_22, yna_23⟩ := u
              obtain ⟨hP1, hK1, hD1⟩ := hB
              have hz9 : gPD G A [zo6 h0 (nI pb) kd mo st (nI jg) ro tp (nI td) cd sr (nI tx) (nI ru) him ir ih ss sq ce lw s19 s20 s21 s22 wo he s25 s26 s27 sk na kp s31 s32 s33 s34 gb go fa ga s39 s40 vo, zi G st 12 (m_X6_mile_st ru y12st y12ro fmo fkd fcd fsr 0 jn pn), zi G ro 12 (m_X6_mile_ro ru y12st y12ro fmo fkd fcd fsr jn pn), zi G mo 6 fmo, zi G kd 6 fkd, zi G cd 1200 fcd, zi G sr 24 (nF fsr), zi G sk 200 ysk_22, zi G na 6 yna_23, zi G kp 24 (mKeep fro fst), zb G gb 61 (upd y12gb n6 0)] H := zFill hP hD [0, 1, 2, 3, 4, 5, 6, 7, 8] [1, 2, 3, 4, 5, 6, 7, 8, 9] hAq hk1 hFq ht hP1 hD1 rfl (by decide +kernel)
              have hP := hz9.1
              have hD := hz9.2
              refine lv_iadd hx hb dX6_tellsMiles_73 ?_
              refine lv_istore_n (lv' := [zI 3 (fe + (m_X6_mile ru y12st y12ro fmo fkd fcd fsr jn pn)), zI 4 sa, zI 5 (nI n6), zR 0 h0, zI 1 (nI jn), zI 2 (nI pn)]) hx hb dX6_tellsMiles_74 rfl hl (by decide +kernel) rfl (fun ls hl => ?_)
              refine lv_iinc (v := nI (n6 + 1)) (lv' := [zI 5 (nI (n6 + 1)), zI 3 (fe + (m_X6_mile ru y12st y12ro fmo fkd fcd fsr jn pn)), zI 4 sa, zR 0 h0, zI 1 (nI jn), zI 2 (nI pn)]) hx hb dX6_tellsMiles_75 hl (k := 2) rfl (nI_add n6 1) (by decide +kernel) rfl (fun ls hl => ?_)
              refine lv_goto (tgt := 12) hx hb dX6_tellsMiles_78 (by decide +kernel) ?_
              exact ih9_12 (n6 + 1) (fe + (m_X6_mile ru y12st y12ro fmo fkd fcd fsr jn pn)) sa (upd y12gb n6 0) (m_X6_mile_ro ru y12st y12ro fmo fkd fcd fsr jn pn) (m_X6_mile_st ru y12st y12ro fmo fkd fcd fsr 0 jn pn) ysk_22 yna_23 (by omega) (Eq.trans (Eq.symm ((congrArg (fun z9 => p_X6_tellsMiles_12 ru fmo fkd fcd fsr jn pn (z9) n6 fe sa y12gb y12ro y12st) (show 61 - n6 = 61 - (n6 + 1) + 1 by omega)).trans (by show p_X6_tellsMiles_12 ru fmo fkd fcd fsr jn pn (61 - (n6 + 1) + 1) n6 fe sa y12gb y12ro y12st = _; rw [p_X6_tellsMiles_12, if_pos c_11, if_pos c_12, if_pos c_19]))) R12) (by omega) _ _ hP hD hS ls (lv_sub hl [0, 2, 1, 3, 4, 5] rfl)
            · skip
              refine lv_iload hx hb dX6_tellsMiles_56 (lv_at hl 0 rfl) ?_
              refine lv_goto (tgt := 63) hx hb dX6_tellsMiles_58 (by decide +kernel) ?_
              refine lv_istore (lv' := [zI 4 (nI n6), zI 5 (nI n6), zI 3 fe, zR 0 h0, zI 1 (nI jn), zI 2 (nI pn)]) hx hb dX6_tellsMiles_63 hl (by decide +kernel) rfl (fun ls hl => ?_)
              refine lv_iload_n hx hb dX6_tellsMiles_65 rfl (lv_at hl 2 rfl) ?_
              refine lv_aload_n hx hb dX6_tellsMiles_66 rfl (lv_at hl 3 rfl) ?_
              refine lv_iload_n hx hb dX6_tellsMiles_67 rfl (lv_at hl 4 rfl) ?_
              refine lv_iload_n hx hb dX6_tellsMiles_68 rfl (lv_at hl 5 rfl) ?_
              refine lv_iconst (v := 0) hx hb dX6_tellsMiles_69 (by decide +kernel) ?_
              refine z_calli [0, 1, 2, 3, 4, 5, 6, 7, 8] (v := m_X6_mile ru y12st y12ro fmo fkd fcd fsr jn pn) (fun _ ⟨_, _⟩ h => h) (va_runV (As := [.int (nI jn), .int (nI pn), .int 0]) (rest := [.int fe]) ⟨hx, hb, hml, hown, hts⟩ (c_X6_mile l G h0 kd mo st ro tp cd sr ir ih ss sq ce lw wo he sk na kp gb go fa ga vo pb jg td tx ru him s19 s20 s21 s22 s25 s26 s27 s31 s32 s33 s34 s39 s40 y12st y12ro fmo fkd fcd fsr ysk_9 yna_10 0 jn pn H.size (by first | exact hj | assumption | omega) (by first | exact hp | assumption | omega) (by first | exact hwf | assumption | omega) (by first | exact hpb | assumption | omega) (by first | exact hjg | assumption | omega) (by first | exact htx | assumption | omega) (by first | exact hru | assumption | omega)) (cwV 3 hts gX6_tellsMiles_X6_mile rfl rfl rfl (by decide +kernel) ⟨Nat.le_of_ble_eq_true rfl, Nat.le_of_ble_eq_true rfl⟩) ⟨gPre_blind, va_recv (q := (RX6, TX6, 42)) hK hP (ci := 6) (q0 := 0) rfl rfl, fun U hU hW => gPre_ofF [0, 1, 2, 3, 4, 5, 6, 7, 8] hU hW hK hP hD (by decide +kernel) rfl⟩ rfl rfl hl.1 rfl (lv_room (Nat.le_of_ble_eq_true rfl)) dX6_tellsMiles_70 ⟨Nat.le_of_ble_eq_true rfl, Nat.le_of_ble_eq_true rfl⟩) hS hD hA rfl (fun u t H locs ht hvm hB hz1 hk1 hFq hAq hS => ?_)
              obtain ⟨ysk_26, yna_27⟩ := u
              obtain ⟨hP1, hK1, hD1⟩ := hB
              have hz9 : gPD G A [zo6 h0 (nI pb) kd mo st (nI jg) ro tp (nI td) cd sr (nI tx) (nI ru) him ir ih ss sq ce lw s19 s20 s21 s22 wo he s25 s26 s27 sk na kp s31 s32 s33 s34 gb go fa ga s39 s40 vo, zi G st 12 (m_X6_mile_st ru y12st y12ro fmo fkd fcd fsr 0 jn pn), zi G ro 12 (m_X6_mile_ro ru y12st y12ro fmo fkd fcd fsr jn pn), zi G mo 6 fmo, zi G kd 6 fkd, zi G cd 1200 fcd, zi G sr 24 (nF fsr), zi G sk 200 ysk_26, zi G na 6 yna_27, zi G kp 24 (mKeep fro fst), zb G gb 61 (upd y12gb n6 0)] H := zFill hP hD [0, 1, 2, 3, 4, 5, 6, 7, 8] [1, 2, 3, 4, 5, 6, 7, 8, 9] hAq hk1 hFq ht hP1 hD1 rfl (by decide +kernel)
              have hP := hz9.1
              have hD := hz9.2
              refine lv_iadd hx hb dX6_tellsMiles_73 ?_
              refine lv_istore_n (lv' := [zI 3 (fe + (m_X6_mile ru y12st y12ro fmo fkd fcd fsr jn pn)), zI 4 (nI n6), zI 5 (nI n6), zR 0 h0, zI 1 (nI jn), zI 2 (nI pn)]) hx hb dX6_tellsMiles_74 rfl hl (by decide +kernel) rfl (fun ls hl => ?_)
              refine lv_iinc (v := nI (n6 + 1)) (lv' := [zI 5 (nI (n6 + 1)), zI 3 (fe + (m_X6_mile ru y12st y12ro fmo fkd fcd fsr jn pn)), zI 4 (nI n6), zR 0 h0, zI 1 (nI jn), zI 2 (nI pn)]) hx hb dX6_tellsMiles_75 hl (k := 2) rfl (nI_add n6 1) (by decide +kernel) rfl (fun ls hl => ?_)
              refine lv_goto (tgt := 12) hx hb dX6_tellsMiles_78 (by decide +kernel) ?_
              exact ih9_12 (n6 + 1) (fe + (m_X6_mile ru y12st y12ro fmo fkd fcd fsr jn pn)) (nI n6) (upd y12gb n6 0) (m_X6_mile_ro ru y12st y12ro fmo fkd fcd fsr jn pn) (m_X6_mile_st ru y12st y12ro fmo fkd fcd fsr 0 jn pn) ysk_26 yna_27 (by omega) (Eq.trans (Eq.symm ((congrArg (fun z9 => p_X6_tellsMiles_12 ru fmo fkd fcd fsr jn pn (z9) n6 fe sa y12gb y12ro y12st) (show 61 - n6 = 61 - (n6 + 1) + 1 by omega)).trans (by show p_X6_tellsMiles_12 ru fmo fkd fcd fsr jn pn (61 - (n6 + 1) + 1) n6 fe sa y12gb y12ro y12st = _; rw [p_X6_tellsMiles_12, if_pos c_11, if_pos c_12, if_neg c_19]))) R12) (by omega) _ _ hP hD hS ls (lv_sub hl [0, 2, 1, 3, 4, 5] rfl)
        · skip
          refine lv_iconst (v := 1) hx hb dX6_tellsMiles_36 (by decide +kernel) ?_
          refine lv_goto (tgt := 41) hx hb dX6_tellsMiles_37 (by decide +kernel) ?_
          refine va_zast (D := G.1) hx hb hK hP hD hS 10 1 rfl rfl (i := (nI n6)) (x := 1) (vpn (by omega) rfl) dX6_tellsMiles_41 (fun H locs hP hD hS => ?_)
          have hz9 : gPD G A [zo6 h0 (nI pb) kd mo st (nI jg) ro tp (nI td) cd sr (nI tx) (nI ru) him ir ih ss sq ce lw s19 s20 s21 s22 wo he s25 s26 s27 sk na kp s31 s32 s33 s34 gb go fa ga s39 s40 vo, zi G st 12 y12st, zi G ro 12 y12ro, zi G mo 6 fmo, zi G kd 6 fkd, zi G cd 1200 fcd, zi G sr 24 (nF fsr), zi G sk 200 ysk_9, zi G na 6 yna_10, zi G kp 24 (mKeep fro fst), zb G gb 61 (upd y12gb n6 1)] H := ⟨by rw [nI_clamp (by omega)] at hP; exact hP, by rw [nI_clamp (by omega)] at hD; exact hD⟩
          have hP := hz9.1
          have hD := hz9.2
          refine lv_iload hx hb dX6_tellsMiles_42 (lv_at hl 1 rfl) ?_
          refine lv_iconst (v := -1) hx hb dX6_tellsMiles_44 (by decide +kernel) ?_
          refine lv_icmp_ne (tgt := 61) hx hb dX6_tellsMiles_45 (by decide +kernel) (fun c_28 => ?_) (fun c_28 => ?_)
          · skip
            refine lv_iload hx hb dX6_tellsMiles_61 (lv_at hl 1 rfl) ?_
            refine lv_istore (lv' := [zI 4 sa, zI 5 (nI n6), zI 3 fe, zR 0 h0, zI 1 (nI jn), zI 2 (nI pn)]) hx hb dX6_tellsMiles_63 hl (by decide +kernel) rfl (fun ls hl => ?_)
            refine lv_iload_n hx hb dX6_tellsMiles_65 rfl (lv_at hl 2 rfl) ?_
            refine lv_aload_n hx hb dX6_tellsMiles_66 rfl (lv_at hl 3 rfl) ?_
            refine lv_iload_n hx hb dX6_tellsMiles_67 rfl (lv_at hl 4 rfl) ?_
            refine lv_iload_n hx hb dX6_tellsMiles_68 rfl (lv_at hl 5 rfl) ?_
            refine lv_iconst (v := 0) hx hb dX6_tellsMiles_69 (by decide +kernel) ?_
            refine z_calli [0, 1, 2, 3, 4, 5, 6, 7, 8] (v := m_X6_mile ru y12st y12ro fmo fkd fcd fsr jn pn) (fun _ ⟨_, _⟩ h => h) (va_runV (As := [.int (nI jn), .int (nI pn), .int 0]) (rest := [.int fe]) ⟨hx, hb, hml, hown, hts⟩ (c_X6_mile l G h0 kd mo st ro tp cd sr ir ih ss sq ce lw wo he sk na kp gb go fa ga vo pb jg td tx ru him s19 s20 s21 s22 s25 s26 s27 s31 s32 s33 s34 s39 s40 y12st y12ro fmo fkd fcd fsr ysk_9 yna_10 0 jn pn H.size (by first | exact hj | assumption | omega) (by first | exact hp | assumption | omega) (by first | exact hwf | assumption | omega) (by first | exact hpb | assumption | omega) (by first | exact hjg | assumption | omega) (by first | exact htx | assumption | omega) (by first | exact hru | assumption | omega)) (cwV 3 hts gX6_tellsMiles_X6_mile rfl rfl rfl (by decide +kernel) ⟨Nat.le_of_ble_eq_true rfl, Nat.le_of_ble_eq_true rfl⟩) ⟨gPre_blind, va_recv (q := (RX6, TX6, 42)) hK hP (ci := 6) (q0 := 0) rfl rfl, fun U hU hW => gPre_ofF [0, 1, 2, 3, 4, 5, 6, 7, 8] hU hW hK hP hD (by decide +kernel) rfl⟩ rfl rfl hl.1 rfl (lv_room (Nat.le_of_ble_eq_true rfl)) dX6_tellsMiles_70 ⟨Nat.le_of_ble_eq_true rfl, Nat.le_of_ble_eq_true rfl⟩) hS hD hA rfl (fun u t H locs ht hvm hB hz1 hk1 hFq hAq hS => ?_)
            obtain ⟨ysk_31, yna_32⟩ := u
            obtain ⟨hP1, hK1, hD1⟩ := hB
            have hz9 : gPD G A [zo6 h0 (nI pb) kd mo st (nI jg) ro tp (nI td) cd sr (nI tx) (nI ru) him ir ih ss sq ce lw s19 s20 s21 s22 wo he s25 s26 s27 sk na kp s31 s32 s33 s34 gb go fa ga s39 s40 vo, zi G st 12 (m_X6_mile_st ru y12st y12ro fmo fkd fcd fsr 0 jn pn), zi G ro 12 (m_X6_mile_ro ru y12st y12ro fmo fkd fcd fsr jn pn), zi G mo 6 fmo, zi G kd 6 fkd, zi G cd 1200 fcd, zi G sr 24 (nF fsr), zi G sk 200 ysk_31, zi G na 6 yna_32, zi G kp 24 (mKeep fro fst), zb G gb 61 (upd y12gb n6 1)] H := zFill hP hD [0, 1, 2, 3, 4, 5, 6, 7, 8] [1, 2, 3, 4, 5, 6, 7, 8, 9] hAq hk1 hFq ht hP1 hD1 rfl (by decide +kernel)
            have hP := hz9.1
            have hD := hz9.2
            refine lv_iadd hx hb dX6_tellsMiles_73 ?_
            refine lv_istore_n (lv' := [zI 3 (fe + (m_X6_mile ru y12st y12ro fmo fkd fcd fsr jn pn)), zI 4 sa, zI 5 (nI n6), zR 0 h0, zI 1 (nI jn), zI 2 (nI pn)]) hx hb dX6_tellsMiles_74 rfl hl (by decide +kernel) rfl (fun ls hl => ?_)
            refine lv_iinc (v := nI (n6 + 1)) (lv' := [zI 5 (nI (n6 + 1)), zI 3 (fe + (m_X6_mile ru y12st y12ro fmo fkd fcd fsr jn pn)), zI 4 sa, zR 0 h0, zI 1 (nI jn), zI 2 (nI pn)]) hx hb dX6_tellsMiles_75 hl (k := 2) rfl (nI_add n6 1) (by decide +kernel) rfl (fun ls hl => ?_)
            refine lv_goto (tgt := 12) hx hb dX6_tellsMiles_78 (by decide +kernel) ?_
            exact ih9_12 (n6 + 1) (fe + (m_X6_mile ru y12st y12ro fmo fkd fcd fsr jn pn)) sa (upd y12gb n6 1) (m_X6_mile_ro ru y12st y12ro fmo fkd fcd fsr jn pn) (m_X6_mile_st ru y12st y12ro fmo fkd fcd fsr 0 jn pn) ysk_31 yna_32 (by omega) (Eq.trans (Eq.symm ((congrArg (fun z9 => p_X6_tellsMiles_12 ru fmo fkd fcd fsr jn pn (z9) n6 fe sa y12gb y12ro y12st) (show 61 - n6 = 61 - (n6 + 1) + 1 by omega)).trans (by show p_X6_tellsMiles_12 ru fmo fkd fcd fsr jn pn (61 - (n6 + 1) + 1) n6 fe sa y12gb y12ro y12st = _; rw [p_X6_tellsMiles_12, if_neg c_11, if_neg c_28]))) R12) (by omega) _ _ hP hD hS ls (lv_sub hl [0, 2, 1, 3, 4, 5] rfl)
          · skip
            refine lv_aload_n hx hb dX6_tellsMiles_48 rfl (lv_at hl 3 rfl) ?_
            refine lv_iload_n hx hb dX6_tellsMiles_49 rfl (lv_at hl 5 rfl) ?_
            refine z_calli [0, 1, 4, 3] (v := m_X6_isSand y12st fkd fmo pn) (fun _ _ h => h) (va_runV (As := [.int (nI pn)]) (rest := []) ⟨hx, hb, hml, hown, hts⟩ (c_X6_isSand l G h0 kd mo st ro tp cd sr ir ih ss sq ce lw wo he sk na kp gb go fa ga vo pb jg td tx ru him s19 s20 s21 s22 s25 s26 s27 s31 s32 s33 s34 s39 s40 y12st fkd fmo pn H.size (by first | exact hp | assumption | omega) (by first | exact hpb | assumption | omega) (by first | exact hjg | assumption | omega) (by first | exact htx | assumption | omega) (by first | exact hru | assumption | omega)) (cwV 1 hts gX6_tellsMiles_X6_isSand rfl rfl rfl (by decide +kernel) ⟨Nat.le_of_ble_eq_true rfl, Nat.le_of_ble_eq_true rfl⟩) ⟨gPre_blind, va_recv (q := (RX6, TX6, 42)) hK hP (ci := 6) (q0 := 0) rfl rfl, fun U hU hW => gPre_ofF [0, 1, 4, 3] hU hW hK hP hD (by decide +kernel) rfl⟩ rfl rfl hl.1 rfl (lv_room (Nat.le_of_ble_eq_true rfl)) dX6_tellsMiles_50 ⟨Nat.le_of_ble_eq_true rfl, Nat.le_of_ble_eq_true rfl⟩) hS hD hA rfl (fun u t H locs ht hvm hB hz1 hk1 hFq hAq hS => ?_)
            obtain ⟨hP1, hK1, hD1⟩ := hB
            have hP := zKeep hP hD [0, 1, 4, 3] hAq hk1 ht hP1 rfl
            refine lv_if_eq (tgt := 61) hx hb dX6_tellsMiles_53 (by decide +kernel) (fun c_35 => ?_) (fun c_35 => ?_)
            · skip
              refine lv_iload hx hb dX6_tellsMiles_61 (lv_at hl 1 rfl) ?_
              refine lv_istore (lv' := [zI 4 sa, zI 5 (nI n6), zI 3 fe, zR 0 h0, zI 1 (nI jn), zI 2 (nI pn)]) hx hb dX6_tellsMiles_63 hl (by decide +kernel) rfl (fun ls hl => ?_)
              refine lv_iload_n hx hb dX6_tellsMiles_65 rfl (lv_at hl 2 rfl) ?_
              refine lv_aload_n hx hb dX6_tellsMiles_66 rfl (lv_at hl 3 rfl) ?_
              refine lv_iload_n hx hb dX6_tellsMiles_67 rfl (lv_at hl 4 rfl) ?_
              refine lv_iload_n hx hb dX6_tellsMiles_68 rfl (lv_at hl 5 rfl) ?_
              refine lv_iconst (v := 0) hx hb dX6_tellsMiles_69 (by decide +kernel) ?_
              refine z_calli [0, 1, 2, 3, 4, 5, 6, 7, 8] (v := m_X6_mile ru y12st y12ro fmo fkd fcd fsr jn pn) (fun _ ⟨_, _⟩ h => h) (va_runV (As := [.int (nI jn), .int (nI pn), .int 0]) (rest := [.int fe]) ⟨hx, hb, hml, hown, hts⟩ (c_X6_mile l G h0 kd mo st ro tp cd sr ir ih ss sq ce lw wo he sk na kp gb go fa ga vo pb jg td tx ru him s19 s20 s21 s22 s25 s26 s27 s31 s32 s33 s34 s39 s40 y12st y12ro fmo fkd fcd fsr ysk_9 yna_10 0 jn pn H.size (by first | exact hj | assumption | omega) (by first | exact hp | assumption | omega) (by first | exact hwf | assumption | omega) (by first | exact hpb | assumption | omega) (by first | exact hjg | assumption | omega) (by first | exact htx | assumption | omega) (by first | exact hru | assumption | omega)) (cwV 3 hts gX6_tellsMiles_X6_mile rfl rfl rfl (by decide +kernel) ⟨Nat.le_of_ble_eq_true rfl, Nat.le_of_ble_eq_true rfl⟩) ⟨gPre_blind, va_recv (q := (RX6, TX6, 42)) hK hP (ci := 6) (q0 := 0) rfl rfl, fun U hU hW => gPre_ofF [0, 1, 2, 3, 4, 5, 6, 7, 8] hU hW hK hP hD (by decide +kernel) rfl⟩ rfl rfl hl.1 rfl (lv_room (Nat.le_of_ble_eq_true rfl)) dX6_tellsMiles_70 ⟨Nat.le_of_ble_eq_true rfl, Nat.le_of_ble_eq_true rfl⟩) hS hD hA rfl (fun u t H locs ht hvm hB hz1 hk1 hFq hAq hS => ?_)
              obtain ⟨ysk_38, yna_39⟩ := u
              obtain ⟨hP1, hK1, hD1⟩ := hB
              have hz9 : gPD G A [zo6 h0 (nI pb) kd mo st (nI jg) ro tp (nI td) cd sr (nI tx) (nI ru) him ir ih ss sq ce lw s19 s20 s21 s22 wo he s25 s26 s27 sk na kp s31 s32 s33 s34 gb go fa ga s39 s40 vo, zi G st 12 (m_X6_mile_st ru y12st y12ro fmo fkd fcd fsr 0 jn pn), zi G ro 12 (m_X6_mile_ro ru y12st y12ro fmo fkd fcd fsr jn pn), zi G mo 6 fmo, zi G kd 6 fkd, zi G cd 1200 fcd, zi G sr 24 (nF fsr), zi G sk 200 ysk_38, zi G na 6 yna_39, zi G kp 24 (mKeep fro fst), zb G gb 61 (upd y12gb n6 1)] H := zFill hP hD [0, 1, 2, 3, 4, 5, 6, 7, 8] [1, 2, 3, 4, 5, 6, 7, 8, 9] hAq hk1 hFq ht hP1 hD1 rfl (by decide +kernel)
              have hP := hz9.1
              have hD := hz9.2
              refine lv_iadd hx hb dX6_tellsMiles_73 ?_
              refine lv_istore_n (lv' := [zI 3 (fe + (m_X6_mile ru y12st y12ro fmo fkd fcd fsr jn pn)), zI 4 sa, zI 5 (nI n6), zR 0 h0, zI 1 (nI jn), zI 2 (nI pn)]) hx hb dX6_tellsMiles_74 rfl hl (by decide +kernel) rfl (fun ls hl => ?_)
              refine lv_iinc (v := nI (n6 + 1)) (lv' := [zI 5 (nI (n6 + 1)), zI 3 (fe + (m_X6_mile ru y12st y12ro fmo fkd fcd fsr jn pn)), zI 4 sa, zR 0 h0, zI 1 (nI jn), zI 2 (nI pn)]) hx hb dX6_tellsMiles_75 hl (k := 2) rfl (nI_add n6 1) (by decide +kernel) rfl (fun ls hl => ?_)
              refine lv_goto (tgt := 12) hx hb dX6_tellsMiles_78 (by decide +kernel) ?_
              exact ih9_12 (n6 + 1) (fe + (m_X6_mile ru y12st y12ro fmo fkd fcd fsr jn pn)) sa (upd y12gb n6 1) (m_X6_mile_ro ru y12st y12ro fmo fkd fcd fsr jn pn) (m_X6_mile_st ru y12st y12ro fmo fkd fcd fsr 0 jn pn) ysk_38 yna_39 (by omega) (Eq.trans (Eq.symm ((congrArg (fun z9 => p_X6_tellsMiles_12 ru fmo fkd fcd fsr jn pn (z9) n6 fe sa y12gb y12ro y12st) (show 61 - n6 = 61 - (n6 + 1) + 1 by omega)).trans (by show p_X6_tellsMiles_12 ru fmo fkd fcd fsr jn pn (61 - (n6 + 1) + 1) n6 fe sa y12gb y12ro y12st = _; rw [p_X6_tellsMiles_12, if_neg c_11, if_pos c_28, if_pos c_35]))) R12) (by omega) _ _ hP hD hS ls (lv_sub hl [0, 2, 1, 3, 4, 5] rfl)
            · skip
              refine lv_iload hx hb dX6_tellsMiles_56 (lv_at hl 0 rfl) ?_
              refine lv_goto (tgt := 63) hx hb dX6_tellsMiles_58 (by decide +kernel) ?_
              refine lv_istore (lv' := [zI 4 (nI n6), zI 5 (nI n6), zI 3 fe, zR 0 h0, zI 1 (nI jn), zI 2 (nI pn)]) hx hb dX6_tellsMiles_63 hl (by decide +kernel) rfl (fun ls hl => ?_)
              refine lv_iload_n hx hb dX6_tellsMiles_65 rfl (lv_at hl 2 rfl) ?_
              refine lv_aload_n hx hb dX6_tellsMiles_66 rfl (lv_at hl 3 rfl) ?_
              refine lv_iload_n hx hb dX6_tellsMiles_67 rfl (lv_at hl 4 rfl) ?_
              refine lv_iload_n hx hb dX6_tellsMiles_68 rfl (lv_at hl 5 rfl) ?_
              refine lv_iconst (v := 0) hx hb dX6_tellsMiles_69 (by decide +kernel) ?_
              refine z_calli [0, 1, 2, 3, 4, 5, 6, 7, 8] (v := m_X6_mile ru y12st y12ro fmo fkd fcd fsr jn pn) (fun _ ⟨_, _⟩ h => h) (va_runV (As := [.int (nI jn), .int (nI pn), .int 0]) (rest := [.int fe]) ⟨hx, hb, hml, hown, hts⟩ (c_X6_mile l G h0 kd mo st ro tp cd sr ir ih ss sq ce lw wo he sk na kp gb go fa ga vo pb jg td tx ru him s19 s20 s21 s22 s25 s26 s27 s31 s32 s33 s34 s39 s40 y12st y12ro fmo fkd fcd fsr ysk_9 yna_10 0 jn pn H.size (by first | exact hj | assumption | omega) (by first | exact hp | assumption | omega) (by first | exact hwf | assumption | omega) (by first | exact hpb | assumption | omega) (by first | exact hjg | assumption | omega) (by first | exact htx | assumption | omega) (by first | exact hru | assumption | omega)) (cwV 3 hts gX6_tellsMiles_X6_mile rfl rfl rfl (by decide +kernel) ⟨Nat.le_of_ble_eq_true rfl, Nat.le_of_ble_eq_true rfl⟩) ⟨gPre_blind, va_recv (q := (RX6, TX6, 42)) hK hP (ci := 6) (q0 := 0) rfl rfl, fun U hU hW => gPre_ofF [0, 1, 2, 3, 4, 5, 6, 7, 8] hU hW hK hP hD (by decide +kernel) rfl⟩ rfl rfl hl.1 rfl (lv_room (Nat.le_of_ble_eq_true rfl)) dX6_tellsMiles_70 ⟨Nat.le_of_ble_eq_true rfl, Nat.le_of_ble_eq_true rfl⟩) hS hD hA rfl (fun u t H locs ht hvm hB hz1 hk1 hFq hAq hS => ?_)
              obtain ⟨ysk_42, yna_43⟩ := u
              obtain ⟨hP1, hK1, hD1⟩ := hB
              have hz9 : gPD G A [zo6 h0 (nI pb) kd mo st (nI jg) ro tp (nI td) cd sr (nI tx) (nI ru) him ir ih ss sq ce lw s19 s20 s21 s22 wo he s25 s26 s27 sk na kp s31 s32 s33 s34 gb go fa ga s39 s40 vo, zi G st 12 (m_X6_mile_st ru y12st y12ro fmo fkd fcd fsr 0 jn pn), zi G ro 12 (m_X6_mile_ro ru y12st y12ro fmo fkd fcd fsr jn pn), zi G mo 6 fmo, zi G kd 6 fkd, zi G cd 1200 fcd, zi G sr 24 (nF fsr), zi G sk 200 ysk_42, zi G na 6 yna_43, zi G kp 24 (mKeep fro fst), zb G gb 61 (upd y12gb n6 1)] H := zFill hP hD [0, 1, 2, 3, 4, 5, 6, 7, 8] [1, 2, 3, 4, 5, 6, 7, 8, 9] hAq hk1 hFq ht hP1 hD1 rfl (by decide +kernel)
              have hP := hz9.1
              have hD := hz9.2
              refine lv_iadd hx hb dX6_tellsMiles_73 ?_
              refine lv_istore_n (lv' := [zI 3 (fe + (m_X6_mile ru y12st y12ro fmo fkd fcd fsr jn pn)), zI 4 (nI n6), zI 5 (nI n6), zR 0 h0, zI 1 (nI jn), zI 2 (nI pn)]) hx hb dX6_tellsMiles_74 rfl hl (by decide +kernel) rfl (fun ls hl => ?_)
              refine lv_iinc (v := nI (n6 + 1)) (lv' := [zI 5 (nI (n6 + 1)), zI 3 (fe + (m_X6_mile ru y12st y12ro fmo fkd fcd fsr jn pn)), zI 4 (nI n6), zR 0 h0, zI 1 (nI jn), zI 2 (nI pn)]) hx hb dX6_tellsMiles_75 hl (k := 2) rfl (nI_add n6 1) (by decide +kernel) rfl (fun ls hl => ?_)
              refine lv_goto (tgt := 12) hx hb dX6_tellsMiles_78 (by decide +kernel) ?_
              exact ih9_12 (n6 + 1) (fe + (m_X6_mile ru y12st y12ro fmo fkd fcd fsr jn pn)) (nI n6) (upd y12gb n6 1) (m_X6_mile_ro ru y12st y12ro fmo fkd fcd fsr jn pn) (m_X6_mile_st ru y12st y12ro fmo fkd fcd fsr 0 jn pn) ysk_42 yna_43 (by omega) (Eq.trans (Eq.symm ((congrArg (fun z9 => p_X6_tellsMiles_12 ru fmo fkd fcd fsr jn pn (z9) n6 fe sa y12gb y12ro y12st) (show 61 - n6 = 61 - (n6 + 1) + 1 by omega)).trans (by show p_X6_tellsMiles_12 ru fmo fkd fcd fsr jn pn (61 - (n6 + 1) + 1) n6 fe sa y12gb y12ro y12st = _; rw [p_X6_tellsMiles_12, if_neg c_11, if_pos c_28, if_neg c_35]))) R12) (by omega) _ _ hP hD hS ls (lv_sub hl [0, 2, 1, 3, 4, 5] rfl)
  exact loop_12 (61 - 0 + 1) 0 0 (-1) fgb fro fst fsk fna (by omega) (rfl) (by omega) _ _ hP hD hS ls hl
noncomputable def p_X6_caseBy_18 (ru : Nat) (fmo : Nat → Int32) (fkd : Nat → Int32) (fcd : Nat → Int32) (fsr : Nat → Nat) (jn : Nat) (pn : Nat) (mm : Nat) : Nat → Nat → Int64 → (Nat → Int32) → (Nat → Int32) → Int32 → Nat × Int64 × (Nat → Int32) × (Nat → Int32) × Int32
  | 0, k18, lo, y18st, y18ro, z31f => (k18, lo, y18st, y18ro, z31f)
  | q9 + 1, k18, lo, y18st, y18ro, z31f => p_X6_caseBy_18 ru fmo fkd fcd fsr jn pn mm q9 (k18 + 1) (lRem (lo * 48271) 2147483647) (m_X6_mile_st ru y18st y18ro fmo fkd fcd fsr ((lRem (lRem (lo * 48271) 2147483647) (lN ((mm / 100) + 1))).toInt32) jn pn) (m_X6_mile_ro ru y18st y18ro fmo fkd fcd fsr jn pn) (z31f + (m_X6_mile ru y18st y18ro fmo fkd fcd fsr jn pn))
noncomputable def g_X6_caseBy_18 (ru : Nat) (fst : Nat → Int32) (fro : Nat → Int32) (fmo : Nat → Int32) (fkd : Nat → Int32) (fcd : Nat → Int32) (fsr : Nat → Nat) (v1 : Int32) (jn : Nat) (pn : Nat) (mm : Nat) : Nat × Int64 × (Nat → Int32) × (Nat → Int32) × Int32 := p_X6_caseBy_18 ru fmo fkd fcd fsr jn pn mm ((mm % 100) - 0) 0 (v1.toInt64 + 1) fst fro 0
noncomputable def m_X6_caseBy_h031 (ru : Nat) (fst : Nat → Int32) (fro : Nat → Int32) (fmo : Nat → Int32) (fkd : Nat → Int32) (fcd : Nat → Int32) (fsr : Nat → Nat) (v1 : Int32) (jn : Nat) (pn : Nat) (mm : Nat) : Int32 := ((g_X6_caseBy_18 ru fst fro fmo fkd fcd fsr v1 jn pn mm).2.2.2.2)
noncomputable def m_X6_caseBy_h032 (ru : Nat) (fst : Nat → Int32) (fro : Nat → Int32) (fmo : Nat → Int32) (fkd : Nat → Int32) (fcd : Nat → Int32) (fsr : Nat → Nat) (v1 : Int32) (jn : Nat) (pn : Nat) (mm : Nat) : Int32 := (((g_X6_caseBy_18 ru fst fro fmo fkd fcd fsr v1 jn pn mm).2.2.1) (2 * pn))
noncomputable def m_X6_caseBy_h034 (ru : Nat) (fst : Nat → Int32) (fro : Nat → Int32) (fmo : Nat → Int32) (fkd : Nat → Int32) (fcd : Nat → Int32) (fsr : Nat → Nat) (v1 : Int32) (jn : Nat) (pn : Nat) (mm : Nat) : Int32 := if ((g_X6_caseBy_18 ru fst fro fmo fkd fcd fsr v1 jn pn mm).2.2.2.2) < (m_X6_asksOf ru ((g_X6_caseBy_18 ru fst fro fmo fkd fcd fsr v1 jn pn mm).2.2.1) ((g_X6_caseBy_18 ru fst fro fmo fkd fcd fsr v1 jn pn mm).2.2.2.1) fmo fcd fsr 2 jn pn) then 0 else 1
abbrev q_X6_caseBy (G : gG) (h0 kd mo st ro tp cd sr ir ih ss sq ce lw wo he sk na kp gb go fa ga vo : Nat) (pb : Nat) (jg : Nat) (td : Nat) (tx : Nat) (ru : Nat) (him : Int32) (s19 : Int32) (s20 : Int32) (s21 : Int32) (s22 : Int32) (s25 : Int32) (s26 : Int32) (s27 : Int32) (s31 : Int32) (s32 : Int32) (s33 : Int32) (s34 : Int32) (s39 : Int32) (s40 : Int32) (fst : Nat → Int32) (fro : Nat → Int32) (fmo : Nat → Int32) (fkd : Nat → Int32) (fcd : Nat → Int32) (fsr : Nat → Nat) (fsk : Nat → Int32) (fna : Nat → Int32) (fkp : Nat → Int32) (v1 : Int32) (jn : Nat) (pn : Nat) (mm : Nat) (A : Nat → Prop) : Array Value → State → Outcome → State → Prop := va_Qv (fun (u : (Nat → Int32) × (Nat → Int32) × (Nat → Int32)) => match u with | (ysk, yna, ykp) => True) (fun (u : (Nat → Int32) × (Nat → Int32) × (Nat → Int32)) t => match u with | (ysk, yna, ykp) => va_P G.1 vwCl [zo6 h0 (nI pb) kd mo st (nI jg) ro tp (nI td) cd sr (nI tx) (nI ru) him ir ih ss sq ce lw s19 s20 s21 s22 wo he s25 s26 s27 sk na kp (m_X6_caseBy_h031 ru fst fro fmo fkd fcd fsr v1 jn pn mm) (m_X6_caseBy_h032 ru fst fro fmo fkd fcd fsr v1 jn pn mm) s33 (m_X6_caseBy_h034 ru fst fro fmo fkd fcd fsr v1 jn pn mm) gb go fa ga s39 s40 vo, zi G st 12 fst, zi G ro 12 fro, zi G mo 6 fmo, zi G kd 6 fkd, zi G cd 1200 fcd, zi G sr 24 (nF fsr), zi G sk 200 ysk, zi G na 6 yna, zi G kp 24 ykp] t.heap ∧ gK G t ∧ va_D A [zo6 h0 (nI pb) kd mo st (nI jg) ro tp (nI td) cd sr (nI tx) (nI ru) him ir ih ss sq ce lw s19 s20 s21 s22 wo he s25 s26 s27 sk na kp (m_X6_caseBy_h031 ru fst fro fmo fkd fcd fsr v1 jn pn mm) (m_X6_caseBy_h032 ru fst fro fmo fkd fcd fsr v1 jn pn mm) s33 (m_X6_caseBy_h034 ru fst fro fmo fkd fcd fsr v1 jn pn mm) gb go fa ga s39 s40 vo, zi G st 12 fst, zi G ro 12 fro, zi G mo 6 fmo, zi G kd 6 fkd, zi G cd 1200 fcd, zi G sr 24 (nF fsr), zi G sk 200 ysk, zi G na 6 yna, zi G kp 24 ykp]) A
set_option maxHeartbeats 4000000 in
set_option maxRecDepth 100000 in
theorem c_X6_caseBy (l : Launch) (G : gG) (h0 kd mo st ro tp cd sr ir ih ss sq ce lw wo he sk na kp gb go fa ga vo : Nat) (pb : Nat) (jg : Nat) (td : Nat) (tx : Nat) (ru : Nat) (him : Int32) (s19 : Int32) (s20 : Int32) (s21 : Int32) (s22 : Int32) (s25 : Int32) (s26 : Int32) (s27 : Int32) (s31 : Int32) (s32 : Int32) (s33 : Int32) (s34 : Int32) (s39 : Int32) (s40 : Int32) (fst : Nat → Int32) (fro : Nat → Int32) (fmo : Nat → Int32) (fkd : Nat → Int32) (fcd : Nat → Int32) (fsr : Nat → Nat) (fsk : Nat → Int32) (fna : Nat → Int32) (fkp : Nat → Int32) (v1 : Int32) (jn : Nat) (pn : Nat) (mm : Nat) (sz : Nat) (hj : jn < 4) (hp : pn < 6) (hmm : mm ≤ 960) (hm6 : mm % 100 ≤ 60) (hwf : mWf fcd fsr ru) (hpb : pb ≤ 6) (hjg : jg ≤ 4) (htx : tx ≤ 6) (hru : ru < tx) : Met l yX6_caseBy wsX6_caseBy ({ frames := 5, cells := 0, slots := 0, locals := 120 }) (gPre G [.ref h0, .int v1, .int (nI jn), .int (nI pn), .int (nI mm)] [zo6 h0 (nI pb) kd mo st (nI jg) ro tp (nI td) cd sr (nI tx) (nI ru) him ir ih ss sq ce lw s19 s20 s21 s22 wo he s25 s26 s27 sk na kp s31 s32 s33 s34 gb go fa ga s39 s40 vo, zi G st 12 fst, zi G ro 12 fro, zi G mo 6 fmo, zi G kd 6 fkd, zi G cd 1200 fcd, zi G sr 24 (nF fsr), zi G sk 200 fsk, zi G na 6 fna, zi G kp 24 fkp] sz) (q_X6_caseBy G h0 kd mo st ro tp cd sr ir ih ss sq ce lw wo he sk na kp gb go fa ga vo pb jg td tx ru him s19 s20 s21 s22 s25 s26 s27 s31 s32 s33 s34 s39 s40 fst fro fmo fkd fcd fsr fsk fna fkp v1 jn pn mm (va_A [zo6 h0 (nI pb) kd mo st (nI jg) ro tp (nI td) cd sr (nI tx) (nI ru) him ir ih ss sq ce lw s19 s20 s21 s22 wo he s25 s26 s27 sk na kp s31 s32 s33 s34 gb go fa ga s39 s40 vo, zi G st 12 fst, zi G ro 12 fro, zi G mo 6 fmo, zi G kd 6 fkd, zi G cd 1200 fcd, zi G sr 24 (nF fsr), zi G sk 200 fsk, zi G na 6 fna, zi G kp 24 fkp] sz)) 0 0 (va_A [zo6 h0 (nI pb) kd mo st (nI jg) ro tp (nI td) cd sr (nI tx) (nI ru) him ir ih ss sq ce lw s19 s20 s21 s22 wo he s25 s26 s27 sk na kp s31 s32 s33 s34 gb go fa ga s39 s40 vo, zi G st 12 fst, zi G ro 12 fro, zi G mo 6 fmo, zi G kd 6 fkd, zi G cd 1200 fcd, zi G sr 24 (nF fsr), zi G sk 200 fsk, zi G na 6 fna, zi G kp 24 fkp] sz) := by
  refine Met.ofW (cc := cX6_caseBy) (maxL := 8) (ret := none) (by decide +kernel) rfl ?_
  intro p e s m args below meth c s₁ B hml hv
  obtain ⟨rfl, hsz, hP, hK, hD0⟩ := hv
  have hx := B.exec
  have hb := B.bytes
  have hr := B.returns
  have hts := atoms_spec (ws := wsX6_caseBy) B.pre
  have hown : s.vm.findClass RX6 = some m.cls := findClass_of_methodNamed B.named
  have hlocks := B.notSynchronized
  subst hsz
  have hD := hD0.self (sz := s.heap.size)
  generalize hAe : va_A [zo6 h0 (nI pb) kd mo st (nI jg) ro tp (nI td) cd sr (nI tx) (nI ru) him ir ih ss sq ce lw s19 s20 s21 s22 wo he s25 s26 s27 sk na kp s31 s32 s33 s34 gb go fa ga s39 s40 vo, zi G st 12 fst, zi G ro 12 fro, zi G mo 6 fmo, zi G kd 6 fkd, zi G cd 1200 fcd, zi G sr 24 (nF fsr), zi G sk 200 fsk, zi G na 6 fna, zi G kp 24 fkp] s.heap.size = A at hD ⊢
  have hA : ∀ q : Nat, s.heap.size ≤ q → A q := fun q h => by rw [← hAe]; exact Or.inr h
  have hS : va_S A s.heap s.heap [] := va_S.rf
  have hz9 : gPD G A [zo6 h0 (nI pb) kd mo st (nI jg) ro tp (nI td) cd sr (nI tx) (nI ru) him ir ih ss sq ce lw s19 s20 s21 s22 wo he s25 s26 s27 sk na kp s31 s32 s33 s34 gb go fa ga s39 s40 vo, zi G st 12 fst, zi G ro 12 fro, zi G mo 6 fmo, zi G kd 6 fkd, zi G cd 1200 fcd, zi G sr 24 (nF fsr), zi G sk 200 fsk, zi G na 6 fna, zi G kp 24 fkp] s.heap := ⟨hP, hD⟩
  have hP := hz9.1
  have hD := hz9.2
  have hl := lv_entry ([.ref h0, .int v1, .int (nI jn), .int (nI pn), .int (nI mm)]) (n := 8) (Nat.le_of_ble_eq_true rfl)
  rw [lg_entry_eq]
  generalize (lg_sl ([.ref h0, .int v1, .int (nI jn), .int (nI pn), .int (nI mm)]) ++ List.replicate (8 - (lg_sl ([.ref h0, .int v1, .int (nI jn), .int (nI pn), .int (nI mm)])).length) Slot.unset).toArray = ls at hl ⊢
  have hl : lv_has ls 8 [zR 0 h0, zI 1 v1, zI 2 (nI jn), zI 3 (nI pn), zI 4 (nI mm)] := hl
  have kf205 := hts (.fieldLink RX6 205 "PebbleInShoeModel" "caseFelt" "I") (by decide +kernel)
  have hiX6 := (by decide +kernel : ∀ w ∈ wsX60, w ∈ wsX6_caseBy)
  have kf16 := hts (.fieldLink RX6 16 "PebbleInShoeModel" "stones" "[I") (by decide +kernel)
  have kf208 := hts (.fieldLink RX6 208 "PebbleInShoeModel" "caseSize" "I") (by decide +kernel)
  have kf214 := hts (.fieldLink RX6 214 "PebbleInShoeModel" "isGuilty" "Z") (by decide +kernel)
  refine lv_iload_n hx hb dX6_caseBy_0 rfl (lv_at hl 1 rfl) ?_
  refine lv_i2l (v := v1.toInt64) hx hb dX6_caseBy_1 rfl ?_
  refine lv_lconst (v := 1) hx hb dX6_caseBy_2 (by decide +kernel) ?_
  refine lv_ladd hx hb dX6_caseBy_3 ?_
  refine lv_lstore (lv' := [zL 5 (v1.toInt64 + 1), zR 0 h0, zI 1 v1, zI 2 (nI jn), zI 3 (nI pn), zI 4 (nI mm)]) hx hb dX6_caseBy_4 hl (by decide +kernel) rfl (fun ls hl => ?_)
  refine lv_aload_n hx hb dX6_caseBy_6 rfl (lv_at hl 1 rfl) ?_
  refine z_callv [0, 9, 2, 1] (va_runV (As := []) (rest := []) ⟨hx, hb, hml, hown, hts⟩ (c_X6_keeps l G h0 kd mo st ro tp cd sr ir ih ss sq ce lw wo he sk na kp gb go fa ga vo pb jg td tx ru him s19 s20 s21 s22 s25 s26 s27 s31 s32 s33 s34 s39 s40 fkp fro fst s.heap.size (by first | exact hpb | assumption | omega) (by first | exact hjg | assumption | omega) (by first | exact htx | assumption | omega) (by first | exact hru | assumption | omega)) (cwV 0 hts gX6_caseBy_X6_keeps rfl rfl rfl (by decide +kernel) ⟨Nat.le_of_ble_eq_true rfl, Nat.le_of_ble_eq_true rfl⟩) ⟨gPre_blind, va_recv (q := (RX6, TX6, 42)) hK hP (ci := 6) (q0 := 0) rfl rfl, fun U hU hW => gPre_ofF [0, 9, 2, 1] hU hW hK hP hD (by decide +kernel) rfl⟩ rfl rfl hl.1 rfl (lv_room (Nat.le_of_ble_eq_true rfl)) dX6_caseBy_7 ⟨Nat.le_of_ble_eq_true rfl, Nat.le_of_ble_eq_true rfl⟩) hS hD hA rfl (fun u t H locs ht hvm w_2 hB hz1 hk1 hFq hAq hS => ?_)
  obtain ⟨hP1, hK1, hD1⟩ := hB
  have hz9 : gPD G A [zo6 h0 (nI pb) kd mo st (nI jg) ro tp (nI td) cd sr (nI tx) (nI ru) him ir ih ss sq ce lw s19 s20 s21 s22 wo he s25 s26 s27 sk na kp s31 s32 s33 s34 gb go fa ga s39 s40 vo, zi G st 12 fst, zi G ro 12 fro, zi G mo 6 fmo, zi G kd 6 fkd, zi G cd 1200 fcd, zi G sr 24 (nF fsr), zi G sk 200 fsk, zi G na 6 fna, zi G kp 24 (mKeep fro fst)] H := zFill hP hD [0, 9, 2, 1] [1, 4, 3, 0, 0, 0, 0, 0, 0, 2] hAq hk1 hFq ht hP1 hD1 rfl (by decide +kernel)
  have hP := hz9.1
  have hD := hz9.2
  refine lv_aload_n hx hb dX6_caseBy_10 rfl (lv_at hl 1 rfl) ?_
  refine lv_iconst (v := 0) hx hb dX6_caseBy_11 (by decide +kernel) ?_
  refine va_put (D := G.1) (ci := 6) (v := .int 0) (ty := .int) (C := RX6) (T := TX6) (N := 42) hx hb hts hiX6 tyX6 tyX6_ok nmX6 hown hK hP hD hS 0 rfl rfl 31 (by decide +kernel) kf205 (fun _ h9 => h9) rfl (by decide +kernel) rfl rfl (Nat.le_of_ble_eq_true rfl) dX6_caseBy_12 (fun H locs hP hD hS => ?_)
  have hz9 : gPD G A [zo6 h0 (nI pb) kd mo st (nI jg) ro tp (nI td) cd sr (nI tx) (nI ru) him ir ih ss sq ce lw s19 s20 s21 s22 wo he s25 s26 s27 sk na kp 0 s32 s33 s34 gb go fa ga s39 s40 vo, zi G st 12 fst, zi G ro 12 fro, zi G mo 6 fmo, zi G kd 6 fkd, zi G cd 1200 fcd, zi G sr 24 (nF fsr), zi G sk 200 fsk, zi G na 6 fna, zi G kp 24 (mKeep fro fst)] H := ⟨hP, hD⟩
  have hP := hz9.1
  have hD := hz9.2
  refine lv_iconst (v := 0) hx hb dX6_caseBy_15 (by decide +kernel) ?_
  refine lv_istore (lv' := [zI 7 0, zL 5 (v1.toInt64 + 1), zR 0 h0, zI 1 v1, zI 2 (nI jn), zI 3 (nI pn), zI 4 (nI mm)]) hx hb dX6_caseBy_16 hl (by decide +kernel) rfl (fun ls hl => ?_)
  have loop_18 : ∀ (n9 : Nat) (k18 : Nat) (lo : Int64) (y18st : Nat → Int32) (y18ro : Nat → Int32) (z31f : Int32) (x18sk : Nat → Int32) (x18na : Nat → Int32), (k18 ≤ (mm % 100)) → (p_X6_caseBy_18 ru fmo fkd fcd fsr jn pn mm ((mm % 100) - k18) k18 lo y18st y18ro z31f = (g_X6_caseBy_18 ru fst fro fmo fkd fcd fsr v1 jn pn mm)) → ((mm % 100) - k18) < n9 → ∀ (H : Heap) (locs : List Loc), va_P G.1 vwCl [zo6 h0 (nI pb) kd mo st (nI jg) ro tp (nI td) cd sr (nI tx) (nI ru) him ir ih ss sq ce lw s19 s20 s21 s22 wo he s25 s26 s27 sk na kp z31f s32 s33 s34 gb go fa ga s39 s40 vo, zi G st 12 y18st, zi G ro 12 y18ro, zi G mo 6 fmo, zi G kd 6 fkd, zi G cd 1200 fcd, zi G sr 24 (nF fsr), zi G sk 200 x18sk, zi G na 6 x18na, zi G kp 24 (mKeep fro fst)] H → va_D A [zo6 h0 (nI pb) kd mo st (nI jg) ro tp (nI td) cd sr (nI tx) (nI ru) him ir ih ss sq ce lw s19 s20 s21 s22 wo he s25 s26 s27 sk na kp z31f s32 s33 s34 gb go fa ga s39 s40 vo, zi G st 12 y18st, zi G ro 12 y18ro, zi G mo 6 fmo, zi G kd 6 fkd, zi G cd 1200 fcd, zi G sr 24 (nF fsr), zi G sk 200 x18sk, zi G na 6 x18na, zi G kp 24 (mKeep fro fst)] → va_S A s.heap H locs → ∀ ls : Array Slot, lv_has ls 8 [zI 7 (nI k18), zL 5 lo, zR 0 h0, zI 1 v1, zI 2 (nI jn), zI 3 (nI pn), zI 4 (nI mm)] → W p l e (headSpec wsX6_caseBy ({ frames := 5, cells := 0, slots := 0, locals := 120 })).room s m ([.ref h0, .int v1, .int (nI jn), .int (nI pn), .int (nI mm)] : List Value).toArray below meth c H locs 0 0 (MQ below (q_X6_caseBy G h0 kd mo st ro tp cd sr ir ih ss sq ce lw wo he sk na kp gb go fa ga vo pb jg td tx ru him s19 s20 s21 s22 s25 s26 s27 s31 s32 s33 s34 s39 s40 fst fro fmo fkd fcd fsr fsk fna fkp v1 jn pn mm A) ([.ref h0, .int v1, .int (nI jn), .int (nI pn), .int (nI mm)] : List Value).toArray s 0 0 A) (F0 m 18 ls []) := by
    intro n9
    induction n9 with
    | zero => intro k18 lo y18st y18ro z31f x18sk x18na hk18 R18 hm9_18; exact absurd hm9_18 (Nat.not_lt_zero _)
    | succ n9 ih9_18 =>
      intro k18 lo y18st y18ro z31f x18sk x18na hk18 R18 hm9_18 H locs hP hD hS ls hl
      refine lv_iload hx hb dX6_caseBy_18 (lv_at hl 0 rfl) ?_
      refine lv_iload hx hb dX6_caseBy_20 (lv_at hl 6 rfl) ?_
      refine lv_bipush (v := 100) hx hb dX6_caseBy_22 (by decide +kernel) ?_
      refine lv_irem hx hb dX6_caseBy_24 (by decide +kernel) ?_
      refine g_topi (y := nI (mm % 100)) (nI_rem (a := mm) (d := 100) (by omega) (by omega) (by omega)) ?_
      refine lv_icmp_ge (tgt := 73) hx hb dX6_caseBy_25 (by decide +kernel) (fun c_4 => ?_) (fun c_4 => ?_)
      · skip
        have c_4N : (mm % 100) ≤ k18 := nI_le1 (a := (mm % 100)) (b := k18) (by omega) (by omega) c_4
        have hF18 : (g_X6_caseBy_18 ru fst fro fmo fkd fcd fsr v1 jn pn mm) = (k18, lo, y18st, y18ro, z31f) := by rw [← R18, show (mm % 100) - k18 = 0 by omega]; rfl
        have hE18_0 : k18 = ((g_X6_caseBy_18 ru fst fro fmo fkd fcd fsr v1 jn pn mm).1) := by rw [hF18]
        have hE18_1 : lo = ((g_X6_caseBy_18 ru fst fro fmo fkd fcd fsr v1 jn pn mm).2.1) := by rw [hF18]
        have hE18_2 : y18st = ((g_X6_caseBy_18 ru fst fro fmo fkd fcd fsr v1 jn pn mm).2.2.1) := by rw [hF18]
        have hE18_3 : y18ro = ((g_X6_caseBy_18 ru fst fro fmo fkd fcd fsr v1 jn pn mm).2.2.2.1) := by rw [hF18]
        have hE18_4 : z31f = ((g_X6_caseBy_18 ru fst fro fmo fkd fcd fsr v1 jn pn mm).2.2.2.2) := by rw [hF18]
        clear hF18 R18
        subst hE18_0
        subst hE18_1
        subst hE18_2
        subst hE18_3
        subst hE18_4
        refine lv_aload_n hx hb dX6_caseBy_73 rfl (lv_at hl 2 rfl) ?_
        refine g_aget (D := G.1) (ci := 6) (v := .ref st) (C := RX6) (T := TX6) (N := 42) hx hb dX6_caseBy_74 rfl (lv_at hl 2 rfl) hts hiX6 hown hK hP 0 rfl rfl 3 (by decide +kernel) kf16 (fun _ h9 => h9) rfl dX6_caseBy_75 ?_
        refine lv_iconst (v := 2) hx hb dX6_caseBy_78 (by decide +kernel) ?_
        refine lv_iload_n hx hb dX6_caseBy_79 rfl (lv_at hl 5 rfl) ?_
        refine lv_imul hx hb dX6_caseBy_80 ?_
        refine g_topi (y := nI (2 * pn)) (pk_mul 2 pn) ?_
        refine g_iald (D := G.1) hx hb hK hP 1 0 rfl rfl (k := 2 * pn) (y := ((g_X6_caseBy_18 ru fst fro fmo fkd fcd fsr v1 jn pn mm).2.2.1) (2 * pn)) (by omega) rfl rfl dX6_caseBy_81 ?_
        refine va_put (D := G.1) (ci := 6) (v := .int (((g_X6_caseBy_18 ru fst fro fmo fkd fcd fsr v1 jn pn mm).2.2.1) (2 * pn))) (ty := .int) (C := RX6) (T := TX6) (N := 42) hx hb hts hiX6 tyX6 tyX6_ok nmX6 hown hK hP hD hS 0 rfl rfl 32 (by decide +kernel) kf208 (fun _ h9 => h9) rfl (by decide +kernel) rfl rfl (Nat.le_of_ble_eq_true rfl) dX6_caseBy_82 (fun H locs hP hD hS => ?_)
        have hz9 : gPD G A [zo6 h0 (nI pb) kd mo st (nI jg) ro tp (nI td) cd sr (nI tx) (nI ru) him ir ih ss sq ce lw s19 s20 s21 s22 wo he s25 s26 s27 sk na kp ((g_X6_caseBy_18 ru fst fro fmo fkd fcd fsr v1 jn pn mm).2.2.2.2) (((g_X6_caseBy_18 ru fst fro fmo fkd fcd fsr v1 jn pn mm).2.2.1) (2 * pn)) s33 s34 gb go fa ga s39 s40 vo, zi G st 12 ((g_X6_caseBy_18 ru fst fro fmo fkd fcd fsr v1 jn pn mm).2.2.1), zi G ro 12 ((g_X6_caseBy_18 ru fst fro fmo fkd fcd fsr v1 jn pn mm).2.2.2.1), zi G mo 6 fmo, zi G kd 6 fkd, zi G cd 1200 fcd, zi G sr 24 (nF fsr), zi G sk 200 x18sk, zi G na 6 x18na, zi G kp 24 (mKeep fro fst)] H := ⟨hP, hD⟩
        have hP := hz9.1
        have hD := hz9.2
        refine lv_aload_n hx hb dX6_caseBy_85 rfl (lv_at hl 2 rfl) ?_
        refine g_aget (D := G.1) (ci := 6) (v := .int ((g_X6_caseBy_18 ru fst fro fmo fkd fcd fsr v1 jn pn mm).2.2.2.2)) (C := RX6) (T := TX6) (N := 42) hx hb dX6_caseBy_86 rfl (lv_at hl 2 rfl) hts hiX6 hown hK hP 0 rfl rfl 31 (by decide +kernel) kf205 (fun _ h9 => h9) rfl dX6_caseBy_87 ?_
        refine lv_aload_n hx hb dX6_caseBy_90 rfl (lv_at hl 2 rfl) ?_
        refine lv_iconst (v := 2) hx hb dX6_caseBy_91 (by decide +kernel) ?_
        refine lv_iload_n hx hb dX6_caseBy_92 rfl (lv_at hl 4 rfl) ?_
        refine lv_iload_n hx hb dX6_caseBy_93 rfl (lv_at hl 5 rfl) ?_
        refine z_calli [0, 1, 2, 3, 5, 6, 7, 8] (v := m_X6_asksOf ru ((g_X6_caseBy_18 ru fst fro fmo fkd fcd fsr v1 jn pn mm).2.2.1) ((g_X6_caseBy_18 ru fst fro fmo fkd fcd fsr v1 jn pn mm).2.2.2.1) fmo fcd fsr 2 jn pn) (fun _ ⟨_, _⟩ h => h) (va_runV (As := [.int 2, .int (nI jn), .int (nI pn)]) (rest := [.int ((g_X6_caseBy_18 ru fst fro fmo fkd fcd fsr v1 jn pn mm).2.2.2.2), .ref h0]) ⟨hx, hb, hml, hown, hts⟩ (c_X6_asksOf l G h0 kd mo st ro tp cd sr ir ih ss sq ce lw wo he sk na kp gb go fa ga vo pb jg td tx ru him s19 s20 s21 s22 s25 s26 s27 ((g_X6_caseBy_18 ru fst fro fmo fkd fcd fsr v1 jn pn mm).2.2.2.2) (((g_X6_caseBy_18 ru fst fro fmo fkd fcd fsr v1 jn pn mm).2.2.1) (2 * pn)) s33 s34 s39 s40 ((g_X6_caseBy_18 ru fst fro fmo fkd fcd fsr v1 jn pn mm).2.2.1) ((g_X6_caseBy_18 ru fst fro fmo fkd fcd fsr v1 jn pn mm).2.2.2.1) fmo fcd fsr x18sk x18na 2 jn pn H.size (by omega) (by first | exact hj | assumption | omega) (by first | exact hp | assumption | omega) (by first | exact hwf | assumption | omega) (by first | exact hpb | assumption | omega) (by first | exact hjg | assumption | omega) (by first | exact htx | assumption | omega) (by first | exact hru | assumption | omega)) (cwV 3 hts gX6_caseBy_X6_asksOf rfl rfl rfl (by decide +kernel) ⟨Nat.le_of_ble_eq_true rfl, Nat.le_of_ble_eq_true rfl⟩) ⟨gPre_blind, va_recv (q := (RX6, TX6, 42)) hK hP (ci := 6) (q0 := 0) rfl rfl, fun U hU hW => gPre_ofF [0, 1, 2, 3, 5, 6, 7, 8] hU hW hK hP hD (by decide +kernel) rfl⟩ rfl rfl hl.1 rfl (lv_room (Nat.le_of_ble_eq_true rfl)) dX6_caseBy_94 ⟨Nat.le_of_ble_eq_true rfl, Nat.le_of_ble_eq_true rfl⟩) hS hD hA rfl (fun u t H locs ht hvm hB hz1 hk1 hFq hAq hS => ?_)
        obtain ⟨ysk_9, yna_10⟩ := u
        obtain ⟨hP1, hK1, hD1⟩ := hB
        have hz9 : gPD G A [zo6 h0 (nI pb) kd mo st (nI jg) ro tp (nI td) cd sr (nI tx) (nI ru) him ir ih ss sq ce lw s19 s20 s21 s22 wo he s25 s26 s27 sk na kp ((g_X6_caseBy_18 ru fst fro fmo fkd fcd fsr v1 jn pn mm).2.2.2.2) (((g_X6_caseBy_18 ru fst fro fmo fkd fcd fsr v1 jn pn mm).2.2.1) (2 * pn)) s33 s34 gb go fa ga s39 s40 vo, zi G st 12 ((g_X6_caseBy_18 ru fst fro fmo fkd fcd fsr v1 jn pn mm).2.2.1), zi G ro 12 ((g_X6_caseBy_18 ru fst fro fmo fkd fcd fsr v1 jn pn mm).2.2.2.1), zi G mo 6 fmo, zi G kd 6 fkd, zi G cd 1200 fcd, zi G sr 24 (nF fsr), zi G sk 200 ysk_9, zi G na 6 yna_10, zi G kp 24 (mKeep fro fst)] H := zFill hP hD [0, 1, 2, 3, 5, 6, 7, 8] [1, 2, 3, 4, 0, 5, 6, 7, 8] hAq hk1 hFq ht hP1 hD1 rfl (by decide +kernel)
        have hP := hz9.1
        have hD := hz9.2
        refine lv_icmp_lt (tgt := 104) hx hb dX6_caseBy_97 (by decide +kernel) (fun c_11 => ?_) (fun c_11 => ?_)
        · skip
          refine lv_iconst (v := 0) hx hb dX6_caseBy_104 (by decide +kernel) ?_
          refine va_put (D := G.1) (ci := 6) (v := .int 0) (ty := .boolean) (C := RX6) (T := TX6) (N := 42) hx hb hts hiX6 tyX6 tyX6_ok nmX6 hown hK hP hD hS 0 rfl rfl 34 (by decide +kernel) kf214 (fun _ h9 => h9) rfl (by decide +kernel) rfl rfl (Nat.le_of_ble_eq_true rfl) dX6_caseBy_105 (fun H locs hP hD hS => ?_)
          have hz9 : gPD G A [zo6 h0 (nI pb) kd mo st (nI jg) ro tp (nI td) cd sr (nI tx) (nI ru) him ir ih ss sq ce lw s19 s20 s21 s22 wo he s25 s26 s27 sk na kp ((g_X6_caseBy_18 ru fst fro fmo fkd fcd fsr v1 jn pn mm).2.2.2.2) (((g_X6_caseBy_18 ru fst fro fmo fkd fcd fsr v1 jn pn mm).2.2.1) (2 * pn)) s33 0 gb go fa ga s39 s40 vo, zi G st 12 ((g_X6_caseBy_18 ru fst fro fmo fkd fcd fsr v1 jn pn mm).2.2.1), zi G ro 12 ((g_X6_caseBy_18 ru fst fro fmo fkd fcd fsr v1 jn pn mm).2.2.2.1), zi G mo 6 fmo, zi G kd 6 fkd, zi G cd 1200 fcd, zi G sr 24 (nF fsr), zi G sk 200 ysk_9, zi G na 6 yna_10, zi G kp 24 (mKeep fro fst)] H := ⟨hP, hD⟩
          have hP := hz9.1
          have hD := hz9.2
          refine lv_aload_n hx hb dX6_caseBy_108 rfl (lv_at hl 2 rfl) ?_
          refine z_callv [0, 9, 2, 1] (va_runV (As := []) (rest := []) ⟨hx, hb, hml, hown, hts⟩ (c_X6_laysBack l G h0 kd mo st ro tp cd sr ir ih ss sq ce lw wo he sk na kp gb go fa ga vo pb jg td tx ru him s19 s20 s21 s22 s25 s26 s27 ((g_X6_caseBy_18 ru fst fro fmo fkd fcd fsr v1 jn pn mm).2.2.2.2) (((g_X6_caseBy_18 ru fst fro fmo fkd fcd fsr v1 jn pn mm).2.2.1) (2 * pn)) s33 0 s39 s40 ((g_X6_caseBy_18 ru fst fro fmo fkd fcd fsr v1 jn pn mm).2.2.2.1) ((g_X6_caseBy_18 ru fst fro fmo fkd fcd fsr v1 jn pn mm).2.2.1) fro fst H.size (by first | exact hpb | assumption | omega) (by first | exact hjg | assumption | omega) (by first | exact htx | assumption | omega) (by first | exact hru | assumption | omega)) (cwV 0 hts gX6_caseBy_X6_laysBack rfl rfl rfl (by decide +kernel) ⟨Nat.le_of_ble_eq_true rfl, Nat.le_of_ble_eq_true rfl⟩) ⟨gPre_blind, va_recv (q := (RX6, TX6, 42)) hK hP (ci := 6) (q0 := 0) rfl rfl, fun U hU hW => gPre_ofF [0, 9, 2, 1] hU hW hK hP hD (by decide +kernel) rfl⟩ rfl rfl hl.1 rfl (lv_room (Nat.le_of_ble_eq_true rfl)) dX6_caseBy_109 ⟨Nat.le_of_ble_eq_true rfl, Nat.le_of_ble_eq_true rfl⟩) hS hD hA rfl (fun u t H locs ht hvm w_13 hB hz1 hk1 hFq hAq hS => ?_)
          obtain ⟨hP1, hK1, hD1⟩ := hB
          have hz9 : gPD G A [zo6 h0 (nI pb) kd mo st (nI jg) ro tp (nI td) cd sr (nI tx) (nI ru) him ir ih ss sq ce lw s19 s20 s21 s22 wo he s25 s26 s27 sk na kp ((g_X6_caseBy_18 ru fst fro fmo fkd fcd fsr v1 jn pn mm).2.2.2.2) (((g_X6_caseBy_18 ru fst fro fmo fkd fcd fsr v1 jn pn mm).2.2.1) (2 * pn)) s33 0 gb go fa ga s39 s40 vo, zi G st 12 fst, zi G ro 12 fro, zi G mo 6 fmo, zi G kd 6 fkd, zi G cd 1200 fcd, zi G sr 24 (nF fsr), zi G sk 200 ysk_9, zi G na 6 yna_10, zi G kp 24 (mKeep fro fst)] H := zFill hP hD [0, 9, 2, 1] [1, 4, 3, 0, 0, 0, 0, 0, 0, 2] hAq hk1 hFq ht hP1 hD1 rfl (by decide +kernel)
          have hP := hz9.1
          have hD := hz9.2
          have q_14 : m_X6_caseBy_h031 ru fst fro fmo fkd fcd fsr v1 jn pn mm = ((g_X6_caseBy_18 ru fst fro fmo fkd fcd fsr v1 jn pn mm).2.2.2.2) := rfl
          have q_15 : m_X6_caseBy_h032 ru fst fro fmo fkd fcd fsr v1 jn pn mm = (((g_X6_caseBy_18 ru fst fro fmo fkd fcd fsr v1 jn pn mm).2.2.1) (2 * pn)) := rfl
          have q_16 : m_X6_caseBy_h034 ru fst fro fmo fkd fcd fsr v1 jn pn mm = 0 := by unfold m_X6_caseBy_h034; rw [if_pos c_11]
          have hz9 : gPD G A [zo6 h0 (nI pb) kd mo st (nI jg) ro tp (nI td) cd sr (nI tx) (nI ru) him ir ih ss sq ce lw s19 s20 s21 s22 wo he s25 s26 s27 sk na kp (m_X6_caseBy_h031 ru fst fro fmo fkd fcd fsr v1 jn pn mm) (m_X6_caseBy_h032 ru fst fro fmo fkd fcd fsr v1 jn pn mm) s33 (m_X6_caseBy_h034 ru fst fro fmo fkd fcd fsr v1 jn pn mm) gb go fa ga s39 s40 vo, zi G st 12 fst, zi G ro 12 fro, zi G mo 6 fmo, zi G kd 6 fkd, zi G cd 1200 fcd, zi G sr 24 (nF fsr), zi G sk 200 ysk_9, zi G na 6 yna_10, zi G kp 24 (mKeep fro fst)] H := ⟨by rw [q_14, q_15, q_16]; exact hP, by rw [q_14, q_15, q_16]; exact hD⟩
          have hP9 := hz9.1
          have hD9 := hz9.2
          have hpost : (fun (u : (Nat → Int32) × (Nat → Int32) × (Nat → Int32)) => match u with | (ysk, yna, ykp) => True) (ysk_9, yna_10, mKeep fro fst) := trivial
          exact W.vret hx hb hr (fun t ht hW => ⟨⟨(ysk_9, yna_10, mKeep fro fst), rfl, hpost, by rw [ht]; exact hP9, va_K.moved hW.alike hK, hD9⟩, hS.F ht⟩) hS.2.2 dX6_caseBy_112
        · skip
          refine lv_iconst (v := 1) hx hb dX6_caseBy_100 (by decide +kernel) ?_
          refine lv_goto (tgt := 105) hx hb dX6_caseBy_101 (by decide +kernel) ?_
          refine va_put (D := G.1) (ci := 6) (v := .int 1) (ty := .boolean) (C := RX6) (T := TX6) (N := 42) hx hb hts hiX6 tyX6 tyX6_ok nmX6 hown hK hP hD hS 0 rfl rfl 34 (by decide +kernel) kf214 (fun _ h9 => h9) rfl (by decide +kernel) rfl rfl (Nat.le_of_ble_eq_true rfl) dX6_caseBy_105 (fun H locs hP hD hS => ?_)
          have hz9 : gPD G A [zo6 h0 (nI pb) kd mo st (nI jg) ro tp (nI td) cd sr (nI tx) (nI ru) him ir ih ss sq ce lw s19 s20 s21 s22 wo he s25 s26 s27 sk na kp ((g_X6_caseBy_18 ru fst fro fmo fkd fcd fsr v1 jn pn mm).2.2.2.2) (((g_X6_caseBy_18 ru fst fro fmo fkd fcd fsr v1 jn pn mm).2.2.1) (2 * pn)) s33 1 gb go fa ga s39 s40 vo, zi G st 12 ((g_X6_caseBy_18 ru fst fro fmo fkd fcd fsr v1 jn pn mm).2.2.1), zi G ro 12 ((g_X6_caseBy_18 ru fst fro fmo fkd fcd fsr v1 jn pn mm).2.2.2.1), zi G mo 6 fmo, zi G kd 6 fkd, zi G cd 1200 fcd, zi G sr 24 (nF fsr), zi G sk 200 ysk_9, zi G na 6 yna_10, zi G kp 24 (mKeep fro fst)] H := ⟨hP, hD⟩
          have hP := hz9.1
          have hD := hz9.2
          refine lv_aload_n hx hb dX6_caseBy_108 rfl (lv_at hl 2 rfl) ?_
          refine z_callv [0, 9, 2, 1] (va_runV (As := []) (rest := []) ⟨hx, hb, hml, hown, hts⟩ (c_X6_laysBack l G h0 kd mo st ro tp cd sr ir ih ss sq ce lw wo he sk na kp gb go fa ga vo pb jg td tx ru him s19 s20 s21 s22 s25 s26 s27 ((g_X6_caseBy_18 ru fst fro fmo fkd fcd fsr v1 jn pn mm).2.2.2.2) (((g_X6_caseBy_18 ru fst fro fmo fkd fcd fsr v1 jn pn mm).2.2.1) (2 * pn)) s33 1 s39 s40 ((g_X6_caseBy_18 ru fst fro fmo fkd fcd fsr v1 jn pn mm).2.2.2.1) ((g_X6_caseBy_18 ru fst fro fmo fkd fcd fsr v1 jn pn mm).2.2.1) fro fst H.size (by first | exact hpb | assumption | omega) (by first | exact hjg | assumption | omega) (by first | exact htx | assumption | omega) (by first | exact hru | assumption | omega)) (cwV 0 hts gX6_caseBy_X6_laysBack rfl rfl rfl (by decide +kernel) ⟨Nat.le_of_ble_eq_true rfl, Nat.le_of_ble_eq_true rfl⟩) ⟨gPre_blind, va_recv (q := (RX6, TX6, 42)) hK hP (ci := 6) (q0 := 0) rfl rfl, fun U hU hW => gPre_ofF [0, 9, 2, 1] hU hW hK hP hD (by decide +kernel) rfl⟩ rfl rfl hl.1 rfl (lv_room (Nat.le_of_ble_eq_true rfl)) dX6_caseBy_109 ⟨Nat.le_of_ble_eq_true rfl, Nat.le_of_ble_eq_true rfl⟩) hS hD hA rfl (fun u t H locs ht hvm w_18 hB hz1 hk1 hFq hAq hS => ?_)
          obtain ⟨hP1, hK1, hD1⟩ := hB
          have hz9 : gPD G A [zo6 h0 (nI pb) kd mo st (nI jg) ro tp (nI td) cd sr (nI tx) (nI ru) him ir ih ss sq ce lw s19 s20 s21 s22 wo he s25 s26 s27 sk na kp ((g_X6_caseBy_18 ru fst fro fmo fkd fcd fsr v1 jn pn mm).2.2.2.2) (((g_X6_caseBy_18 ru fst fro fmo fkd fcd fsr v1 jn pn mm).2.2.1) (2 * pn)) s33 1 gb go fa ga s39 s40 vo, zi G st 12 fst, zi G ro 12 fro, zi G mo 6 fmo, zi G kd 6 fkd, zi G cd 1200 fcd, zi G sr 24 (nF fsr), zi G sk 200 ysk_9, zi G na 6 yna_10, zi G kp 24 (mKeep fro fst)] H := zFill hP hD [0, 9, 2, 1] [1, 4, 3, 0, 0, 0, 0, 0, 0, 2] hAq hk1 hFq ht hP1 hD1 rfl (by decide +kernel)
          have hP := hz9.1
          have hD := hz9.2
          have q_19 : m_X6_caseBy_h031 ru fst fro fmo fkd fcd fsr v1 jn pn mm = ((g_X6_caseBy_18 ru fst fro fmo fkd fcd fsr v1 jn pn mm).2.2.2.2) := rfl
          have q_20 : m_X6_caseBy_h032 ru fst fro fmo fkd fcd fsr v1 jn pn mm = (((g_X6_caseBy_18 ru fst fro fmo fkd fcd fsr v1 jn pn mm).2.2.1) (2 * pn)) := rfl
          have q_21 : m_X6_caseBy_h034 ru fst fro fmo fkd fcd fsr v1 jn pn mm = 1 := by unfold m_X6_caseBy_h034; rw [if_neg c_11]
          have hz9 : gPD G A [zo6 h0 (nI pb) kd mo st (nI jg) ro tp (nI td) cd sr (nI tx) (nI ru) him ir ih ss sq ce lw s19 s20 s21 s22 wo he s25 s26 s27 sk na kp (m_X6_caseBy_h031 ru fst fro fmo fkd fcd fsr v1 jn pn mm) (m_X6_caseBy_h032 ru fst fro fmo fkd fcd fsr v1 jn pn mm) s33 (m_X6_caseBy_h034 ru fst fro fmo fkd fcd fsr v1 jn pn mm) gb go fa ga s39 s40 vo, zi G st 12 fst, zi G ro 12 fro, zi G mo 6 fmo, zi G kd 6 fkd, zi G cd 1200 fcd, zi G sr 24 (nF fsr), zi G sk 200 ysk_9, zi G na 6 yna_10, zi G kp 24 (mKeep fro fst)] H := ⟨by rw [q_19, q_20, q_21]; exact hP, by rw [q_19, q_20, q_21]; exact hD⟩
          have hP9 := hz9.1
          have hD9 := hz9.2
          have hpost : (fun (u : (Nat → Int32) × (Nat → Int32) × (Nat → Int32)) => match u with | (ysk, yna, ykp) => True) (ysk_9, yna_10, mKeep fro fst) := trivial
          exact W.vret hx hb hr (fun t ht hW => ⟨⟨(ysk_9, yna_10, mKeep fro fst), rfl, hpost, by rw [ht]; exact hP9, va_K.moved hW.alike hK, hD9⟩, hS.F ht⟩) hS.2.2 dX6_caseBy_112
      · skip
        have c_4N : k18 < (mm % 100) := nI_le0 (a := (mm % 100)) (b := k18) (by omega) (by omega) c_4
        refine lv_lload hx hb dX6_caseBy_28 (lv_at hl 1 rfl) ?_
        refine lv_ldc2 hx hb hown (hts (.constantLong RX6 257 (48271)) (by decide +kernel)) dX6_caseBy_30 ?_
        refine lv_lmul hx hb dX6_caseBy_33 ?_
        refine lv_ldc2 hx hb hown (hts (.constantLong RX6 259 (2147483647)) (by decide +kernel)) dX6_caseBy_34 ?_
        refine lv_lrem hx hb dX6_caseBy_37 (by decide +kernel) ?_
        refine lv_lstore (lv' := [zL 5 (lRem (lo * 48271) 2147483647), zI 7 (nI k18), zR 0 h0, zI 1 v1, zI 2 (nI jn), zI 3 (nI pn), zI 4 (nI mm)]) hx hb dX6_caseBy_38 hl (by decide +kernel) rfl (fun ls hl => ?_)
        refine lv_aload_n hx hb dX6_caseBy_40 rfl (lv_at hl 2 rfl) ?_
        refine lv_dup hx hb dX6_caseBy_41 rfl ?_
        refine va_get (D := G.1) (ci := 6) (v := .int z31f) (C := RX6) (T := TX6) (N := 42) hx hb hts hiX6 hown hK hP 0 rfl rfl 31 (by decide +kernel) kf205 (fun _ h9 => h9) rfl dX6_caseBy_42 ?_
        refine lv_aload_n hx hb dX6_caseBy_45 rfl (lv_at hl 2 rfl) ?_
        refine lv_iload_n hx hb dX6_caseBy_46 rfl (lv_at hl 4 rfl) ?_
        refine lv_iload_n hx hb dX6_caseBy_47 rfl (lv_at hl 5 rfl) ?_
        refine lv_lload hx hb dX6_caseBy_48 (lv_at hl 0 rfl) ?_
        refine lv_iload hx hb dX6_caseBy_50 (lv_at hl 6 rfl) ?_
        refine lv_bipush (v := 100) hx hb dX6_caseBy_52 (by decide +kernel) ?_
        refine lv_idiv hx hb dX6_caseBy_54 (by decide +kernel) ?_
        refine g_topi (y := nI (mm / 100)) (pk_div (a := mm) (d := 100) (by omega) (by omega) (by omega)) ?_
        refine lv_iconst (v := 1) hx hb dX6_caseBy_55 (by decide +kernel) ?_
        refine lv_iadd hx hb dX6_caseBy_56 ?_
        refine g_topi (y := nI ((mm / 100) + 1)) (nI_add (mm / 100) 1) ?_
        refine lv_i2l (v := lN ((mm / 100) + 1)) hx hb dX6_caseBy_57 (nI_l (by omega)) ?_
        refine lv_lrem hx hb dX6_caseBy_58 (lN_ne0 (by omega) (by omega)) ?_
        refine lv_l2i (v := (lRem (lRem (lo * 48271) 2147483647) (lN ((mm / 100) + 1))).toInt32) hx hb dX6_caseBy_59 rfl ?_
        refine z_calli [0, 1, 2, 3, 4, 5, 6, 7, 8] (v := m_X6_mile ru y18st y18ro fmo fkd fcd fsr jn pn) (fun _ ⟨_, _⟩ h => h) (va_runV (As := [.int (nI jn), .int (nI pn), .int ((lRem (lRem (lo * 48271) 2147483647) (lN ((mm / 100) + 1))).toInt32)]) (rest := [.int z31f, .ref h0]) ⟨hx, hb, hml, hown, hts⟩ (c_X6_mile l G h0 kd mo st ro tp cd sr ir ih ss sq ce lw wo he sk na kp gb go fa ga vo pb jg td tx ru him s19 s20 s21 s22 s25 s26 s27 z31f s32 s33 s34 s39 s40 y18st y18ro fmo fkd fcd fsr x18sk x18na ((lRem (lRem (lo * 48271) 2147483647) (lN ((mm / 100) + 1))).toInt32) jn pn H.size (by first | exact hj | assumption | omega) (by first | exact hp | assumption | omega) (by first | exact hwf | assumption | omega) (by first | exact hpb | assumption | omega) (by first | exact hjg | assumption | omega) (by first | exact htx | assumption | omega) (by first | exact hru | assumption | omega)) (cwV 3 hts gX6_caseBy_X6_mile rfl rfl rfl (by decide +kernel) ⟨Nat.le_of_ble_eq_true rfl, Nat.le_of_ble_eq_true rfl⟩) ⟨gPre_blind, va_recv (q := (RX6, TX6, 42)) hK hP (ci := 6) (q0 := 0) rfl rfl, fun U hU hW => gPre_ofF [0, 1, 2, 3, 4, 5, 6, 7, 8] hU hW hK hP hD (by decide +kernel) rfl⟩ rfl rfl hl.1 rfl (lv_room (Nat.le_of_ble_eq_true rfl)) dX6_caseBy_60 ⟨Nat.le_of_ble_eq_true rfl, Nat.le_of_ble_eq_true rfl⟩) hS hD hA rfl (fun u t H locs ht hvm hB hz1 hk1 hFq hAq hS => ?_)
        obtain ⟨ysk_26, yna_27⟩ := u
        obtain ⟨hP1, hK1, hD1⟩ := hB
        have hz9 : gPD G A [zo6 h0 (nI pb) kd mo st (nI jg) ro tp (nI td) cd sr (nI tx) (nI ru) him ir ih ss sq ce lw s19 s20 s21 s22 wo he s25 s26 s27 sk na kp z31f s32 s33 s34 gb go fa ga s39 s40 vo, zi G st 12 (m_X6_mile_st ru y18st y18ro fmo fkd fcd fsr ((lRem (lRem (lo * 48271) 2147483647) (lN ((mm / 100) + 1))).toInt32) jn pn), zi G ro 12 (m_X6_mile_ro ru y18st y18ro fmo fkd fcd fsr jn pn), zi G mo 6 fmo, zi G kd 6 fkd, zi G cd 1200 fcd, zi G sr 24 (nF fsr), zi G sk 200 ysk_26, zi G na 6 yna_27, zi G kp 24 (mKeep fro fst)] H := zFill hP hD [0, 1, 2, 3, 4, 5, 6, 7, 8] [1, 2, 3, 4, 5, 6, 7, 8, 9] hAq hk1 hFq ht hP1 hD1 rfl (by decide +kernel)
        have hP := hz9.1
        have hD := hz9.2
        refine lv_iadd hx hb dX6_caseBy_63 ?_
        refine va_put (D := G.1) (ci := 6) (v := .int (z31f + (m_X6_mile ru y18st y18ro fmo fkd fcd fsr jn pn))) (ty := .int) (C := RX6) (T := TX6) (N := 42) hx hb hts hiX6 tyX6 tyX6_ok nmX6 hown hK hP hD hS 0 rfl rfl 31 (by decide +kernel) kf205 (fun _ h9 => h9) rfl (by decide +kernel) rfl rfl (Nat.le_of_ble_eq_true rfl) dX6_caseBy_64 (fun H locs hP hD hS => ?_)
        have hz9 : gPD G A [zo6 h0 (nI pb) kd mo st (nI jg) ro tp (nI td) cd sr (nI tx) (nI ru) him ir ih ss sq ce lw s19 s20 s21 s22 wo he s25 s26 s27 sk na kp (z31f + (m_X6_mile ru y18st y18ro fmo fkd fcd fsr jn pn)) s32 s33 s34 gb go fa ga s39 s40 vo, zi G st 12 (m_X6_mile_st ru y18st y18ro fmo fkd fcd fsr ((lRem (lRem (lo * 48271) 2147483647) (lN ((mm / 100) + 1))).toInt32) jn pn), zi G ro 12 (m_X6_mile_ro ru y18st y18ro fmo fkd fcd fsr jn pn), zi G mo 6 fmo, zi G kd 6 fkd, zi G cd 1200 fcd, zi G sr 24 (nF fsr), zi G sk 200 ysk_26, zi G na 6 yna_27, zi G kp 24 (mKeep fro fst)] H := ⟨hP, hD⟩
        have hP := hz9.1
        have hD := hz9.2
        refine lv_iinc (v := nI (k18 + 1)) (lv' := [zI 7 (nI (k18 + 1)), zL 5 (lRem (lo * 48271) 2147483647), zR 0 h0, zI 1 v1, zI 2 (nI jn), zI 3 (nI pn), zI 4 (nI mm)]) hx hb dX6_caseBy_67 hl (k := 1) rfl (nI_add k18 1) (by decide +kernel) rfl (fun ls hl => ?_)
        refine lv_goto (tgt := 18) hx hb dX6_caseBy_70 (by decide +kernel) ?_
        exact ih9_18 (k18 + 1) (lRem (lo * 48271) 2147483647) (m_X6_mile_st ru y18st y18ro fmo fkd fcd fsr ((lRem (lRem (lo * 48271) 2147483647) (lN ((mm / 100) + 1))).toInt32) jn pn) (m_X6_mile_ro ru y18st y18ro fmo fkd fcd fsr jn pn) (z31f + (m_X6_mile ru y18st y18ro fmo fkd fcd fsr jn pn)) ysk_26 yna_27 (by omega) (Eq.trans (Eq.symm ((congrArg (fun z9 => p_X6_caseBy_18 ru fmo fkd fcd fsr jn pn mm (z9) k18 lo y18st y18ro z31f) (show (mm % 100) - k18 = (mm % 100) - (k18 + 1) + 1 by omega)).trans (by show p_X6_caseBy_18 ru fmo fkd fcd fsr jn pn mm ((mm % 100) - (k18 + 1) + 1) k18 lo y18st y18ro z31f = _; rw [p_X6_caseBy_18]))) R18) (by omega) _ _ hP hD hS ls hl
  exact loop_18 ((mm % 100) - 0 + 1) 0 (v1.toInt64 + 1) fst fro 0 fsk fna (by omega) (rfl) (by omega) _ _ hP hD hS ls hl
