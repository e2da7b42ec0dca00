noncomputable def p_X6_firstOther_9 (ru : Nat) (fmo : Nat → Int32) (fkd : Nat → Int32) (fcd : Nat → Int32) (fsr : Nat → Nat) (fce : Nat → Int32) (sn : Nat) (jn : Nat) : Nat → Nat → Int32 → (Nat → Int32) → (Nat → Int32) → Nat × Int32 × (Nat → Int32) × (Nat → Int32)
  | 0, k4, fi, y9st, y9ro => (k4, fi, y9st, y9ro)
  | q9 + 1, k4, fi, y9st, y9ro => if fi = (-1) then (if (m_X6_caseOf ru y9st y9ro fmo fkd fcd fsr jn (nC (fce (40 * sn + 3 * k4))) (nC (fce (40 * sn + 3 * k4 + 1)))) < (m_X6_asksOf ru (m_X6_caseOf_st ru y9st y9ro fmo fkd fcd fsr jn (nC (fce (40 * sn + 3 * k4))) (nC (fce (40 * sn + 3 * k4 + 1)))) (m_X6_caseOf_ro ru y9st y9ro fmo fkd fcd fsr jn (nC (fce (40 * sn + 3 * k4))) (nC (fce (40 * sn + 3 * k4 + 1)))) fmo fcd fsr 2 jn (nC (fce (40 * sn + 3 * k4)))) then (if 0 = (fce (((40 * sn) + (3 * k4)) + 2)) then p_X6_firstOther_9 ru fmo fkd fcd fsr fce sn jn q9 (k4 + 1) (-1) (m_X6_caseOf_st ru y9st y9ro fmo fkd fcd fsr jn (nC (fce (40 * sn + 3 * k4))) (nC (fce (40 * sn + 3 * k4 + 1)))) (m_X6_caseOf_ro ru y9st y9ro fmo fkd fcd fsr jn (nC (fce (40 * sn + 3 * k4))) (nC (fce (40 * sn + 3 * k4 + 1)))) else p_X6_firstOther_9 ru fmo fkd fcd fsr fce sn jn q9 (k4 + 1) (nI k4) (m_X6_caseOf_st ru y9st y9ro fmo fkd fcd fsr jn (nC (fce (40 * sn + 3 * k4))) (nC (fce (40 * sn + 3 * k4 + 1)))) (m_X6_caseOf_ro ru y9st y9ro fmo fkd fcd fsr jn (nC (fce (40 * sn + 3 * k4))) (nC (fce (40 * sn + 3 * k4 + 1))))) else (if 1 = (fce (((40 * sn) + (3 * k4)) + 2)) then p_X6_firstOther_9 ru fmo fkd fcd fsr fce sn jn q9 (k4 + 1) (-1) (m_X6_caseOf_st ru y9st y9ro fmo fkd fcd fsr jn (nC (fce (40 * sn + 3 * k4))) (nC (fce (40 * sn + 3 * k4 + 1)))) (m_X6_caseOf_ro ru y9st y9ro fmo fkd fcd fsr jn (nC (fce (40 * sn + 3 * k4))) (nC (fce (40 * sn + 3 * k4 + 1)))) else p_X6_firstOther_9 ru fmo fkd fcd fsr fce sn jn q9 (k4 + 1) (nI k4) (m_X6_caseOf_st ru y9st y9ro fmo fkd fcd fsr jn (nC (fce (40 * sn + 3 * k4))) (nC (fce (40 * sn + 3 * k4 + 1)))) (m_X6_caseOf_ro ru y9st y9ro fmo fkd fcd fsr jn (nC (fce (40 * sn + 3 * k4))) (nC (fce (40 * sn + 3 * k4 + 1)))))) else (k4, fi, y9st, y9ro)
noncomputable def g_X6_firstOther_9 (ru : Nat) (fst : Nat → Int32) (fro : Nat → Int32) (fmo : Nat → Int32) (fkd : Nat → Int32) (fcd : Nat → Int32) (fsr : Nat → Nat) (fsq : Nat → Nat) (fce : Nat → Int32) (sn : Nat) (jn : Nat) : Nat × Int32 × (Nat → Int32) × (Nat → Int32) := p_X6_firstOther_9 ru fmo fkd fcd fsr fce sn jn ((fsq sn / 3) - 0) 0 (-1) fst fro
noncomputable def m_X6_firstOther (ru : Nat) (fst : Nat → Int32) (fro : Nat → Int32) (fmo : Nat → Int32) (fkd : Nat → Int32) (fcd : Nat → Int32) (fsr : Nat → Nat) (fsq : Nat → Nat) (fce : Nat → Int32) (sn : Nat) (jn : Nat) : Int32 := ((g_X6_firstOther_9 ru fst fro fmo fkd fcd fsr fsq fce sn jn).2.1)
abbrev q_X6_firstOther (G : gG) (h0 kd mo st ro tp cd sr ir ih ss sq ce lw wo he sk na kp gb go fa ga vo : Nat) (pb : Nat) (jg : Nat) (td : Nat) (tx : Nat) (ru : Nat) (him : Int32) (s19 : Int32) (s20 : Int32) (s21 : Int32) (s22 : Int32) (s25 : Int32) (s26 : Int32) (s27 : Int32) (s31 : Int32) (s32 : Int32) (s33 : Int32) (s34 : Int32) (s39 : Int32) (s40 : Int32) (fst : Nat → Int32) (fro : Nat → Int32) (fmo : Nat → Int32) (fkd : Nat → Int32) (fcd : Nat → Int32) (fsr : Nat → Nat) (fsk : Nat → Int32) (fna : Nat → Int32) (fkp : Nat → Int32) (fsq : Nat → Nat) (fce : Nat → Int32) (sn : Nat) (jn : Nat) (A : Nat → Prop) : Array Value → State → Outcome → State → Prop := va_Qi (fun (r : Int32) (u : (Nat → Int32) × (Nat → Int32) × (Nat → Int32)) => match u with | (ysk, yna, ykp) => r = m_X6_firstOther ru fst fro fmo fkd fcd fsr fsq fce sn jn) (fun (u : (Nat → Int32) × (Nat → Int32) × (Nat → Int32)) t => match u with | (ysk, yna, ykp) => va_P G.1 vwCl [zo6 h0 (nI pb) kd mo st (nI jg) ro tp (nI td) cd sr (nI tx) (nI ru) him ir ih ss sq ce lw s19 s20 s21 s22 wo he s25 s26 s27 sk na kp s31 s32 s33 s34 gb go fa ga s39 s40 vo, zi G st 12 fst, zi G ro 12 fro, zi G mo 6 fmo, zi G kd 6 fkd, zi G cd 1200 fcd, zi G sr 24 (nF fsr), zi G sk 200 ysk, zi G na 6 yna, zi G kp 24 ykp, zi G sq 4 (nF fsq), zi G ce 160 fce] t.heap ∧ gK G t ∧ va_D A [zo6 h0 (nI pb) kd mo st (nI jg) ro tp (nI td) cd sr (nI tx) (nI ru) him ir ih ss sq ce lw s19 s20 s21 s22 wo he s25 s26 s27 sk na kp s31 s32 s33 s34 gb go fa ga s39 s40 vo, zi G st 12 fst, zi G ro 12 fro, zi G mo 6 fmo, zi G kd 6 fkd, zi G cd 1200 fcd, zi G sr 24 (nF fsr), zi G sk 200 ysk, zi G na 6 yna, zi G kp 24 ykp, zi G sq 4 (nF fsq), zi G ce 160 fce]) A
set_option maxHeartbeats 4000000 in
set_option maxRecDepth 100000 in
theorem c_X6_firstOther (l : Launch) (G : gG) (h0 kd mo st ro tp cd sr ir ih ss sq ce lw wo he sk na kp gb go fa ga vo : Nat) (pb : Nat) (jg : Nat) (td : Nat) (tx : Nat) (ru : Nat) (him : Int32) (s19 : Int32) (s20 : Int32) (s21 : Int32) (s22 : Int32) (s25 : Int32) (s26 : Int32) (s27 : Int32) (s31 : Int32) (s32 : Int32) (s33 : Int32) (s34 : Int32) (s39 : Int32) (s40 : Int32) (fst : Nat → Int32) (fro : Nat → Int32) (fmo : Nat → Int32) (fkd : Nat → Int32) (fcd : Nat → Int32) (fsr : Nat → Nat) (fsk : Nat → Int32) (fna : Nat → Int32) (fkp : Nat → Int32) (fsq : Nat → Nat) (fce : Nat → Int32) (sn : Nat) (jn : Nat) (sz : Nat) (hsn : sn < 4) (hj : jn < 4) (hwf : mWf fcd fsr ru) (hsq : ∀ q9, q9 < 4 → fsq q9 ≤ 40) (hvl : mTold pb fsq fce sn) (hpb : pb ≤ 6) (hjg : jg ≤ 4) (htx : tx ≤ 6) (hru : ru < tx) : Met l yX6_firstOther wsX6_firstOther ({ frames := 6, cells := 0, slots := 0, locals := 145 }) (gPre G [.ref h0, .int (nI sn), .int (nI jn)] [zo6 h0 (nI pb) kd mo st (nI jg) ro tp (nI td) cd sr (nI tx) (nI ru) him ir ih ss sq ce lw s19 s20 s21 s22 wo he s25 s26 s27 sk na kp s31 s32 s33 s34 gb go fa ga s39 s40 vo, zi G st 12 fst, zi G ro 12 fro, zi G mo 6 fmo, zi G kd 6 fkd, zi G cd 1200 fcd, zi G sr 24 (nF fsr), zi G sk 200 fsk, zi G na 6 fna, zi G kp 24 fkp, zi G sq 4 (nF fsq), zi G ce 160 fce] sz) (q_X6_firstOther G h0 kd mo st ro tp cd sr ir ih ss sq ce lw wo he sk na kp gb go fa ga vo pb jg td tx ru him s19 s20 s21 s22 s25 s26 s27 s31 s32 s33 s34 s39 s40 fst fro fmo fkd fcd fsr fsk fna fkp fsq fce sn jn (va_A [zo6 h0 (nI pb) kd mo st (nI jg) ro tp (nI td) cd sr (nI tx) (nI ru) him ir ih ss sq ce lw s19 s20 s21 s22 wo he s25 s26 s27 sk na kp s31 s32 s33 s34 gb go fa ga s39 s40 vo, zi G st 12 fst, zi G ro 12 fro, zi G mo 6 fmo, zi G kd 6 fkd, zi G cd 1200 fcd, zi G sr 24 (nF fsr), zi G sk 200 fsk, zi G na 6 fna, zi G kp 24 fkp, zi G sq 4 (nF fsq), zi G ce 160 fce] sz)) 0 0 (va_A [zo6 h0 (nI pb) kd mo st (nI jg) ro tp (nI td) cd sr (nI tx) (nI ru) him ir ih ss sq ce lw s19 s20 s21 s22 wo he s25 s26 s27 sk na kp s31 s32 s33 s34 gb go fa ga s39 s40 vo, zi G st 12 fst, zi G ro 12 fro, zi G mo 6 fmo, zi G kd 6 fkd, zi G cd 1200 fcd, zi G sr 24 (nF fsr), zi G sk 200 fsk, zi G na 6 fna, zi G kp 24 fkp, zi G sq 4 (nF fsq), zi G ce 160 fce] sz) := by
  refine Met.ofW (cc := cX6_firstOther) (maxL := 8) (ret := (some .int)) (by decide +kernel) rfl ?_
  intro p e s m args below meth c s₁ B hml hv
  obtain ⟨rfl, hsz, hP, hK, hD0⟩ := hv
  have hx := B.exec
  have hb := B.bytes
  have hr := B.returns
  have hts := atoms_spec (ws := wsX6_firstOther) B.pre
  have hown : s.vm.findClass RX6 = some m.cls := findClass_of_methodNamed B.named
  have hlocks := B.notSynchronized
  subst hsz
  have hD := hD0.self (sz := s.heap.size)
  generalize hAe : va_A [zo6 h0 (nI pb) kd mo st (nI jg) ro tp (nI td) cd sr (nI tx) (nI ru) him ir ih ss sq ce lw s19 s20 s21 s22 wo he s25 s26 s27 sk na kp s31 s32 s33 s34 gb go fa ga s39 s40 vo, zi G st 12 fst, zi G ro 12 fro, zi G mo 6 fmo, zi G kd 6 fkd, zi G cd 1200 fcd, zi G sr 24 (nF fsr), zi G sk 200 fsk, zi G na 6 fna, zi G kp 24 fkp, zi G sq 4 (nF fsq), zi G ce 160 fce] s.heap.size = A at hD ⊢
  have hA : ∀ q : Nat, s.heap.size ≤ q → A q := fun q h => by rw [← hAe]; exact Or.inr h
  have hS : va_S A s.heap s.heap [] := va_S.rf
  have hz9 : gPD G A [zo6 h0 (nI pb) kd mo st (nI jg) ro tp (nI td) cd sr (nI tx) (nI ru) him ir ih ss sq ce lw s19 s20 s21 s22 wo he s25 s26 s27 sk na kp s31 s32 s33 s34 gb go fa ga s39 s40 vo, zi G st 12 fst, zi G ro 12 fro, zi G mo 6 fmo, zi G kd 6 fkd, zi G cd 1200 fcd, zi G sr 24 (nF fsr), zi G sk 200 fsk, zi G na 6 fna, zi G kp 24 fkp, zi G sq 4 (nF fsq), zi G ce 160 fce] s.heap := ⟨hP, hD⟩
  have hP := hz9.1
  have hD := hz9.2
  have hl := lv_entry ([.ref h0, .int (nI sn), .int (nI jn)]) (n := 8) (Nat.le_of_ble_eq_true rfl)
  rw [lg_entry_eq]
  generalize (lg_sl ([.ref h0, .int (nI sn), .int (nI jn)]) ++ List.replicate (8 - (lg_sl ([.ref h0, .int (nI sn), .int (nI jn)])).length) Slot.unset).toArray = ls at hl ⊢
  have hl : lv_has ls 8 [zR 0 h0, zI 1 (nI sn), zI 2 (nI jn)] := hl
  have kf40 := hts (.fieldLink RX6 40 "PebbleInShoeModel" "sheetSize" "[I") (by decide +kernel)
  have hiX6 := (by decide +kernel : ∀ w ∈ wsX60, w ∈ wsX6_firstOther)
  have kf43 := hts (.fieldLink RX6 43 "PebbleInShoeModel" "cells" "[I") (by decide +kernel)
  have hs4 := hsq sn hsn
  refine lv_iconst (v := -1) hx hb dX6_firstOther_0 (by decide +kernel) ?_
  refine lv_istore_n (lv' := [zI 3 (-1), zR 0 h0, zI 1 (nI sn), zI 2 (nI jn)]) hx hb dX6_firstOther_1 rfl hl (by decide +kernel) rfl (fun ls hl => ?_)
  refine lv_aload_n hx hb dX6_firstOther_2 rfl (lv_at hl 1 rfl) ?_
  refine z_callv [0, 9, 2, 1] (va_runV (As := []) (rest := []) ⟨hx, hb, hml, hown, hts⟩ (c_X6_keeps l G h0 kd mo st ro tp cd sr ir ih ss sq ce lw wo he sk na kp gb go fa ga vo pb jg td tx ru him s19 s20 s21 s22 s25 s26 s27 s31 s32 s33 s34 s39 s40 fkp fro fst s.heap.size (by first | exact hpb | assumption | omega) (by first | exact hjg | assumption | omega) (by first | exact htx | assumption | omega) (by first | exact hru | assumption | omega)) (cwV 0 hts gX6_firstOther_X6_keeps rfl rfl rfl (by decide +kernel) ⟨Nat.le_of_ble_eq_true rfl, Nat.le_of_ble_eq_true rfl⟩) ⟨gPre_blind, va_recv (q := (RX6, TX6, 42)) hK hP (ci := 6) (q0 := 0) rfl rfl, fun U hU hW => gPre_ofF [0, 9, 2, 1] hU hW hK hP hD (by decide +kernel) rfl⟩ rfl rfl hl.1 rfl (lv_room (Nat.le_of_ble_eq_true rfl)) dX6_firstOther_3 ⟨Nat.le_of_ble_eq_true rfl, Nat.le_of_ble_eq_true rfl⟩) hS hD hA rfl (fun u t H locs ht hvm w_2 hB hz1 hk1 hFq hAq hS => ?_)
  obtain ⟨hP1, hK1, hD1⟩ := hB
  have hz9 : gPD G A [zo6 h0 (nI pb) kd mo st (nI jg) ro tp (nI td) cd sr (nI tx) (nI ru) him ir ih ss sq ce lw s19 s20 s21 s22 wo he s25 s26 s27 sk na kp s31 s32 s33 s34 gb go fa ga s39 s40 vo, zi G st 12 fst, zi G ro 12 fro, zi G mo 6 fmo, zi G kd 6 fkd, zi G cd 1200 fcd, zi G sr 24 (nF fsr), zi G sk 200 fsk, zi G na 6 fna, zi G kp 24 (mKeep fro fst), zi G sq 4 (nF fsq), zi G ce 160 fce] H := zFill hP hD [0, 9, 2, 1] [1, 4, 3, 0, 0, 0, 0, 0, 0, 2] hAq hk1 hFq ht hP1 hD1 rfl (by decide +kernel)
  have hP := hz9.1
  have hD := hz9.2
  refine lv_iconst (v := 0) hx hb dX6_firstOther_6 (by decide +kernel) ?_
  refine lv_istore (lv' := [zI 4 0, zI 3 (-1), zR 0 h0, zI 1 (nI sn), zI 2 (nI jn)]) hx hb dX6_firstOther_7 hl (by decide +kernel) rfl (fun ls hl => ?_)
  have loop_9 : ∀ (n9 : Nat) (k4 : Nat) (fi : Int32) (y9st : Nat → Int32) (y9ro : Nat → Int32) (x9sk : Nat → Int32) (x9na : Nat → Int32), (k4 ≤ (fsq sn / 3)) → (p_X6_firstOther_9 ru fmo fkd fcd fsr fce sn jn ((fsq sn / 3) - k4) k4 fi y9st y9ro = (g_X6_firstOther_9 ru fst fro fmo fkd fcd fsr fsq fce sn jn)) → ((fsq sn / 3) - k4) < n9 → ∀ (H : Heap) (locs : List Loc), va_P G.1 vwCl [zo6 h0 (nI pb) kd mo st (nI jg) ro tp (nI td) cd sr (nI tx) (nI ru) him ir ih ss sq ce lw s19 s20 s21 s22 wo he s25 s26 s27 sk na kp s31 s32 s33 s34 gb go fa ga s39 s40 vo, zi G st 12 y9st, zi G ro 12 y9ro, zi G mo 6 fmo, zi G kd 6 fkd, zi G cd 1200 fcd, zi G sr 24 (nF fsr), zi G sk 200 x9sk, zi G na 6 x9na, zi G kp 24 (mKeep fro fst), zi G sq 4 (nF fsq), zi G ce 160 fce] H → va_D A [zo6 h0 (nI pb) kd mo st (nI jg) ro tp (nI td) cd sr (nI tx) (nI ru) him ir ih ss sq ce lw s19 s20 s21 s22 wo he s25 s26 s27 sk na kp s31 s32 s33 s34 gb go fa ga s39 s40 vo, zi G st 12 y9st, zi G ro 12 y9ro, zi G mo 6 fmo, zi G kd 6 fkd, zi G cd 1200 fcd, zi G sr 24 (nF fsr), zi G sk 200 x9sk, zi G na 6 x9na, zi G kp 24 (mKeep fro fst), zi G sq 4 (nF fsq), zi G ce 160 fce] → va_S A s.heap H locs → ∀ ls : Array Slot, lv_has ls 8 [zI 4 (nI k4), zI 3 fi, zR 0 h0, zI 1 (nI sn), zI 2 (nI jn)] → W p l e (headSpec wsX6_firstOther ({ frames := 6, cells := 0, slots := 0, locals := 145 })).room s m ([.ref h0, .int (nI sn), .int (nI jn)] : List Value).toArray below meth c H locs 0 0 (MQ below (q_X6_firstOther G h0 kd mo st ro tp cd sr ir ih ss sq ce lw wo he sk na kp gb go fa ga vo pb jg td tx ru him s19 s20 s21 s22 s25 s26 s27 s31 s32 s33 s34 s39 s40 fst fro fmo fkd fcd fsr fsk fna fkp fsq fce sn jn A) ([.ref h0, .int (nI sn), .int (nI jn)] : List Value).toArray s 0 0 A) (F0 m 9 ls []) := by
    intro n9
    induction n9 with
    | zero => intro k4 fi y9st y9ro x9sk x9na hk4 R9 hm9_9; exact absurd hm9_9 (Nat.not_lt_zero _)
    | succ n9 ih9_9 =>
      intro k4 fi y9st y9ro x9sk x9na hk4 R9 hm9_9 H locs hP hD hS ls hl
      refine lv_iload hx hb dX6_firstOther_9 (lv_at hl 0 rfl) ?_
      refine g_aget (D := G.1) (ci := 6) (v := .ref sq) (C := RX6) (T := TX6) (N := 42) hx hb dX6_firstOther_11 rfl (lv_at hl 2 rfl) hts hiX6 hown hK hP 0 rfl rfl 16 (by decide +kernel) kf40 (fun _ h9 => h9) rfl dX6_firstOther_12 ?_
      refine lv_iload_n hx hb dX6_firstOther_15 rfl (lv_at hl 3 rfl) ?_
      refine va_iald (D := G.1) hx hb hK hP 10 0 rfl rfl (i := (nI sn)) (vpn (by omega) rfl) dX6_firstOther_16 ?_
      refine g_topi (y := nI (fsq sn)) (nF_at (by omega)) ?_
      refine lv_iconst (v := 3) hx hb dX6_firstOther_17 (by decide +kernel) ?_
      refine lv_idiv hx hb dX6_firstOther_18 (by decide +kernel) ?_
      refine g_topi (y := nI ((fsq sn) / 3)) (pk_div (a := (fsq sn)) (d := 3) (by omega) (by omega) (by omega)) ?_
      refine lv_icmp_ge (tgt := 113) hx hb dX6_firstOther_19 (by decide +kernel) (fun c_5 => ?_) (fun c_5 => ?_)
      · skip
        have c_5N : ((fsq sn) / 3) ≤ k4 := nI_le1 (a := ((fsq sn) / 3)) (b := k4) (by omega) (by omega) c_5
        have hF9 : (g_X6_firstOther_9 ru fst fro fmo fkd fcd fsr fsq fce sn jn) = (k4, fi, y9st, y9ro) := by rw [← R9, show (fsq sn / 3) - k4 = 0 by omega]; rfl
        have hE9_0 : k4 = ((g_X6_firstOther_9 ru fst fro fmo fkd fcd fsr fsq fce sn jn).1) := by rw [hF9]
        have hE9_1 : fi = ((g_X6_firstOther_9 ru fst fro fmo fkd fcd fsr fsq fce sn jn).2.1) := by rw [hF9]
        have hE9_2 : y9st = ((g_X6_firstOther_9 ru fst fro fmo fkd fcd fsr fsq fce sn jn).2.2.1) := by rw [hF9]
        have hE9_3 : y9ro = ((g_X6_firstOther_9 ru fst fro fmo fkd fcd fsr fsq fce sn jn).2.2.2) := by rw [hF9]
        clear hF9 R9
        subst hE9_0
        subst hE9_1
        subst hE9_2
        subst hE9_3
        refine lv_aload_n hx hb dX6_firstOther_113 rfl (lv_at hl 2 rfl) ?_
        refine z_callv [0, 9, 2, 1] (va_runV (As := []) (rest := []) ⟨hx, hb, hml, hown, hts⟩ (c_X6_laysBack l G h0 kd mo st ro tp cd sr ir ih ss sq ce lw wo he sk na kp gb go fa ga vo pb jg td tx ru him s19 s20 s21 s22 s25 s26 s27 s31 s32 s33 s34 s39 s40 ((g_X6_firstOther_9 ru fst fro fmo fkd fcd fsr fsq fce sn jn).2.2.2) ((g_X6_firstOther_9 ru fst fro fmo fkd fcd fsr fsq fce sn jn).2.2.1) fro fst H.size (by first | exact hpb | assumption | omega) (by first | exact hjg | assumption | omega) (by first | exact htx | assumption | omega) (by first | exact hru | assumption | omega)) (cwV 0 hts gX6_firstOther_X6_laysBack rfl rfl rfl (by decide +kernel) ⟨Nat.le_of_ble_eq_true rfl, Nat.le_of_ble_eq_true rfl⟩) ⟨gPre_blind, va_recv (q := (RX6, TX6, 42)) hK hP (ci := 6) (q0 := 0) rfl rfl, fun U hU hW => gPre_ofF [0, 9, 2, 1] hU hW hK hP hD (by decide +kernel) rfl⟩ rfl rfl hl.1 rfl (lv_room (Nat.le_of_ble_eq_true rfl)) dX6_firstOther_114 ⟨Nat.le_of_ble_eq_true rfl, Nat.le_of_ble_eq_true rfl⟩) hS hD hA rfl (fun u t H locs ht hvm w_7 hB hz1 hk1 hFq hAq hS => ?_)
        obtain ⟨hP1, hK1, hD1⟩ := hB
        have hz9 : gPD G A [zo6 h0 (nI pb) kd mo st (nI jg) ro tp (nI td) cd sr (nI tx) (nI ru) him ir ih ss sq ce lw s19 s20 s21 s22 wo he s25 s26 s27 sk na kp s31 s32 s33 s34 gb go fa ga s39 s40 vo, zi G st 12 fst, zi G ro 12 fro, zi G mo 6 fmo, zi G kd 6 fkd, zi G cd 1200 fcd, zi G sr 24 (nF fsr), zi G sk 200 x9sk, zi G na 6 x9na, zi G kp 24 (mKeep fro fst), zi G sq 4 (nF fsq), zi G ce 160 fce] H := zFill hP hD [0, 9, 2, 1] [1, 4, 3, 0, 0, 0, 0, 0, 0, 2] hAq hk1 hFq ht hP1 hD1 rfl (by decide +kernel)
        have hP := hz9.1
        have hD := hz9.2
        refine lv_iload_n hx hb dX6_firstOther_117 rfl (lv_at hl 1 rfl) ?_
        have hpost : (fun (r : Int32) (u : (Nat → Int32) × (Nat → Int32) × (Nat → Int32)) => match u with | (ysk, yna, ykp) => r = m_X6_firstOther ru fst fro fmo fkd fcd fsr fsq fce sn jn) ((g_X6_firstOther_9 ru fst fro fmo fkd fcd fsr fsq fce sn jn).2.1) (x9sk, x9na, mKeep fro fst) := (show m_X6_firstOther ru fst fro fmo fkd fcd fsr fsq fce sn jn = ((g_X6_firstOther_9 ru fst fro fmo fkd fcd fsr fsq fce sn jn).2.1) from rfl).symm
        exact W.iret (v := ((g_X6_firstOther_9 ru fst fro fmo fkd fcd fsr fsq fce sn jn).2.1)) hx hb hr (fun t ht hW => ⟨⟨((g_X6_firstOther_9 ru fst fro fmo fkd fcd fsr fsq fce sn jn).2.1), (x9sk, x9na, mKeep fro fst), rfl, hpost, by rw [ht]; exact hP, va_K.moved hW.alike hK, hD⟩, hS.F ht⟩) hS.2.2 dX6_firstOther_118
      · skip
        have c_5N : k4 < ((fsq sn) / 3) := nI_le0 (a := ((fsq sn) / 3)) (b := k4) (by omega) (by omega) c_5
        refine lv_iload_n hx hb dX6_firstOther_22 rfl (lv_at hl 1 rfl) ?_
        refine lv_iconst (v := -1) hx hb dX6_firstOther_23 (by decide +kernel) ?_
        refine lv_icmp_ne (tgt := 113) hx hb dX6_firstOther_24 (by decide +kernel) (fun c_8 => ?_) (fun c_8 => ?_)
        · skip
          have hF9 : (g_X6_firstOther_9 ru fst fro fmo fkd fcd fsr fsq fce sn jn) = (k4, fi, y9st, y9ro) := R9.symm.trans ((congrArg (fun z9 => p_X6_firstOther_9 ru fmo fkd fcd fsr fce sn jn (z9) k4 fi y9st y9ro) (show (fsq sn / 3) - k4 = (fsq sn / 3) - (k4 + 1) + 1 by omega)).trans (by show p_X6_firstOther_9 ru fmo fkd fcd fsr fce sn jn ((fsq sn / 3) - (k4 + 1) + 1) k4 fi y9st y9ro = _; rw [p_X6_firstOther_9, if_neg c_8]))
          have hE9_0 : k4 = ((g_X6_firstOther_9 ru fst fro fmo fkd fcd fsr fsq fce sn jn).1) := by rw [hF9]
          have hE9_1 : fi = ((g_X6_firstOther_9 ru fst fro fmo fkd fcd fsr fsq fce sn jn).2.1) := by rw [hF9]
          have hE9_2 : y9st = ((g_X6_firstOther_9 ru fst fro fmo fkd fcd fsr fsq fce sn jn).2.2.1) := by rw [hF9]
          have hE9_3 : y9ro = ((g_X6_firstOther_9 ru fst fro fmo fkd fcd fsr fsq fce sn jn).2.2.2) := by rw [hF9]
          clear hF9 R9
          subst hE9_0
          subst hE9_1
          subst hE9_2
          subst hE9_3
          refine lv_aload_n hx hb dX6_firstOther_113 rfl (lv_at hl 2 rfl) ?_
          refine z_callv [0, 9, 2, 1] (va_runV (As := []) (rest := []) ⟨hx, hb, hml, hown, hts⟩ (c_X6_laysBack l G h0 kd mo st ro tp cd sr ir ih ss sq ce lw wo he sk na kp gb go fa ga vo pb jg td tx ru him s19 s20 s21 s22 s25 s26 s27 s31 s32 s33 s34 s39 s40 ((g_X6_firstOther_9 ru fst fro fmo fkd fcd fsr fsq fce sn jn).2.2.2) ((g_X6_firstOther_9 ru fst fro fmo fkd fcd fsr fsq fce sn jn).2.2.1) fro fst H.size (by first | exact hpb | assumption | omega) (by first | exact hjg | assumption | omega) (by first | exact htx | assumption | omega) (by first | exact hru | assumption | omega)) (cwV 0 hts gX6_firstOther_X6_laysBack rfl rfl rfl (by decide +kernel) ⟨Nat.le_of_ble_eq_true rfl, Nat.le_of_ble_eq_true rfl⟩) ⟨gPre_blind, va_recv (q := (RX6, TX6, 42)) hK hP (ci := 6) (q0 := 0) rfl rfl, fun U hU hW => gPre_ofF [0, 9, 2, 1] hU hW hK hP hD (by decide +kernel) rfl⟩ rfl rfl hl.1 rfl (lv_room (Nat.le_of_ble_eq_true rfl)) dX6_firstOther_114 ⟨Nat.le_of_ble_eq_true rfl, Nat.le_of_ble_eq_true rfl⟩) hS hD hA rfl (fun u t H locs ht hvm w_10 hB hz1 hk1 hFq hAq hS => ?_)
          obtain ⟨hP1, hK1, hD1⟩ := hB
          have hz9 : gPD G A [zo6 h0 (nI pb) kd mo st (nI jg) ro tp (nI td) cd sr (nI tx) (nI ru) him ir ih ss sq ce lw s19 s20 s21 s22 wo he s25 s26 s27 sk na kp s31 s32 s33 s34 gb go fa ga s39 s40 vo, zi G st 12 fst, zi G ro 12 fro, zi G mo 6 fmo, zi G kd 6 fkd, zi G cd 1200 fcd, zi G sr 24 (nF fsr), zi G sk 200 x9sk, zi G na 6 x9na, zi G kp 24 (mKeep fro fst), zi G sq 4 (nF fsq), zi G ce 160 fce] H := zFill hP hD [0, 9, 2, 1] [1, 4, 3, 0, 0, 0, 0, 0, 0, 2] hAq hk1 hFq ht hP1 hD1 rfl (by decide +kernel)
          have hP := hz9.1
          have hD := hz9.2
          refine lv_iload_n hx hb dX6_firstOther_117 rfl (lv_at hl 1 rfl) ?_
          have hpost : (fun (r : Int32) (u : (Nat → Int32) × (Nat → Int32) × (Nat → Int32)) => match u with | (ysk, yna, ykp) => r = m_X6_firstOther ru fst fro fmo fkd fcd fsr fsq fce sn jn) ((g_X6_firstOther_9 ru fst fro fmo fkd fcd fsr fsq fce sn jn).2.1) (x9sk, x9na, mKeep fro fst) := (show m_X6_firstOther ru fst fro fmo fkd fcd fsr fsq fce sn jn = ((g_X6_firstOther_9 ru fst fro fmo fkd fcd fsr fsq fce sn jn).2.1) from rfl).symm
          exact W.iret (v := ((g_X6_firstOther_9 ru fst fro fmo fkd fcd fsr fsq fce sn jn).2.1)) hx hb hr (fun t ht hW => ⟨⟨((g_X6_firstOther_9 ru fst fro fmo fkd fcd fsr fsq fce sn jn).2.1), (x9sk, x9na, mKeep fro fst), rfl, hpost, by rw [ht]; exact hP, va_K.moved hW.alike hK, hD⟩, hS.F ht⟩) hS.2.2 dX6_firstOther_118
        · skip
          obtain ⟨hq1, hq2, hq3, hq4, hq5⟩ := mTold_at hvl (show k4 < fsq sn / 3 by omega) hpb
          refine lv_bipush (v := 40) hx hb dX6_firstOther_27 (by decide +kernel) ?_
          refine lv_iload_n hx hb dX6_firstOther_29 rfl (lv_at hl 3 rfl) ?_
          refine lv_imul hx hb dX6_firstOther_30 ?_
          refine g_topi (y := nI (40 * sn)) (pk_mul 40 sn) ?_
          refine lv_iconst (v := 3) hx hb dX6_firstOther_31 (by decide +kernel) ?_
          refine lv_iload hx hb dX6_firstOther_32 (lv_at hl 0 rfl) ?_
          refine lv_imul hx hb dX6_firstOther_34 ?_
          refine g_topi (y := nI (3 * k4)) (pk_mul 3 k4) ?_
          refine lv_iadd hx hb dX6_firstOther_35 ?_
          refine g_topi (y := nI ((40 * sn) + (3 * k4))) (nI_add (40 * sn) (3 * k4)) ?_
          refine lv_istore (lv' := [zI 5 (nI ((40 * sn) + (3 * k4))), zI 4 (nI k4), zI 3 fi, zR 0 h0, zI 1 (nI sn), zI 2 (nI jn)]) hx hb dX6_firstOther_36 hl (by decide +kernel) rfl (fun ls hl => ?_)
          refine lv_aload_n hx hb dX6_firstOther_38 rfl (lv_at hl 3 rfl) ?_
          refine lv_iload_n hx hb dX6_firstOther_39 rfl (lv_at hl 5 rfl) ?_
          refine g_aget (D := G.1) (ci := 6) (v := .ref ce) (C := RX6) (T := TX6) (N := 42) hx hb dX6_firstOther_40 rfl (lv_at hl 3 rfl) hts hiX6 hown hK hP 0 rfl rfl 17 (by decide +kernel) kf43 (fun _ h9 => h9) rfl dX6_firstOther_41 ?_
          refine lv_iload hx hb dX6_firstOther_44 (lv_at hl 0 rfl) ?_
          refine va_iald (D := G.1) hx hb hK hP 11 0 rfl rfl (i := (nI ((40 * sn) + (3 * k4)))) (vpn (by omega) rfl) dX6_firstOther_46 ?_
          refine g_topi (y := nI (nC (fce (40 * sn + 3 * k4)))) (by rw [nI_clamp (by omega)]; exact hq1) ?_
          refine g_aget (D := G.1) (ci := 6) (v := .ref ce) (C := RX6) (T := TX6) (N := 42) hx hb dX6_firstOther_47 rfl (lv_at hl 3 rfl) hts hiX6 hown hK hP 0 rfl rfl 17 (by decide +kernel) kf43 (fun _ h9 => h9) rfl dX6_firstOther_48 ?_
          refine lv_iload hx hb dX6_firstOther_51 (lv_at hl 0 rfl) ?_
          refine lv_iconst (v := 1) hx hb dX6_firstOther_53 (by decide +kernel) ?_
          refine lv_iadd hx hb dX6_firstOther_54 ?_
          refine g_topi (y := nI (((40 * sn) + (3 * k4)) + 1)) (nI_add ((40 * sn) + (3 * k4)) 1) ?_
          refine va_iald (D := G.1) hx hb hK hP 11 0 rfl rfl (i := (nI (((40 * sn) + (3 * k4)) + 1))) (vpn (by omega) rfl) dX6_firstOther_55 ?_
          refine g_topi (y := nI (nC (fce (40 * sn + 3 * k4 + 1)))) (by rw [nI_clamp (by omega)]; exact hq3) ?_
          refine z_calli [0, 1, 2, 3, 4, 5, 6, 7, 8] (v := m_X6_caseOf ru y9st y9ro fmo fkd fcd fsr jn (nC (fce (40 * sn + 3 * k4))) (nC (fce (40 * sn + 3 * k4 + 1)))) (fun _ ⟨_, _⟩ h => h) (va_runV (As := [.int (nI jn), .int (nI (nC (fce (40 * sn + 3 * k4)))), .int (nI (nC (fce (40 * sn + 3 * k4 + 1))))]) (rest := []) ⟨hx, hb, hml, hown, hts⟩ (c_X6_caseOf l G h0 kd mo st ro tp cd sr ir ih ss sq ce lw wo he sk na kp gb go fa ga vo pb jg td tx ru him s19 s20 s21 s22 s25 s26 s27 s31 s32 s33 s34 s39 s40 y9st y9ro fmo fkd fcd fsr x9sk x9na jn (nC (fce (40 * sn + 3 * k4))) (nC (fce (40 * sn + 3 * k4 + 1))) H.size (by first | exact hj | assumption | omega) (by first | exact hp | assumption | omega) (by first | exact hnn | assumption | omega) (by first | exact hwf | assumption | omega) (by first | exact hpb | assumption | omega) (by first | exact hjg | assumption | omega) (by first | exact htx | assumption | omega) (by first | exact hru | assumption | omega)) (cwV 3 hts gX6_firstOther_X6_caseOf rfl rfl rfl (by decide +kernel) ⟨Nat.le_of_ble_eq_true rfl, Nat.le_of_ble_eq_true rfl⟩) ⟨gPre_blind, va_recv (q := (RX6, TX6, 42)) hK hP (ci := 6) (q0 := 0) rfl rfl, fun U hU hW => gPre_ofF [0, 1, 2, 3, 4, 5, 6, 7, 8] hU hW hK hP hD (by decide +kernel) rfl⟩ rfl rfl hl.1 rfl (lv_room (Nat.le_of_ble_eq_true rfl)) dX6_firstOther_56 ⟨Nat.le_of_ble_eq_true rfl, Nat.le_of_ble_eq_true rfl⟩) hS hD hA rfl (fun u t H locs ht hvm hB hz1 hk1 hFq hAq hS => ?_)
          obtain ⟨ysk_19, yna_20⟩ := u
          obtain ⟨hP1, hK1, hD1⟩ := hB
          have hz9 : gPD G A [zo6 h0 (nI pb) kd mo st (nI jg) ro tp (nI td) cd sr (nI tx) (nI ru) him ir ih ss sq ce lw s19 s20 s21 s22 wo he s25 s26 s27 sk na kp s31 s32 s33 s34 gb go fa ga s39 s40 vo, zi G st 12 (m_X6_caseOf_st ru y9st y9ro fmo fkd fcd fsr jn (nC (fce (40 * sn + 3 * k4))) (nC (fce (40 * sn + 3 * k4 + 1)))), zi G ro 12 (m_X6_caseOf_ro ru y9st y9ro fmo fkd fcd fsr jn (nC (fce (40 * sn + 3 * k4))) (nC (fce (40 * sn + 3 * k4 + 1)))), zi G mo 6 fmo, zi G kd 6 fkd, zi G cd 1200 fcd, zi G sr 24 (nF fsr), zi G sk 200 ysk_19, zi G na 6 yna_20, zi G kp 24 (mKeep fro fst), zi G sq 4 (nF fsq), zi G ce 160 fce] H := zFill hP hD [0, 1, 2, 3, 4, 5, 6, 7, 8] [1, 2, 3, 4, 5, 6, 7, 8, 9] hAq hk1 hFq ht hP1 hD1 rfl (by decide +kernel)
          have hP := hz9.1
          have hD := hz9.2
          refine lv_istore (lv' := [zI 6 (m_X6_caseOf ru y9st y9ro fmo fkd fcd fsr jn (nC (fce (40 * sn + 3 * k4))) (nC (fce (40 * sn + 3 * k4 + 1)))), zI 5 (nI ((40 * sn) + (3 * k4))), zI 4 (nI k4), zI 3 fi, zR 0 h0, zI 1 (nI sn), zI 2 (nI jn)]) hx hb dX6_firstOther_59 hl (by decide +kernel) rfl (fun ls hl => ?_)
          refine lv_iload hx hb dX6_firstOther_61 (lv_at hl 0 rfl) ?_
          refine lv_aload_n hx hb dX6_firstOther_63 rfl (lv_at hl 4 rfl) ?_
          refine lv_iconst (v := 2) hx hb dX6_firstOther_64 (by decide +kernel) ?_
          refine lv_iload_n hx hb dX6_firstOther_65 rfl (lv_at hl 6 rfl) ?_
          refine g_aget (D := G.1) (ci := 6) (v := .ref ce) (C := RX6) (T := TX6) (N := 42) hx hb dX6_firstOther_66 rfl (lv_at hl 4 rfl) hts hiX6 hown hK hP 0 rfl rfl 17 (by decide +kernel) kf43 (fun _ h9 => h9) rfl dX6_firstOther_67 ?_
          refine lv_iload hx hb dX6_firstOther_70 (lv_at hl 1 rfl) ?_
          refine va_iald (D := G.1) hx hb hK hP 11 0 rfl rfl (i := (nI ((40 * sn) + (3 * k4)))) (vpn (by omega) rfl) dX6_firstOther_72 ?_
          refine g_topi (y := nI (nC (fce (40 * sn + 3 * k4)))) (by rw [nI_clamp (by omega)]; exact hq1) ?_
          refine z_calli [0, 1, 2, 3, 5, 6, 7, 8] (v := m_X6_asksOf ru (m_X6_caseOf_st ru y9st y9ro fmo fkd fcd fsr jn (nC (fce (40 * sn + 3 * k4))) (nC (fce (40 * sn + 3 * k4 + 1)))) (m_X6_caseOf_ro ru y9st y9ro fmo fkd fcd fsr jn (nC (fce (40 * sn + 3 * k4))) (nC (fce (40 * sn + 3 * k4 + 1)))) fmo fcd fsr 2 jn (nC (fce (40 * sn + 3 * k4)))) (fun _ ⟨_, _⟩ h => h) (va_runV (As := [.int 2, .int (nI jn), .int (nI (nC (fce (40 * sn + 3 * k4))))]) (rest := [.int (m_X6_caseOf ru y9st y9ro fmo fkd fcd fsr jn (nC (fce (40 * sn + 3 * k4))) (nC (fce (40 * sn + 3 * k4 + 1))))]) ⟨hx, hb, hml, hown, hts⟩ (c_X6_asksOf l G h0 kd mo st ro tp cd sr ir ih ss sq ce lw wo he sk na kp gb go fa ga vo pb jg td tx ru him s19 s20 s21 s22 s25 s26 s27 s31 s32 s33 s34 s39 s40 (m_X6_caseOf_st ru y9st y9ro fmo fkd fcd fsr jn (nC (fce (40 * sn + 3 * k4))) (nC (fce (40 * sn + 3 * k4 + 1)))) (m_X6_caseOf_ro ru y9st y9ro fmo fkd fcd fsr jn (nC (fce (40 * sn + 3 * k4))) (nC (fce (40 * sn + 3 * k4 + 1)))) fmo fcd fsr ysk_19 yna_20 2 jn (nC (fce (40 * sn + 3 * k4))) H.size (by omega) (by first | exact hj | assumption | omega) (by first | exact hp | assumption | omega) (by first | exact hwf | assumption | omega) (by first | exact hpb | assumption | omega) (by first | exact hjg | assumption | omega) (by first | exact htx | assumption | omega) (by first | exact hru | assumption | omega)) (cwV 3 hts gX6_firstOther_X6_asksOf rfl rfl rfl (by decide +kernel) ⟨Nat.le_of_ble_eq_true rfl, Nat.le_of_ble_eq_true rfl⟩) ⟨gPre_blind, va_recv (q := (RX6, TX6, 42)) hK hP (ci := 6) (q0 := 0) rfl rfl, fun U hU hW => gPre_ofF [0, 1, 2, 3, 5, 6, 7, 8] hU hW hK hP hD (by decide +kernel) rfl⟩ rfl rfl hl.1 rfl (lv_room (Nat.le_of_ble_eq_true rfl)) dX6_firstOther_73 ⟨Nat.le_of_ble_eq_true rfl, Nat.le_of_ble_eq_true rfl⟩) hS hD hA rfl (fun u t H locs ht hvm hB hz1 hk1 hFq hAq hS => ?_)
          obtain ⟨ysk_24, yna_25⟩ := u
          obtain ⟨hP1, hK1, hD1⟩ := hB
          have hz9 : gPD G A [zo6 h0 (nI pb) kd mo st (nI jg) ro tp (nI td) cd sr (nI tx) (nI ru) him ir ih ss sq ce lw s19 s20 s21 s22 wo he s25 s26 s27 sk na kp s31 s32 s33 s34 gb go fa ga s39 s40 vo, zi G st 12 (m_X6_caseOf_st ru y9st y9ro fmo fkd fcd fsr jn (nC (fce (40 * sn + 3 * k4))) (nC (fce (40 * sn + 3 * k4 + 1)))), zi G ro 12 (m_X6_caseOf_ro ru y9st y9ro fmo fkd fcd fsr jn (nC (fce (40 * sn + 3 * k4))) (nC (fce (40 * sn + 3 * k4 + 1)))), zi G mo 6 fmo, zi G kd 6 fkd, zi G cd 1200 fcd, zi G sr 24 (nF fsr), zi G sk 200 ysk_24, zi G na 6 yna_25, zi G kp 24 (mKeep fro fst), zi G sq 4 (nF fsq), zi G ce 160 fce] H := zFill hP hD [0, 1, 2, 3, 5, 6, 7, 8] [1, 2, 3, 4, 0, 5, 6, 7, 8] hAq hk1 hFq ht hP1 hD1 rfl (by decide +kernel)
          have hP := hz9.1
          have hD := hz9.2
          refine lv_icmp_lt (tgt := 83) hx hb dX6_firstOther_76 (by decide +kernel) (fun c_26 => ?_) (fun c_26 => ?_)
          · skip
            refine lv_iconst (v := 0) hx hb dX6_firstOther_83 (by decide +kernel) ?_
            refine lv_istore (lv' := [zI 7 0, zI 6 (m_X6_caseOf ru y9st y9ro fmo fkd fcd fsr jn (nC (fce (40 * sn + 3 * k4))) (nC (fce (40 * sn + 3 * k4 + 1)))), zI 5 (nI ((40 * sn) + (3 * k4))), zI 4 (nI k4), zI 3 fi, zR 0 h0, zI 1 (nI sn), zI 2 (nI jn)]) hx hb dX6_firstOther_84 hl (by decide +kernel) rfl (fun ls hl => ?_)
            refine lv_iload hx hb dX6_firstOther_86 (lv_at hl 0 rfl) ?_
            refine g_aget (D := G.1) (ci := 6) (v := .ref ce) (C := RX6) (T := TX6) (N := 42) hx hb dX6_firstOther_88 rfl (lv_at hl 5 rfl) hts hiX6 hown hK hP 0 rfl rfl 17 (by decide +kernel) kf43 (fun _ h9 => h9) rfl dX6_firstOther_89 ?_
            refine lv_iload hx hb dX6_firstOther_92 (lv_at hl 2 rfl) ?_
            refine lv_iconst (v := 2) hx hb dX6_firstOther_94 (by decide +kernel) ?_
            refine lv_iadd hx hb dX6_firstOther_95 ?_
            refine g_topi (y := nI (((40 * sn) + (3 * k4)) + 2)) (nI_add ((40 * sn) + (3 * k4)) 2) ?_
            refine g_iald (D := G.1) hx hb hK hP 11 0 rfl rfl (k := ((40 * sn) + (3 * k4)) + 2) (y := fce (((40 * sn) + (3 * k4)) + 2)) (by omega) rfl rfl dX6_firstOther_96 ?_
            refine lv_icmp_ne (tgt := 104) hx hb dX6_firstOther_97 (by decide +kernel) (fun c_29 => ?_) (fun c_29 => ?_)
            · skip
              refine lv_iload hx hb dX6_firstOther_104 (lv_at hl 3 rfl) ?_
              refine lv_istore_n (lv' := [zI 3 (nI k4), zI 7 0, zI 6 (m_X6_caseOf ru y9st y9ro fmo fkd fcd fsr jn (nC (fce (40 * sn + 3 * k4))) (nC (fce (40 * sn + 3 * k4 + 1)))), zI 5 (nI ((40 * sn) + (3 * k4))), zI 4 (nI k4), zR 0 h0, zI 1 (nI sn), zI 2 (nI jn)]) hx hb dX6_firstOther_106 rfl hl (by decide +kernel) rfl (fun ls hl => ?_)
              refine lv_iinc (v := nI (k4 + 1)) (lv' := [zI 4 (nI (k4 + 1)), zI 3 (nI k4), zI 7 0, zI 6 (m_X6_caseOf ru y9st y9ro fmo fkd fcd fsr jn (nC (fce (40 * sn + 3 * k4))) (nC (fce (40 * sn + 3 * k4 + 1)))), zI 5 (nI ((40 * sn) + (3 * k4))), zR 0 h0, zI 1 (nI sn), zI 2 (nI jn)]) hx hb dX6_firstOther_107 hl (k := 4) rfl (nI_add k4 1) (by decide +kernel) rfl (fun ls hl => ?_)
              refine lv_goto (tgt := 9) hx hb dX6_firstOther_110 (by decide +kernel) ?_
              exact ih9_9 (k4 + 1) (nI k4) (m_X6_caseOf_st ru y9st y9ro fmo fkd fcd fsr jn (nC (fce (40 * sn + 3 * k4))) (nC (fce (40 * sn + 3 * k4 + 1)))) (m_X6_caseOf_ro ru y9st y9ro fmo fkd fcd fsr jn (nC (fce (40 * sn + 3 * k4))) (nC (fce (40 * sn + 3 * k4 + 1)))) ysk_24 yna_25 (by omega) (Eq.trans (Eq.symm ((congrArg (fun z9 => p_X6_firstOther_9 ru fmo fkd fcd fsr fce sn jn (z9) k4 fi y9st y9ro) (show (fsq sn / 3) - k4 = (fsq sn / 3) - (k4 + 1) + 1 by omega)).trans (by show p_X6_firstOther_9 ru fmo fkd fcd fsr fce sn jn ((fsq sn / 3) - (k4 + 1) + 1) k4 fi y9st y9ro = _; rw [p_X6_firstOther_9, if_pos c_8, if_pos c_26, if_neg c_29]))) R9) (by omega) _ _ hP hD hS ls (lv_sub hl [0, 1, 5, 6, 7] rfl)
            · skip
              refine lv_iconst (v := -1) hx hb dX6_firstOther_100 (by decide +kernel) ?_
              refine lv_goto (tgt := 106) hx hb dX6_firstOther_101 (by decide +kernel) ?_
              refine lv_istore_n (lv' := [zI 3 (-1), zI 7 0, zI 6 (m_X6_caseOf ru y9st y9ro fmo fkd fcd fsr jn (nC (fce (40 * sn + 3 * k4))) (nC (fce (40 * sn + 3 * k4 + 1)))), zI 5 (nI ((40 * sn) + (3 * k4))), zI 4 (nI k4), zR 0 h0, zI 1 (nI sn), zI 2 (nI jn)]) hx hb dX6_firstOther_106 rfl hl (by decide +kernel) rfl (fun ls hl => ?_)
              refine lv_iinc (v := nI (k4 + 1)) (lv' := [zI 4 (nI (k4 + 1)), zI 3 (-1), zI 7 0, zI 6 (m_X6_caseOf ru y9st y9ro fmo fkd fcd fsr jn (nC (fce (40 * sn + 3 * k4))) (nC (fce (40 * sn + 3 * k4 + 1)))), zI 5 (nI ((40 * sn) + (3 * k4))), zR 0 h0, zI 1 (nI sn), zI 2 (nI jn)]) hx hb dX6_firstOther_107 hl (k := 4) rfl (nI_add k4 1) (by decide +kernel) rfl (fun ls hl => ?_)
              refine lv_goto (tgt := 9) hx hb dX6_firstOther_110 (by decide +kernel) ?_
              exact ih9_9 (k4 + 1) (-1) (m_X6_caseOf_st ru y9st y9ro fmo fkd fcd fsr jn (nC (fce (40 * sn + 3 * k4))) (nC (fce (40 * sn + 3 * k4 + 1)))) (m_X6_caseOf_ro ru y9st y9ro fmo fkd fcd fsr jn (nC (fce (40 * sn + 3 * k4))) (nC (fce (40 * sn + 3 * k4 + 1)))) ysk_24 yna_25 (by omega) (Eq.trans (Eq.symm ((congrArg (fun z9 => p_X6_firstOther_9 ru fmo fkd fcd fsr fce sn jn (z9) k4 fi y9st y9ro) (show (fsq sn / 3) - k4 = (fsq sn / 3) - (k4 + 1) + 1 by omega)).trans (by show p_X6_firstOther_9 ru fmo fkd fcd fsr fce sn jn ((fsq sn / 3) - (k4 + 1) + 1) k4 fi y9st y9ro = _; rw [p_X6_firstOther_9, if_pos c_8, if_pos c_26, if_pos c_29]))) R9) (by omega) _ _ hP hD hS ls (lv_sub hl [0, 1, 5, 6, 7] rfl)
          · skip
            refine lv_iconst (v := 1) hx hb dX6_firstOther_79 (by decide +kernel) ?_
            refine lv_goto (tgt := 84) hx hb dX6_firstOther_80 (by decide +kernel) ?_
            refine lv_istore (lv' := [zI 7 1, zI 6 (m_X6_caseOf ru y9st y9ro fmo fkd fcd fsr jn (nC (fce (40 * sn + 3 * k4))) (nC (fce (40 * sn + 3 * k4 + 1)))), zI 5 (nI ((40 * sn) + (3 * k4))), zI 4 (nI k4), zI 3 fi, zR 0 h0, zI 1 (nI sn), zI 2 (nI jn)]) hx hb dX6_firstOther_84 hl (by decide +kernel) rfl (fun ls hl => ?_)
            refine lv_iload hx hb dX6_firstOther_86 (lv_at hl 0 rfl) ?_
            refine g_aget (D := G.1) (ci := 6) (v := .ref ce) (C := RX6) (T := TX6) (N := 42) hx hb dX6_firstOther_88 rfl (lv_at hl 5 rfl) hts hiX6 hown hK hP 0 rfl rfl 17 (by decide +kernel) kf43 (fun _ h9 => h9) rfl dX6_firstOther_89 ?_
            refine lv_iload hx hb dX6_firstOther_92 (lv_at hl 2 rfl) ?_
            refine lv_iconst (v := 2) hx hb dX6_firstOther_94 (by decide +kernel) ?_
            refine lv_iadd hx hb dX6_firstOther_95 ?_
            refine g_topi (y := nI (((40 * sn) + (3 * k4)) + 2)) (nI_add ((40 * sn) + (3 * k4)) 2) ?_
            refine g_iald (D := G.1) hx hb hK hP 11 0 rfl rfl (k := ((40 * sn) + (3 * k4)) + 2) (y := fce (((40 * sn) + (3 * k4)) + 2)) (by omega) rfl rfl dX6_firstOther_96 ?_
            refine lv_icmp_ne (tgt := 104) hx hb dX6_firstOther_97 (by decide +kernel) (fun c_32 => ?_) (fun c_32 => ?_)
            · skip
              refine lv_iload hx hb dX6_firstOther_104 (lv_at hl 3 rfl) ?_
              refine lv_istore_n (lv' := [zI 3 (nI k4), zI 7 1, zI 6 (m_X6_caseOf ru y9st y9ro fmo fkd fcd fsr jn (nC (fce (40 * sn + 3 * k4))) (nC (fce (40 * sn + 3 * k4 + 1)))), zI 5 (nI ((40 * sn) + (3 * k4))), zI 4 (nI k4), zR 0 h0, zI 1 (nI sn), zI 2 (nI jn)]) hx hb dX6_firstOther_106 rfl hl (by decide +kernel) rfl (fun ls hl => ?_)
              refine lv_iinc (v := nI (k4 + 1)) (lv' := [zI 4 (nI (k4 + 1)), zI 3 (nI k4), zI 7 1, zI 6 (m_X6_caseOf ru y9st y9ro fmo fkd fcd fsr jn (nC (fce (40 * sn + 3 * k4))) (nC (fce (40 * sn + 3 * k4 + 1)))), zI 5 (nI ((40 * sn) + (3 * k4))), zR 0 h0, zI 1 (nI sn), zI 2 (nI jn)]) hx hb dX6_firstOther_107 hl (k := 4) rfl (nI_add k4 1) (by decide +kernel) rfl (fun ls hl => ?_)
              refine lv_goto (tgt := 9) hx hb dX6_firstOther_110 (by decide +kernel) ?_
              exact ih9_9 (k4 + 1) (nI k4) (m_X6_caseOf_st ru y9st y9ro fmo fkd fcd fsr jn (nC (fce (40 * sn + 3 * k4))) (nC (fce (40 * sn + 3 * k4 + 1)))) (m_X6_caseOf_ro ru y9st y9ro fmo fkd fcd fsr jn (nC (fce (40 * sn + 3 * k4))) (nC (fce (40 * sn + 3 * k4 + 1)))) ysk_24 yna_25 (by omega) (Eq.trans (Eq.symm ((congrArg (fun z9 => p_X6_firstOther_9 ru fmo fkd fcd fsr fce sn jn (z9) k4 fi y9st y9ro) (show (fsq sn / 3) - k4 = (fsq sn / 3) - (k4 + 1) + 1 by omega)).trans (by show p_X6_firstOther_9 ru fmo fkd fcd fsr fce sn jn ((fsq sn / 3) - (k4 + 1) + 1) k4 fi y9st y9ro = _; rw [p_X6_firstOther_9, if_pos c_8, if_neg c_26, if_neg c_32]))) R9) (by omega) _ _ hP hD hS ls (lv_sub hl [0, 1, 5, 6, 7] rfl)
            · skip
              refine lv_iconst (v := -1) hx hb dX6_firstOther_100 (by decide +kernel) ?_
              refine lv_goto (tgt := 106) hx hb dX6_firstOther_101 (by decide +kernel) ?_
              refine lv_istore_n (lv' := [zI 3 (-1), zI 7 1, zI 6 (m_X6_caseOf ru y9st y9ro fmo fkd fcd fsr jn (nC (fce (40 * sn + 3 * k4))) (nC (fce (40 * sn + 3 * k4 + 1)))), zI 5 (nI ((40 * sn) + (3 * k4))), zI 4 (nI k4), zR 0 h0, zI 1 (nI sn), zI 2 (nI jn)]) hx hb dX6_firstOther_106 rfl hl (by decide +kernel) rfl (fun ls hl => ?_)
              refine lv_iinc (v := nI (k4 + 1)) (lv' := [zI 4 (nI (k4 + 1)), zI 3 (-1), zI 7 1, zI 6 (m_X6_caseOf ru y9st y9ro fmo fkd fcd fsr jn (nC (fce (40 * sn + 3 * k4))) (nC (fce (40 * sn + 3 * k4 + 1)))), zI 5 (nI ((40 * sn) + (3 * k4))), zR 0 h0, zI 1 (nI sn), zI 2 (nI jn)]) hx hb dX6_firstOther_107 hl (k := 4) rfl (nI_add k4 1) (by decide +kernel) rfl (fun ls hl => ?_)
              refine lv_goto (tgt := 9) hx hb dX6_firstOther_110 (by decide +kernel) ?_
              exact ih9_9 (k4 + 1) (-1) (m_X6_caseOf_st ru y9st y9ro fmo fkd fcd fsr jn (nC (fce (40 * sn + 3 * k4))) (nC (fce (40 * sn + 3 * k4 + 1)))) (m_X6_caseOf_ro ru y9st y9ro fmo fkd fcd fsr jn (nC (fce (40 * sn + 3 * k4))) (nC (fce (40 * sn + 3 * k4 + 1)))) ysk_24 yna_25 (by omega) (Eq.trans (Eq.symm ((congrArg (fun z9 => p_X6_firstOther_9 ru fmo fkd fcd fsr fce sn jn (z9) k4 fi y9st y9ro) (show (fsq sn / 3) - k4 = (fsq sn / 3) - (k4 + 1) + 1 by omega)).trans (by show p_X6_firstOther_9 ru fmo fkd fcd fsr fce sn jn ((fsq sn / 3) - (k4 + 1) + 1) k4 fi y9st y9ro = _; rw [p_X6_firstOther_9, if_pos c_8, if_neg c_26, if_pos c_32]))) R9) (by omega) _ _ hP hD hS ls (lv_sub hl [0, 1, 5, 6, 7] rfl)
  exact loop_9 ((fsq sn / 3) - 0 + 1) 0 (-1) fst fro fsk fna (by omega) (rfl) (by omega) _ _ hP hD hS ls hl
noncomputable def m_X6_reversed (pb : Nat) (jg : Nat) (ru : Nat) (fst : Nat → Int32) (fro : Nat → Int32) (fmo : Nat → Int32) (fkd : Nat → Int32) (fcd : Nat → Int32) (fsr : Nat → Nat) (fsq : Nat → Nat) (fce : Nat → Int32) (fss : Nat → Int32) (v0 : Int32) (v1 : Int32) : Int32 := if (m_X6_toldWrong pb jg fss fsq fce v0 v1) = 0 then m_X6_firstOther ru fst fro fmo fkd fcd fsr fsq fce (nC v0) (nC v1) else m_X6_toldWrong pb jg fss fsq fce v0 v1
abbrev q_X6_reversed (G : gG) (h0 kd mo st ro tp cd sr ir ih ss sq ce lw wo he sk na kp gb go fa ga vo : Nat) (pb : Nat) (jg : Nat) (td : Nat) (tx : Nat) (ru : Nat) (him : Int32) (s19 : Int32) (s20 : Int32) (s21 : Int32) (s22 : Int32) (s25 : Int32) (s26 : Int32) (s27 : Int32) (s31 : Int32) (s32 : Int32) (s33 : Int32) (s34 : Int32) (s39 : Int32) (s40 : Int32) (fst : Nat → Int32) (fro : Nat → Int32) (fmo : Nat → Int32) (fkd : Nat → Int32) (fcd : Nat → Int32) (fsr : Nat → Nat) (fsk : Nat → Int32) (fna : Nat → Int32) (fkp : Nat → Int32) (fsq : Nat → Nat) (fce : Nat → Int32) (fss : Nat → Int32) (v0 : Int32) (v1 : Int32) (A : Nat → Prop) : Array Value → State → Outcome → State → Prop := va_Qi (fun (r : Int32) (u : (Nat → Int32) × (Nat → Int32) × (Nat → Int32)) => match u with | (ysk, yna, ykp) => r = m_X6_reversed pb jg ru fst fro fmo fkd fcd fsr fsq fce fss v0 v1) (fun (u : (Nat → Int32) × (Nat → Int32) × (Nat → Int32)) t => match u with | (ysk, yna, ykp) => va_P G.1 vwCl [zo6 h0 (nI pb) kd mo st (nI jg) ro tp (nI td) cd sr (nI tx) (nI ru) him ir ih ss sq ce lw s19 s20 s21 s22 wo he s25 s26 s27 sk na kp s31 s32 s33 s34 gb go fa ga s39 s40 vo, zi G st 12 fst, zi G ro 12 fro, zi G mo 6 fmo, zi G kd 6 fkd, zi G cd 1200 fcd, zi G sr 24 (nF fsr), zi G sk 200 ysk, zi G na 6 yna, zi G kp 24 ykp, zi G sq 4 (nF fsq), zi G ce 160 fce, zi G ss 4 fss] t.heap ∧ gK G t ∧ va_D A [zo6 h0 (nI pb) kd mo st (nI jg) ro tp (nI td) cd sr (nI tx) (nI ru) him ir ih ss sq ce lw s19 s20 s21 s22 wo he s25 s26 s27 sk na kp s31 s32 s33 s34 gb go fa ga s39 s40 vo, zi G st 12 fst, zi G ro 12 fro, zi G mo 6 fmo, zi G kd 6 fkd, zi G cd 1200 fcd, zi G sr 24 (nF fsr), zi G sk 200 ysk, zi G na 6 yna, zi G kp 24 ykp, zi G sq 4 (nF fsq), zi G ce 160 fce, zi G ss 4 fss]) A
set_option maxHeartbeats 4000000 in
set_option maxRecDepth 100000 in
theorem c_X6_reversed (l : Launch) (G : gG) (h0 kd mo st ro tp cd sr ir ih ss sq ce lw wo he sk na kp gb go fa ga vo : Nat) (pb : Nat) (jg : Nat) (td : Nat) (tx : Nat) (ru : Nat) (him : Int32) (s19 : Int32) (s20 : Int32) (s21 : Int32) (s22 : Int32) (s25 : Int32) (s26 : Int32) (s27 : Int32) (s31 : Int32) (s32 : Int32) (s33 : Int32) (s34 : Int32) (s39 : Int32) (s40 : Int32) (fst : Nat → Int32) (fro : Nat → Int32) (fmo : Nat → Int32) (fkd : Nat → Int32) (fcd : Nat → Int32) (fsr : Nat → Nat) (fsk : Nat → Int32) (fna : Nat → Int32) (fkp : Nat → Int32) (fsq : Nat → Nat) (fce : Nat → Int32) (fss : Nat → Int32) (v0 : Int32) (v1 : Int32) (sz : Nat) (hsq : ∀ q9, q9 < 4 → fsq q9 ≤ 40) (hwa : ∀ t9, t9 < tx → mWf fcd fsr t9) (hpb : pb ≤ 6) (hjg : jg ≤ 4) (htx : tx ≤ 6) (hru : ru < tx) : Met l yX6_reversed wsX6_reversed ({ frames := 7, cells := 0, slots := 0, locals := 172 }) (gPre G [.ref h0, .int v0, .int v1] [zo6 h0 (nI pb) kd mo st (nI jg) ro tp (nI td) cd sr (nI tx) (nI ru) him ir ih ss sq ce lw s19 s20 s21 s22 wo he s25 s26 s27 sk na kp s31 s32 s33 s34 gb go fa ga s39 s40 vo, zi G st 12 fst, zi G ro 12 fro, zi G mo 6 fmo, zi G kd 6 fkd, zi G cd 1200 fcd, zi G sr 24 (nF fsr), zi G sk 200 fsk, zi G na 6 fna, zi G kp 24 fkp, zi G sq 4 (nF fsq), zi G ce 160 fce, zi G ss 4 fss] sz) (q_X6_reversed G h0 kd mo st ro tp cd sr ir ih ss sq ce lw wo he sk na kp gb go fa ga vo pb jg td tx ru him s19 s20 s21 s22 s25 s26 s27 s31 s32 s33 s34 s39 s40 fst fro fmo fkd fcd fsr fsk fna fkp fsq fce fss v0 v1 (va_A [zo6 h0 (nI pb) kd mo st (nI jg) ro tp (nI td) cd sr (nI tx) (nI ru) him ir ih ss sq ce lw s19 s20 s21 s22 wo he s25 s26 s27 sk na kp s31 s32 s33 s34 gb go fa ga s39 s40 vo, zi G st 12 fst, zi G ro 12 fro, zi G mo 6 fmo, zi G kd 6 fkd, zi G cd 1200 fcd, zi G sr 24 (nF fsr), zi G sk 200 fsk, zi G na 6 fna, zi G kp 24 fkp, zi G sq 4 (nF fsq), zi G ce 160 fce, zi G ss 4 fss] sz)) 0 0 (va_A [zo6 h0 (nI pb) kd mo st (nI jg) ro tp (nI td) cd sr (nI tx) (nI ru) him ir ih ss sq ce lw s19 s20 s21 s22 wo he s25 s26 s27 sk na kp s31 s32 s33 s34 gb go fa ga s39 s40 vo, zi G st 12 fst, zi G ro 12 fro, zi G mo 6 fmo, zi G kd 6 fkd, zi G cd 1200 fcd, zi G sr 24 (nF fsr), zi G sk 200 fsk, zi G na 6 fna, zi G kp 24 fkp, zi G sq 4 (nF fsq), zi G ce 160 fce, zi G ss 4 fss] sz) := by
  refine Met.ofW (cc := cX6_reversed) (maxL := 4) (ret := (some .int)) (by decide +kernel) rfl ?_
  intro p e s m args below meth c s₁ B hml hv
  obtain ⟨rfl, hsz, hP, hK, hD0⟩ := hv
  have hx := B.exec
  have hb := B.bytes
  have hr := B.returns
  have hts := atoms_spec (ws := wsX6_reversed) B.pre
  have hown : s.vm.findClass RX6 = some m.cls := findClass_of_methodNamed B.named
  have hlocks := B.notSynchronized
  subst hsz
  have hD := hD0.self (sz := s.heap.size)
  generalize hAe : va_A [zo6 h0 (nI pb) kd mo st (nI jg) ro tp (nI td) cd sr (nI tx) (nI ru) him ir ih ss sq ce lw s19 s20 s21 s22 wo he s25 s26 s27 sk na kp s31 s32 s33 s34 gb go fa ga s39 s40 vo, zi G st 12 fst, zi G ro 12 fro, zi G mo 6 fmo, zi G kd 6 fkd, zi G cd 1200 fcd, zi G sr 24 (nF fsr), zi G sk 200 fsk, zi G na 6 fna, zi G kp 24 fkp, zi G sq 4 (nF fsq), zi G ce 160 fce, zi G ss 4 fss] s.heap.size = A at hD ⊢
  have hA : ∀ q : Nat, s.heap.size ≤ q → A q := fun q h => by rw [← hAe]; exact Or.inr h
  have hS : va_S A s.heap s.heap [] := va_S.rf
  have hz9 : gPD G A [zo6 h0 (nI pb) kd mo st (nI jg) ro tp (nI td) cd sr (nI tx) (nI ru) him ir ih ss sq ce lw s19 s20 s21 s22 wo he s25 s26 s27 sk na kp s31 s32 s33 s34 gb go fa ga s39 s40 vo, zi G st 12 fst, zi G ro 12 fro, zi G mo 6 fmo, zi G kd 6 fkd, zi G cd 1200 fcd, zi G sr 24 (nF fsr), zi G sk 200 fsk, zi G na 6 fna, zi G kp 24 fkp, zi G sq 4 (nF fsq), zi G ce 160 fce, zi G ss 4 fss] s.heap := ⟨hP, hD⟩
  have hP := hz9.1
  have hD := hz9.2
  have hl := lv_entry ([.ref h0, .int v0, .int v1]) (n := 4) (Nat.le_of_ble_eq_true rfl)
  rw [lg_entry_eq]
  generalize (lg_sl ([.ref h0, .int v0, .int v1]) ++ List.replicate (4 - (lg_sl ([.ref h0, .int v0, .int v1])).length) Slot.unset).toArray = ls at hl ⊢
  have hl : lv_has ls 4 [zR 0 h0, zI 1 v0, zI 2 v1] := hl
  refine lv_aload_n hx hb dX6_reversed_0 rfl (lv_at hl 0 rfl) ?_
  refine lv_iload_n hx hb dX6_reversed_1 rfl (lv_at hl 1 rfl) ?_
  refine lv_iload_n hx hb dX6_reversed_2 rfl (lv_at hl 2 rfl) ?_
  refine z_calli [0, 12, 10, 11] (v := m_X6_toldWrong pb jg fss fsq fce v0 v1) (fun _ _ h => h) (va_runV (As := [.int v0, .int v1]) (rest := []) ⟨hx, hb, hml, hown, hts⟩ (c_X6_toldWrong l G h0 kd mo st ro tp cd sr ir ih ss sq ce lw wo he sk na kp gb go fa ga vo pb jg td tx ru him s19 s20 s21 s22 s25 s26 s27 s31 s32 s33 s34 s39 s40 fss fsq fce v0 v1 s.heap.size (by first | exact hsq | assumption | omega) (by first | exact hpb | assumption | omega) (by first | exact hjg | assumption | omega) (by first | exact htx | assumption | omega) (by first | exact hru | assumption | omega)) (cwV 2 hts gX6_reversed_X6_toldWrong rfl rfl rfl (by decide +kernel) ⟨Nat.le_of_ble_eq_true rfl, Nat.le_of_ble_eq_true rfl⟩) ⟨gPre_blind, va_recv (q := (RX6, TX6, 42)) hK hP (ci := 6) (q0 := 0) rfl rfl, fun U hU hW => gPre_ofF [0, 12, 10, 11] hU hW hK hP hD (by decide +kernel) rfl⟩ rfl rfl hl.1 rfl (lv_room (Nat.le_of_ble_eq_true rfl)) dX6_reversed_3 ⟨Nat.le_of_ble_eq_true rfl, Nat.le_of_ble_eq_true rfl⟩) hS hD hA rfl (fun u t H locs ht hvm hB hz1 hk1 hFq hAq hS => ?_)
  obtain ⟨hP1, hK1, hD1⟩ := hB
  have hP := zKeep hP hD [0, 12, 10, 11] hAq hk1 ht hP1 rfl
  refine lv_istore_n (lv' := [zI 3 (m_X6_toldWrong pb jg fss fsq fce v0 v1), zR 0 h0, zI 1 v0, zI 2 v1]) hx hb dX6_reversed_6 rfl hl (by decide +kernel) rfl (fun ls hl => ?_)
  refine lv_iload_n hx hb dX6_reversed_7 rfl (lv_at hl 0 rfl) ?_
  refine lv_if_ne (tgt := 20) hx hb dX6_reversed_8 (by decide +kernel) (fun c_3 => ?_) (fun c_3 => ?_)
  · skip
    refine lv_iload_n hx hb dX6_reversed_20 rfl (lv_at hl 0 rfl) ?_
    have hpost : (fun (r : Int32) (u : (Nat → Int32) × (Nat → Int32) × (Nat → Int32)) => match u with | (ysk, yna, ykp) => r = m_X6_reversed pb jg ru fst fro fmo fkd fcd fsr fsq fce fss v0 v1) (m_X6_toldWrong pb jg fss fsq fce v0 v1) (fsk, fna, fkp) := (show m_X6_reversed pb jg ru fst fro fmo fkd fcd fsr fsq fce fss v0 v1 = (m_X6_toldWrong pb jg fss fsq fce v0 v1) from by unfold m_X6_reversed; rw [if_neg c_3]).symm
    exact W.iret (v := (m_X6_toldWrong pb jg fss fsq fce v0 v1)) hx hb hr (fun t ht hW => ⟨⟨(m_X6_toldWrong pb jg fss fsq fce v0 v1), (fsk, fna, fkp), rfl, hpost, by rw [ht]; exact hP, va_K.moved hW.alike hK, hD⟩, hS.F ht⟩) hS.2.2 dX6_reversed_21
  · skip
    obtain ⟨hs3, hjw, hvl⟩ := toldWrong_0 hpb c_3
    have hv_4 : v0 = nI (nC v0) := nC_eq hs3.1
    have hk_5 : nC v0 ≤ 3 := nC_le (n := 3) (by omega) hs3
    have hv_6 : v1 = nI (nC v1) := mHas_eq hjw
    have hk_7 : nC v1 < jg := mHas_lt (by omega) hjw
    refine lv_aload_n hx hb dX6_reversed_11 rfl (lv_at hl 1 rfl) ?_
    refine lv_iload_n hx hb dX6_reversed_12 rfl (lv_at hl 2 rfl) ?_
    refine g_topi (y := nI (nC v0)) hv_4 ?_
    refine lv_iload_n hx hb dX6_reversed_13 rfl (lv_at hl 3 rfl) ?_
    refine g_topi (y := nI (nC v1)) hv_6 ?_
    refine z_calli [0, 1, 2, 3, 4, 5, 6, 7, 8, 9, 10, 11] (v := m_X6_firstOther ru fst fro fmo fkd fcd fsr fsq fce (nC v0) (nC v1)) (fun _ ⟨_, _, _⟩ h => h) (va_runV (As := [.int (nI (nC v0)), .int (nI (nC v1))]) (rest := []) ⟨hx, hb, hml, hown, hts⟩ (c_X6_firstOther l G h0 kd mo st ro tp cd sr ir ih ss sq ce lw wo he sk na kp gb go fa ga vo pb jg td tx ru him s19 s20 s21 s22 s25 s26 s27 s31 s32 s33 s34 s39 s40 fst fro fmo fkd fcd fsr fsk fna fkp fsq fce (nC v0) (nC v1) H.size (by first | exact hsn | assumption | omega) (by first | exact hj | assumption | omega) (hwa _ (by omega)) (by first | exact hsq | assumption | omega) (by first | exact hvl | assumption | omega) (by first | exact hpb | assumption | omega) (by first | exact hjg | assumption | omega) (by first | exact htx | assumption | omega) (by first | exact hru | assumption | omega)) (cwV 2 hts gX6_reversed_X6_firstOther rfl rfl rfl (by decide +kernel) ⟨Nat.le_of_ble_eq_true rfl, Nat.le_of_ble_eq_true rfl⟩) ⟨gPre_blind, va_recv (q := (RX6, TX6, 42)) hK hP (ci := 6) (q0 := 0) rfl rfl, fun U hU hW => gPre_ofF [0, 1, 2, 3, 4, 5, 6, 7, 8, 9, 10, 11] hU hW hK hP hD (by decide +kernel) rfl⟩ rfl rfl hl.1 rfl (lv_room (Nat.le_of_ble_eq_true rfl)) dX6_reversed_14 ⟨Nat.le_of_ble_eq_true rfl, Nat.le_of_ble_eq_true rfl⟩) hS hD hA rfl (fun u t H locs ht hvm hB hz1 hk1 hFq hAq hS => ?_)
    obtain ⟨ysk_12, yna_13, ykp_14⟩ := u
    obtain ⟨hP1, hK1, hD1⟩ := hB
    have hz9 : gPD G A [zo6 h0 (nI pb) kd mo st (nI jg) ro tp (nI td) cd sr (nI tx) (nI ru) him ir ih ss sq ce lw s19 s20 s21 s22 wo he s25 s26 s27 sk na kp s31 s32 s33 s34 gb go fa ga s39 s40 vo, zi G st 12 fst, zi G ro 12 fro, zi G mo 6 fmo, zi G kd 6 fkd, zi G cd 1200 fcd, zi G sr 24 (nF fsr), zi G sk 200 ysk_12, zi G na 6 yna_13, zi G kp 24 ykp_14, zi G sq 4 (nF fsq), zi G ce 160 fce, zi G ss 4 fss] H := zFill hP hD [0, 1, 2, 3, 4, 5, 6, 7, 8, 9, 10, 11] [1, 2, 3, 4, 5, 6, 7, 8, 9, 10, 11, 12] hAq hk1 hFq ht hP1 hD1 rfl (by decide +kernel)
    have hP := hz9.1
    have hD := hz9.2
    refine lv_goto (tgt := 21) hx hb dX6_reversed_17 (by decide +kernel) ?_
    have hpost : (fun (r : Int32) (u : (Nat → Int32) × (Nat → Int32) × (Nat → Int32)) => match u with | (ysk, yna, ykp) => r = m_X6_reversed pb jg ru fst fro fmo fkd fcd fsr fsq fce fss v0 v1) (m_X6_firstOther ru fst fro fmo fkd fcd fsr fsq fce (nC v0) (nC v1)) (ysk_12, yna_13, ykp_14) := (show m_X6_reversed pb jg ru fst fro fmo fkd fcd fsr fsq fce fss v0 v1 = (m_X6_firstOther ru fst fro fmo fkd fcd fsr fsq fce (nC v0) (nC v1)) from by unfold m_X6_reversed; rw [if_pos c_3]).symm
    exact W.iret (v := (m_X6_firstOther ru fst fro fmo fkd fcd fsr fsq fce (nC v0) (nC v1))) hx hb hr (fun t ht hW => ⟨⟨(m_X6_firstOther ru fst fro fmo fkd fcd fsr fsq fce (nC v0) (nC v1)), (ysk_12, yna_13, ykp_14), rfl, hpost, by rw [ht]; exact hP, va_K.moved hW.alike hK, hD⟩, hS.F ht⟩) hS.2.2 dX6_reversed_21
noncomputable def p_X6_soled_29 (ru : Nat) (fst : Nat → Int32) (fmo : Nat → Int32) (fkd : Nat → Int32) (fcd : Nat → Int32) (fsr : Nat → Nat) (fsq : Nat → Nat) (fce : Nat → Int32) (v0 : Int32) (v1 : Int32) : Nat → Nat → Int32 → (Nat → Int32) → Nat × Int32 × (Nat → Int32)
  | 0, w29, bi, y29ro => (w29, bi, y29ro)
  | q9 + 1, w29, bi, y29ro => if (m_X6_firstOther ru fst (upd y29ro (3 * (nC v1)) (nI w29)) fmo fkd fcd fsr fsq fce (nC v0) (nC v1)) = (-1) then p_X6_soled_29 ru fst fmo fkd fcd fsr fsq fce v0 v1 q9 (w29 + 1) (bi ||| (1 <<< ((nI w29) &&& 31))) (upd y29ro (3 * (nC v1)) (nI w29)) else p_X6_soled_29 ru fst fmo fkd fcd fsr fsq fce v0 v1 q9 (w29 + 1) (bi ||| 0) (upd y29ro (3 * (nC v1)) (nI w29))
noncomputable def g_X6_soled_29 (ru : Nat) (fst : Nat → Int32) (fro : Nat → Int32) (fmo : Nat → Int32) (fkd : Nat → Int32) (fcd : Nat → Int32) (fsr : Nat → Nat) (fsq : Nat → Nat) (fce : Nat → Int32) (v0 : Int32) (v1 : Int32) : Nat × Int32 × (Nat → Int32) := p_X6_soled_29 ru fst fmo fkd fcd fsr fsq fce v0 v1 (21 - 0) 0 0 fro
noncomputable def m_X6_soled (pb : Nat) (jg : Nat) (ru : Nat) (fst : Nat → Int32) (fro : Nat → Int32) (fmo : Nat → Int32) (fkd : Nat → Int32) (fcd : Nat → Int32) (fsr : Nat → Nat) (fsq : Nat → Nat) (fce : Nat → Int32) (fss : Nat → Int32) (v0 : Int32) (v1 : Int32) : Int32 := if (m_X6_toldWrong pb jg fss fsq fce v0 v1) = 0 then ((g_X6_soled_29 ru fst fro fmo fkd fcd fsr fsq fce v0 v1).2.1) else m_X6_toldWrong pb jg fss fsq fce v0 v1
noncomputable def m_X6_soled_ro (pb : Nat) (jg : Nat) (ru : Nat) (fst : Nat → Int32) (fro : Nat → Int32) (fmo : Nat → Int32) (fkd : Nat → Int32) (fcd : Nat → Int32) (fsr : Nat → Nat) (fsq : Nat → Nat) (fce : Nat → Int32) (fss : Nat → Int32) (v0 : Int32) (v1 : Int32) : Nat → Int32 := if (m_X6_toldWrong pb jg fss fsq fce v0 v1) = 0 then upd ((g_X6_soled_29 ru fst fro fmo fkd fcd fsr fsq fce v0 v1).2.2) (3 * (nC v1)) (fro (3 * (nC v1))) else fro
abbrev q_X6_soled (G : gG) (h0 kd mo st ro tp cd sr ir ih ss sq ce lw wo he sk na kp gb go fa ga vo : Nat) (pb : Nat) (jg : Nat) (td : Nat) (tx : Nat) (ru : Nat) (him : Int32) (s19 : Int32) (s20 : Int32) (s21 : Int32) (s22 : Int32) (s25 : Int32) (s26 : Int32) (s27 : Int32) (s31 : Int32) (s32 : Int32) (s33 : Int32) (s34 : Int32) (s39 : Int32) (s40 : Int32) (fst : Nat → Int32) (fro : Nat → Int32) (fmo : Nat → Int32) (fkd : Nat → Int32) (fcd : Nat → Int32) (fsr : Nat → Nat) (fsk : Nat → Int32) (fna : Nat → Int32) (fkp : Nat → Int32) (fsq : Nat → Nat) (fce : Nat → Int32) (fss : Nat → Int32) (v0 : Int32) (v1 : Int32) (A : Nat → Prop) : Array Value → State → Outcome → State → Prop := va_Qi (fun (r : Int32) (u : (Nat → Int32) × (Nat → Int32) × (Nat → Int32)) => match u with | (ysk, yna, ykp) => r = m_X6_soled pb jg ru fst fro fmo fkd fcd fsr fsq fce fss v0 v1) (fun (u : (Nat → Int32) × (Nat → Int32) × (Nat → Int32)) t => match u with | (ysk, yna, ykp) => va_P G.1 vwCl [zo6 h0 (nI pb) kd mo st (nI jg) ro tp (nI td) cd sr (nI tx) (nI ru) him ir ih ss sq ce lw s19 s20 s21 s22 wo he s25 s26 s27 sk na kp s31 s32 s33 s34 gb go fa ga s39 s40 vo, zi G st 12 fst, zi G ro 12 (m_X6_soled_ro pb jg ru fst fro fmo fkd fcd fsr fsq fce fss v0 v1), zi G mo 6 fmo, zi G kd 6 fkd, zi G cd 1200 fcd, zi G sr 24 (nF fsr), zi G sk 200 ysk, zi G na 6 yna, zi G kp 24 ykp, zi G sq 4 (nF fsq), zi G ce 160 fce, zi G ss 4 fss] t.heap ∧ gK G t ∧ va_D A [zo6 h0 (nI pb) kd mo st (nI jg) ro tp (nI td) cd sr (nI tx) (nI ru) him ir ih ss sq ce lw s19 s20 s21 s22 wo he s25 s26 s27 sk na kp s31 s32 s33 s34 gb go fa ga s39 s40 vo, zi G st 12 fst, zi G ro 12 (m_X6_soled_ro pb jg ru fst fro fmo fkd fcd fsr fsq fce fss v0 v1), zi G mo 6 fmo, zi G kd 6 fkd, zi G cd 1200 fcd, zi G sr 24 (nF fsr), zi G sk 200 ysk, zi G na 6 yna, zi G kp 24 ykp, zi G sq 4 (nF fsq), zi G ce 160 fce, zi G ss 4 fss]) A
set_option maxHeartbeats 4000000 in
set_option maxRecDepth 100000 in
theorem c_X6_soled (l : Launch) (G : gG) (h0 kd mo st ro tp cd sr ir ih ss sq ce lw wo he sk na kp gb go fa ga vo : Nat) (pb : Nat) (jg : Nat) (td : Nat) (tx : Nat) (ru : Nat) (him : Int32) (s19 : Int32) (s20 : Int32) (s21 : Int32) (s22 : Int32) (s25 : Int32) (s26 : Int32) (s27 : Int32) (s31 : Int32) (s32 : Int32) (s33 : Int32) (s34 : Int32) (s39 : Int32) (s40 : Int32) (fst : Nat → Int32) (fro : Nat → Int32) (fmo : Nat → Int32) (fkd : Nat → Int32) (fcd : Nat → Int32) (fsr : Nat → Nat) (fsk : Nat → Int32) (fna : Nat → Int32) (fkp : Nat → Int32) (fsq : Nat → Nat) (fce : Nat → Int32) (fss : Nat → Int32) (v0 : Int32) (v1 : Int32) (sz : Nat) (hsq : ∀ q9, q9 < 4 → fsq q9 ≤ 40) (hwa : ∀ t9, t9 < tx → mWf fcd fsr t9) (hpb : pb ≤ 6) (hjg : jg ≤ 4) (htx : tx ≤ 6) (hru : ru < tx) : Met l yX6_soled wsX6_soled ({ frames := 7, cells := 0, slots := 0, locals := 172 }) (gPre G [.ref h0, .int v0, .int v1] [zo6 h0 (nI pb) kd mo st (nI jg) ro tp (nI td) cd sr (nI tx) (nI ru) him ir ih ss sq ce lw s19 s20 s21 s22 wo he s25 s26 s27 sk na kp s31 s32 s33 s34 gb go fa ga s39 s40 vo, zi G st 12 fst, zi G ro 12 fro, zi G mo 6 fmo, zi G kd 6 fkd, zi G cd 1200 fcd, zi G sr 24 (nF fsr), zi G sk 200 fsk, zi G na 6 fna, zi G kp 24 fkp, zi G sq 4 (nF fsq), zi G ce 160 fce, zi G ss 4 fss] sz) (q_X6_soled G h0 kd mo st ro tp cd sr ir ih ss sq ce lw wo he sk na kp gb go fa ga vo pb jg td tx ru him s19 s20 s21 s22 s25 s26 s27 s31 s32 s33 s34 s39 s40 fst fro fmo fkd fcd fsr fsk fna fkp fsq fce fss v0 v1 (va_A [zo6 h0 (nI pb) kd mo st (nI jg) ro tp (nI td) cd sr (nI tx) (nI ru) him ir ih ss sq ce lw s19 s20 s21 s22 wo he s25 s26 s27 sk na kp s31 s32 s33 s34 gb go fa ga s39 s40 vo, zi G st 12 fst, zi G ro 12 fro, zi G mo 6 fmo, zi G kd 6 fkd, zi G cd 1200 fcd, zi G sr 24 (nF fsr), zi G sk 200 fsk, zi G na 6 fna, zi G kp 24 fkp, zi G sq 4 (nF fsq), zi G ce 160 fce, zi G ss 4 fss] sz)) 0 0 (va_A [zo6 h0 (nI pb) kd mo st (nI jg) ro tp (nI td) cd sr (nI tx) (nI ru) him ir ih ss sq ce lw s19 s20 s21 s22 wo he s25 s26 s27 sk na kp s31 s32 s33 s34 gb go fa ga s39 s40 vo, zi G st 12 fst, zi G ro 12 fro, zi G mo 6 fmo, zi G kd 6 fkd, zi G cd 1200 fcd, zi G sr 24 (nF fsr), zi G sk 200 fsk, zi G na 6 fna, zi G kp 24 fkp, zi G sq 4 (nF fsq), zi G ce 160 fce, zi G ss 4 fss] sz) := by
  refine Met.ofW (cc := cX6_soled) (maxL := 7) (ret := (some .int)) (by decide +kernel) rfl ?_
  intro p e s m args below meth c s₁ B hml hv
  obtain ⟨rfl, hsz, hP, hK, hD0⟩ := hv
  have hx := B.exec
  have hb := B.bytes
  have hr := B.returns
  have hts := atoms_spec (ws := wsX6_soled) B.pre
  have hown : s.vm.findClass RX6 = some m.cls := findClass_of_methodNamed B.named
  have hlocks := B.notSynchronized
  subst hsz
  have hD := hD0.self (sz := s.heap.size)
  generalize hAe : va_A [zo6 h0 (nI pb) kd mo st (nI jg) ro tp (nI td) cd sr (nI tx) (nI ru) him ir ih ss sq ce lw s19 s20 s21 s22 wo he s25 s26 s27 sk na kp s31 s32 s33 s34 gb go fa ga s39 s40 vo, zi G st 12 fst, zi G ro 12 fro, zi G mo 6 fmo, zi G kd 6 fkd, zi G cd 1200 fcd, zi G sr 24 (nF fsr), zi G sk 200 fsk, zi G na 6 fna, zi G kp 24 fkp, zi G sq 4 (nF fsq), zi G ce 160 fce, zi G ss 4 fss] s.heap.size = A at hD ⊢
  have hA : ∀ q : Nat, s.heap.size ≤ q → A q := fun q h => by rw [← hAe]; exact Or.inr h
  have hS : va_S A s.heap s.heap [] := va_S.rf
  have hz9 : gPD G A [zo6 h0 (nI pb) kd mo st (nI jg) ro tp (nI td) cd sr (nI tx) (nI ru) him ir ih ss sq ce lw s19 s20 s21 s22 wo he s25 s26 s27 sk na kp s31 s32 s33 s34 gb go fa ga s39 s40 vo, zi G st 12 fst, zi G ro 12 fro, zi G mo 6 fmo, zi G kd 6 fkd, zi G cd 1200 fcd, zi G sr 24 (nF fsr), zi G sk 200 fsk, zi G na 6 fna, zi G kp 24 fkp, zi G sq 4 (nF fsq), zi G ce 160 fce, zi G ss 4 fss] s.heap := ⟨hP, hD⟩
  have hP := hz9.1
  have hD := hz9.2
  have hl := lv_entry ([.ref h0, .int v0, .int v1]) (n := 7) (Nat.le_of_ble_eq_true rfl)
  rw [lg_entry_eq]
  generalize (lg_sl ([.ref h0, .int v0, .int v1]) ++ List.replicate (7 - (lg_sl ([.ref h0, .int v0, .int v1])).length) Slot.unset).toArray = ls at hl ⊢
  have hl : lv_has ls 7 [zR 0 h0, zI 1 v0, zI 2 v1] := hl
  have kf19 := hts (.fieldLink RX6 19 "PebbleInShoeModel" "rows" "[I") (by decide +kernel)
  have hiX6 := (by decide +kernel : ∀ w ∈ wsX60, w ∈ wsX6_soled)
  refine lv_aload_n hx hb dX6_soled_0 rfl (lv_at hl 0 rfl) ?_
  refine lv_iload_n hx hb dX6_soled_1 rfl (lv_at hl 1 rfl) ?_
  refine lv_iload_n hx hb dX6_soled_2 rfl (lv_at hl 2 rfl) ?_
  refine z_calli [0, 12, 10, 11] (v := m_X6_toldWrong pb jg fss fsq fce v0 v1) (fun _ _ h => h) (va_runV (As := [.int v0, .int v1]) (rest := []) ⟨hx, hb, hml, hown, hts⟩ (c_X6_toldWrong l G h0 kd mo st ro tp cd sr ir ih ss sq ce lw wo he sk na kp gb go fa ga vo pb jg td tx ru him s19 s20 s21 s22 s25 s26 s27 s31 s32 s33 s34 s39 s40 fss fsq fce v0 v1 s.heap.size (by first | exact hsq | assumption | omega) (by first | exact hpb | assumption | omega) (by first | exact hjg | assumption | omega) (by first | exact htx | assumption | omega) (by first | exact hru | assumption | omega)) (cwV 2 hts gX6_soled_X6_toldWrong rfl rfl rfl (by decide +kernel) ⟨Nat.le_of_ble_eq_true rfl, Nat.le_of_ble_eq_true rfl⟩) ⟨gPre_blind, va_recv (q := (RX6, TX6, 42)) hK hP (ci := 6) (q0 := 0) rfl rfl, fun U hU hW => gPre_ofF [0, 12, 10, 11] hU hW hK hP hD (by decide +kernel) rfl⟩ rfl rfl hl.1 rfl (lv_room (Nat.le_of_ble_eq_true rfl)) dX6_soled_3 ⟨Nat.le_of_ble_eq_true rfl, Nat.le_of_ble_eq_true rfl⟩) hS hD hA rfl (fun u t H locs ht hvm hB hz1 hk1 hFq hAq hS => ?_)
  obtain ⟨hP1, hK1, hD1⟩ := hB
  have hP := zKeep hP hD [0, 12, 10, 11] hAq hk1 ht hP1 rfl
  refine lv_istore_n (lv' := [zI 3 (m_X6_toldWrong pb jg fss fsq fce v0 v1), zR 0 h0, zI 1 v0, zI 2 v1]) hx hb dX6_soled_6 rfl hl (by decide +kernel) rfl (fun ls hl => ?_)
  refine lv_iload_n hx hb dX6_soled_7 rfl (lv_at hl 0 rfl) ?_
  refine lv_if_eq (tgt := 13) hx hb dX6_soled_8 (by decide +kernel) (fun c_3 => ?_) (fun c_3 => ?_)
  · skip
    obtain ⟨hs3, hjw, hvl⟩ := toldWrong_0 hpb c_3
    have hv_4 : v0 = nI (nC v0) := nC_eq hs3.1
    have hk_5 : nC v0 ≤ 3 := nC_le (n := 3) (by omega) hs3
    have hv_6 : v1 = nI (nC v1) := mHas_eq hjw
    have hk_7 : nC v1 < jg := mHas_lt (by omega) hjw
    refine g_aget (D := G.1) (ci := 6) (v := .ref ro) (C := RX6) (T := TX6) (N := 42) hx hb dX6_soled_13 rfl (lv_at hl 1 rfl) hts hiX6 hown hK hP 0 rfl rfl 5 (by decide +kernel) kf19 (fun _ h9 => h9) rfl dX6_soled_14 ?_
    refine lv_iconst (v := 3) hx hb dX6_soled_17 (by decide +kernel) ?_
    refine lv_iload_n hx hb dX6_soled_18 rfl (lv_at hl 3 rfl) ?_
    refine g_topi (y := nI (nC v1)) hv_6 ?_
    refine lv_imul hx hb dX6_soled_19 ?_
    refine g_topi (y := nI (3 * (nC v1))) (pk_mul 3 (nC v1)) ?_
    refine g_iald (D := G.1) hx hb hK hP 2 0 rfl rfl (k := 3 * (nC v1)) (y := fro (3 * (nC v1))) (by omega) rfl rfl dX6_soled_20 ?_
    refine lv_istore (lv' := [zI 4 (fro (3 * (nC v1))), zI 3 (m_X6_toldWrong pb jg fss fsq fce v0 v1), zR 0 h0, zI 1 v0, zI 2 v1]) hx hb dX6_soled_21 hl (by decide +kernel) rfl (fun ls hl => ?_)
    refine lv_iconst (v := 0) hx hb dX6_soled_23 (by decide +kernel) ?_
    refine lv_istore (lv' := [zI 5 0, zI 4 (fro (3 * (nC v1))), zI 3 (m_X6_toldWrong pb jg fss fsq fce v0 v1), zR 0 h0, zI 1 v0, zI 2 v1]) hx hb dX6_soled_24 hl (by decide +kernel) rfl (fun ls hl => ?_)
    refine lv_iconst (v := 0) hx hb dX6_soled_26 (by decide +kernel) ?_
    refine lv_istore (lv' := [zI 6 0, zI 5 0, zI 4 (fro (3 * (nC v1))), zI 3 (m_X6_toldWrong pb jg fss fsq fce v0 v1), zR 0 h0, zI 1 v0, zI 2 v1]) hx hb dX6_soled_27 hl (by decide +kernel) rfl (fun ls hl => ?_)
    have loop_29 : ∀ (n9 : Nat) (w29 : Nat) (bi : Int32) (y29ro : Nat → Int32) (x29sk : Nat → Int32) (x29na : Nat → Int32) (x29kp : Nat → Int32), (w29 ≤ 21) → (p_X6_soled_29 ru fst fmo fkd fcd fsr fsq fce v0 v1 (21 - w29) w29 bi y29ro = (g_X6_soled_29 ru fst fro fmo fkd fcd fsr fsq fce v0 v1)) → (21 - w29) < n9 → ∀ (H : Heap) (locs : List Loc), va_P G.1 vwCl [zo6 h0 (nI pb) kd mo st (nI jg) ro tp (nI td) cd sr (nI tx) (nI ru) him ir ih ss sq ce lw s19 s20 s21 s22 wo he s25 s26 s27 sk na kp s31 s32 s33 s34 gb go fa ga s39 s40 vo, zi G st 12 fst, zi G ro 12 y29ro, zi G mo 6 fmo, zi G kd 6 fkd, zi G cd 1200 fcd, zi G sr 24 (nF fsr), zi G sk 200 x29sk, zi G na 6 x29na, zi G kp 24 x29kp, zi G sq 4 (nF fsq), zi G ce 160 fce, zi G ss 4 fss] H → va_D A [zo6 h0 (nI pb) kd mo st (nI jg) ro tp (nI td) cd sr (nI tx) (nI ru) him ir ih ss sq ce lw s19 s20 s21 s22 wo he s25 s26 s27 sk na kp s31 s32 s33 s34 gb go fa ga s39 s40 vo, zi G st 12 fst, zi G ro 12 y29ro, zi G mo 6 fmo, zi G kd 6 fkd, zi G cd 1200 fcd, zi G sr 24 (nF fsr), zi G sk 200 x29sk, zi G na 6 x29na, zi G kp 24 x29kp, zi G sq 4 (nF fsq), zi G ce 160 fce, zi G ss 4 fss] → va_S A s.heap H locs → ∀ ls : Array Slot, lv_has ls 7 [zI 6 (nI w29), zI 5 bi, zI 4 (fro (3 * (nC v1))), zI 3 (m_X6_toldWrong pb jg fss fsq fce v0 v1), zR 0 h0, zI 1 v0, zI 2 v1] → W p l e (headSpec wsX6_soled ({ frames := 7, cells := 0, slots := 0, locals := 172 })).room s m ([.ref h0, .int v0, .int v1] : List Value).toArray below meth c H locs 0 0 (MQ below (q_X6_soled G h0 kd mo st ro tp cd sr ir ih ss sq ce lw wo he sk na kp gb go fa ga vo pb jg td tx ru him s19 s20 s21 s22 s25 s26 s27 s31 s32 s33 s34 s39 s40 fst fro fmo fkd fcd fsr fsk fna fkp fsq fce fss v0 v1 A) ([.ref h0, .int v0, .int v1] : List Value).toArray s 0 0 A) (F0 m 29 ls []) := by
      intro n9
      induction n9 with
      | zero => intro w29 bi y29ro x29sk x29na x29kp hw29 R29 hm9_29; exact absurd hm9_29 (Nat.not_lt_zero _)
      | succ n9 ih9_29 =>
        intro w29 bi y29ro x29sk x29na x29kp hw29 R29 hm9_29 H locs hP hD hS ls hl
        refine lv_iload hx hb dX6_soled_29 (lv_at hl 0 rfl) ?_
        refine lv_bipush (v := 20) hx hb dX6_soled_31 (by decide +kernel) ?_
        refine lv_icmp_gt (tgt := 75) hx hb dX6_soled_33 (by decide +kernel) (fun c_11 => ?_) (fun c_11 => ?_)
        · skip
          have c_11N : 20 < w29 := nI_lt1 (a := 20) (b := w29) (by omega) (by omega) c_11
          have hF29 : (g_X6_soled_29 ru fst fro fmo fkd fcd fsr fsq fce v0 v1) = (w29, bi, y29ro) := by rw [← R29, show 21 - w29 = 0 by omega]; rfl
          have hE29_0 : w29 = ((g_X6_soled_29 ru fst fro fmo fkd fcd fsr fsq fce v0 v1).1) := by rw [hF29]
          have hE29_1 : bi = ((g_X6_soled_29 ru fst fro fmo fkd fcd fsr fsq fce v0 v1).2.1) := by rw [hF29]
          have hE29_2 : y29ro = ((g_X6_soled_29 ru fst fro fmo fkd fcd fsr fsq fce v0 v1).2.2) := by rw [hF29]
          clear hF29 R29
          subst hE29_0
          subst hE29_1
          subst hE29_2
          refine g_aget (D := G.1) (ci := 6) (v := .ref ro) (C := RX6) (T := TX6) (N := 42) hx hb dX6_soled_75 rfl (lv_at hl 4 rfl) hts hiX6 hown hK hP 0 rfl rfl 5 (by decide +kernel) kf19 (fun _ h9 => h9) rfl dX6_soled_76 ?_
          refine lv_iconst (v := 3) hx hb dX6_soled_79 (by decide +kernel) ?_
          refine lv_iload_n hx hb dX6_soled_80 rfl (lv_at hl 6 rfl) ?_
          refine g_topi (y := nI (nC v1)) hv_6 ?_
          refine lv_imul hx hb dX6_soled_81 ?_
          refine g_topi (y := nI (3 * (nC v1))) (pk_mul 3 (nC v1)) ?_
          refine lv_iload hx hb dX6_soled_82 (lv_at hl 2 rfl) ?_
          refine g_iast (D := G.1) hx hb hK hP hD hS 2 0 rfl rfl (k := 3 * (nC v1)) (x := (fro (3 * (nC v1)))) (by omega) rfl dX6_soled_84 (fun H locs hP hD hS => ?_)
          have hz9 : gPD G A [zo6 h0 (nI pb) kd mo st (nI jg) ro tp (nI td) cd sr (nI tx) (nI ru) him ir ih ss sq ce lw s19 s20 s21 s22 wo he s25 s26 s27 sk na kp s31 s32 s33 s34 gb go fa ga s39 s40 vo, zi G st 12 fst, zi G ro 12 (upd ((g_X6_soled_29 ru fst fro fmo fkd fcd fsr fsq fce v0 v1).2.2) (3 * (nC v1)) (fro (3 * (nC v1)))), zi G mo 6 fmo, zi G kd 6 fkd, zi G cd 1200 fcd, zi G sr 24 (nF fsr), zi G sk 200 x29sk, zi G na 6 x29na, zi G kp 24 x29kp, zi G sq 4 (nF fsq), zi G ce 160 fce, zi G ss 4 fss] H := ⟨hP, hD⟩
          have hP := hz9.1
          have hD := hz9.2
          refine lv_iload hx hb dX6_soled_85 (lv_at hl 1 rfl) ?_
          have q_14 : m_X6_soled_ro pb jg ru fst fro fmo fkd fcd fsr fsq fce fss v0 v1 = upd ((g_X6_soled_29 ru fst fro fmo fkd fcd fsr fsq fce v0 v1).2.2) (3 * (nC v1)) (fro (3 * (nC v1))) := by unfold m_X6_soled_ro; rw [if_pos c_3]
          have hz9 : gPD G A [zo6 h0 (nI pb) kd mo st (nI jg) ro tp (nI td) cd sr (nI tx) (nI ru) him ir ih ss sq ce lw s19 s20 s21 s22 wo he s25 s26 s27 sk na kp s31 s32 s33 s34 gb go fa ga s39 s40 vo, zi G st 12 fst, zi G ro 12 (m_X6_soled_ro pb jg ru fst fro fmo fkd fcd fsr fsq fce fss v0 v1), zi G mo 6 fmo, zi G kd 6 fkd, zi G cd 1200 fcd, zi G sr 24 (nF fsr), zi G sk 200 x29sk, zi G na 6 x29na, zi G kp 24 x29kp, zi G sq 4 (nF fsq), zi G ce 160 fce, zi G ss 4 fss] H := ⟨by rw [q_14]; exact hP, by rw [q_14]; exact hD⟩
          have hP9 := hz9.1
          have hD9 := hz9.2
          have hpost : (fun (r : Int32) (u : (Nat → Int32) × (Nat → Int32) × (Nat → Int32)) => match u with | (ysk, yna, ykp) => r = m_X6_soled pb jg ru fst fro fmo fkd fcd fsr fsq fce fss v0 v1) ((g_X6_soled_29 ru fst fro fmo fkd fcd fsr fsq fce v0 v1).2.1) (x29sk, x29na, x29kp) := (show m_X6_soled pb jg ru fst fro fmo fkd fcd fsr fsq fce fss v0 v1 = ((g_X6_soled_29 ru fst fro fmo fkd fcd fsr fsq fce v0 v1).2.1) from by unfold m_X6_soled; rw [if_pos c_3]).symm
          exact W.iret (v := ((g_X6_soled_29 ru fst fro fmo fkd fcd fsr fsq fce v0 v1).2.1)) hx hb hr (fun t ht hW => ⟨⟨((g_X6_soled_29 ru fst fro fmo fkd fcd fsr fsq fce v0 v1).2.1), (x29sk, x29na, x29kp), rfl, hpost, by rw [ht]; exact hP9, va_K.moved hW.alike hK, hD9⟩, hS.F ht⟩) hS.2.2 dX6_soled_87
        · skip
          have c_11N : w29 ≤ 20 := nI_lt0 (a := 20) (b := w29) (by omega) (by omega) c_11
          refine g_aget (D := G.1) (ci := 6) (v := .ref ro) (C := RX6) (T := TX6) (N := 42) hx hb dX6_soled_36 rfl (lv_at hl 4 rfl) hts hiX6 hown hK hP 0 rfl rfl 5 (by decide +kernel) kf19 (fun _ h9 => h9) rfl dX6_soled_37 ?_
          refine lv_iconst (v := 3) hx hb dX6_soled_40 (by decide +kernel) ?_
          refine lv_iload_n hx hb dX6_soled_41 rfl (lv_at hl 6 rfl) ?_
          refine g_topi (y := nI (nC v1)) hv_6 ?_
          refine lv_imul hx hb dX6_soled_42 ?_
          refine g_topi (y := nI (3 * (nC v1))) (pk_mul 3 (nC v1)) ?_
          refine lv_iload hx hb dX6_soled_43 (lv_at hl 0 rfl) ?_
          refine g_iast (D := G.1) hx hb hK hP hD hS 2 0 rfl rfl (k := 3 * (nC v1)) (x := (nI w29)) (by omega) rfl dX6_soled_45 (fun H locs hP hD hS => ?_)
          have hz9 : gPD G A [zo6 h0 (nI pb) kd mo st (nI jg) ro tp (nI td) cd sr (nI tx) (nI ru) him ir ih ss sq ce lw s19 s20 s21 s22 wo he s25 s26 s27 sk na kp s31 s32 s33 s34 gb go fa ga s39 s40 vo, zi G st 12 fst, zi G ro 12 (upd y29ro (3 * (nC v1)) (nI w29)), zi G mo 6 fmo, zi G kd 6 fkd, zi G cd 1200 fcd, zi G sr 24 (nF fsr), zi G sk 200 x29sk, zi G na 6 x29na, zi G kp 24 x29kp, zi G sq 4 (nF fsq), zi G ce 160 fce, zi G ss 4 fss] H := ⟨hP, hD⟩
          have hP := hz9.1
          have hD := hz9.2
          refine lv_iload hx hb dX6_soled_46 (lv_at hl 1 rfl) ?_
          refine lv_aload_n hx hb dX6_soled_48 rfl (lv_at hl 4 rfl) ?_
          refine lv_iload_n hx hb dX6_soled_49 rfl (lv_at hl 5 rfl) ?_
          refine g_topi (y := nI (nC v0)) hv_4 ?_
          refine lv_iload_n hx hb dX6_soled_50 rfl (lv_at hl 6 rfl) ?_
          refine g_topi (y := nI (nC v1)) hv_6 ?_
          refine z_calli [0, 1, 2, 3, 4, 5, 6, 7, 8, 9, 10, 11] (v := m_X6_firstOther ru fst (upd y29ro (3 * (nC v1)) (nI w29)) fmo fkd fcd fsr fsq fce (nC v0) (nC v1)) (fun _ ⟨_, _, _⟩ h => h) (va_runV (As := [.int (nI (nC v0)), .int (nI (nC v1))]) (rest := [.int bi]) ⟨hx, hb, hml, hown, hts⟩ (c_X6_firstOther l G h0 kd mo st ro tp cd sr ir ih ss sq ce lw wo he sk na kp gb go fa ga vo pb jg td tx ru him s19 s20 s21 s22 s25 s26 s27 s31 s32 s33 s34 s39 s40 fst (upd y29ro (3 * (nC v1)) (nI w29)) fmo fkd fcd fsr x29sk x29na x29kp fsq fce (nC v0) (nC v1) H.size (by first | exact hsn | assumption | omega) (by first | exact hj | assumption | omega) (hwa _ (by omega)) (by first | exact hsq | assumption | omega) (by first | exact hvl | assumption | omega) (by first | exact hpb | assumption | omega) (by first | exact hjg | assumption | omega) (by first | exact htx | assumption | omega) (by first | exact hru | assumption | omega)) (cwV 2 hts gX6_soled_X6_firstOther rfl rfl rfl (by decide +kernel) ⟨Nat.le_of_ble_eq_true rfl, Nat.le_of_ble_eq_true rfl⟩) ⟨gPre_blind, va_recv (q := (RX6, TX6, 42)) hK hP (ci := 6) (q0 := 0) rfl rfl, fun U hU hW => gPre_ofF [0, 1, 2, 3, 4, 5, 6, 7, 8, 9, 10, 11] hU hW hK hP hD (by decide +kernel) rfl⟩ rfl rfl hl.1 rfl (lv_room (Nat.le_of_ble_eq_true rfl)) dX6_soled_51 ⟨Nat.le_of_ble_eq_true rfl, Nat.le_of_ble_eq_true rfl⟩) hS hD hA rfl (fun u t H locs ht hvm hB hz1 hk1 hFq hAq hS => ?_)
          obtain ⟨ysk_21, yna_22, ykp_23⟩ := u
          obtain ⟨hP1, hK1, hD1⟩ := hB
          have hz9 : gPD G A [zo6 h0 (nI pb) kd mo st (nI jg) ro tp (nI td) cd sr (nI tx) (nI ru) him ir ih ss sq ce lw s19 s20 s21 s22 wo he s25 s26 s27 sk na kp s31 s32 s33 s34 gb go fa ga s39 s40 vo, zi G st 12 fst, zi G ro 12 (upd y29ro (3 * (nC v1)) (nI w29)), zi G mo 6 fmo, zi G kd 6 fkd, zi G cd 1200 fcd, zi G sr 24 (nF fsr), zi G sk 200 ysk_21, zi G na 6 yna_22, zi G kp 24 ykp_23, zi G sq 4 (nF fsq), zi G ce 160 fce, zi G ss 4 fss] H := zFill hP hD [0, 1, 2, 3, 4, 5, 6, 7, 8, 9, 10, 11] [1, 2, 3, 4, 5, 6, 7, 8, 9, 10, 11, 12] hAq hk1 hFq ht hP1 hD1 rfl (by decide +kernel)
          have hP := hz9.1
          have hD := hz9.2
          refine lv_iconst (v := -1) hx hb dX6_soled_54 (by decide +kernel) ?_
          refine lv_icmp_ne (tgt := 65) hx hb dX6_soled_55 (by decide +kernel) (fun c_24 => ?_) (fun c_24 => ?_)
          · skip
            refine lv_iconst (v := 0) hx hb dX6_soled_65 (by decide +kernel) ?_
            refine lv_ior hx hb dX6_soled_66 ?_
            refine lv_istore (lv' := [zI 5 (bi ||| 0), zI 6 (nI w29), zI 4 (fro (3 * (nC v1))), zI 3 (m_X6_toldWrong pb jg fss fsq fce v0 v1), zR 0 h0, zI 1 v0, zI 2 v1]) hx hb dX6_soled_67 hl (by decide +kernel) rfl (fun ls hl => ?_)
            refine lv_iinc (v := nI (w29 + 1)) (lv' := [zI 6 (nI (w29 + 1)), zI 5 (bi ||| 0), zI 4 (fro (3 * (nC v1))), zI 3 (m_X6_toldWrong pb jg fss fsq fce v0 v1), zR 0 h0, zI 1 v0, zI 2 v1]) hx hb dX6_soled_69 hl (k := 1) rfl (nI_add w29 1) (by decide +kernel) rfl (fun ls hl => ?_)
            refine lv_goto (tgt := 29) hx hb dX6_soled_72 (by decide +kernel) ?_
            exact ih9_29 (w29 + 1) (bi ||| 0) (upd y29ro (3 * (nC v1)) (nI w29)) ysk_21 yna_22 ykp_23 (by omega) (Eq.trans (Eq.symm ((congrArg (fun z9 => p_X6_soled_29 ru fst fmo fkd fcd fsr fsq fce v0 v1 (z9) w29 bi y29ro) (show 21 - w29 = 21 - (w29 + 1) + 1 by omega)).trans (by show p_X6_soled_29 ru fst fmo fkd fcd fsr fsq fce v0 v1 (21 - (w29 + 1) + 1) w29 bi y29ro = _; rw [p_X6_soled_29, if_neg c_24]))) R29) (by omega) _ _ hP hD hS ls hl
          · skip
            refine lv_iconst (v := 1) hx hb dX6_soled_58 (by decide +kernel) ?_
            refine lv_iload hx hb dX6_soled_59 (lv_at hl 0 rfl) ?_
            refine lv_ishl hx hb dX6_soled_61 ?_
            refine lv_goto (tgt := 66) hx hb dX6_soled_62 (by decide +kernel) ?_
            refine lv_ior hx hb dX6_soled_66 ?_
            refine lv_istore (lv' := [zI 5 (bi ||| (1 <<< ((nI w29) &&& 31))), zI 6 (nI w29), zI 4 (fro (3 * (nC v1))), zI 3 (m_X6_toldWrong pb jg fss fsq fce v0 v1), zR 0 h0, zI 1 v0, zI 2 v1]) hx hb dX6_soled_67 hl (by decide +kernel) rfl (fun ls hl => ?_)
            refine lv_iinc (v := nI (w29 + 1)) (lv' := [zI 6 (nI (w29 + 1)), zI 5 (bi ||| (1 <<< ((nI w29) &&& 31))), zI 4 (fro (3 * (nC v1))), zI 3 (m_X6_toldWrong pb jg fss fsq fce v0 v1), zR 0 h0, zI 1 v0, zI 2 v1]) hx hb dX6_soled_69 hl (k := 1) rfl (nI_add w29 1) (by decide +kernel) rfl (fun ls hl => ?_)
            refine lv_goto (tgt := 29) hx hb dX6_soled_72 (by decide +kernel) ?_
            exact ih9_29 (w29 + 1) (bi ||| (1 <<< ((nI w29) &&& 31))) (upd y29ro (3 * (nC v1)) (nI w29)) ysk_21 yna_22 ykp_23 (by omega) (Eq.trans (Eq.symm ((congrArg (fun z9 => p_X6_soled_29 ru fst fmo fkd fcd fsr fsq fce v0 v1 (z9) w29 bi y29ro) (show 21 - w29 = 21 - (w29 + 1) + 1 by omega)).trans (by show p_X6_soled_29 ru fst fmo fkd fcd fsr fsq fce v0 v1 (21 - (w29 + 1) + 1) w29 bi y29ro = _; rw [p_X6_soled_29, if_pos c_24]))) R29) (by omega) _ _ hP hD hS ls hl
    exact loop_29 (21 - 0 + 1) 0 0 fro fsk fna fkp (by omega) (rfl) (by omega) _ _ hP hD hS ls hl
  · skip
    refine lv_iload_n hx hb dX6_soled_11 rfl (lv_at hl 0 rfl) ?_
    have q_25 : m_X6_soled_ro pb jg ru fst fro fmo fkd fcd fsr fsq fce fss v0 v1 = fro := by unfold m_X6_soled_ro; rw [if_neg c_3]
    have hz9 : gPD G A [zo6 h0 (nI pb) kd mo st (nI jg) ro tp (nI td) cd sr (nI tx) (nI ru) him ir ih ss sq ce lw s19 s20 s21 s22 wo he s25 s26 s27 sk na kp s31 s32 s33 s34 gb go fa ga s39 s40 vo, zi G st 12 fst, zi G ro 12 (m_X6_soled_ro pb jg ru fst fro fmo fkd fcd fsr fsq fce fss v0 v1), zi G mo 6 fmo, zi G kd 6 fkd, zi G cd 1200 fcd, zi G sr 24 (nF fsr), zi G sk 200 fsk, zi G na 6 fna, zi G kp 24 fkp, zi G sq 4 (nF fsq), zi G ce 160 fce, zi G ss 4 fss] H := ⟨by rw [q_25]; exact hP, by rw [q_25]; exact hD⟩
    have hP9 := hz9.1
    have hD9 := hz9.2
    have hpost : (fun (r : Int32) (u : (Nat → Int32) × (Nat → Int32) × (Nat → Int32)) => match u with | (ysk, yna, ykp) => r = m_X6_soled pb jg ru fst fro fmo fkd fcd fsr fsq fce fss v0 v1) (m_X6_toldWrong pb jg fss fsq fce v0 v1) (fsk, fna, fkp) := (show m_X6_soled pb jg ru fst fro fmo fkd fcd fsr fsq fce fss v0 v1 = (m_X6_toldWrong pb jg fss fsq fce v0 v1) from by unfold m_X6_soled; rw [if_neg c_3]).symm
    exact W.iret (v := (m_X6_toldWrong pb jg fss fsq fce v0 v1)) hx hb hr (fun t ht hW => ⟨⟨(m_X6_toldWrong pb jg fss fsq fce v0 v1), (fsk, fna, fkp), rfl, hpost, by rw [ht]; exact hP9, va_K.moved hW.alike hK, hD9⟩, hS.F ht⟩) hS.2.2 dX6_soled_12
noncomputable def p_X6_whose_17 (ru : Nat) (fst : Nat → Int32) (fro : Nat → Int32) (fmo : Nat → Int32) (fkd : Nat → Int32) (fcd : Nat → Int32) (fsr : Nat → Nat) (fsq : Nat → Nat) (fce : Nat → Int32) (v0 : Int32) : Nat → Nat → Int32 → Nat × Int32
  | 0, j17, bi => (j17, bi)
  | q9 + 1, j17, bi => if (m_X6_firstOther ru fst fro fmo fkd fcd fsr fsq fce (nC v0) j17) = (-1) then p_X6_whose_17 ru fst fro fmo fkd fcd fsr fsq fce v0 q9 (j17 + 1) (bi ||| (1 <<< ((nI j17) &&& 31))) else p_X6_whose_17 ru fst fro fmo fkd fcd fsr fsq fce v0 q9 (j17 + 1) (bi ||| 0)
noncomputable def g_X6_whose_17 (jg : Nat) (ru : Nat) (fst : Nat → Int32) (fro : Nat → Int32) (fmo : Nat → Int32) (fkd : Nat → Int32) (fcd : Nat → Int32) (fsr : Nat → Nat) (fsq : Nat → Nat) (fce : Nat → Int32) (v0 : Int32) : Nat × Int32 := p_X6_whose_17 ru fst fro fmo fkd fcd fsr fsq fce v0 (jg - 0) 0 0
noncomputable def m_X6_whose (pb : Nat) (jg : Nat) (ru : Nat) (fst : Nat → Int32) (fro : Nat → Int32) (fmo : Nat → Int32) (fkd : Nat → Int32) (fcd : Nat → Int32) (fsr : Nat → Nat) (fsq : Nat → Nat) (fce : Nat → Int32) (fss : Nat → Int32) (v0 : Int32) : Int32 := if (m_X6_sheetWrong pb fss fsq fce v0) = 0 then ((g_X6_whose_17 jg ru fst fro fmo fkd fcd fsr fsq fce v0).2) else m_X6_sheetWrong pb fss fsq fce v0
abbrev q_X6_whose (G : gG) (h0 kd mo st ro tp cd sr ir ih ss sq ce lw wo he sk na kp gb go fa ga vo : Nat) (pb : Nat) (jg : Nat) (td : Nat) (tx : Nat) (ru : Nat) (him : Int32) (s19 : Int32) (s20 : Int32) (s21 : Int32) (s22 : Int32) (s25 : Int32) (s26 : Int32) (s27 : Int32) (s31 : Int32) (s32 : Int32) (s33 : Int32) (s34 : Int32) (s39 : Int32) (s40 : Int32) (fst : Nat → Int32) (fro : Nat → Int32) (fmo : Nat → Int32) (fkd : Nat → Int32) (fcd : Nat → Int32) (fsr : Nat → Nat) (fsk : Nat → Int32) (fna : Nat → Int32) (fkp : Nat → Int32) (fsq : Nat → Nat) (fce : Nat → Int32) (fss : Nat → Int32) (v0 : Int32) (A : Nat → Prop) : Array Value → State → Outcome → State → Prop := va_Qi (fun (r : Int32) (u : (Nat → Int32) × (Nat → Int32) × (Nat → Int32)) => match u with | (ysk, yna, ykp) => r = m_X6_whose pb jg ru fst fro fmo fkd fcd fsr fsq fce fss v0) (fun (u : (Nat → Int32) × (Nat → Int32) × (Nat → Int32)) t => match u with | (ysk, yna, ykp) => va_P G.1 vwCl [zo6 h0 (nI pb) kd mo st (nI jg) ro tp (nI td) cd sr (nI tx) (nI ru) him ir ih ss sq ce lw s19 s20 s21 s22 wo he s25 s26 s27 sk na kp s31 s32 s33 s34 gb go fa ga s39 s40 vo, zi G st 12 fst, zi G ro 12 fro, zi G mo 6 fmo, zi G kd 6 fkd, zi G cd 1200 fcd, zi G sr 24 (nF fsr), zi G sk 200 ysk, zi G na 6 yna, zi G kp 24 ykp, zi G sq 4 (nF fsq), zi G ce 160 fce, zi G ss 4 fss] t.heap ∧ gK G t ∧ va_D A [zo6 h0 (nI pb) kd mo st (nI jg) ro tp (nI td) cd sr (nI tx) (nI ru) him ir ih ss sq ce lw s19 s20 s21 s22 wo he s25 s26 s27 sk na kp s31 s32 s33 s34 gb go fa ga s39 s40 vo, zi G st 12 fst, zi G ro 12 fro, zi G mo 6 fmo, zi G kd 6 fkd, zi G cd 1200 fcd, zi G sr 24 (nF fsr), zi G sk 200 ysk, zi G na 6 yna, zi G kp 24 ykp, zi G sq 4 (nF fsq), zi G ce 160 fce, zi G ss 4 fss]) A
set_option maxHeartbeats 4000000 in
set_option maxRecDepth 100000 in
theorem c_X6_whose (l : Launch) (G : gG) (h0 kd mo st ro tp cd sr ir ih ss sq ce lw wo he sk na kp gb go fa ga vo : Nat) (pb : Nat) (jg : Nat) (td : Nat) (tx : Nat) (ru : Nat) (him : Int32) (s19 : Int32) (s20 : Int32) (s21 : Int32) (s22 : Int32) (s25 : Int32) (s26 : Int32) (s27 : Int32) (s31 : Int32) (s32 : Int32) (s33 : Int32) (s34 : Int32) (s39 : Int32) (s40 : Int32) (fst : Nat → Int32) (fro : Nat → Int32) (fmo : Nat → Int32) (fkd : Nat → Int32) (fcd : Nat → Int32) (fsr : Nat → Nat) (fsk : Nat → Int32) (fna : Nat → Int32) (fkp : Nat → Int32) (fsq : Nat → Nat) (fce : Nat → Int32) (fss : Nat → Int32) (v0 : Int32) (sz : Nat) (hsq : ∀ q9, q9 < 4 → fsq q9 ≤ 40) (hwa : ∀ t9, t9 < tx → mWf fcd fsr t9) (hpb : pb ≤ 6) (hjg : jg ≤ 4) (htx : tx ≤ 6) (hru : ru < tx) : Met l yX6_whose wsX6_whose ({ frames := 7, cells := 0, slots := 0, locals := 172 }) (gPre G [.ref h0, .int v0] [zo6 h0 (nI pb) kd mo st (nI jg) ro tp (nI td) cd sr (nI tx) (nI ru) him ir ih ss sq ce lw s19 s20 s21 s22 wo he s25 s26 s27 sk na kp s31 s32 s33 s34 gb go fa ga s39 s40 vo, zi G st 12 fst, zi G ro 12 fro, zi G mo 6 fmo, zi G kd 6 fkd, zi G cd 1200 fcd, zi G sr 24 (nF fsr), zi G sk 200 fsk, zi G na 6 fna, zi G kp 24 fkp, zi G sq 4 (nF fsq), zi G ce 160 fce, zi G ss 4 fss] sz) (q_X6_whose G h0 kd mo st ro tp cd sr ir ih ss sq ce lw wo he sk na kp gb go fa ga vo pb jg td tx ru him s19 s20 s21 s22 s25 s26 s27 s31 s32 s33 s34 s39 s40 fst fro fmo fkd fcd fsr fsk fna fkp fsq fce fss v0 (va_A [zo6 h0 (nI pb) kd mo st (nI jg) ro tp (nI td) cd sr (nI tx) (nI ru) him ir ih ss sq ce lw s19 s20 s21 s22 wo he s25 s26 s27 sk na kp s31 s32 s33 s34 gb go fa ga s39 s40 vo, zi G st 12 fst, zi G ro 12 fro, zi G mo 6 fmo, zi G kd 6 fkd, zi G cd 1200 fcd, zi G sr 24 (nF fsr), zi G sk 200 fsk, zi G na 6 fna, zi G kp 24 fkp, zi G sq 4 (nF fsq), zi G ce 160 fce, zi G ss 4 fss] sz)) 0 0 (va_A [zo6 h0 (nI pb) kd mo st (nI jg) ro tp (nI td) cd sr (nI tx) (nI ru) him ir ih ss sq ce lw s19 s20 s21 s22 wo he s25 s26 s27 sk na kp s31 s32 s33 s34 gb go fa ga s39 s40 vo, zi G st 12 fst, zi G ro 12 fro, zi G mo 6 fmo, zi G kd 6 fkd, zi G cd 1200 fcd, zi G sr 24 (nF fsr), zi G sk 200 fsk, zi G na 6 fna, zi G kp 24 fkp, zi G sq 4 (nF fsq), zi G ce 160 fce, zi G ss 4 fss] sz) := by
  refine Met.ofW (cc := cX6_whose) (maxL := 5) (ret := (some .int)) (by decide +kernel) rfl ?_
  intro p e s m args below meth c s₁ B hml hv
  obtain ⟨rfl, hsz, hP, hK, hD0⟩ := hv
  have hx := B.exec
  have hb := B.bytes
  have hr := B.returns
  have hts := atoms_spec (ws := wsX6_whose) B.pre
  have hown : s.vm.findClass RX6 = some m.cls := findClass_of_methodNamed B.named
  have hlocks := B.notSynchronized
  subst hsz
  have hD := hD0.self (sz := s.heap.size)
  generalize hAe : va_A [zo6 h0 (nI pb) kd mo st (nI jg) ro tp (nI td) cd sr (nI tx) (nI ru) him ir ih ss sq ce lw s19 s20 s21 s22 wo he s25 s26 s27 sk na kp s31 s32 s33 s34 gb go fa ga s39 s40 vo, zi G st 12 fst, zi G ro 12 fro, zi G mo 6 fmo, zi G kd 6 fkd, zi G cd 1200 fcd, zi G sr 24 (nF fsr), zi G sk 200 fsk, zi G na 6 fna, zi G kp 24 fkp, zi G sq 4 (nF fsq), zi G ce 160 fce, zi G ss 4 fss] s.heap.size = A at hD ⊢
  have hA : ∀ q : Nat, s.heap.size ≤ q → A q := fun q h => by rw [← hAe]; exact Or.inr h
  have hS : va_S A s.heap s.heap [] := va_S.rf
  have hz9 : gPD G A [zo6 h0 (nI pb) kd mo st (nI jg) ro tp (nI td) cd sr (nI tx) (nI ru) him ir ih ss sq ce lw s19 s20 s21 s22 wo he s25 s26 s27 sk na kp s31 s32 s33 s34 gb go fa ga s39 s40 vo, zi G st 12 fst, zi G ro 12 fro, zi G mo 6 fmo, zi G kd 6 fkd, zi G cd 1200 fcd, zi G sr 24 (nF fsr), zi G sk 200 fsk, zi G na 6 fna, zi G kp 24 fkp, zi G sq 4 (nF fsq), zi G ce 160 fce, zi G ss 4 fss] s.heap := ⟨hP, hD⟩
  have hP := hz9.1
  have hD := hz9.2
  have hl := lv_entry ([.ref h0, .int v0]) (n := 5) (Nat.le_of_ble_eq_true rfl)
  rw [lg_entry_eq]
  generalize (lg_sl ([.ref h0, .int v0]) ++ List.replicate (5 - (lg_sl ([.ref h0, .int v0])).length) Slot.unset).toArray = ls at hl ⊢
  have hl : lv_has ls 5 [zR 0 h0, zI 1 v0] := hl
  have kf95 := hts (.fieldLink RX6 95 "PebbleInShoeModel" "judges" "I") (by decide +kernel)
  have hiX6 := (by decide +kernel : ∀ w ∈ wsX60, w ∈ wsX6_whose)
  refine lv_aload_n hx hb dX6_whose_0 rfl (lv_at hl 0 rfl) ?_
  refine lv_iload_n hx hb dX6_whose_1 rfl (lv_at hl 1 rfl) ?_
  refine z_calli [0, 12, 10, 11] (v := m_X6_sheetWrong pb fss fsq fce v0) (fun _ _ h => h) (va_runV (As := [.int v0]) (rest := []) ⟨hx, hb, hml, hown, hts⟩ (c_X6_sheetWrong l G h0 kd mo st ro tp cd sr ir ih ss sq ce lw wo he sk na kp gb go fa ga vo pb jg td tx ru him s19 s20 s21 s22 s25 s26 s27 s31 s32 s33 s34 s39 s40 fss fsq fce v0 s.heap.size (by first | exact hsq | assumption | omega) (by first | exact hpb | assumption | omega) (by first | exact hjg | assumption | omega) (by first | exact htx | assumption | omega) (by first | exact hru | assumption | omega)) (cwV 1 hts gX6_whose_X6_sheetWrong rfl rfl rfl (by decide +kernel) ⟨Nat.le_of_ble_eq_true rfl, Nat.le_of_ble_eq_true rfl⟩) ⟨gPre_blind, va_recv (q := (RX6, TX6, 42)) hK hP (ci := 6) (q0 := 0) rfl rfl, fun U hU hW => gPre_ofF [0, 12, 10, 11] hU hW hK hP hD (by decide +kernel) rfl⟩ rfl rfl hl.1 rfl (lv_room (Nat.le_of_ble_eq_true rfl)) dX6_whose_2 ⟨Nat.le_of_ble_eq_true rfl, Nat.le_of_ble_eq_true rfl⟩) hS hD hA rfl (fun u t H locs ht hvm hB hz1 hk1 hFq hAq hS => ?_)
  obtain ⟨hP1, hK1, hD1⟩ := hB
  have hP := zKeep hP hD [0, 12, 10, 11] hAq hk1 ht hP1 rfl
  refine lv_istore_n (lv' := [zI 2 (m_X6_sheetWrong pb fss fsq fce v0), zR 0 h0, zI 1 v0]) hx hb dX6_whose_5 rfl hl (by decide +kernel) rfl (fun ls hl => ?_)
  refine lv_iload_n hx hb dX6_whose_6 rfl (lv_at hl 0 rfl) ?_
  refine lv_if_eq (tgt := 12) hx hb dX6_whose_7 (by decide +kernel) (fun c_3 => ?_) (fun c_3 => ?_)
  · skip
    obtain ⟨hs3, hvl⟩ := sheetWrong_0 hpb c_3
    have hv_4 : v0 = nI (nC v0) := nC_eq hs3.1
    have hk_5 : nC v0 ≤ 3 := nC_le (n := 3) (by omega) hs3
    refine lv_iconst (v := 0) hx hb dX6_whose_12 (by decide +kernel) ?_
    refine lv_istore_n (lv' := [zI 3 0, zI 2 (m_X6_sheetWrong pb fss fsq fce v0), zR 0 h0, zI 1 v0]) hx hb dX6_whose_13 rfl hl (by decide +kernel) rfl (fun ls hl => ?_)
    refine lv_iconst (v := 0) hx hb dX6_whose_14 (by decide +kernel) ?_
    refine lv_istore (lv' := [zI 4 0, zI 3 0, zI 2 (m_X6_sheetWrong pb fss fsq fce v0), zR 0 h0, zI 1 v0]) hx hb dX6_whose_15 hl (by decide +kernel) rfl (fun ls hl => ?_)
    have loop_17 : ∀ (n9 : Nat) (j17 : Nat) (bi : Int32) (x17sk : Nat → Int32) (x17na : Nat → Int32) (x17kp : Nat → Int32), (j17 ≤ jg) → (p_X6_whose_17 ru fst fro fmo fkd fcd fsr fsq fce v0 (jg - j17) j17 bi = (g_X6_whose_17 jg ru fst fro fmo fkd fcd fsr fsq fce v0)) → (jg - j17) < n9 → ∀ (H : Heap) (locs : List Loc), va_P G.1 vwCl [zo6 h0 (nI pb) kd mo st (nI jg) ro tp (nI td) cd sr (nI tx) (nI ru) him ir ih ss sq ce lw s19 s20 s21 s22 wo he s25 s26 s27 sk na kp s31 s32 s33 s34 gb go fa ga s39 s40 vo, zi G st 12 fst, zi G ro 12 fro, zi G mo 6 fmo, zi G kd 6 fkd, zi G cd 1200 fcd, zi G sr 24 (nF fsr), zi G sk 200 x17sk, zi G na 6 x17na, zi G kp 24 x17kp, zi G sq 4 (nF fsq), zi G ce 160 fce, zi G ss 4 fss] H → va_D A [zo6 h0 (nI pb) kd mo st (nI jg) ro tp (nI td) cd sr (nI tx) (nI ru) him ir ih ss sq ce lw s19 s20 s21 s22 wo he s25 s26 s27 sk na kp s31 s32 s33 s34 gb go fa ga s39 s40 vo, zi G st 12 fst, zi G ro 12 fro, zi G mo 6 fmo, zi G kd 6 fkd, zi G cd 1200 fcd, zi G sr 24 (nF fsr), zi G sk 200 x17sk, zi G na 6 x17na, zi G kp 24 x17kp, zi G sq 4 (nF fsq), zi G ce 160 fce, zi G ss 4 fss] → va_S A s.heap H locs → ∀ ls : Array Slot, lv_has ls 5 [zI 4 (nI j17), zI 3 bi, zI 2 (m_X6_sheetWrong pb fss fsq fce v0), zR 0 h0, zI 1 v0] → W p l e (headSpec wsX6_whose ({ frames := 7, cells := 0, slots := 0, locals := 172 })).room s m ([.ref h0, .int v0] : List Value).toArray below meth c H locs 0 0 (MQ below (q_X6_whose G h0 kd mo st ro tp cd sr ir ih ss sq ce lw wo he sk na kp gb go fa ga vo pb jg td tx ru him s19 s20 s21 s22 s25 s26 s27 s31 s32 s33 s34 s39 s40 fst fro fmo fkd fcd fsr fsk fna fkp fsq fce fss v0 A) ([.ref h0, .int v0] : List Value).toArray s 0 0 A) (F0 m 17 ls []) := by
      intro n9
      induction n9 with
      | zero => intro j17 bi x17sk x17na x17kp hj17 R17 hm9_17; exact absurd hm9_17 (Nat.not_lt_zero _)
      | succ n9 ih9_17 =>
        intro j17 bi x17sk x17na x17kp hj17 R17 hm9_17 H locs hP hD hS ls hl
        refine lv_iload hx hb dX6_whose_17 (lv_at hl 0 rfl) ?_
        refine g_aget (D := G.1) (ci := 6) (v := .int (nI jg)) (C := RX6) (T := TX6) (N := 42) hx hb dX6_whose_19 rfl (lv_at hl 3 rfl) hts hiX6 hown hK hP 0 rfl rfl 4 (by decide +kernel) kf95 (fun _ h9 => h9) rfl dX6_whose_20 ?_
        refine lv_icmp_ge (tgt := 54) hx hb dX6_whose_23 (by decide +kernel) (fun c_6 => ?_) (fun c_6 => ?_)
        · skip
          have c_6N : jg ≤ j17 := nI_le1 (a := jg) (b := j17) (by omega) (by omega) c_6
          have hF17 : (g_X6_whose_17 jg ru fst fro fmo fkd fcd fsr fsq fce v0) = (j17, bi) := by rw [← R17, show jg - j17 = 0 by omega]; rfl
          have hE17_0 : j17 = ((g_X6_whose_17 jg ru fst fro fmo fkd fcd fsr fsq fce v0).1) := by rw [hF17]
          have hE17_1 : bi = ((g_X6_whose_17 jg ru fst fro fmo fkd fcd fsr fsq fce v0).2) := by rw [hF17]
          clear hF17 R17
          subst hE17_0
          subst hE17_1
          refine lv_iload_n hx hb dX6_whose_54 rfl (lv_at hl 1 rfl) ?_
          have hpost : (fun (r : Int32) (u : (Nat → Int32) × (Nat → Int32) × (Nat → Int32)) => match u with | (ysk, yna, ykp) => r = m_X6_whose pb jg ru fst fro fmo fkd fcd fsr fsq fce fss v0) ((g_X6_whose_17 jg ru fst fro fmo fkd fcd fsr fsq fce v0).2) (x17sk, x17na, x17kp) := (show m_X6_whose pb jg ru fst fro fmo fkd fcd fsr fsq fce fss v0 = ((g_X6_whose_17 jg ru fst fro fmo fkd fcd fsr fsq fce v0).2) from by unfold m_X6_whose; rw [if_pos c_3]).symm
          exact W.iret (v := ((g_X6_whose_17 jg ru fst fro fmo fkd fcd fsr fsq fce v0).2)) hx hb hr (fun t ht hW => ⟨⟨((g_X6_whose_17 jg ru fst fro fmo fkd fcd fsr fsq fce v0).2), (x17sk, x17na, x17kp), rfl, hpost, by rw [ht]; exact hP, va_K.moved hW.alike hK, hD⟩, hS.F ht⟩) hS.2.2 dX6_whose_55
        · skip
          have c_6N : j17 < jg := nI_le0 (a := jg) (b := j17) (by omega) (by omega) c_6
          refine lv_iload_n hx hb dX6_whose_26 rfl (lv_at hl 1 rfl) ?_
          refine lv_aload_n hx hb dX6_whose_27 rfl (lv_at hl 3 rfl) ?_
          refine lv_iload_n hx hb dX6_whose_28 rfl (lv_at hl 4 rfl) ?_
          refine g_topi (y := nI (nC v0)) hv_4 ?_
          refine lv_iload hx hb dX6_whose_29 (lv_at hl 0 rfl) ?_
          refine z_calli [0, 1, 2, 3, 4, 5, 6, 7, 8, 9, 10, 11] (v := m_X6_firstOther ru fst fro fmo fkd fcd fsr fsq fce (nC v0) j17) (fun _ ⟨_, _, _⟩ h => h) (va_runV (As := [.int (nI (nC v0)), .int (nI j17)]) (rest := [.int bi]) ⟨hx, hb, hml, hown, hts⟩ (c_X6_firstOther l G h0 kd mo st ro tp cd sr ir ih ss sq ce lw wo he sk na kp gb go fa ga vo pb jg td tx ru him s19 s20 s21 s22 s25 s26 s27 s31 s32 s33 s34 s39 s40 fst fro fmo fkd fcd fsr x17sk x17na x17kp fsq fce (nC v0) j17 H.size (by first | exact hsn | assumption | omega) (by first | exact hj | assumption | omega) (hwa _ (by omega)) (by first | exact hsq | assumption | omega) (by first | exact hvl | assumption | omega) (by first | exact hpb | assumption | omega) (by first | exact hjg | assumption | omega) (by first | exact htx | assumption | omega) (by first | exact hru | assumption | omega)) (cwV 2 hts gX6_whose_X6_firstOther rfl rfl rfl (by decide +kernel) ⟨Nat.le_of_ble_eq_true rfl, Nat.le_of_ble_eq_true rfl⟩) ⟨gPre_blind, va_recv (q := (RX6, TX6, 42)) hK hP (ci := 6) (q0 := 0) rfl rfl, fun U hU hW => gPre_ofF [0, 1, 2, 3, 4, 5, 6, 7, 8, 9, 10, 11] hU hW hK hP hD (by decide +kernel) rfl⟩ rfl rfl hl.1 rfl (lv_room (Nat.le_of_ble_eq_true rfl)) dX6_whose_31 ⟨Nat.le_of_ble_eq_true rfl, Nat.le_of_ble_eq_true rfl⟩) hS hD hA rfl (fun u t H locs ht hvm hB hz1 hk1 hFq hAq hS => ?_)
          obtain ⟨ysk_10, yna_11, ykp_12⟩ := u
          obtain ⟨hP1, hK1, hD1⟩ := hB
          have hz9 : gPD G A [zo6 h0 (nI pb) kd mo st (nI jg) ro tp (nI td) cd sr (nI tx) (nI ru) him ir ih ss sq ce lw s19 s20 s21 s22 wo he s25 s26 s27 sk na kp s31 s32 s33 s34 gb go fa ga s39 s40 vo, zi G st 12 fst, zi G ro 12 fro, zi G mo 6 fmo, zi G kd 6 fkd, zi G cd 1200 fcd, zi G sr 24 (nF fsr), zi G sk 200 ysk_10, zi G na 6 yna_11, zi G kp 24 ykp_12, zi G sq 4 (nF fsq), zi G ce 160 fce, zi G ss 4 fss] H := zFill hP hD [0, 1, 2, 3, 4, 5, 6, 7, 8, 9, 10, 11] [1, 2, 3, 4, 5, 6, 7, 8, 9, 10, 11, 12] hAq hk1 hFq ht hP1 hD1 rfl (by decide +kernel)
          have hP := hz9.1
          have hD := hz9.2
          refine lv_iconst (v := -1) hx hb dX6_whose_34 (by decide +kernel) ?_
          refine lv_icmp_ne (tgt := 45) hx hb dX6_whose_35 (by decide +kernel) (fun c_13 => ?_) (fun c_13 => ?_)
          · skip
            refine lv_iconst (v := 0) hx hb dX6_whose_45 (by decide +kernel) ?_
            refine lv_ior hx hb dX6_whose_46 ?_
            refine lv_istore_n (lv' := [zI 3 (bi ||| 0), zI 4 (nI j17), zI 2 (m_X6_sheetWrong pb fss fsq fce v0), zR 0 h0, zI 1 v0]) hx hb dX6_whose_47 rfl hl (by decide +kernel) rfl (fun ls hl => ?_)
            refine lv_iinc (v := nI (j17 + 1)) (lv' := [zI 4 (nI (j17 + 1)), zI 3 (bi ||| 0), zI 2 (m_X6_sheetWrong pb fss fsq fce v0), zR 0 h0, zI 1 v0]) hx hb dX6_whose_48 hl (k := 1) rfl (nI_add j17 1) (by decide +kernel) rfl (fun ls hl => ?_)
            refine lv_goto (tgt := 17) hx hb dX6_whose_51 (by decide +kernel) ?_
            exact ih9_17 (j17 + 1) (bi ||| 0) ysk_10 yna_11 ykp_12 (by omega) (Eq.trans (Eq.symm ((congrArg (fun z9 => p_X6_whose_17 ru fst fro fmo fkd fcd fsr fsq fce v0 (z9) j17 bi) (show jg - j17 = jg - (j17 + 1) + 1 by omega)).trans (by show p_X6_whose_17 ru fst fro fmo fkd fcd fsr fsq fce v0 (jg - (j17 + 1) + 1) j17 bi = _; rw [p_X6_whose_17, if_neg c_13]))) R17) (by omega) _ _ hP hD hS ls hl
          · skip
            refine lv_iconst (v := 1) hx hb dX6_whose_38 (by decide +kernel) ?_
            refine lv_iload hx hb dX6_whose_39 (lv_at hl 0 rfl) ?_
            refine lv_ishl hx hb dX6_whose_41 ?_
            refine lv_goto (tgt := 46) hx hb dX6_whose_42 (by decide +kernel) ?_
            refine lv_ior hx hb dX6_whose_46 ?_
            refine lv_istore_n (lv' := [zI 3 (bi ||| (1 <<< ((nI j17) &&& 31))), zI 4 (nI j17), zI 2 (m_X6_sheetWrong pb fss fsq fce v0), zR 0 h0, zI 1 v0]) hx hb dX6_whose_47 rfl hl (by decide +kernel) rfl (fun ls hl => ?_)
            refine lv_iinc (v := nI (j17 + 1)) (lv' := [zI 4 (nI (j17 + 1)), zI 3 (bi ||| (1 <<< ((nI j17) &&& 31))), zI 2 (m_X6_sheetWrong pb fss fsq fce v0), zR 0 h0, zI 1 v0]) hx hb dX6_whose_48 hl (k := 1) rfl (nI_add j17 1) (by decide +kernel) rfl (fun ls hl => ?_)
            refine lv_goto (tgt := 17) hx hb dX6_whose_51 (by decide +kernel) ?_
            exact ih9_17 (j17 + 1) (bi ||| (1 <<< ((nI j17) &&& 31))) ysk_10 yna_11 ykp_12 (by omega) (Eq.trans (Eq.symm ((congrArg (fun z9 => p_X6_whose_17 ru fst fro fmo fkd fcd fsr fsq fce v0 (z9) j17 bi) (show jg - j17 = jg - (j17 + 1) + 1 by omega)).trans (by show p_X6_whose_17 ru fst fro fmo fkd fcd fsr fsq fce v0 (jg - (j17 + 1) + 1) j17 bi = _; rw [p_X6_whose_17, if_pos c_13]))) R17) (by omega) _ _ hP hD hS ls hl
    exact loop_17 (jg - 0 + 1) 0 0 fsk fna fkp (by omega) (rfl) (by omega) _ _ hP hD hS ls hl
  · skip
    refine lv_iload_n hx hb dX6_whose_10 rfl (lv_at hl 0 rfl) ?_
    have hpost : (fun (r : Int32) (u : (Nat → Int32) × (Nat → Int32) × (Nat → Int32)) => match u with | (ysk, yna, ykp) => r = m_X6_whose pb jg ru fst fro fmo fkd fcd fsr fsq fce fss v0) (m_X6_sheetWrong pb fss fsq fce v0) (fsk, fna, fkp) := (show m_X6_whose pb jg ru fst fro fmo fkd fcd fsr fsq fce fss v0 = (m_X6_sheetWrong pb fss fsq fce v0) from by unfold m_X6_whose; rw [if_neg c_3]).symm
    exact W.iret (v := (m_X6_sheetWrong pb fss fsq fce v0)) hx hb hr (fun t ht hW => ⟨⟨(m_X6_sheetWrong pb fss fsq fce v0), (fsk, fna, fkp), rfl, hpost, by rw [ht]; exact hP, va_K.moved hW.alike hK, hD⟩, hS.F ht⟩) hS.2.2 dX6_whose_11
noncomputable def p_X6_laws_25 (fst : Nat → Int32) (fro : Nat → Int32) (fmo : Nat → Int32) (fkd : Nat → Int32) (fcd : Nat → Int32) (fsr : Nat → Nat) (fsq : Nat → Nat) (fce : Nat → Int32) (v0 : Int32) (v1 : Int32) : Nat → Nat → Int32 → Nat × Int32
  | 0, t25, bi => (t25, bi)
  | q9 + 1, t25, bi => if (m_X6_firstOther t25 fst fro fmo fkd fcd fsr fsq fce (nC v0) (nC v1)) = (-1) then p_X6_laws_25 fst fro fmo fkd fcd fsr fsq fce v0 v1 q9 (t25 + 1) (bi ||| (1 <<< ((nI t25) &&& 31))) else p_X6_laws_25 fst fro fmo fkd fcd fsr fsq fce v0 v1 q9 (t25 + 1) (bi ||| 0)
noncomputable def g_X6_laws_25 (tx : Nat) (fst : Nat → Int32) (fro : Nat → Int32) (fmo : Nat → Int32) (fkd : Nat → Int32) (fcd : Nat → Int32) (fsr : Nat → Nat) (fsq : Nat → Nat) (fce : Nat → Int32) (v0 : Int32) (v1 : Int32) : Nat × Int32 := p_X6_laws_25 fst fro fmo fkd fcd fsr fsq fce v0 v1 (tx - 0) 0 0
noncomputable def m_X6_laws (pb : Nat) (jg : Nat) (tx : Nat) (fst : Nat → Int32) (fro : Nat → Int32) (fmo : Nat → Int32) (fkd : Nat → Int32) (fcd : Nat → Int32) (fsr : Nat → Nat) (fsq : Nat → Nat) (fce : Nat → Int32) (fss : Nat → Int32) (v0 : Int32) (v1 : Int32) : Int32 := if (m_X6_toldWrong pb jg fss fsq fce v0 v1) = 0 then ((g_X6_laws_25 tx fst fro fmo fkd fcd fsr fsq fce v0 v1).2) else m_X6_toldWrong pb jg fss fsq fce v0 v1
abbrev q_X6_laws (G : gG) (h0 kd mo st ro tp cd sr ir ih ss sq ce lw wo he sk na kp gb go fa ga vo : Nat) (pb : Nat) (jg : Nat) (td : Nat) (tx : Nat) (ru : Nat) (him : Int32) (s19 : Int32) (s20 : Int32) (s21 : Int32) (s22 : Int32) (s25 : Int32) (s26 : Int32) (s27 : Int32) (s31 : Int32) (s32 : Int32) (s33 : Int32) (s34 : Int32) (s39 : Int32) (s40 : Int32) (fst : Nat → Int32) (fro : Nat → Int32) (fmo : Nat → Int32) (fkd : Nat → Int32) (fcd : Nat → Int32) (fsr : Nat → Nat) (fsk : Nat → Int32) (fna : Nat → Int32) (fkp : Nat → Int32) (fsq : Nat → Nat) (fce : Nat → Int32) (fss : Nat → Int32) (v0 : Int32) (v1 : Int32) (A : Nat → Prop) : Array Value → State → Outcome → State → Prop := va_Qi (fun (r : Int32) (u : (Nat → Int32) × (Nat → Int32) × (Nat → Int32)) => match u with | (ysk, yna, ykp) => r = m_X6_laws pb jg tx fst fro fmo fkd fcd fsr fsq fce fss v0 v1) (fun (u : (Nat → Int32) × (Nat → Int32) × (Nat → Int32)) t => match u with | (ysk, yna, ykp) => va_P G.1 vwCl [zo6 h0 (nI pb) kd mo st (nI jg) ro tp (nI td) cd sr (nI tx) (nI ru) him ir ih ss sq ce lw s19 s20 s21 s22 wo he s25 s26 s27 sk na kp s31 s32 s33 s34 gb go fa ga s39 s40 vo, zi G st 12 fst, zi G ro 12 fro, zi G mo 6 fmo, zi G kd 6 fkd, zi G cd 1200 fcd, zi G sr 24 (nF fsr), zi G sk 200 ysk, zi G na 6 yna, zi G kp 24 ykp, zi G sq 4 (nF fsq), zi G ce 160 fce, zi G ss 4 fss] t.heap ∧ gK G t ∧ va_D A [zo6 h0 (nI pb) kd mo st (nI jg) ro tp (nI td) cd sr (nI tx) (nI ru) him ir ih ss sq ce lw s19 s20 s21 s22 wo he s25 s26 s27 sk na kp s31 s32 s33 s34 gb go fa ga s39 s40 vo, zi G st 12 fst, zi G ro 12 fro, zi G mo 6 fmo, zi G kd 6 fkd, zi G cd 1200 fcd, zi G sr 24 (nF fsr), zi G sk 200 ysk, zi G na 6 yna, zi G kp 24 ykp, zi G sq 4 (nF fsq), zi G ce 160 fce, zi G ss 4 fss]) A
set_option maxHeartbeats 4000000 in
set_option maxRecDepth 100000 in
theorem c_X6_laws (l : Launch) (G : gG) (h0 kd mo st ro tp cd sr ir ih ss sq ce lw wo he sk na kp gb go fa ga vo : Nat) (pb : Nat) (jg : Nat) (td : Nat) (tx : Nat) (ru : Nat) (him : Int32) (s19 : Int32) (s20 : Int32) (s21 : Int32) (s22 : Int32) (s25 : Int32) (s26 : Int32) (s27 : Int32) (s31 : Int32) (s32 : Int32) (s33 : Int32) (s34 : Int32) (s39 : Int32) (s40 : Int32) (fst : Nat → Int32) (fro : Nat → Int32) (fmo : Nat → Int32) (fkd : Nat → Int32) (fcd : Nat → Int32) (fsr : Nat → Nat) (fsk : Nat → Int32) (fna : Nat → Int32) (fkp : Nat → Int32) (fsq : Nat → Nat) (fce : Nat → Int32) (fss : Nat → Int32) (v0 : Int32) (v1 : Int32) (sz : Nat) (hsq : ∀ q9, q9 < 4 → fsq q9 ≤ 40) (hwa : ∀ t9, t9 < tx → mWf fcd fsr t9) (hpb : pb ≤ 6) (hjg : jg ≤ 4) (htx : tx ≤ 6) (hru : ru < tx) : Met l yX6_laws wsX6_laws ({ frames := 7, cells := 0, slots := 0, locals := 172 }) (gPre G [.ref h0, .int v0, .int v1] [zo6 h0 (nI pb) kd mo st (nI jg) ro tp (nI td) cd sr (nI tx) (nI ru) him ir ih ss sq ce lw s19 s20 s21 s22 wo he s25 s26 s27 sk na kp s31 s32 s33 s34 gb go fa ga s39 s40 vo, zi G st 12 fst, zi G ro 12 fro, zi G mo 6 fmo, zi G kd 6 fkd, zi G cd 1200 fcd, zi G sr 24 (nF fsr), zi G sk 200 fsk, zi G na 6 fna, zi G kp 24 fkp, zi G sq 4 (nF fsq), zi G ce 160 fce, zi G ss 4 fss] sz) (q_X6_laws G h0 kd mo st ro tp cd sr ir ih ss sq ce lw wo he sk na kp gb go fa ga vo pb jg td tx ru him s19 s20 s21 s22 s25 s26 s27 s31 s32 s33 s34 s39 s40 fst fro fmo fkd fcd fsr fsk fna fkp fsq fce fss v0 v1 (va_A [zo6 h0 (nI pb) kd mo st (nI jg) ro tp (nI td) cd sr (nI tx) (nI ru) him ir ih ss sq ce lw s19 s20 s21 s22 wo he s25 s26 s27 sk na kp s31 s32 s33 s34 gb go fa ga s39 s40 vo, zi G st 12 fst, zi G ro 12 fro, zi G mo 6 fmo, zi G kd 6 fkd, zi G cd 1200 fcd, zi G sr 24 (nF fsr), zi G sk 200 fsk, zi G na 6 fna, zi G kp 24 fkp, zi G sq 4 (nF fsq), zi G ce 160 fce, zi G ss 4 fss] sz)) 0 0 (va_A [zo6 h0 (nI pb) kd mo st (nI jg) ro tp (nI td) cd sr (nI tx) (nI ru) him ir ih ss sq ce lw s19 s20 s21 s22 wo he s25 s26 s27 sk na kp s31 s32 s33 s34 gb go fa ga s39 s40 vo, zi G st 12 fst, zi G ro 12 fro, zi G mo 6 fmo, zi G kd 6 fkd, zi G cd 1200 fcd, zi G sr 24 (nF fsr), zi G sk 200 fsk, zi G na 6 fna, zi G kp 24 fkp, zi G sq 4 (nF fsq), zi G ce 160 fce, zi G ss 4 fss] sz) := by
  refine Met.ofW (cc := cX6_laws) (maxL := 7) (ret := (some .int)) (by decide +kernel) rfl ?_
  intro p e s m args below meth c s₁ B hml hv
  obtain ⟨rfl, hsz, hP, hK, hD0⟩ := hv
  have hx := B.exec
  have hb := B.bytes
  have hr := B.returns
  have hts := atoms_spec (ws := wsX6_laws) B.pre
  have hown : s.vm.findClass RX6 = some m.cls := findClass_of_methodNamed B.named
  have hlocks := B.notSynchronized
  subst hsz
  have hD := hD0.self (sz := s.heap.size)
  generalize hAe : va_A [zo6 h0 (nI pb) kd mo st (nI jg) ro tp (nI td) cd sr (nI tx) (nI ru) him ir ih ss sq ce lw s19 s20 s21 s22 wo he s25 s26 s27 sk na kp s31 s32 s33 s34 gb go fa ga s39 s40 vo, zi G st 12 fst, zi G ro 12 fro, zi G mo 6 fmo, zi G kd 6 fkd, zi G cd 1200 fcd, zi G sr 24 (nF fsr), zi G sk 200 fsk, zi G na 6 fna, zi G kp 24 fkp, zi G sq 4 (nF fsq), zi G ce 160 fce, zi G ss 4 fss] s.heap.size = A at hD ⊢
  have hA : ∀ q : Nat, s.heap.size ≤ q → A q := fun q h => by rw [← hAe]; exact Or.inr h
  have hS : va_S A s.heap s.heap [] := va_S.rf
  have hz9 : gPD G A [zo6 h0 (nI pb) kd mo st (nI jg) ro tp (nI td) cd sr (nI tx) (nI ru) him ir ih ss sq ce lw s19 s20 s21 s22 wo he s25 s26 s27 sk na kp s31 s32 s33 s34 gb go fa ga s39 s40 vo, zi G st 12 fst, zi G ro 12 fro, zi G mo 6 fmo, zi G kd 6 fkd, zi G cd 1200 fcd, zi G sr 24 (nF fsr), zi G sk 200 fsk, zi G na 6 fna, zi G kp 24 fkp, zi G sq 4 (nF fsq), zi G ce 160 fce, zi G ss 4 fss] s.heap := ⟨hP, hD⟩
  have hP := hz9.1
  have hD := hz9.2
  have hl := lv_entry ([.ref h0, .int v0, .int v1]) (n := 7) (Nat.le_of_ble_eq_true rfl)
  rw [lg_entry_eq]
  generalize (lg_sl ([.ref h0, .int v0, .int v1]) ++ List.replicate (7 - (lg_sl ([.ref h0, .int v0, .int v1])).length) Slot.unset).toArray = ls at hl ⊢
  have hl : lv_has ls 7 [zR 0 h0, zI 1 v0, zI 2 v1] := hl
  have kf101 := hts (.fieldLink RX6 101 "PebbleInShoeModel" "rule" "I") (by decide +kernel)
  have hiX6 := (by decide +kernel : ∀ w ∈ wsX60, w ∈ wsX6_laws)
  have kf98 := hts (.fieldLink RX6 98 "PebbleInShoeModel" "texts" "I") (by decide +kernel)
  refine lv_aload_n hx hb dX6_laws_0 rfl (lv_at hl 0 rfl) ?_
  refine lv_iload_n hx hb dX6_laws_1 rfl (lv_at hl 1 rfl) ?_
  refine lv_iload_n hx hb dX6_laws_2 rfl (lv_at hl 2 rfl) ?_
  refine z_calli [0, 12, 10, 11] (v := m_X6_toldWrong pb jg fss fsq fce v0 v1) (fun _ _ h => h) (va_runV (As := [.int v0, .int v1]) (rest := []) ⟨hx, hb, hml, hown, hts⟩ (c_X6_toldWrong l G h0 kd mo st ro tp cd sr ir ih ss sq ce lw wo he sk na kp gb go fa ga vo pb jg td tx ru him s19 s20 s21 s22 s25 s26 s27 s31 s32 s33 s34 s39 s40 fss fsq fce v0 v1 s.heap.size (by first | exact hsq | assumption | omega) (by first | exact hpb | assumption | omega) (by first | exact hjg | assumption | omega) (by first | exact htx | assumption | omega) (by first | exact hru | assumption | omega)) (cwV 2 hts gX6_laws_X6_toldWrong rfl rfl rfl (by decide +kernel) ⟨Nat.le_of_ble_eq_true rfl, Nat.le_of_ble_eq_true rfl⟩) ⟨gPre_blind, va_recv (q := (RX6, TX6, 42)) hK hP (ci := 6) (q0 := 0) rfl rfl, fun U hU hW => gPre_ofF [0, 12, 10, 11] hU hW hK hP hD (by decide +kernel) rfl⟩ rfl rfl hl.1 rfl (lv_room (Nat.le_of_ble_eq_true rfl)) dX6_laws_3 ⟨Nat.le_of_ble_eq_true rfl, Nat.le_of_ble_eq_true rfl⟩) hS hD hA rfl (fun u t H locs ht hvm hB hz1 hk1 hFq hAq hS => ?_)
  obtain ⟨hP1, hK1, hD1⟩ := hB
  have hP := zKeep hP hD [0, 12, 10, 11] hAq hk1 ht hP1 rfl
  refine lv_istore_n (lv' := [zI 3 (m_X6_toldWrong pb jg fss fsq fce v0 v1), zR 0 h0, zI 1 v0, zI 2 v1]) hx hb dX6_laws_6 rfl hl (by decide +kernel) rfl (fun ls hl => ?_)
  refine lv_iload_n hx hb dX6_laws_7 rfl (lv_at hl 0 rfl) ?_
  refine lv_if_eq (tgt := 13) hx hb dX6_laws_8 (by decide +kernel) (fun c_3 => ?_) (fun c_3 => ?_)
  · skip
    obtain ⟨hs3, hjw, hvl⟩ := toldWrong_0 hpb c_3
    have hv_4 : v0 = nI (nC v0) := nC_eq hs3.1
    have hk_5 : nC v0 ≤ 3 := nC_le (n := 3) (by omega) hs3
    have hv_6 : v1 = nI (nC v1) := mHas_eq hjw
    have hk_7 : nC v1 < jg := mHas_lt (by omega) hjw
    refine g_aget (D := G.1) (ci := 6) (v := .int (nI ru)) (C := RX6) (T := TX6) (N := 42) hx hb dX6_laws_13 rfl (lv_at hl 1 rfl) hts hiX6 hown hK hP 0 rfl rfl 11 (by decide +kernel) kf101 (fun _ h9 => h9) rfl dX6_laws_14 ?_
    refine lv_istore (lv' := [zI 4 (nI ru), zI 3 (m_X6_toldWrong pb jg fss fsq fce v0 v1), zR 0 h0, zI 1 v0, zI 2 v1]) hx hb dX6_laws_17 hl (by decide +kernel) rfl (fun ls hl => ?_)
    refine lv_iconst (v := 0) hx hb dX6_laws_19 (by decide +kernel) ?_
    refine lv_istore (lv' := [zI 5 0, zI 4 (nI ru), zI 3 (m_X6_toldWrong pb jg fss fsq fce v0 v1), zR 0 h0, zI 1 v0, zI 2 v1]) hx hb dX6_laws_20 hl (by decide +kernel) rfl (fun ls hl => ?_)
    refine lv_iconst (v := 0) hx hb dX6_laws_22 (by decide +kernel) ?_
    refine lv_istore (lv' := [zI 6 0, zI 5 0, zI 4 (nI ru), zI 3 (m_X6_toldWrong pb jg fss fsq fce v0 v1), zR 0 h0, zI 1 v0, zI 2 v1]) hx hb dX6_laws_23 hl (by decide +kernel) rfl (fun ls hl => ?_)
    have loop_25 : ∀ (n9 : Nat) (t25 : Nat) (bi : Int32) (x25sk : Nat → Int32) (x25na : Nat → Int32) (x25kp : Nat → Int32) (z11r : Int32), (t25 ≤ tx) → (p_X6_laws_25 fst fro fmo fkd fcd fsr fsq fce v0 v1 (tx - t25) t25 bi = (g_X6_laws_25 tx fst fro fmo fkd fcd fsr fsq fce v0 v1)) → (tx - t25) < n9 → ∀ (H : Heap) (locs : List Loc), va_P G.1 vwCl [zo6 h0 (nI pb) kd mo st (nI jg) ro tp (nI td) cd sr (nI tx) z11r him ir ih ss sq ce lw s19 s20 s21 s22 wo he s25 s26 s27 sk na kp s31 s32 s33 s34 gb go fa ga s39 s40 vo, zi G st 12 fst, zi G ro 12 fro, zi G mo 6 fmo, zi G kd 6 fkd, zi G cd 1200 fcd, zi G sr 24 (nF fsr), zi G sk 200 x25sk, zi G na 6 x25na, zi G kp 24 x25kp, zi G sq 4 (nF fsq), zi G ce 160 fce, zi G ss 4 fss] H → va_D A [zo6 h0 (nI pb) kd mo st (nI jg) ro tp (nI td) cd sr (nI tx) z11r him ir ih ss sq ce lw s19 s20 s21 s22 wo he s25 s26 s27 sk na kp s31 s32 s33 s34 gb go fa ga s39 s40 vo, zi G st 12 fst, zi G ro 12 fro, zi G mo 6 fmo, zi G kd 6 fkd, zi G cd 1200 fcd, zi G sr 24 (nF fsr), zi G sk 200 x25sk, zi G na 6 x25na, zi G kp 24 x25kp, zi G sq 4 (nF fsq), zi G ce 160 fce, zi G ss 4 fss] → va_S A s.heap H locs → ∀ ls : Array Slot, lv_has ls 7 [zI 6 (nI t25), zI 5 bi, zI 4 (nI ru), zI 3 (m_X6_toldWrong pb jg fss fsq fce v0 v1), zR 0 h0, zI 1 v0, zI 2 v1] → W p l e (headSpec wsX6_laws ({ frames := 7, cells := 0, slots := 0, locals := 172 })).room s m ([.ref h0, .int v0, .int v1] : List Value).toArray below meth c H locs 0 0 (MQ below (q_X6_laws G h0 kd mo st ro tp cd sr ir ih ss sq ce lw wo he sk na kp gb go fa ga vo pb jg td tx ru him s19 s20 s21 s22 s25 s26 s27 s31 s32 s33 s34 s39 s40 fst fro fmo fkd fcd fsr fsk fna fkp fsq fce fss v0 v1 A) ([.ref h0, .int v0, .int v1] : List Value).toArray s 0 0 A) (F0 m 25 ls []) := by
      intro n9
      induction n9 with
      | zero => intro t25 bi x25sk x25na x25kp z11r ht25 R25 hm9_25; exact absurd hm9_25 (Nat.not_lt_zero _)
      | succ n9 ih9_25 =>
        intro t25 bi x25sk x25na x25kp z11r ht25 R25 hm9_25 H locs hP hD hS ls hl
        refine lv_iload hx hb dX6_laws_25 (lv_at hl 0 rfl) ?_
        refine g_aget (D := G.1) (ci := 6) (v := .int (nI tx)) (C := RX6) (T := TX6) (N := 42) hx hb dX6_laws_27 rfl (lv_at hl 4 rfl) hts hiX6 hown hK hP 0 rfl rfl 10 (by decide +kernel) kf98 (fun _ h9 => h9) rfl dX6_laws_28 ?_
        refine lv_icmp_ge (tgt := 69) hx hb dX6_laws_31 (by decide +kernel) (fun c_8 => ?_) (fun c_8 => ?_)
        · skip
          have c_8N : tx ≤ t25 := nI_le1 (a := tx) (b := t25) (by omega) (by omega) c_8
          have hF25 : (g_X6_laws_25 tx fst fro fmo fkd fcd fsr fsq fce v0 v1) = (t25, bi) := by rw [← R25, show tx - t25 = 0 by omega]; rfl
          have hE25_0 : t25 = ((g_X6_laws_25 tx fst fro fmo fkd fcd fsr fsq fce v0 v1).1) := by rw [hF25]
          have hE25_1 : bi = ((g_X6_laws_25 tx fst fro fmo fkd fcd fsr fsq fce v0 v1).2) := by rw [hF25]
          clear hF25 R25
          subst hE25_0
          subst hE25_1
          refine lv_aload_n hx hb dX6_laws_69 rfl (lv_at hl 4 rfl) ?_
          refine lv_iload hx hb dX6_laws_70 (lv_at hl 2 rfl) ?_
          refine va_put (D := G.1) (ci := 6) (v := .int (nI ru)) (ty := .int) (C := RX6) (T := TX6) (N := 42) hx hb hts hiX6 tyX6 tyX6_ok nmX6 hown hK hP hD hS 0 rfl rfl 11 (by decide +kernel) kf101 (fun _ h9 => h9) rfl (by decide +kernel) rfl rfl (Nat.le_of_ble_eq_true rfl) dX6_laws_72 (fun H locs hP hD hS => ?_)
          have hz9 : gPD G A [zo6 h0 (nI pb) kd mo st (nI jg) ro tp (nI td) cd sr (nI tx) (nI ru) him ir ih ss sq ce lw s19 s20 s21 s22 wo he s25 s26 s27 sk na kp s31 s32 s33 s34 gb go fa ga s39 s40 vo, zi G st 12 fst, zi G ro 12 fro, zi G mo 6 fmo, zi G kd 6 fkd, zi G cd 1200 fcd, zi G sr 24 (nF fsr), zi G sk 200 x25sk, zi G na 6 x25na, zi G kp 24 x25kp, zi G sq 4 (nF fsq), zi G ce 160 fce, zi G ss 4 fss] H := ⟨hP, hD⟩
          have hP := hz9.1
          have hD := hz9.2
          refine lv_iload hx hb dX6_laws_75 (lv_at hl 1 rfl) ?_
          have hpost : (fun (r : Int32) (u : (Nat → Int32) × (Nat → Int32) × (Nat → Int32)) => match u with | (ysk, yna, ykp) => r = m_X6_laws pb jg tx fst fro fmo fkd fcd fsr fsq fce fss v0 v1) ((g_X6_laws_25 tx fst fro fmo fkd fcd fsr fsq fce v0 v1).2) (x25sk, x25na, x25kp) := (show m_X6_laws pb jg tx fst fro fmo fkd fcd fsr fsq fce fss v0 v1 = ((g_X6_laws_25 tx fst fro fmo fkd fcd fsr fsq fce v0 v1).2) from by unfold m_X6_laws; rw [if_pos c_3]).symm
          exact W.iret (v := ((g_X6_laws_25 tx fst fro fmo fkd fcd fsr fsq fce v0 v1).2)) hx hb hr (fun t ht hW => ⟨⟨((g_X6_laws_25 tx fst fro fmo fkd fcd fsr fsq fce v0 v1).2), (x25sk, x25na, x25kp), rfl, hpost, by rw [ht]; exact hP, va_K.moved hW.alike hK, hD⟩, hS.F ht⟩) hS.2.2 dX6_laws_77
        · skip
          have c_8N : t25 < tx := nI_le0 (a := tx) (b := t25) (by omega) (by omega) c_8
          refine lv_aload_n hx hb dX6_laws_34 rfl (lv_at hl 4 rfl) ?_
          refine lv_iload hx hb dX6_laws_35 (lv_at hl 0 rfl) ?_
          refine va_put (D := G.1) (ci := 6) (v := .int (nI t25)) (ty := .int) (C := RX6) (T := TX6) (N := 42) hx hb hts hiX6 tyX6 tyX6_ok nmX6 hown hK hP hD hS 0 rfl rfl 11 (by decide +kernel) kf101 (fun _ h9 => h9) rfl (by decide +kernel) rfl rfl (Nat.le_of_ble_eq_true rfl) dX6_laws_37 (fun H locs hP hD hS => ?_)
          have hz9 : gPD G A [zo6 h0 (nI pb) kd mo st (nI jg) ro tp (nI td) cd sr (nI tx) (nI t25) him ir ih ss sq ce lw s19 s20 s21 s22 wo he s25 s26 s27 sk na kp s31 s32 s33 s34 gb go fa ga s39 s40 vo, zi G st 12 fst, zi G ro 12 fro, zi G mo 6 fmo, zi G kd 6 fkd, zi G cd 1200 fcd, zi G sr 24 (nF fsr), zi G sk 200 x25sk, zi G na 6 x25na, zi G kp 24 x25kp, zi G sq 4 (nF fsq), zi G ce 160 fce, zi G ss 4 fss] H := ⟨hP, hD⟩
          have hP := hz9.1
          have hD := hz9.2
          refine lv_iload hx hb dX6_laws_40 (lv_at hl 1 rfl) ?_
          refine lv_aload_n hx hb dX6_laws_42 rfl (lv_at hl 4 rfl) ?_
          refine lv_iload_n hx hb dX6_laws_43 rfl (lv_at hl 5 rfl) ?_
          refine g_topi (y := nI (nC v0)) hv_4 ?_
          refine lv_iload_n hx hb dX6_laws_44 rfl (lv_at hl 6 rfl) ?_
          refine g_topi (y := nI (nC v1)) hv_6 ?_
          refine z_calli [0, 1, 2, 3, 4, 5, 6, 7, 8, 9, 10, 11] (v := m_X6_firstOther t25 fst fro fmo fkd fcd fsr fsq fce (nC v0) (nC v1)) (fun _ ⟨_, _, _⟩ h => h) (va_runV (As := [.int (nI (nC v0)), .int (nI (nC v1))]) (rest := [.int bi]) ⟨hx, hb, hml, hown, hts⟩ (c_X6_firstOther l G h0 kd mo st ro tp cd sr ir ih ss sq ce lw wo he sk na kp gb go fa ga vo pb jg td tx t25 him s19 s20 s21 s22 s25 s26 s27 s31 s32 s33 s34 s39 s40 fst fro fmo fkd fcd fsr x25sk x25na x25kp fsq fce (nC v0) (nC v1) H.size (by first | exact hsn | assumption | omega) (by first | exact hj | assumption | omega) (hwa _ (by omega)) (by first | exact hsq | assumption | omega) (by first | exact hvl | assumption | omega) (by first | exact hpb | assumption | omega) (by first | exact hjg | assumption | omega) (by first | exact htx | assumption | omega) (by first | exact hru | assumption | omega)) (cwV 2 hts gX6_laws_X6_firstOther rfl rfl rfl (by decide +kernel) ⟨Nat.le_of_ble_eq_true rfl, Nat.le_of_ble_eq_true rfl⟩) ⟨gPre_blind, va_recv (q := (RX6, TX6, 42)) hK hP (ci := 6) (q0 := 0) rfl rfl, fun U hU hW => gPre_ofF [0, 1, 2, 3, 4, 5, 6, 7, 8, 9, 10, 11] hU hW hK hP hD (by decide +kernel) rfl⟩ rfl rfl hl.1 rfl (lv_room (Nat.le_of_ble_eq_true rfl)) dX6_laws_45 ⟨Nat.le_of_ble_eq_true rfl, Nat.le_of_ble_eq_true rfl⟩) hS hD hA rfl (fun u t H locs ht hvm hB hz1 hk1 hFq hAq hS => ?_)
          obtain ⟨ysk_13, yna_14, ykp_15⟩ := u
          obtain ⟨hP1, hK1, hD1⟩ := hB
          have hz9 : gPD G A [zo6 h0 (nI pb) kd mo st (nI jg) ro tp (nI td) cd sr (nI tx) (nI t25) him ir ih ss sq ce lw s19 s20 s21 s22 wo he s25 s26 s27 sk na kp s31 s32 s33 s34 gb go fa ga s39 s40 vo, zi G st 12 fst, zi G ro 12 fro, zi G mo 6 fmo, zi G kd 6 fkd, zi G cd 1200 fcd, zi G sr 24 (nF fsr), zi G sk 200 ysk_13, zi G na 6 yna_14, zi G kp 24 ykp_15, zi G sq 4 (nF fsq), zi G ce 160 fce, zi G ss 4 fss] H := zFill hP hD [0, 1, 2, 3, 4, 5, 6, 7, 8, 9, 10, 11] [1, 2, 3, 4, 5, 6, 7, 8, 9, 10, 11, 12] hAq hk1 hFq ht hP1 hD1 rfl (by decide +kernel)
          have hP := hz9.1
          have hD := hz9.2
          refine lv_iconst (v := -1) hx hb dX6_laws_48 (by decide +kernel) ?_
          refine lv_icmp_ne (tgt := 59) hx hb dX6_laws_49 (by decide +kernel) (fun c_16 => ?_) (fun c_16 => ?_)
          · skip
            refine lv_iconst (v := 0) hx hb dX6_laws_59 (by decide +kernel) ?_
            refine lv_ior hx hb dX6_laws_60 ?_
            refine lv_istore (lv' := [zI 5 (bi ||| 0), zI 6 (nI t25), zI 4 (nI ru), zI 3 (m_X6_toldWrong pb jg fss fsq fce v0 v1), zR 0 h0, zI 1 v0, zI 2 v1]) hx hb dX6_laws_61 hl (by decide +kernel) rfl (fun ls hl => ?_)
            refine lv_iinc (v := nI (t25 + 1)) (lv' := [zI 6 (nI (t25 + 1)), zI 5 (bi ||| 0), zI 4 (nI ru), zI 3 (m_X6_toldWrong pb jg fss fsq fce v0 v1), zR 0 h0, zI 1 v0, zI 2 v1]) hx hb dX6_laws_63 hl (k := 1) rfl (nI_add t25 1) (by decide +kernel) rfl (fun ls hl => ?_)
            refine lv_goto (tgt := 25) hx hb dX6_laws_66 (by decide +kernel) ?_
            exact ih9_25 (t25 + 1) (bi ||| 0) ysk_13 yna_14 ykp_15 (nI t25) (by omega) (Eq.trans (Eq.symm ((congrArg (fun z9 => p_X6_laws_25 fst fro fmo fkd fcd fsr fsq fce v0 v1 (z9) t25 bi) (show tx - t25 = tx - (t25 + 1) + 1 by omega)).trans (by show p_X6_laws_25 fst fro fmo fkd fcd fsr fsq fce v0 v1 (tx - (t25 + 1) + 1) t25 bi = _; rw [p_X6_laws_25, if_neg c_16]))) R25) (by omega) _ _ hP hD hS ls hl
          · skip
            refine lv_iconst (v := 1) hx hb dX6_laws_52 (by decide +kernel) ?_
            refine lv_iload hx hb dX6_laws_53 (lv_at hl 0 rfl) ?_
            refine lv_ishl hx hb dX6_laws_55 ?_
            refine lv_goto (tgt := 60) hx hb dX6_laws_56 (by decide +kernel) ?_
            refine lv_ior hx hb dX6_laws_60 ?_
            refine lv_istore (lv' := [zI 5 (bi ||| (1 <<< ((nI t25) &&& 31))), zI 6 (nI t25), zI 4 (nI ru), zI 3 (m_X6_toldWrong pb jg fss fsq fce v0 v1), zR 0 h0, zI 1 v0, zI 2 v1]) hx hb dX6_laws_61 hl (by decide +kernel) rfl (fun ls hl => ?_)
            refine lv_iinc (v := nI (t25 + 1)) (lv' := [zI 6 (nI (t25 + 1)), zI 5 (bi ||| (1 <<< ((nI t25) &&& 31))), zI 4 (nI ru), zI 3 (m_X6_toldWrong pb jg fss fsq fce v0 v1), zR 0 h0, zI 1 v0, zI 2 v1]) hx hb dX6_laws_63 hl (k := 1) rfl (nI_add t25 1) (by decide +kernel) rfl (fun ls hl => ?_)
            refine lv_goto (tgt := 25) hx hb dX6_laws_66 (by decide +kernel) ?_
            exact ih9_25 (t25 + 1) (bi ||| (1 <<< ((nI t25) &&& 31))) ysk_13 yna_14 ykp_15 (nI t25) (by omega) (Eq.trans (Eq.symm ((congrArg (fun z9 => p_X6_laws_25 fst fro fmo fkd fcd fsr fsq fce v0 v1 (z9) t25 bi) (show tx - t25 = tx - (t25 + 1) + 1 by omega)).trans (by show p_X6_laws_25 fst fro fmo fkd fcd fsr fsq fce v0 v1 (tx - (t25 + 1) + 1) t25 bi = _; rw [p_X6_laws_25, if_pos c_16]))) R25) (by omega) _ _ hP hD hS ls hl
    exact loop_25 (tx - 0 + 1) 0 0 fsk fna fkp (nI ru) (by omega) (rfl) (by omega) _ _ hP hD hS ls hl
  · skip
    refine lv_iload_n hx hb dX6_laws_11 rfl (lv_at hl 0 rfl) ?_
    have hpost : (fun (r : Int32) (u : (Nat → Int32) × (Nat → Int32) × (Nat → Int32)) => match u with | (ysk, yna, ykp) => r = m_X6_laws pb jg tx fst fro fmo fkd fcd fsr fsq fce fss v0 v1) (m_X6_toldWrong pb jg fss fsq fce v0 v1) (fsk, fna, fkp) := (show m_X6_laws pb jg tx fst fro fmo fkd fcd fsr fsq fce fss v0 v1 = (m_X6_toldWrong pb jg fss fsq fce v0 v1) from by unfold m_X6_laws; rw [if_neg c_3]).symm
    exact W.iret (v := (m_X6_toldWrong pb jg fss fsq fce v0 v1)) hx hb hr (fun t ht hW => ⟨⟨(m_X6_toldWrong pb jg fss fsq fce v0 v1), (fsk, fna, fkp), rfl, hpost, by rw [ht]; exact hP, va_K.moved hW.alike hK, hD⟩, hS.F ht⟩) hS.2.2 dX6_laws_12
noncomputable def p_X6_kinds_62 (ru : Nat) (fst : Nat → Int32) (fro : Nat → Int32) (fmo : Nat → Int32) (fcd : Nat → Int32) (fsr : Nat → Nat) (fsq : Nat → Nat) (fce : Nat → Int32) (v0 : Int32) (v1 : Int32) (v2 : Int32) : Nat → Nat → Int32 → (Nat → Int32) → (Nat → Int32) → Nat × Int32 × (Nat → Int32) × (Nat → Int32)
  | 0, w62, bi, y62kd, y62mo => (w62, bi, y62kd, y62mo)
  | q9 + 1, w62, bi, y62kd, y62mo => if (m_X6_firstOther ru fst fro (upd y62mo (nC v2) (fmo (nC v2))) (upd y62kd (nC v2) (nI w62)) fcd fsr fsq fce (nC v0) (nC v1)) = (-1) then p_X6_kinds_62 ru fst fro fmo fcd fsr fsq fce v0 v1 v2 q9 (w62 + 1) (bi ||| (1 <<< ((nI w62) &&& 31))) (upd y62kd (nC v2) (nI w62)) (upd y62mo (nC v2) (fmo (nC v2))) else p_X6_kinds_62 ru fst fro fmo fcd fsr fsq fce v0 v1 v2 q9 (w62 + 1) (bi ||| 0) (upd y62kd (nC v2) (nI w62)) (upd y62mo (nC v2) (fmo (nC v2)))
noncomputable def g_X6_kinds_62 (ru : Nat) (fst : Nat → Int32) (fro : Nat → Int32) (fmo : Nat → Int32) (fkd : Nat → Int32) (fcd : Nat → Int32) (fsr : Nat → Nat) (fsq : Nat → Nat) (fce : Nat → Int32) (v0 : Int32) (v1 : Int32) (v2 : Int32) : Nat × Int32 × (Nat → Int32) × (Nat → Int32) := p_X6_kinds_62 ru fst fro fmo fcd fsr fsq fce v0 v1 v2 (6 - 0) 0 0 fkd fmo
noncomputable def p_X6_kinds_62q1 (ru : Nat) (fst : Nat → Int32) (fro : Nat → Int32) (fkd : Nat → Int32) (fcd : Nat → Int32) (fsr : Nat → Nat) (fsq : Nat → Nat) (fce : Nat → Int32) (v0 : Int32) (v1 : Int32) (v2 : Int32) : Nat → Nat → Int32 → (Nat → Int32) → (Nat → Int32) → Nat × Int32 × (Nat → Int32) × (Nat → Int32)
  | 0, w62, bi, y62kd, y62mo => (w62, bi, y62kd, y62mo)
  | q9 + 1, w62, bi, y62kd, y62mo => if (m_X6_firstOther ru fst fro (upd y62mo (nC v2) (nI w62)) (upd y62kd (nC v2) (fkd (nC v2))) fcd fsr fsq fce (nC v0) (nC v1)) = (-1) then p_X6_kinds_62q1 ru fst fro fkd fcd fsr fsq fce v0 v1 v2 q9 (w62 + 1) (bi ||| (1 <<< ((nI w62) &&& 31))) (upd y62kd (nC v2) (fkd (nC v2))) (upd y62mo (nC v2) (nI w62)) else p_X6_kinds_62q1 ru fst fro fkd fcd fsr fsq fce v0 v1 v2 q9 (w62 + 1) (bi ||| 0) (upd y62kd (nC v2) (fkd (nC v2))) (upd y62mo (nC v2) (nI w62))
noncomputable def g_X6_kinds_62q1 (ru : Nat) (fst : Nat → Int32) (fro : Nat → Int32) (fmo : Nat → Int32) (fkd : Nat → Int32) (fcd : Nat → Int32) (fsr : Nat → Nat) (fsq : Nat → Nat) (fce : Nat → Int32) (v0 : Int32) (v1 : Int32) (v2 : Int32) : Nat × Int32 × (Nat → Int32) × (Nat → Int32) := p_X6_kinds_62q1 ru fst fro fkd fcd fsr fsq fce v0 v1 v2 (10 - 0) 0 0 fkd fmo
noncomputable def m_X6_kinds (pb : Nat) (jg : Nat) (ru : Nat) (fst : Nat → Int32) (fro : Nat → Int32) (fmo : Nat → Int32) (fkd : Nat → Int32) (fcd : Nat → Int32) (fsr : Nat → Nat) (fsq : Nat → Nat) (fce : Nat → Int32) (fss : Nat → Int32) (v0 : Int32) (v1 : Int32) (v2 : Int32) (v3 : Int32) : Int32 := if (m_X6_toldWrong pb jg fss fsq fce v0 v1) = 0 then (if (mHas pb v2) = true then (if 0 ≤ v3 ∧ v3 ≤ 1 then (if nC v3 = 0 then ((g_X6_kinds_62 ru fst fro fmo fkd fcd fsr fsq fce v0 v1 v2).2.1) else ((g_X6_kinds_62q1 ru fst fro fmo fkd fcd fsr fsq fce v0 v1 v2).2.1)) else -7) else -6) else m_X6_toldWrong pb jg fss fsq fce v0 v1
noncomputable def m_X6_kinds_mo (pb : Nat) (jg : Nat) (ru : Nat) (fst : Nat → Int32) (fro : Nat → Int32) (fmo : Nat → Int32) (fkd : Nat → Int32) (fcd : Nat → Int32) (fsr : Nat → Nat) (fsq : Nat → Nat) (fce : Nat → Int32) (fss : Nat → Int32) (v0 : Int32) (v1 : Int32) (v2 : Int32) (v3 : Int32) : Nat → Int32 := if (m_X6_toldWrong pb jg fss fsq fce v0 v1) = 0 then (if (mHas pb v2) = true then (if 0 ≤ v3 ∧ v3 ≤ 1 then (if nC v3 = 0 then upd ((g_X6_kinds_62 ru fst fro fmo fkd fcd fsr fsq fce v0 v1 v2).2.2.2) (nC v2) (fmo (nC v2)) else upd ((g_X6_kinds_62q1 ru fst fro fmo fkd fcd fsr fsq fce v0 v1 v2).2.2.2) (nC v2) (fmo (nC v2))) else fmo) else fmo) else fmo
noncomputable def m_X6_kinds_kd (pb : Nat) (jg : Nat) (ru : Nat) (fst : Nat → Int32) (fro : Nat → Int32) (fmo : Nat → Int32) (fkd : Nat → Int32) (fcd : Nat → Int32) (fsr : Nat → Nat) (fsq : Nat → Nat) (fce : Nat → Int32) (fss : Nat → Int32) (v0 : Int32) (v1 : Int32) (v2 : Int32) (v3 : Int32) : Nat → Int32 := if (m_X6_toldWrong pb jg fss fsq fce v0 v1) = 0 then (if (mHas pb v2) = true then (if 0 ≤ v3 ∧ v3 ≤ 1 then (if nC v3 = 0 then upd ((g_X6_kinds_62 ru fst fro fmo fkd fcd fsr fsq fce v0 v1 v2).2.2.1) (nC v2) (fkd (nC v2)) else upd ((g_X6_kinds_62q1 ru fst fro fmo fkd fcd fsr fsq fce v0 v1 v2).2.2.1) (nC v2) (fkd (nC v2))) else fkd) else fkd) else fkd
abbrev q_X6_kinds (G : gG) (h0 kd mo st ro tp cd sr ir ih ss sq ce lw wo he sk na kp gb go fa ga vo : Nat) (pb : Nat) (jg : Nat) (td : Nat) (tx : Nat) (ru : Nat) (him : Int32) (s19 : Int32) (s20 : Int32) (s21 : Int32) (s22 : Int32) (s25 : Int32) (s26 : Int32) (s27 : Int32) (s31 : Int32) (s32 : Int32) (s33 : Int32) (s34 : Int32) (s39 : Int32) (s40 : Int32) (fst : Nat → Int32) (fro : Nat → Int32) (fmo : Nat → Int32) (fkd : Nat → Int32) (fcd : Nat → Int32) (fsr : Nat → Nat) (fsk : Nat → Int32) (fna : Nat → Int32) (fkp : Nat → Int32) (fsq : Nat → Nat) (fce : Nat → Int32) (fss : Nat → Int32) (v0 : Int32) (v1 : Int32) (v2 : Int32) (v3 : Int32) (A : Nat → Prop) : Array Value → State → Outcome → State → Prop := va_Qi (fun (r : Int32) (u : (Nat → Int32) × (Nat → Int32) × (Nat → Int32)) => match u with | (ysk, yna, ykp) => r = m_X6_kinds pb jg ru fst fro fmo fkd fcd fsr fsq fce fss v0 v1 v2 v3) (fun (u : (Nat → Int32) × (Nat → Int32) × (Nat → Int32)) t => match u with | (ysk, yna, ykp) => va_P G.1 vwCl [zo6 h0 (nI pb) kd mo st (nI jg) ro tp (nI td) cd sr (nI tx) (nI ru) him ir ih ss sq ce lw s19 s20 s21 s22 wo he s25 s26 s27 sk na kp s31 s32 s33 s34 gb go fa ga s39 s40 vo, zi G st 12 fst, zi G ro 12 fro, zi G mo 6 (m_X6_kinds_mo pb jg ru fst fro fmo fkd fcd fsr fsq fce fss v0 v1 v2 v3), zi G kd 6 (m_X6_kinds_kd pb jg ru fst fro fmo fkd fcd fsr fsq fce fss v0 v1 v2 v3), zi G cd 1200 fcd, zi G sr 24 (nF fsr), zi G sk 200 ysk, zi G na 6 yna, zi G kp 24 ykp, zi G sq 4 (nF fsq), zi G ce 160 fce, zi G ss 4 fss] t.heap ∧ gK G t ∧ va_D A [zo6 h0 (nI pb) kd mo st (nI jg) ro tp (nI td) cd sr (nI tx) (nI ru) him ir ih ss sq ce lw s19 s20 s21 s22 wo he s25 s26 s27 sk na kp s31 s32 s33 s34 gb go fa ga s39 s40 vo, zi G st 12 fst, zi G ro 12 fro, zi G mo 6 (m_X6_kinds_mo pb jg ru fst fro fmo fkd fcd fsr fsq fce fss v0 v1 v2 v3), zi G kd 6 (m_X6_kinds_kd pb jg ru fst fro fmo fkd fcd fsr fsq fce fss v0 v1 v2 v3), zi G cd 1200 fcd, zi G sr 24 (nF fsr), zi G sk 200 ysk, zi G na 6 yna, zi G kp 24 ykp, zi G sq 4 (nF fsq), zi G ce 160 fce, zi G ss 4 fss]) A
set_option maxHeartbeats 4000000 in
set_option maxRecDepth 100000 in
theorem c_X6_kinds (l : Launch) (G : gG) (h0 kd mo st ro tp cd sr ir ih ss sq ce lw wo he sk na kp gb go fa ga vo : Nat) (pb : Nat) (jg : Nat) (td : Nat) (tx : Nat) (ru : Nat) (him : Int32) (s19 : Int32) (s20 : Int32) (s21 : Int32) (s22 : Int32) (s25 : Int32) (s26 : Int32) (s27 : Int32) (s31 : Int32) (s32 : Int32) (s33 : Int32) (s34 : Int32) (s39 : Int32) (s40 : Int32) (fst : Nat → Int32) (fro : Nat → Int32) (fmo : Nat → Int32) (fkd : Nat → Int32) (fcd : Nat → Int32) (fsr : Nat → Nat) (fsk : Nat → Int32) (fna : Nat → Int32) (fkp : Nat → Int32) (fsq : Nat → Nat) (fce : Nat → Int32) (fss : Nat → Int32) (v0 : Int32) (v1 : Int32) (v2 : Int32) (v3 : Int32) (sz : Nat) (hsq : ∀ q9, q9 < 4 → fsq q9 ≤ 40) (hwa : ∀ t9, t9 < tx → mWf fcd fsr t9) (hpb : pb ≤ 6) (hjg : jg ≤ 4) (htx : tx ≤ 6) (hru : ru < tx) : Met l yX6_kinds wsX6_kinds ({ frames := 7, cells := 0, slots := 0, locals := 172 }) (gPre G [.ref h0, .int v0, .int v1, .int v2, .int v3] [zo6 h0 (nI pb) kd mo st (nI jg) ro tp (nI td) cd sr (nI tx) (nI ru) him ir ih ss sq ce lw s19 s20 s21 s22 wo he s25 s26 s27 sk na kp s31 s32 s33 s34 gb go fa ga s39 s40 vo, zi G st 12 fst, zi G ro 12 fro, zi G mo 6 fmo, zi G kd 6 fkd, zi G cd 1200 fcd, zi G sr 24 (nF fsr), zi G sk 200 fsk, zi G na 6 fna, zi G kp 24 fkp, zi G sq 4 (nF fsq), zi G ce 160 fce, zi G ss 4 fss] sz) (q_X6_kinds G h0 kd mo st ro tp cd sr ir ih ss sq ce lw wo he sk na kp gb go fa ga vo pb jg td tx ru him s19 s20 s21 s22 s25 s26 s27 s31 s32 s33 s34 s39 s40 fst fro fmo fkd fcd fsr fsk fna fkp fsq fce fss v0 v1 v2 v3 (va_A [zo6 h0 (nI pb) kd mo st (nI jg) ro tp (nI td) cd sr (nI tx) (nI ru) him ir ih ss sq ce lw s19 s20 s21 s22 wo he s25 s26 s27 sk na kp s31 s32 s33 s34 gb go fa ga s39 s40 vo, zi G st 12 fst, zi G ro 12 fro, zi G mo 6 fmo, zi G kd 6 fkd, zi G cd 1200 fcd, zi G sr 24 (nF fsr), zi G sk 200 fsk, zi G na 6 fna, zi G kp 24 fkp, zi G sq 4 (nF fsq), zi G ce 160 fce, zi G ss 4 fss] sz)) 0 0 (va_A [zo6 h0 (nI pb) kd mo st (nI jg) ro tp (nI td) cd sr (nI tx) (nI ru) him ir ih ss sq ce lw s19 s20 s21 s22 wo he s25 s26 s27 sk na kp s31 s32 s33 s34 gb go fa ga s39 s40 vo, zi G st 12 fst, zi G ro 12 fro, zi G mo 6 fmo, zi G kd 6 fkd, zi G cd 1200 fcd, zi G sr 24 (nF fsr), zi G sk 200 fsk, zi G na 6 fna, zi G kp 24 fkp, zi G sq 4 (nF fsq), zi G ce 160 fce, zi G ss 4 fss] sz) := by
  refine Met.ofW (cc := cX6_kinds) (maxL := 10) (ret := (some .int)) (by decide +kernel) rfl ?_
  intro p e s m args below meth c s₁ B hml hv
  obtain ⟨rfl, hsz, hP, hK, hD0⟩ := hv
  have hx := B.exec
  have hb := B.bytes
  have hr := B.returns
  have hts := atoms_spec (ws := wsX6_kinds) B.pre
  have hown : s.vm.findClass RX6 = some m.cls := findClass_of_methodNamed B.named
  have hlocks := B.notSynchronized
  subst hsz
  have hD := hD0.self (sz := s.heap.size)
  generalize hAe : va_A [zo6 h0 (nI pb) kd mo st (nI jg) ro tp (nI td) cd sr (nI tx) (nI ru) him ir ih ss sq ce lw s19 s20 s21 s22 wo he s25 s26 s27 sk na kp s31 s32 s33 s34 gb go fa ga s39 s40 vo, zi G st 12 fst, zi G ro 12 fro, zi G mo 6 fmo, zi G kd 6 fkd, zi G cd 1200 fcd, zi G sr 24 (nF fsr), zi G sk 200 fsk, zi G na 6 fna, zi G kp 24 fkp, zi G sq 4 (nF fsq), zi G ce 160 fce, zi G ss 4 fss] s.heap.size = A at hD ⊢
  have hA : ∀ q : Nat, s.heap.size ≤ q → A q := fun q h => by rw [← hAe]; exact Or.inr h
  have hS : va_S A s.heap s.heap [] := va_S.rf
  have hz9 : gPD G A [zo6 h0 (nI pb) kd mo st (nI jg) ro tp (nI td) cd sr (nI tx) (nI ru) him ir ih ss sq ce lw s19 s20 s21 s22 wo he s25 s26 s27 sk na kp s31 s32 s33 s34 gb go fa ga s39 s40 vo, zi G st 12 fst, zi G ro 12 fro, zi G mo 6 fmo, zi G kd 6 fkd, zi G cd 1200 fcd, zi G sr 24 (nF fsr), zi G sk 200 fsk, zi G na 6 fna, zi G kp 24 fkp, zi G sq 4 (nF fsq), zi G ce 160 fce, zi G ss 4 fss] s.heap := ⟨hP, hD⟩
  have hP := hz9.1
  have hD := hz9.2
  have hl := lv_entry ([.ref h0, .int v0, .int v1, .int v2, .int v3]) (n := 10) (Nat.le_of_ble_eq_true rfl)
  rw [lg_entry_eq]
  generalize (lg_sl ([.ref h0, .int v0, .int v1, .int v2, .int v3]) ++ List.replicate (10 - (lg_sl ([.ref h0, .int v0, .int v1, .int v2, .int v3])).length) Slot.unset).toArray = ls at hl ⊢
  have hl : lv_has ls 10 [zR 0 h0, zI 1 v0, zI 2 v1, zI 3 v2, zI 4 v3] := hl
  have kf7 := hts (.fieldLink RX6 7 "PebbleInShoeModel" "kind" "[I") (by decide +kernel)
  have hiX6 := (by decide +kernel : ∀ w ∈ wsX60, w ∈ wsX6_kinds)
  have kf13 := hts (.fieldLink RX6 13 "PebbleInShoeModel" "moreOf" "[I") (by decide +kernel)
  refine lv_aload_n hx hb dX6_kinds_0 rfl (lv_at hl 0 rfl) ?_
  refine lv_iload_n hx hb dX6_kinds_1 rfl (lv_at hl 1 rfl) ?_
  refine lv_iload_n hx hb dX6_kinds_2 rfl (lv_at hl 2 rfl) ?_
  refine z_calli [0, 12, 10, 11] (v := m_X6_toldWrong pb jg fss fsq fce v0 v1) (fun _ _ h => h) (va_runV (As := [.int v0, .int v1]) (rest := []) ⟨hx, hb, hml, hown, hts⟩ (c_X6_toldWrong l G h0 kd mo st ro tp cd sr ir ih ss sq ce lw wo he sk na kp gb go fa ga vo pb jg td tx ru him s19 s20 s21 s22 s25 s26 s27 s31 s32 s33 s34 s39 s40 fss fsq fce v0 v1 s.heap.size (by first | exact hsq | assumption | omega) (by first | exact hpb | assumption | omega) (by first | exact hjg | assumption | omega) (by first | exact htx | assumption | omega) (by first | exact hru | assumption | omega)) (cwV 2 hts gX6_kinds_X6_toldWrong rfl rfl rfl (by decide +kernel) ⟨Nat.le_of_ble_eq_true rfl, Nat.le_of_ble_eq_true rfl⟩) ⟨gPre_blind, va_recv (q := (RX6, TX6, 42)) hK hP (ci := 6) (q0 := 0) rfl rfl, fun U hU hW => gPre_ofF [0, 12, 10, 11] hU hW hK hP hD (by decide +kernel) rfl⟩ rfl rfl hl.1 rfl (lv_room (Nat.le_of_ble_eq_true rfl)) dX6_kinds_3 ⟨Nat.le_of_ble_eq_true rfl, Nat.le_of_ble_eq_true rfl⟩) hS hD hA rfl (fun u t H locs ht hvm hB hz1 hk1 hFq hAq hS => ?_)
  obtain ⟨hP1, hK1, hD1⟩ := hB
  have hP := zKeep hP hD [0, 12, 10, 11] hAq hk1 ht hP1 rfl
  refine lv_istore (lv' := [zI 5 (m_X6_toldWrong pb jg fss fsq fce v0 v1), zR 0 h0, zI 1 v0, zI 2 v1, zI 3 v2, zI 4 v3]) hx hb dX6_kinds_6 hl (by decide +kernel) rfl (fun ls hl => ?_)
  refine lv_iload hx hb dX6_kinds_8 (lv_at hl 0 rfl) ?_
  refine lv_if_eq (tgt := 16) hx hb dX6_kinds_10 (by decide +kernel) (fun c_3 => ?_) (fun c_3 => ?_)
  · skip
    obtain ⟨hs3, hjw, hvl⟩ := toldWrong_0 hpb c_3
    have hv_4 : v0 = nI (nC v0) := nC_eq hs3.1
    have hk_5 : nC v0 ≤ 3 := nC_le (n := 3) (by omega) hs3
    have hv_6 : v1 = nI (nC v1) := mHas_eq hjw
    have hk_7 : nC v1 < jg := mHas_lt (by omega) hjw
    refine lv_aload_n hx hb dX6_kinds_16 rfl (lv_at hl 1 rfl) ?_
    refine lv_iload_n hx hb dX6_kinds_17 rfl (lv_at hl 4 rfl) ?_
    refine z_calli [0] (v := bz (mHas pb v2)) (fun _ _ h => h) (va_runV (As := [.int v2]) (rest := []) ⟨hx, hb, hml, hown, hts⟩ (c_X6_isPebble l G h0 kd mo st ro tp cd sr ir ih ss sq ce lw wo he sk na kp gb go fa ga vo pb jg td tx ru him s19 s20 s21 s22 s25 s26 s27 s31 s32 s33 s34 s39 s40 v2 H.size (by first | exact hpb | assumption | omega) (by first | exact hjg | assumption | omega) (by first | exact htx | assumption | omega) (by first | exact hru | assumption | omega)) (cwV 1 hts gX6_kinds_X6_isPebble rfl rfl rfl (by decide +kernel) ⟨Nat.le_of_ble_eq_true rfl, Nat.le_of_ble_eq_true rfl⟩) ⟨gPre_blind, va_recv (q := (RX6, TX6, 42)) hK hP (ci := 6) (q0 := 0) rfl rfl, fun U hU hW => gPre_ofF [0] hU hW hK hP hD (by decide +kernel) rfl⟩ rfl rfl hl.1 rfl (lv_room (Nat.le_of_ble_eq_true rfl)) dX6_kinds_18 ⟨Nat.le_of_ble_eq_true rfl, Nat.le_of_ble_eq_true rfl⟩) hS hD hA rfl (fun u t H locs ht hvm hB hz1 hk1 hFq hAq hS => ?_)
    obtain ⟨hP1, hK1, hD1⟩ := hB
    have hP := zKeep hP hD [0] hAq hk1 ht hP1 rfl
    refine lv_if_ne (tgt := 27) hx hb dX6_kinds_21 (by decide +kernel) (fun c_10 => ?_) (fun c_10 => ?_)
    · skip
      have p_11 : (mHas pb v2) = true := bz_ne rfl c_10
      have hv_13 : v2 = nI (nC v2) := mHas_eq p_11
      have hk_14 : nC v2 < pb := mHas_lt (by omega) p_11
      refine lv_iload hx hb dX6_kinds_27 (lv_at hl 5 rfl) ?_
      refine lv_iconst (v := 0) hx hb dX6_kinds_29 (by decide +kernel) ?_
      refine lv_iconst (v := 1) hx hb dX6_kinds_30 (by decide +kernel) ?_
      refine z_calli [] (v := bz (decide (0 ≤ v3 ∧ v3 ≤ 1))) (fun _ _ h => h) (va_runS (As := [.int v3, .int 0, .int 1]) (rest := []) ⟨hx, hb, hml, hown, hts⟩ (c_X6_in l G v3 0 1 H.size) (va_cwS 3 hts gX6_kinds_X6_in rfl rfl rfl (by decide +kernel) ⟨Nat.le_of_ble_eq_true rfl, Nat.le_of_ble_eq_true rfl⟩) ⟨gPre_blind, fun U hU hW => gPre_ofF [] hU hW hK hP hD (by decide +kernel) rfl⟩ rfl rfl hl.1 rfl (lv_room (Nat.le_of_ble_eq_true rfl)) dX6_kinds_31 ⟨Nat.le_of_ble_eq_true rfl, Nat.le_of_ble_eq_true rfl⟩) hS hD hA rfl (fun u t H locs ht hvm hB hz1 hk1 hFq hAq hS => ?_)
      obtain ⟨hP1, hK1, hD1⟩ := hB
      have hP := zKeep hP hD [] hAq hk1 ht hP1 rfl
      refine lv_if_ne (tgt := 40) hx hb dX6_kinds_34 (by decide +kernel) (fun c_17 => ?_) (fun c_17 => ?_)
      · skip
        have p_18 : 0 ≤ v3 ∧ v3 ≤ 1 := of_decide_eq_true (bz_ne rfl c_17)
        have hv_20 : v3 = nI (nC v3) := nC_eq p_18.1
        have hk_21 : nC v3 ≤ 1 := nC_le (n := 1) (by omega) p_18
        refine g_aget (D := G.1) (ci := 6) (v := .ref kd) (C := RX6) (T := TX6) (N := 42) hx hb dX6_kinds_40 rfl (lv_at hl 1 rfl) hts hiX6 hown hK hP 0 rfl rfl 1 (by decide +kernel) kf7 (fun _ h9 => h9) rfl dX6_kinds_41 ?_
        refine lv_iload_n hx hb dX6_kinds_44 rfl (lv_at hl 4 rfl) ?_
        refine g_topi (y := nI (nC v2)) hv_13 ?_
        refine g_iald (D := G.1) hx hb hK hP 4 0 rfl rfl (k := nC v2) (y := fkd (nC v2)) (by omega) rfl rfl dX6_kinds_45 ?_
        refine lv_istore (lv' := [zI 6 (fkd (nC v2)), zI 5 (m_X6_toldWrong pb jg fss fsq fce v0 v1), zR 0 h0, zI 1 v0, zI 2 v1, zI 3 v2, zI 4 v3]) hx hb dX6_kinds_46 hl (by decide +kernel) rfl (fun ls hl => ?_)
        refine g_aget (D := G.1) (ci := 6) (v := .ref mo) (C := RX6) (T := TX6) (N := 42) hx hb dX6_kinds_48 rfl (lv_at hl 2 rfl) hts hiX6 hown hK hP 0 rfl rfl 2 (by decide +kernel) kf13 (fun _ h9 => h9) rfl dX6_kinds_49 ?_
        refine lv_iload_n hx hb dX6_kinds_52 rfl (lv_at hl 5 rfl) ?_
        refine g_topi (y := nI (nC v2)) hv_13 ?_
        refine g_iald (D := G.1) hx hb hK hP 3 0 rfl rfl (k := nC v2) (y := fmo (nC v2)) (by omega) rfl rfl dX6_kinds_53 ?_
        refine lv_istore (lv' := [zI 7 (fmo (nC v2)), zI 6 (fkd (nC v2)), zI 5 (m_X6_toldWrong pb jg fss fsq fce v0 v1), zR 0 h0, zI 1 v0, zI 2 v1, zI 3 v2, zI 4 v3]) hx hb dX6_kinds_54 hl (by decide +kernel) rfl (fun ls hl => ?_)
        by_cases hz_26 : nC v3 = 0
        · skip
          have hl_27 : v3 = 0 := by rw [hv_20, hz_26]; rfl
          refine lv_iconst (v := 0) hx hb dX6_kinds_56 (by decide +kernel) ?_
          refine lv_istore (lv' := [zI 8 0, zI 7 (fmo (nC v2)), zI 6 (fkd (nC v2)), zI 5 (m_X6_toldWrong pb jg fss fsq fce v0 v1), zR 0 h0, zI 1 v0, zI 2 v1, zI 3 v2, zI 4 v3]) hx hb dX6_kinds_57 hl (by decide +kernel) rfl (fun ls hl => ?_)
          refine lv_iconst (v := 0) hx hb dX6_kinds_59 (by decide +kernel) ?_
          refine lv_istore (lv' := [zI 9 0, zI 8 0, zI 7 (fmo (nC v2)), zI 6 (fkd (nC v2)), zI 5 (m_X6_toldWrong pb jg fss fsq fce v0 v1), zR 0 h0, zI 1 v0, zI 2 v1, zI 3 v2, zI 4 v3]) hx hb dX6_kinds_60 hl (by decide +kernel) rfl (fun ls hl => ?_)
          have loop_62 : ∀ (n9 : Nat) (w62 : Nat) (bi : Int32) (y62kd : Nat → Int32) (y62mo : Nat → Int32) (x62sk : Nat → Int32) (x62na : Nat → Int32) (x62kp : Nat → Int32), (w62 ≤ 6) → (p_X6_kinds_62 ru fst fro fmo fcd fsr fsq fce v0 v1 v2 (6 - w62) w62 bi y62kd y62mo = (g_X6_kinds_62 ru fst fro fmo fkd fcd fsr fsq fce v0 v1 v2)) → (6 - w62) < n9 → ∀ (H : Heap) (locs : List Loc), va_P G.1 vwCl [zo6 h0 (nI pb) kd mo st (nI jg) ro tp (nI td) cd sr (nI tx) (nI ru) him ir ih ss sq ce lw s19 s20 s21 s22 wo he s25 s26 s27 sk na kp s31 s32 s33 s34 gb go fa ga s39 s40 vo, zi G st 12 fst, zi G ro 12 fro, zi G mo 6 y62mo, zi G kd 6 y62kd, zi G cd 1200 fcd, zi G sr 24 (nF fsr), zi G sk 200 x62sk, zi G na 6 x62na, zi G kp 24 x62kp, zi G sq 4 (nF fsq), zi G ce 160 fce, zi G ss 4 fss] H → va_D A [zo6 h0 (nI pb) kd mo st (nI jg) ro tp (nI td) cd sr (nI tx) (nI ru) him ir ih ss sq ce lw s19 s20 s21 s22 wo he s25 s26 s27 sk na kp s31 s32 s33 s34 gb go fa ga s39 s40 vo, zi G st 12 fst, zi G ro 12 fro, zi G mo 6 y62mo, zi G kd 6 y62kd, zi G cd 1200 fcd, zi G sr 24 (nF fsr), zi G sk 200 x62sk, zi G na 6 x62na, zi G kp 24 x62kp, zi G sq 4 (nF fsq), zi G ce 160 fce, zi G ss 4 fss] → va_S A s.heap H locs → ∀ ls : Array Slot, lv_has ls 10 [zI 9 (nI w62), zI 8 bi, zI 7 (fmo (nC v2)), zI 6 (fkd (nC v2)), zI 5 (m_X6_toldWrong pb jg fss fsq fce v0 v1), zR 0 h0, zI 1 v0, zI 2 v1, zI 3 v2, zI 4 v3] → W p l e (headSpec wsX6_kinds ({ frames := 7, cells := 0, slots := 0, locals := 172 })).room s m ([.ref h0, .int v0, .int v1, .int v2, .int v3] : List Value).toArray below meth c H locs 0 0 (MQ below (q_X6_kinds G h0 kd mo st ro tp cd sr ir ih ss sq ce lw wo he sk na kp gb go fa ga vo pb jg td tx ru him s19 s20 s21 s22 s25 s26 s27 s31 s32 s33 s34 s39 s40 fst fro fmo fkd fcd fsr fsk fna fkp fsq fce fss v0 v1 v2 v3 A) ([.ref h0, .int v0, .int v1, .int v2, .int v3] : List Value).toArray s 0 0 A) (F0 m 62 ls []) := by
            intro n9
            induction n9 with
            | zero => intro w62 bi y62kd y62mo x62sk x62na x62kp hw62 R62 hm9_62; exact absurd hm9_62 (Nat.not_lt_zero _)
            | succ n9 ih9_62 =>
              intro w62 bi y62kd y62mo x62sk x62na x62kp hw62 R62 hm9_62 H locs hP hD hS ls hl
              refine lv_iload hx hb dX6_kinds_62 (lv_at hl 0 rfl) ?_
              refine lv_iload hx hb dX6_kinds_64 (lv_at hl 9 rfl) ?_
              refine g_topi (y := 0) hl_27 ?_
              refine lv_if_ne (tgt := 74) hx hb dX6_kinds_66 (by decide +kernel) (fun c_29 => ?_) (fun c_29 => ?_)
              · exact absurd (by decide +kernel) c_29
              refine lv_bipush (v := 6) hx hb dX6_kinds_69 (by decide +kernel) ?_
              refine lv_goto (tgt := 76) hx hb dX6_kinds_71 (by decide +kernel) ?_
              refine lv_icmp_ge (tgt := 145) hx hb dX6_kinds_76 (by decide +kernel) (fun c_30 => ?_) (fun c_30 => ?_)
              · skip
                have c_30N : 6 ≤ w62 := nI_le1 (a := 6) (b := w62) (by omega) (by omega) c_30
                have hF62 : (g_X6_kinds_62 ru fst fro fmo fkd fcd fsr fsq fce v0 v1 v2) = (w62, bi, y62kd, y62mo) := by rw [← R62, show 6 - w62 = 0 by omega]; rfl
                have hE62_0 : w62 = ((g_X6_kinds_62 ru fst fro fmo fkd fcd fsr fsq fce v0 v1 v2).1) := by rw [hF62]
                have hE62_1 : bi = ((g_X6_kinds_62 ru fst fro fmo fkd fcd fsr fsq fce v0 v1 v2).2.1) := by rw [hF62]
                have hE62_2 : y62kd = ((g_X6_kinds_62 ru fst fro fmo fkd fcd fsr fsq fce v0 v1 v2).2.2.1) := by rw [hF62]
                have hE62_3 : y62mo = ((g_X6_kinds_62 ru fst fro fmo fkd fcd fsr fsq fce v0 v1 v2).2.2.2) := by rw [hF62]
                clear hF62 R62
                subst hE62_0
                subst hE62_1
                subst hE62_2
                subst hE62_3
                refine g_aget (D := G.1) (ci := 6) (v := .ref kd) (C := RX6) (T := TX6) (N := 42) hx hb dX6_kinds_145 rfl (lv_at hl 5 rfl) hts hiX6 hown hK hP 0 rfl rfl 1 (by decide +kernel) kf7 (fun _ h9 => h9) rfl dX6_kinds_146 ?_
                refine lv_iload_n hx hb dX6_kinds_149 rfl (lv_at hl 8 rfl) ?_
                refine g_topi (y := nI (nC v2)) hv_13 ?_
                refine lv_iload hx hb dX6_kinds_150 (lv_at hl 3 rfl) ?_
                refine g_iast (D := G.1) hx hb hK hP hD hS 4 0 rfl rfl (k := nC v2) (x := (fkd (nC v2))) (by omega) rfl dX6_kinds_152 (fun H locs hP hD hS => ?_)
                have hz9 : gPD G A [zo6 h0 (nI pb) kd mo st (nI jg) ro tp (nI td) cd sr (nI tx) (nI ru) him ir ih ss sq ce lw s19 s20 s21 s22 wo he s25 s26 s27 sk na kp s31 s32 s33 s34 gb go fa ga s39 s40 vo, zi G st 12 fst, zi G ro 12 fro, zi G mo 6 ((g_X6_kinds_62 ru fst fro fmo fkd fcd fsr fsq fce v0 v1 v2).2.2.2), zi G kd 6 (upd ((g_X6_kinds_62 ru fst fro fmo fkd fcd fsr fsq fce v0 v1 v2).2.2.1) (nC v2) (fkd (nC v2))), zi G cd 1200 fcd, zi G sr 24 (nF fsr), zi G sk 200 x62sk, zi G na 6 x62na, zi G kp 24 x62kp, zi G sq 4 (nF fsq), zi G ce 160 fce, zi G ss 4 fss] H := ⟨hP, hD⟩
                have hP := hz9.1
                have hD := hz9.2
                refine g_aget (D := G.1) (ci := 6) (v := .ref mo) (C := RX6) (T := TX6) (N := 42) hx hb dX6_kinds_153 rfl (lv_at hl 5 rfl) hts hiX6 hown hK hP 0 rfl rfl 2 (by decide +kernel) kf13 (fun _ h9 => h9) rfl dX6_kinds_154 ?_
                refine lv_iload_n hx hb dX6_kinds_157 rfl (lv_at hl 8 rfl) ?_
                refine g_topi (y := nI (nC v2)) hv_13 ?_
                refine lv_iload hx hb dX6_kinds_158 (lv_at hl 2 rfl) ?_
                refine g_iast (D := G.1) hx hb hK hP hD hS 3 0 rfl rfl (k := nC v2) (x := (fmo (nC v2))) (by omega) rfl dX6_kinds_160 (fun H locs hP hD hS => ?_)
                have hz9 : gPD G A [zo6 h0 (nI pb) kd mo st (nI jg) ro tp (nI td) cd sr (nI tx) (nI ru) him ir ih ss sq ce lw s19 s20 s21 s22 wo he s25 s26 s27 sk na kp s31 s32 s33 s34 gb go fa ga s39 s40 vo, zi G st 12 fst, zi G ro 12 fro, zi G mo 6 (upd ((g_X6_kinds_62 ru fst fro fmo fkd fcd fsr fsq fce v0 v1 v2).2.2.2) (nC v2) (fmo (nC v2))), zi G kd 6 (upd ((g_X6_kinds_62 ru fst fro fmo fkd fcd fsr fsq fce v0 v1 v2).2.2.1) (nC v2) (fkd (nC v2))), zi G cd 1200 fcd, zi G sr 24 (nF fsr), zi G sk 200 x62sk, zi G na 6 x62na, zi G kp 24 x62kp, zi G sq 4 (nF fsq), zi G ce 160 fce, zi G ss 4 fss] H := ⟨hP, hD⟩
                have hP := hz9.1
                have hD := hz9.2
                refine lv_iload hx hb dX6_kinds_161 (lv_at hl 1 rfl) ?_
                have q_33 : m_X6_kinds_mo pb jg ru fst fro fmo fkd fcd fsr fsq fce fss v0 v1 v2 v3 = upd ((g_X6_kinds_62 ru fst fro fmo fkd fcd fsr fsq fce v0 v1 v2).2.2.2) (nC v2) (fmo (nC v2)) := by unfold m_X6_kinds_mo; rw [if_pos c_3, if_pos p_11, if_pos p_18, if_pos hz_26]
                have q_34 : m_X6_kinds_kd pb jg ru fst fro fmo fkd fcd fsr fsq fce fss v0 v1 v2 v3 = upd ((g_X6_kinds_62 ru fst fro fmo fkd fcd fsr fsq fce v0 v1 v2).2.2.1) (nC v2) (fkd (nC v2)) := by unfold m_X6_kinds_kd; rw [if_pos c_3, if_pos p_11, if_pos p_18, if_pos hz_26]
                have hz9 : gPD G A [zo6 h0 (nI pb) kd mo st (nI jg) ro tp (nI td) cd sr (nI tx) (nI ru) him ir ih ss sq ce lw s19 s20 s21 s22 wo he s25 s26 s27 sk na kp s31 s32 s33 s34 gb go fa ga s39 s40 vo, zi G st 12 fst, zi G ro 12 fro, zi G mo 6 (m_X6_kinds_mo pb jg ru fst fro fmo fkd fcd fsr fsq fce fss v0 v1 v2 v3), zi G kd 6 (m_X6_kinds_kd pb jg ru fst fro fmo fkd fcd fsr fsq fce fss v0 v1 v2 v3), zi G cd 1200 fcd, zi G sr 24 (nF fsr), zi G sk 200 x62sk, zi G na 6 x62na, zi G kp 24 x62kp, zi G sq 4 (nF fsq), zi G ce 160 fce, zi G ss 4 fss] H := ⟨by rw [q_33, q_34]; exact hP, by rw [q_33, q_34]; exact hD⟩
                have hP9 := hz9.1
                have hD9 := hz9.2
                have hpost : (fun (r : Int32) (u : (Nat → Int32) × (Nat → Int32) × (Nat → Int32)) => match u with | (ysk, yna, ykp) => r = m_X6_kinds pb jg ru fst fro fmo fkd fcd fsr fsq fce fss v0 v1 v2 v3) ((g_X6_kinds_62 ru fst fro fmo fkd fcd fsr fsq fce v0 v1 v2).2.1) (x62sk, x62na, x62kp) := (show m_X6_kinds pb jg ru fst fro fmo fkd fcd fsr fsq fce fss v0 v1 v2 v3 = ((g_X6_kinds_62 ru fst fro fmo fkd fcd fsr fsq fce v0 v1 v2).2.1) from by unfold m_X6_kinds; rw [if_pos c_3, if_pos p_11, if_pos p_18, if_pos hz_26]).symm
                exact W.iret (v := ((g_X6_kinds_62 ru fst fro fmo fkd fcd fsr fsq fce v0 v1 v2).2.1)) hx hb hr (fun t ht hW => ⟨⟨((g_X6_kinds_62 ru fst fro fmo fkd fcd fsr fsq fce v0 v1 v2).2.1), (x62sk, x62na, x62kp), rfl, hpost, by rw [ht]; exact hP9, va_K.moved hW.alike hK, hD9⟩, hS.F ht⟩) hS.2.2 dX6_kinds_163
              · skip
                have c_30N : w62 < 6 := nI_le0 (a := 6) (b := w62) (by omega) (by omega) c_30
                refine g_aget (D := G.1) (ci := 6) (v := .ref kd) (C := RX6) (T := TX6) (N := 42) hx hb dX6_kinds_79 rfl (lv_at hl 5 rfl) hts hiX6 hown hK hP 0 rfl rfl 1 (by decide +kernel) kf7 (fun _ h9 => h9) rfl dX6_kinds_80 ?_
                refine lv_iload_n hx hb dX6_kinds_83 rfl (lv_at hl 8 rfl) ?_
                refine g_topi (y := nI (nC v2)) hv_13 ?_
                refine lv_iload hx hb dX6_kinds_84 (lv_at hl 9 rfl) ?_
                refine g_topi (y := 0) hl_27 ?_
                refine lv_if_ne (tgt := 94) hx hb dX6_kinds_86 (by decide +kernel) (fun c_37 => ?_) (fun c_37 => ?_)
                · exact absurd (by decide +kernel) c_37
                refine lv_iload hx hb dX6_kinds_89 (lv_at hl 0 rfl) ?_
                refine lv_goto (tgt := 96) hx hb dX6_kinds_91 (by decide +kernel) ?_
                refine g_iast (D := G.1) hx hb hK hP hD hS 4 0 rfl rfl (k := nC v2) (x := (nI w62)) (by omega) rfl dX6_kinds_96 (fun H locs hP hD hS => ?_)
                have hz9 : gPD G A [zo6 h0 (nI pb) kd mo st (nI jg) ro tp (nI td) cd sr (nI tx) (nI ru) him ir ih ss sq ce lw s19 s20 s21 s22 wo he s25 s26 s27 sk na kp s31 s32 s33 s34 gb go fa ga s39 s40 vo, zi G st 12 fst, zi G ro 12 fro, zi G mo 6 y62mo, zi G kd 6 (upd y62kd (nC v2) (nI w62)), zi G cd 1200 fcd, zi G sr 24 (nF fsr), zi G sk 200 x62sk, zi G na 6 x62na, zi G kp 24 x62kp, zi G sq 4 (nF fsq), zi G ce 160 fce, zi G ss 4 fss] H := ⟨hP, hD⟩
                have hP := hz9.1
                have hD := hz9.2
                refine g_aget (D := G.1) (ci := 6) (v := .ref mo) (C := RX6) (T := TX6) (N := 42) hx hb dX6_kinds_97 rfl (lv_at hl 5 rfl) hts hiX6 hown hK hP 0 rfl rfl 2 (by decide +kernel) kf13 (fun _ h9 => h9) rfl dX6_kinds_98 ?_
                refine lv_iload_n hx hb dX6_kinds_101 rfl (lv_at hl 8 rfl) ?_
                refine g_topi (y := nI (nC v2)) hv_13 ?_
                refine lv_iload hx hb dX6_kinds_102 (lv_at hl 9 rfl) ?_
                refine g_topi (y := 0) hl_27 ?_
                refine lv_iconst (v := 1) hx hb dX6_kinds_104 (by decide +kernel) ?_
                refine lv_icmp_ne (tgt := 113) hx hb dX6_kinds_105 (by decide +kernel) (fun c_40 => ?_) (fun c_40 => ?_)
                rotate_left
                · exact absurd c_40 (by decide +kernel)
                refine lv_iload hx hb dX6_kinds_113 (lv_at hl 2 rfl) ?_
                refine g_iast (D := G.1) hx hb hK hP hD hS 3 0 rfl rfl (k := nC v2) (x := (fmo (nC v2))) (by omega) rfl dX6_kinds_115 (fun H locs hP hD hS => ?_)
                have hz9 : gPD G A [zo6 h0 (nI pb) kd mo st (nI jg) ro tp (nI td) cd sr (nI tx) (nI ru) him ir ih ss sq ce lw s19 s20 s21 s22 wo he s25 s26 s27 sk na kp s31 s32 s33 s34 gb go fa ga s39 s40 vo, zi G st 12 fst, zi G ro 12 fro, zi G mo 6 (upd y62mo (nC v2) (fmo (nC v2))), zi G kd 6 (upd y62kd (nC v2) (nI w62)), zi G cd 1200 fcd, zi G sr 24 (nF fsr), zi G sk 200 x62sk, zi G na 6 x62na, zi G kp 24 x62kp, zi G sq 4 (nF fsq), zi G ce 160 fce, zi G ss 4 fss] H := ⟨hP, hD⟩
                have hP := hz9.1
                have hD := hz9.2
                refine lv_iload hx hb dX6_kinds_116 (lv_at hl 1 rfl) ?_
                refine lv_aload_n hx hb dX6_kinds_118 rfl (lv_at hl 5 rfl) ?_
                refine lv_iload_n hx hb dX6_kinds_119 rfl (lv_at hl 6 rfl) ?_
                refine g_topi (y := nI (nC v0)) hv_4 ?_
                refine lv_iload_n hx hb dX6_kinds_120 rfl (lv_at hl 7 rfl) ?_
                refine g_topi (y := nI (nC v1)) hv_6 ?_
                refine z_calli [0, 1, 2, 3, 4, 5, 6, 7, 8, 9, 10, 11] (v := m_X6_firstOther ru fst fro (upd y62mo (nC v2) (fmo (nC v2))) (upd y62kd (nC v2) (nI w62)) fcd fsr fsq fce (nC v0) (nC v1)) (fun _ ⟨_, _, _⟩ h => h) (va_runV (As := [.int (nI (nC v0)), .int (nI (nC v1))]) (rest := [.int bi]) ⟨hx, hb, hml, hown, hts⟩ (c_X6_firstOther l G h0 kd mo st ro tp cd sr ir ih ss sq ce lw wo he sk na kp gb go fa ga vo pb jg td tx ru him s19 s20 s21 s22 s25 s26 s27 s31 s32 s33 s34 s39 s40 fst fro (upd y62mo (nC v2) (fmo (nC v2))) (upd y62kd (nC v2) (nI w62)) fcd fsr x62sk x62na x62kp fsq fce (nC v0) (nC v1) H.size (by first | exact hsn | assumption | omega) (by first | exact hj | assumption | omega) (hwa _ (by omega)) (by first | exact hsq | assumption | omega) (by first | exact hvl | assumption | omega) (by first | exact hpb | assumption | omega) (by first | exact hjg | assumption | omega) (by first | exact htx | assumption | omega) (by first | exact hru | assumption | omega)) (cwV 2 hts gX6_kinds_X6_firstOther rfl rfl rfl (by decide +kernel) ⟨Nat.le_of_ble_eq_true rfl, Nat.le_of_ble_eq_true rfl⟩) ⟨gPre_blind, va_recv (q := (RX6, TX6, 42)) hK hP (ci := 6) (q0 := 0) rfl rfl, fun U hU hW => gPre_ofF [0, 1, 2, 3, 4, 5, 6, 7, 8, 9, 10, 11] hU hW hK hP hD (by decide +kernel) rfl⟩ rfl rfl hl.1 rfl (lv_room (Nat.le_of_ble_eq_true rfl)) dX6_kinds_121 ⟨Nat.le_of_ble_eq_true rfl, Nat.le_of_ble_eq_true rfl⟩) hS hD hA rfl (fun u t H locs ht hvm hB hz1 hk1 hFq hAq hS => ?_)
                obtain ⟨ysk_45, yna_46, ykp_47⟩ := u
                obtain ⟨hP1, hK1, hD1⟩ := hB
                have hz9 : gPD G A [zo6 h0 (nI pb) kd mo st (nI jg) ro tp (nI td) cd sr (nI tx) (nI ru) him ir ih ss sq ce lw s19 s20 s21 s22 wo he s25 s26 s27 sk na kp s31 s32 s33 s34 gb go fa ga s39 s40 vo, zi G st 12 fst, zi G ro 12 fro, zi G mo 6 (upd y62mo (nC v2) (fmo (nC v2))), zi G kd 6 (upd y62kd (nC v2) (nI w62)), zi G cd 1200 fcd, zi G sr 24 (nF fsr), zi G sk 200 ysk_45, zi G na 6 yna_46, zi G kp 24 ykp_47, zi G sq 4 (nF fsq), zi G ce 160 fce, zi G ss 4 fss] H := zFill hP hD [0, 1, 2, 3, 4, 5, 6, 7, 8, 9, 10, 11] [1, 2, 3, 4, 5, 6, 7, 8, 9, 10, 11, 12] hAq hk1 hFq ht hP1 hD1 rfl (by decide +kernel)
                have hP := hz9.1
                have hD := hz9.2
                refine lv_iconst (v := -1) hx hb dX6_kinds_124 (by decide +kernel) ?_
                refine lv_icmp_ne (tgt := 135) hx hb dX6_kinds_125 (by decide +kernel) (fun c_48 => ?_) (fun c_48 => ?_)
                · skip
                  refine lv_iconst (v := 0) hx hb dX6_kinds_135 (by decide +kernel) ?_
                  refine lv_ior hx hb dX6_kinds_136 ?_
                  refine lv_istore (lv' := [zI 8 (bi ||| 0), zI 9 (nI w62), zI 7 (fmo (nC v2)), zI 6 (fkd (nC v2)), zI 5 (m_X6_toldWrong pb jg fss fsq fce v0 v1), zR 0 h0, zI 1 v0, zI 2 v1, zI 3 v2, zI 4 v3]) hx hb dX6_kinds_137 hl (by decide +kernel) rfl (fun ls hl => ?_)
                  refine lv_iinc (v := nI (w62 + 1)) (lv' := [zI 9 (nI (w62 + 1)), zI 8 (bi ||| 0), zI 7 (fmo (nC v2)), zI 6 (fkd (nC v2)), zI 5 (m_X6_toldWrong pb jg fss fsq fce v0 v1), zR 0 h0, zI 1 v0, zI 2 v1, zI 3 v2, zI 4 v3]) hx hb dX6_kinds_139 hl (k := 1) rfl (nI_add w62 1) (by decide +kernel) rfl (fun ls hl => ?_)
                  refine lv_goto (tgt := 62) hx hb dX6_kinds_142 (by decide +kernel) ?_
                  exact ih9_62 (w62 + 1) (bi ||| 0) (upd y62kd (nC v2) (nI w62)) (upd y62mo (nC v2) (fmo (nC v2))) ysk_45 yna_46 ykp_47 (by omega) (Eq.trans (Eq.symm ((congrArg (fun z9 => p_X6_kinds_62 ru fst fro fmo fcd fsr fsq fce v0 v1 v2 (z9) w62 bi y62kd y62mo) (show 6 - w62 = 6 - (w62 + 1) + 1 by omega)).trans (by show p_X6_kinds_62 ru fst fro fmo fcd fsr fsq fce v0 v1 v2 (6 - (w62 + 1) + 1) w62 bi y62kd y62mo = _; rw [p_X6_kinds_62, if_neg c_48]))) R62) (by omega) _ _ hP hD hS ls hl
                · skip
                  refine lv_iconst (v := 1) hx hb dX6_kinds_128 (by decide +kernel) ?_
                  refine lv_iload hx hb dX6_kinds_129 (lv_at hl 0 rfl) ?_
                  refine lv_ishl hx hb dX6_kinds_131 ?_
                  refine lv_goto (tgt := 136) hx hb dX6_kinds_132 (by decide +kernel) ?_
                  refine lv_ior hx hb dX6_kinds_136 ?_
                  refine lv_istore (lv' := [zI 8 (bi ||| (1 <<< ((nI w62) &&& 31))), zI 9 (nI w62), zI 7 (fmo (nC v2)), zI 6 (fkd (nC v2)), zI 5 (m_X6_toldWrong pb jg fss fsq fce v0 v1), zR 0 h0, zI 1 v0, zI 2 v1, zI 3 v2, zI 4 v3]) hx hb dX6_kinds_137 hl (by decide +kernel) rfl (fun ls hl => ?_)
                  refine lv_iinc (v := nI (w62 + 1)) (lv' := [zI 9 (nI (w62 + 1)), zI 8 (bi ||| (1 <<< ((nI w62) &&& 31))), zI 7 (fmo (nC v2)), zI 6 (fkd (nC v2)), zI 5 (m_X6_toldWrong pb jg fss fsq fce v0 v1), zR 0 h0, zI 1 v0, zI 2 v1, zI 3 v2, zI 4 v3]) hx hb dX6_kinds_139 hl (k := 1) rfl (nI_add w62 1) (by decide +kernel) rfl (fun ls hl => ?_)
                  refine lv_goto (tgt := 62) hx hb dX6_kinds_142 (by decide +kernel) ?_
                  exact ih9_62 (w62 + 1) (bi ||| (1 <<< ((nI w62) &&& 31))) (upd y62kd (nC v2) (nI w62)) (upd y62mo (nC v2) (fmo (nC v2))) ysk_45 yna_46 ykp_47 (by omega) (Eq.trans (Eq.symm ((congrArg (fun z9 => p_X6_kinds_62 ru fst fro fmo fcd fsr fsq fce v0 v1 v2 (z9) w62 bi y62kd y62mo) (show 6 - w62 = 6 - (w62 + 1) + 1 by omega)).trans (by show p_X6_kinds_62 ru fst fro fmo fcd fsr fsq fce v0 v1 v2 (6 - (w62 + 1) + 1) w62 bi y62kd y62mo = _; rw [p_X6_kinds_62, if_pos c_48]))) R62) (by omega) _ _ hP hD hS ls hl
          exact loop_62 (6 - 0 + 1) 0 0 fkd fmo fsk fna fkp (by omega) (rfl) (by omega) _ _ hP hD hS ls hl
        · skip
          have hl_491 : nC v3 = 1 := by omega
          have hl_49 : v3 = 1 := by rw [hv_20, hl_491]; rfl
          refine lv_iconst (v := 0) hx hb dX6_kinds_56 (by decide +kernel) ?_
          refine lv_istore (lv' := [zI 8 0, zI 7 (fmo (nC v2)), zI 6 (fkd (nC v2)), zI 5 (m_X6_toldWrong pb jg fss fsq fce v0 v1), zR 0 h0, zI 1 v0, zI 2 v1, zI 3 v2, zI 4 v3]) hx hb dX6_kinds_57 hl (by decide +kernel) rfl (fun ls hl => ?_)
          refine lv_iconst (v := 0) hx hb dX6_kinds_59 (by decide +kernel) ?_
          refine lv_istore (lv' := [zI 9 0, zI 8 0, zI 7 (fmo (nC v2)), zI 6 (fkd (nC v2)), zI 5 (m_X6_toldWrong pb jg fss fsq fce v0 v1), zR 0 h0, zI 1 v0, zI 2 v1, zI 3 v2, zI 4 v3]) hx hb dX6_kinds_60 hl (by decide +kernel) rfl (fun ls hl => ?_)
          have loop_62 : ∀ (n9 : Nat) (w62 : Nat) (bi : Int32) (y62kd : Nat → Int32) (y62mo : Nat → Int32) (x62sk : Nat → Int32) (x62na : Nat → Int32) (x62kp : Nat → Int32), (w62 ≤ 10) → (p_X6_kinds_62q1 ru fst fro fkd fcd fsr fsq fce v0 v1 v2 (10 - w62) w62 bi y62kd y62mo = (g_X6_kinds_62q1 ru fst fro fmo fkd fcd fsr fsq fce v0 v1 v2)) → (10 - w62) < n9 → ∀ (H : Heap) (locs : List Loc), va_P G.1 vwCl [zo6 h0 (nI pb) kd mo st (nI jg) ro tp (nI td) cd sr (nI tx) (nI ru) him ir ih ss sq ce lw s19 s20 s21 s22 wo he s25 s26 s27 sk na kp s31 s32 s33 s34 gb go fa ga s39 s40 vo, zi G st 12 fst, zi G ro 12 fro, zi G mo 6 y62mo, zi G kd 6 y62kd, zi G cd 1200 fcd, zi G sr 24 (nF fsr), zi G sk 200 x62sk, zi G na 6 x62na, zi G kp 24 x62kp, zi G sq 4 (nF fsq), zi G ce 160 fce, zi G ss 4 fss] H → va_D A [zo6 h0 (nI pb) kd mo st (nI jg) ro tp (nI td) cd sr (nI tx) (nI ru) him ir ih ss sq ce lw s19 s20 s21 s22 wo he s25 s26 s27 sk na kp s31 s32 s33 s34 gb go fa ga s39 s40 vo, zi G st 12 fst, zi G ro 12 fro, zi G mo 6 y62mo, zi G kd 6 y62kd, zi G cd 1200 fcd, zi G sr 24 (nF fsr), zi G sk 200 x62sk, zi G na 6 x62na, zi G kp 24 x62kp, zi G sq 4 (nF fsq), zi G ce 160 fce, zi G ss 4 fss] → va_S A s.heap H locs → ∀ ls : Array Slot, lv_has ls 10 [zI 9 (nI w62), zI 8 bi, zI 7 (fmo (nC v2)), zI 6 (fkd (nC v2)), zI 5 (m_X6_toldWrong pb jg fss fsq fce v0 v1), zR 0 h0, zI 1 v0, zI 2 v1, zI 3 v2, zI 4 v3] → W p l e (headSpec wsX6_kinds ({ frames := 7, cells := 0, slots := 0, locals := 172 })).room s m ([.ref h0, .int v0, .int v1, .int v2, .int v3] : List Value).toArray below meth c H locs 0 0 (MQ below (q_X6_kinds G h0 kd mo st ro tp cd sr ir ih ss sq ce lw wo he sk na kp gb go fa ga vo pb jg td tx ru him s19 s20 s21 s22 s25 s26 s27 s31 s32 s33 s34 s39 s40 fst fro fmo fkd fcd fsr fsk fna fkp fsq fce fss v0 v1 v2 v3 A) ([.ref h0, .int v0, .int v1, .int v2, .int v3] : List Value).toArray s 0 0 A) (F0 m 62 ls []) := by
            intro n9
            induction n9 with
            | zero => intro w62 bi y62kd y62mo x62sk x62na x62kp hw62 R62 hm9_62; exact absurd hm9_62 (Nat.not_lt_zero _)
            | succ n9 ih9_62 =>
              intro w62 bi y62kd y62mo x62sk x62na x62kp hw62 R62 hm9_62 H locs hP hD hS ls hl
              refine lv_iload hx hb dX6_kinds_62 (lv_at hl 0 rfl) ?_
              refine lv_iload hx hb dX6_kinds_64 (lv_at hl 9 rfl) ?_
              refine g_topi (y := 1) hl_49 ?_
              refine lv_if_ne (tgt := 74) hx hb dX6_kinds_66 (by decide +kernel) (fun c_51 => ?_) (fun c_51 => ?_)
              rotate_left
              · exact absurd c_51 (by decide +kernel)
              refine lv_bipush (v := 10) hx hb dX6_kinds_74 (by decide +kernel) ?_
              refine lv_icmp_ge (tgt := 145) hx hb dX6_kinds_76 (by decide +kernel) (fun c_52 => ?_) (fun c_52 => ?_)
              · skip
                have c_52N : 10 ≤ w62 := nI_le1 (a := 10) (b := w62) (by omega) (by omega) c_52
                have hF62 : (g_X6_kinds_62q1 ru fst fro fmo fkd fcd fsr fsq fce v0 v1 v2) = (w62, bi, y62kd, y62mo) := by rw [← R62, show 10 - w62 = 0 by omega]; rfl
                have hE62_0 : w62 = ((g_X6_kinds_62q1 ru fst fro fmo fkd fcd fsr fsq fce v0 v1 v2).1) := by rw [hF62]
                have hE62_1 : bi = ((g_X6_kinds_62q1 ru fst fro fmo fkd fcd fsr fsq fce v0 v1 v2).2.1) := by rw [hF62]
                have hE62_2 : y62kd = ((g_X6_kinds_62q1 ru fst fro fmo fkd fcd fsr fsq fce v0 v1 v2).2.2.1) := by rw [hF62]
                have hE62_3 : y62mo = ((g_X6_kinds_62q1 ru fst fro fmo fkd fcd fsr fsq fce v0 v1 v2).2.2.2) := by rw [hF62]
                clear hF62 R62
                subst hE62_0
                subst hE62_1
                subst hE62_2
                subst hE62_3
                refine g_aget (D := G.1) (ci := 6) (v := .ref kd) (C := RX6) (T := TX6) (N := 42) hx hb dX6_kinds_145 rfl (lv_at hl 5 rfl) hts hiX6 hown hK hP 0 rfl rfl 1 (by decide +kernel) kf7 (fun _ h9 => h9) rfl dX6_kinds_146 ?_
                refine lv_iload_n hx hb dX6_kinds_149 rfl (lv_at hl 8 rfl) ?_
                refine g_topi (y := nI (nC v2)) hv_13 ?_
                refine lv_iload hx hb dX6_kinds_150 (lv_at hl 3 rfl) ?_
                refine g_iast (D := G.1) hx hb hK hP hD hS 4 0 rfl rfl (k := nC v2) (x := (fkd (nC v2))) (by omega) rfl dX6_kinds_152 (fun H locs hP hD hS => ?_)
                have hz9 : gPD G A [zo6 h0 (nI pb) kd mo st (nI jg) ro tp (nI td) cd sr (nI tx) (nI ru) him ir ih ss sq ce lw s19 s20 s21 s22 wo he s25 s26 s27 sk na kp s31 s32 s33 s34 gb go fa ga s39 s40 vo, zi G st 12 fst, zi G ro 12 fro, zi G mo 6 ((g_X6_kinds_62q1 ru fst fro fmo fkd fcd fsr fsq fce v0 v1 v2).2.2.2), zi G kd 6 (upd ((g_X6_kinds_62q1 ru fst fro fmo fkd fcd fsr fsq fce v0 v1 v2).2.2.1) (nC v2) (fkd (nC v2))), zi G cd 1200 fcd, zi G sr 24 (nF fsr), zi G sk 200 x62sk, zi G na 6 x62na, zi G kp 24 x62kp, zi G sq 4 (nF fsq), zi G ce 160 fce, zi G ss 4 fss] H := ⟨hP, hD⟩
                have hP := hz9.1
                have hD := hz9.2
                refine g_aget (D := G.1) (ci := 6) (v := .ref mo) (C := RX6) (T := TX6) (N := 42) hx hb dX6_kinds_153 rfl (lv_at hl 5 rfl) hts hiX6 hown hK hP 0 rfl rfl 2 (by decide +kernel) kf13 (fun _ h9 => h9) rfl dX6_kinds_154 ?_
                refine lv_iload_n hx hb dX6_kinds_157 rfl (lv_at hl 8 rfl) ?_
                refine g_topi (y := nI (nC v2)) hv_13 ?_
                refine lv_iload hx hb dX6_kinds_158 (lv_at hl 2 rfl) ?_
                refine g_iast (D := G.1) hx hb hK hP hD hS 3 0 rfl rfl (k := nC v2) (x := (fmo (nC v2))) (by omega) rfl dX6_kinds_160 (fun H locs hP hD hS => ?_)
                have hz9 : gPD G A [zo6 h0 (nI pb) kd mo st (nI jg) ro tp (nI td) cd sr (nI tx) (nI ru) him ir ih ss sq ce lw s19 s20 s21 s22 wo he s25 s26 s27 sk na kp s31 s32 s33 s34 gb go fa ga s39 s40 vo, zi G st 12 fst, zi G ro 12 fro, zi G mo 6 (upd ((g_X6_kinds_62q1 ru fst fro fmo fkd fcd fsr fsq fce v0 v1 v2).2.2.2) (nC v2) (fmo (nC v2))), zi G kd 6 (upd ((g_X6_kinds_62q1 ru fst fro fmo fkd fcd fsr fsq fce v0 v1 v2).2.2.1) (nC v2) (fkd (nC v2))), zi G cd 1200 fcd, zi G sr 24 (nF fsr), zi G sk 200 x62sk, zi G na 6 x62na, zi G kp 24 x62kp, zi G sq 4 (nF fsq), zi G ce 160 fce, zi G ss 4 fss] H := ⟨hP, hD⟩
                have hP := hz9.1
                have hD := hz9.2
                refine lv_iload hx hb dX6_kinds_161 (lv_at hl 1 rfl) ?_
                have q_55 : m_X6_kinds_mo pb jg ru fst fro fmo fkd fcd fsr fsq fce fss v0 v1 v2 v3 = upd ((g_X6_kinds_62q1 ru fst fro fmo fkd fcd fsr fsq fce v0 v1 v2).2.2.2) (nC v2) (fmo (nC v2)) := by unfold m_X6_kinds_mo; rw [if_pos c_3, if_pos p_11, if_pos p_18, if_neg hz_26]
                have q_56 : m_X6_kinds_kd pb jg ru fst fro fmo fkd fcd fsr fsq fce fss v0 v1 v2 v3 = upd ((g_X6_kinds_62q1 ru fst fro fmo fkd fcd fsr fsq fce v0 v1 v2).2.2.1) (nC v2) (fkd (nC v2)) := by unfold m_X6_kinds_kd; rw [if_pos c_3, if_pos p_11, if_pos p_18, if_neg hz_26]
                have hz9 : gPD G A [zo6 h0 (nI pb) kd mo st (nI jg) ro tp (nI td) cd sr (nI tx) (nI ru) him ir ih ss sq ce lw s19 s20 s21 s22 wo he s25 s26 s27 sk na kp s31 s32 s33 s34 gb go fa ga s39 s40 vo, zi G st 12 fst, zi G ro 12 fro, zi G mo 6 (m_X6_kinds_mo pb jg ru fst fro fmo fkd fcd fsr fsq fce fss v0 v1 v2 v3), zi G kd 6 (m_X6_kinds_kd pb jg ru fst fro fmo fkd fcd fsr fsq fce fss v0 v1 v2 v3), zi G cd 1200 fcd, zi G sr 24 (nF fsr), zi G sk 200 x62sk, zi G na 6 x62na, zi G kp 24 x62kp, zi G sq 4 (nF fsq), zi G ce 160 fce, zi G ss 4 fss] H := ⟨by rw [q_55, q_56]; exact hP, by rw [q_55, q_56]; exact hD⟩
                have hP9 := hz9.1
                have hD9 := hz9.2
                have hpost : (fun (r : Int32) (u : (Nat → Int32) × (Nat → Int32) × (Nat → Int32)) => match u with | (ysk, yna, ykp) => r = m_X6_kinds pb jg ru fst fro fmo fkd fcd fsr fsq fce fss v0 v1 v2 v3) ((g_X6_kinds_62q1 ru fst fro fmo fkd fcd fsr fsq fce v0 v1 v2).2.1) (x62sk, x62na, x62kp) := (show m_X6_kinds pb jg ru fst fro fmo fkd fcd fsr fsq fce fss v0 v1 v2 v3 = ((g_X6_kinds_62q1 ru fst fro fmo fkd fcd fsr fsq fce v0 v1 v2).2.1) from by unfold m_X6_kinds; rw [if_pos c_3, if_pos p_11, if_pos p_18, if_neg hz_26]).symm
                exact W.iret (v := ((g_X6_kinds_62q1 ru fst fro fmo fkd fcd fsr fsq fce v0 v1 v2).2.1)) hx hb hr (fun t ht hW => ⟨⟨((g_X6_kinds_62q1 ru fst fro fmo fkd fcd fsr fsq fce v0 v1 v2).2.1), (x62sk, x62na, x62kp), rfl, hpost, by rw [ht]; exact hP9, va_K.moved hW.alike hK, hD9⟩, hS.F ht⟩) hS.2.2 dX6_kinds_163
              · skip
                have c_52N : w62 < 10 := nI_le0 (a := 10) (b := w62) (by omega) (by omega) c_52
                refine g_aget (D := G.1) (ci := 6) (v := .ref kd) (C := RX6) (T := TX6) (N := 42) hx hb dX6_kinds_79 rfl (lv_at hl 5 rfl) hts hiX6 hown hK hP 0 rfl rfl 1 (by decide +kernel) kf7 (fun _ h9 => h9) rfl dX6_kinds_80 ?_
                refine lv_iload_n hx hb dX6_kinds_83 rfl (lv_at hl 8 rfl) ?_
                refine g_topi (y := nI (nC v2)) hv_13 ?_
                refine lv_iload hx hb dX6_kinds_84 (lv_at hl 9 rfl) ?_
                refine g_topi (y := 1) hl_49 ?_
                refine lv_if_ne (tgt := 94) hx hb dX6_kinds_86 (by decide +kernel) (fun c_59 => ?_) (fun c_59 => ?_)
                rotate_left
                · exact absurd c_59 (by decide +kernel)
                refine lv_iload hx hb dX6_kinds_94 (lv_at hl 3 rfl) ?_
                refine g_iast (D := G.1) hx hb hK hP hD hS 4 0 rfl rfl (k := nC v2) (x := (fkd (nC v2))) (by omega) rfl dX6_kinds_96 (fun H locs hP hD hS => ?_)
                have hz9 : gPD G A [zo6 h0 (nI pb) kd mo st (nI jg) ro tp (nI td) cd sr (nI tx) (nI ru) him ir ih ss sq ce lw s19 s20 s21 s22 wo he s25 s26 s27 sk na kp s31 s32 s33 s34 gb go fa ga s39 s40 vo, zi G st 12 fst, zi G ro 12 fro, zi G mo 6 y62mo, zi G kd 6 (upd y62kd (nC v2) (fkd (nC v2))), zi G cd 1200 fcd, zi G sr 24 (nF fsr), zi G sk 200 x62sk, zi G na 6 x62na, zi G kp 24 x62kp, zi G sq 4 (nF fsq), zi G ce 160 fce, zi G ss 4 fss] H := ⟨hP, hD⟩
                have hP := hz9.1
                have hD := hz9.2
                refine g_aget (D := G.1) (ci := 6) (v := .ref mo) (C := RX6) (T := TX6) (N := 42) hx hb dX6_kinds_97 rfl (lv_at hl 5 rfl) hts hiX6 hown hK hP 0 rfl rfl 2 (by decide +kernel) kf13 (fun _ h9 => h9) rfl dX6_kinds_98 ?_
                refine lv_iload_n hx hb dX6_kinds_101 rfl (lv_at hl 8 rfl) ?_
                refine g_topi (y := nI (nC v2)) hv_13 ?_
                refine lv_iload hx hb dX6_kinds_102 (lv_at hl 9 rfl) ?_
                refine g_topi (y := 1) hl_49 ?_
                refine lv_iconst (v := 1) hx hb dX6_kinds_104 (by decide +kernel) ?_
                refine lv_icmp_ne (tgt := 113) hx hb dX6_kinds_105 (by decide +kernel) (fun c_62 => ?_) (fun c_62 => ?_)
                · exact absurd (by decide +kernel) c_62
                refine lv_iload hx hb dX6_kinds_108 (lv_at hl 0 rfl) ?_
                refine lv_goto (tgt := 115) hx hb dX6_kinds_110 (by decide +kernel) ?_
                refine g_iast (D := G.1) hx hb hK hP hD hS 3 0 rfl rfl (k := nC v2) (x := (nI w62)) (by omega) rfl dX6_kinds_115 (fun H locs hP hD hS => ?_)
                have hz9 : gPD G A [zo6 h0 (nI pb) kd mo st (nI jg) ro tp (nI td) cd sr (nI tx) (nI ru) him ir ih ss sq ce lw s19 s20 s21 s22 wo he s25 s26 s27 sk na kp s31 s32 s33 s34 gb go fa ga s39 s40 vo, zi G st 12 fst, zi G ro 12 fro, zi G mo 6 (upd y62mo (nC v2) (nI w62)), zi G kd 6 (upd y62kd (nC v2) (fkd (nC v2))), zi G cd 1200 fcd, zi G sr 24 (nF fsr), zi G sk 200 x62sk, zi G na 6 x62na, zi G kp 24 x62kp, zi G sq 4 (nF fsq), zi G ce 160 fce, zi G ss 4 fss] H := ⟨hP, hD⟩
                have hP := hz9.1
                have hD := hz9.2
                refine lv_iload hx hb dX6_kinds_116 (lv_at hl 1 rfl) ?_
                refine lv_aload_n hx hb dX6_kinds_118 rfl (lv_at hl 5 rfl) ?_
                refine lv_iload_n hx hb dX6_kinds_119 rfl (lv_at hl 6 rfl) ?_
                refine g_topi (y := nI (nC v0)) hv_4 ?_
                refine lv_iload_n hx hb dX6_kinds_120 rfl (lv_at hl 7 rfl) ?_
                refine g_topi (y := nI (nC v1)) hv_6 ?_
                refine z_calli [0, 1, 2, 3, 4, 5, 6, 7, 8, 9, 10, 11] (v := m_X6_firstOther ru fst fro (upd y62mo (nC v2) (nI w62)) (upd y62kd (nC v2) (fkd (nC v2))) fcd fsr fsq fce (nC v0) (nC v1)) (fun _ ⟨_, _, _⟩ h => h) (va_runV (As := [.int (nI (nC v0)), .int (nI (nC v1))]) (rest := [.int bi]) ⟨hx, hb, hml, hown, hts⟩ (c_X6_firstOther l G h0 kd mo st ro tp cd sr ir ih ss sq ce lw wo he sk na kp gb go fa ga vo pb jg td tx ru him s19 s20 s21 s22 s25 s26 s27 s31 s32 s33 s34 s39 s40 fst fro (upd y62mo (nC v2) (nI w62)) (upd y62kd (nC v2) (fkd (nC v2))) fcd fsr x62sk x62na x62kp fsq fce (nC v0) (nC v1) H.size (by first | exact hsn | assumption | omega) (by first | exact hj | assumption | omega) (hwa _ (by omega)) (by first | exact hsq | assumption | omega) (by first | exact hvl | assumption | omega) (by first | exact hpb | assumption | omega) (by first | exact hjg | assumption | omega) (by first | exact htx | assumption | omega) (by first | exact hru | assumption | omega)) (cwV 2 hts gX6_kinds_X6_firstOther rfl rfl rfl (by decide +kernel) ⟨Nat.le_of_ble_eq_true rfl, Nat.le_of_ble_eq_true rfl⟩) ⟨gPre_blind, va_recv (q := (RX6, TX6, 42)) hK hP (ci := 6) (q0 := 0) rfl rfl, fun U hU hW => gPre_ofF [0, 1, 2, 3, 4, 5, 6, 7, 8, 9, 10, 11] hU hW hK hP hD (by decide +kernel) rfl⟩ rfl rfl hl.1 rfl (lv_room (Nat.le_of_ble_eq_true rfl)) dX6_kinds_121 ⟨Nat.le_of_ble_eq_true rfl, Nat.le_of_ble_eq_true rfl⟩) hS hD hA rfl (fun u t H locs ht hvm hB hz1 hk1 hFq hAq hS => ?_)
                obtain ⟨ysk_67, yna_68, ykp_69⟩ := u
                obtain ⟨hP1, hK1, hD1⟩ := hB
                have hz9 : gPD G A [zo6 h0 (nI pb) kd mo st (nI jg) ro tp (nI td) cd sr (nI tx) (nI ru) him ir ih ss sq ce lw s19 s20 s21 s22 wo he s25 s26 s27 sk na kp s31 s32 s33 s34 gb go fa ga s39 s40 vo, zi G st 12 fst, zi G ro 12 fro, zi G mo 6 (upd y62mo (nC v2) (nI w62)), zi G kd 6 (upd y62kd (nC v2) (fkd (nC v2))), zi G cd 1200 fcd, zi G sr 24 (nF fsr), zi G sk 200 ysk_67, zi G na 6 yna_68, zi G kp 24 ykp_69, zi G sq 4 (nF fsq), zi G ce 160 fce, zi G ss 4 fss] H := zFill hP hD [0, 1, 2, 3, 4, 5, 6, 7, 8, 9, 10, 11] [1, 2, 3, 4, 5, 6, 7, 8, 9, 10, 11, 12] hAq hk1 hFq ht hP1 hD1 rfl (by decide +kernel)
                have hP := hz9.1
                have hD := hz9.2
                refine lv_iconst (v := -1) hx hb dX6_kinds_124 (by decide +kernel) ?_
                refine lv_icmp_ne (tgt := 135) hx hb dX6_kinds_125 (by decide +kernel) (fun c_70 => ?_) (fun c_70 => ?_)
                · skip
                  refine lv_iconst (v := 0) hx hb dX6_kinds_135 (by decide +kernel) ?_
                  refine lv_ior hx hb dX6_kinds_136 ?_
                  refine lv_istore (lv' := [zI 8 (bi ||| 0), zI 9 (nI w62), zI 7 (fmo (nC v2)), zI 6 (fkd (nC v2)), zI 5 (m_X6_toldWrong pb jg fss fsq fce v0 v1), zR 0 h0, zI 1 v0, zI 2 v1, zI 3 v2, zI 4 v3]) hx hb dX6_kinds_137 hl (by decide +kernel) rfl (fun ls hl => ?_)
                  refine lv_iinc (v := nI (w62 + 1)) (lv' := [zI 9 (nI (w62 + 1)), zI 8 (bi ||| 0), zI 7 (fmo (nC v2)), zI 6 (fkd (nC v2)), zI 5 (m_X6_toldWrong pb jg fss fsq fce v0 v1), zR 0 h0, zI 1 v0, zI 2 v1, zI 3 v2, zI 4 v3]) hx hb dX6_kinds_139 hl (k := 1) rfl (nI_add w62 1) (by decide +kernel) rfl (fun ls hl => ?_)
                  refine lv_goto (tgt := 62) hx hb dX6_kinds_142 (by decide +kernel) ?_
                  exact ih9_62 (w62 + 1) (bi ||| 0) (upd y62kd (nC v2) (fkd (nC v2))) (upd y62mo (nC v2) (nI w62)) ysk_67 yna_68 ykp_69 (by omega) (Eq.trans (Eq.symm ((congrArg (fun z9 => p_X6_kinds_62q1 ru fst fro fkd fcd fsr fsq fce v0 v1 v2 (z9) w62 bi y62kd y62mo) (show 10 - w62 = 10 - (w62 + 1) + 1 by omega)).trans (by show p_X6_kinds_62q1 ru fst fro fkd fcd fsr fsq fce v0 v1 v2 (10 - (w62 + 1) + 1) w62 bi y62kd y62mo = _; rw [p_X6_kinds_62q1, if_neg c_70]))) R62) (by omega) _ _ hP hD hS ls hl
                · skip
                  refine lv_iconst (v := 1) hx hb dX6_kinds_128 (by decide +kernel) ?_
                  refine lv_iload hx hb dX6_kinds_129 (lv_at hl 0 rfl) ?_
                  refine lv_ishl hx hb dX6_kinds_131 ?_
                  refine lv_goto (tgt := 136) hx hb dX6_kinds_132 (by decide +kernel) ?_
                  refine lv_ior hx hb dX6_kinds_136 ?_
                  refine lv_istore (lv' := [zI 8 (bi ||| (1 <<< ((nI w62) &&& 31))), zI 9 (nI w62), zI 7 (fmo (nC v2)), zI 6 (fkd (nC v2)), zI 5 (m_X6_toldWrong pb jg fss fsq fce v0 v1), zR 0 h0, zI 1 v0, zI 2 v1, zI 3 v2, zI 4 v3]) hx hb dX6_kinds_137 hl (by decide +kernel) rfl (fun ls hl => ?_)
                  refine lv_iinc (v := nI (w62 + 1)) (lv' := [zI 9 (nI (w62 + 1)), zI 8 (bi ||| (1 <<< ((nI w62) &&& 31))), zI 7 (fmo (nC v2)), zI 6 (fkd (nC v2)), zI 5 (m_X6_toldWrong pb jg fss fsq fce v0 v1), zR 0 h0, zI 1 v0, zI 2 v1, zI 3 v2, zI 4 v3]) hx hb dX6_kinds_139 hl (k := 1) rfl (nI_add w62 1) (by decide +kernel) rfl (fun ls hl => ?_)
                  refine lv_goto (tgt := 62) hx hb dX6_kinds_142 (by decide +kernel) ?_
                  exact ih9_62 (w62 + 1) (bi ||| (1 <<< ((nI w62) &&& 31))) (upd y62kd (nC v2) (fkd (nC v2))) (upd y62mo (nC v2) (nI w62)) ysk_67 yna_68 ykp_69 (by omega) (Eq.trans (Eq.symm ((congrArg (fun z9 => p_X6_kinds_62q1 ru fst fro fkd fcd fsr fsq fce v0 v1 v2 (z9) w62 bi y62kd y62mo) (show 10 - w62 = 10 - (w62 + 1) + 1 by omega)).trans (by show p_X6_kinds_62q1 ru fst fro fkd fcd fsr fsq fce v0 v1 v2 (10 - (w62 + 1) + 1) w62 bi y62kd y62mo = _; rw [p_X6_kinds_62q1, if_pos c_70]))) R62) (by omega) _ _ hP hD hS ls hl
          exact loop_62 (10 - 0 + 1) 0 0 fkd fmo fsk fna fkp (by omega) (rfl) (by omega) _ _ hP hD hS ls hl
      · skip
        have n_19 : ¬ (0 ≤ v3 ∧ v3 ≤ 1) := of_decide_eq_false (bz_eq rfl c_17)
        refine lv_bipush (v := -7) hx hb dX6_kinds_37 (by decide +kernel) ?_
        have q_71 : m_X6_kinds_mo pb jg ru fst fro fmo fkd fcd fsr fsq fce fss v0 v1 v2 v3 = fmo := by unfold m_X6_kinds_mo; rw [if_pos c_3, if_pos p_11, if_neg n_19]
        have q_72 : m_X6_kinds_kd pb jg ru fst fro fmo fkd fcd fsr fsq fce fss v0 v1 v2 v3 = fkd := by unfold m_X6_kinds_kd; rw [if_pos c_3, if_pos p_11, if_neg n_19]
        have hz9 : gPD G A [zo6 h0 (nI pb) kd mo st (nI jg) ro tp (nI td) cd sr (nI tx) (nI ru) him ir ih ss sq ce lw s19 s20 s21 s22 wo he s25 s26 s27 sk na kp s31 s32 s33 s34 gb go fa ga s39 s40 vo, zi G st 12 fst, zi G ro 12 fro, zi G mo 6 (m_X6_kinds_mo pb jg ru fst fro fmo fkd fcd fsr fsq fce fss v0 v1 v2 v3), zi G kd 6 (m_X6_kinds_kd pb jg ru fst fro fmo fkd fcd fsr fsq fce fss v0 v1 v2 v3), zi G cd 1200 fcd, zi G sr 24 (nF fsr), zi G sk 200 fsk, zi G na 6 fna, zi G kp 24 fkp, zi G sq 4 (nF fsq), zi G ce 160 fce, zi G ss 4 fss] H := ⟨by rw [q_71, q_72]; exact hP, by rw [q_71, q_72]; exact hD⟩
        have hP9 := hz9.1
        have hD9 := hz9.2
        have hpost : (fun (r : Int32) (u : (Nat → Int32) × (Nat → Int32) × (Nat → Int32)) => match u with | (ysk, yna, ykp) => r = m_X6_kinds pb jg ru fst fro fmo fkd fcd fsr fsq fce fss v0 v1 v2 v3) (-7) (fsk, fna, fkp) := (show m_X6_kinds pb jg ru fst fro fmo fkd fcd fsr fsq fce fss v0 v1 v2 v3 = (-7) from by unfold m_X6_kinds; rw [if_pos c_3, if_pos p_11, if_neg n_19]).symm
        exact W.iret (v := (-7)) hx hb hr (fun t ht hW => ⟨⟨(-7), (fsk, fna, fkp), rfl, hpost, by rw [ht]; exact hP9, va_K.moved hW.alike hK, hD9⟩, hS.F ht⟩) hS.2.2 dX6_kinds_39
    · skip
      have n_12 : (mHas pb v2) = false := bz_eq rfl c_10
      have n_12N : ¬ ((mHas pb v2) = true) := by rw [n_12]; decide
      refine lv_bipush (v := -6) hx hb dX6_kinds_24 (by decide +kernel) ?_
      have q_73 : m_X6_kinds_mo pb jg ru fst fro fmo fkd fcd fsr fsq fce fss v0 v1 v2 v3 = fmo := by unfold m_X6_kinds_mo; rw [if_pos c_3, if_neg n_12N]
      have q_74 : m_X6_kinds_kd pb jg ru fst fro fmo fkd fcd fsr fsq fce fss v0 v1 v2 v3 = fkd := by unfold m_X6_kinds_kd; rw [if_pos c_3, if_neg n_12N]
      have hz9 : gPD G A [zo6 h0 (nI pb) kd mo st (nI jg) ro tp (nI td) cd sr (nI tx) (nI ru) him ir ih ss sq ce lw s19 s20 s21 s22 wo he s25 s26 s27 sk na kp s31 s32 s33 s34 gb go fa ga s39 s40 vo, zi G st 12 fst, zi G ro 12 fro, zi G mo 6 (m_X6_kinds_mo pb jg ru fst fro fmo fkd fcd fsr fsq fce fss v0 v1 v2 v3), zi G kd 6 (m_X6_kinds_kd pb jg ru fst fro fmo fkd fcd fsr fsq fce fss v0 v1 v2 v3), zi G cd 1200 fcd, zi G sr 24 (nF fsr), zi G sk 200 fsk, zi G na 6 fna, zi G kp 24 fkp, zi G sq 4 (nF fsq), zi G ce 160 fce, zi G ss 4 fss] H := ⟨by rw [q_73, q_74]; exact hP, by rw [q_73, q_74]; exact hD⟩
      have hP9 := hz9.1
      have hD9 := hz9.2
      have hpost : (fun (r : Int32) (u : (Nat → Int32) × (Nat → Int32) × (Nat → Int32)) => match u with | (ysk, yna, ykp) => r = m_X6_kinds pb jg ru fst fro fmo fkd fcd fsr fsq fce fss v0 v1 v2 v3) (-6) (fsk, fna, fkp) := (show m_X6_kinds pb jg ru fst fro fmo fkd fcd fsr fsq fce fss v0 v1 v2 v3 = (-6) from by unfold m_X6_kinds; rw [if_pos c_3, if_neg n_12N]).symm
      exact W.iret (v := (-6)) hx hb hr (fun t ht hW => ⟨⟨(-6), (fsk, fna, fkp), rfl, hpost, by rw [ht]; exact hP9, va_K.moved hW.alike hK, hD9⟩, hS.F ht⟩) hS.2.2 dX6_kinds_26
  · skip
    refine lv_iload hx hb dX6_kinds_13 (lv_at hl 0 rfl) ?_
    have q_75 : m_X6_kinds_mo pb jg ru fst fro fmo fkd fcd fsr fsq fce fss v0 v1 v2 v3 = fmo := by unfold m_X6_kinds_mo; rw [if_neg c_3]
    have q_76 : m_X6_kinds_kd pb jg ru fst fro fmo fkd fcd fsr fsq fce fss v0 v1 v2 v3 = fkd := by unfold m_X6_kinds_kd; rw [if_neg c_3]
    have hz9 : gPD G A [zo6 h0 (nI pb) kd mo st (nI jg) ro tp (nI td) cd sr (nI tx) (nI ru) him ir ih ss sq ce lw s19 s20 s21 s22 wo he s25 s26 s27 sk na kp s31 s32 s33 s34 gb go fa ga s39 s40 vo, zi G st 12 fst, zi G ro 12 fro, zi G mo 6 (m_X6_kinds_mo pb jg ru fst fro fmo fkd fcd fsr fsq fce fss v0 v1 v2 v3), zi G kd 6 (m_X6_kinds_kd pb jg ru fst fro fmo fkd fcd fsr fsq fce fss v0 v1 v2 v3), zi G cd 1200 fcd, zi G sr 24 (nF fsr), zi G sk 200 fsk, zi G na 6 fna, zi G kp 24 fkp, zi G sq 4 (nF fsq), zi G ce 160 fce, zi G ss 4 fss] H := ⟨by rw [q_75, q_76]; exact hP, by rw [q_75, q_76]; exact hD⟩
    have hP9 := hz9.1
    have hD9 := hz9.2
    have hpost : (fun (r : Int32) (u : (Nat → Int32) × (Nat → Int32) × (Nat → Int32)) => match u with | (ysk, yna, ykp) => r = m_X6_kinds pb jg ru fst fro fmo fkd fcd fsr fsq fce fss v0 v1 v2 v3) (m_X6_toldWrong pb jg fss fsq fce v0 v1) (fsk, fna, fkp) := (show m_X6_kinds pb jg ru fst fro fmo fkd fcd fsr fsq fce fss v0 v1 v2 v3 = (m_X6_toldWrong pb jg fss fsq fce v0 v1) from by unfold m_X6_kinds; rw [if_neg c_3]).symm
    exact W.iret (v := (m_X6_toldWrong pb jg fss fsq fce v0 v1)) hx hb hr (fun t ht hW => ⟨⟨(m_X6_toldWrong pb jg fss fsq fce v0 v1), (fsk, fna, fkp), rfl, hpost, by rw [ht]; exact hP9, va_K.moved hW.alike hK, hD9⟩, hS.F ht⟩) hS.2.2 dX6_kinds_15
noncomputable def p_X6_sizes_79 (ru : Nat) (fro : Nat → Int32) (fmo : Nat → Int32) (fkd : Nat → Int32) (fcd : Nat → Int32) (fsr : Nat → Nat) (fsq : Nat → Nat) (fce : Nat → Int32) (v0 : Int32) (v1 : Int32) (v2 : Int32) (v3 : Int32) : Nat → Nat → Int32 → Int32 → (Nat → Int32) → Nat × Int32 × Int32 × (Nat → Int32)
  | 0, w79, mn, le, y79st => (w79, mn, le, y79st)
  | q9 + 1, w79, mn, le, y79st => if (m_X6_firstOther ru (upd y79st ((2 * (nC v2)) + ((nC v3) / 10)) (nI w79)) fro fmo fkd fcd fsr fsq fce (nC v0) (nC v1)) = (-1) then (if le = (-1) then p_X6_sizes_79 ru fro fmo fkd fcd fsr fsq fce v0 v1 v2 v3 q9 (w79 + 1) (mn + 1) (nI w79) (upd y79st ((2 * (nC v2)) + ((nC v3) / 10)) (nI w79)) else p_X6_sizes_79 ru fro fmo fkd fcd fsr fsq fce v0 v1 v2 v3 q9 (w79 + 1) (mn + 1) le (upd y79st ((2 * (nC v2)) + ((nC v3) / 10)) (nI w79))) else p_X6_sizes_79 ru fro fmo fkd fcd fsr fsq fce v0 v1 v2 v3 q9 (w79 + 1) (mn + 0) le (upd y79st ((2 * (nC v2)) + ((nC v3) / 10)) (nI w79))
noncomputable def g_X6_sizes_79 (ru : Nat) (fst : Nat → Int32) (fro : Nat → Int32) (fmo : Nat → Int32) (fkd : Nat → Int32) (fcd : Nat → Int32) (fsr : Nat → Nat) (fsq : Nat → Nat) (fce : Nat → Int32) (v0 : Int32) (v1 : Int32) (v2 : Int32) (v3 : Int32) : Nat × Int32 × Int32 × (Nat → Int32) := p_X6_sizes_79 ru fro fmo fkd fcd fsr fsq fce v0 v1 v2 v3 (100 - 0) 0 0 (-1) fst
noncomputable def m_X6_sizes (pb : Nat) (jg : Nat) (ru : Nat) (fst : Nat → Int32) (fro : Nat → Int32) (fmo : Nat → Int32) (fkd : Nat → Int32) (fcd : Nat → Int32) (fsr : Nat → Nat) (fsq : Nat → Nat) (fce : Nat → Int32) (fss : Nat → Int32) (v0 : Int32) (v1 : Int32) (v2 : Int32) (v3 : Int32) : Int32 := if (m_X6_toldWrong pb jg fss fsq fce v0 v1) = 0 then (if (mHas pb v2) = true then (if 0 ≤ v3 ∧ v3 ≤ 11 then (if (nI ((nC v3) % 10)) ≤ 1 then (if (nI ((nC v3) % 10)) = 0 then ((g_X6_sizes_79 ru fst fro fmo fkd fcd fsr fsq fce v0 v1 v2 v3).2.1) else ((g_X6_sizes_79 ru fst fro fmo fkd fcd fsr fsq fce v0 v1 v2 v3).2.2.1)) else -7) else -7) else -6) else m_X6_toldWrong pb jg fss fsq fce v0 v1
noncomputable def m_X6_sizes_st (pb : Nat) (jg : Nat) (ru : Nat) (fst : Nat → Int32) (fro : Nat → Int32) (fmo : Nat → Int32) (fkd : Nat → Int32) (fcd : Nat → Int32) (fsr : Nat → Nat) (fsq : Nat → Nat) (fce : Nat → Int32) (fss : Nat → Int32) (v0 : Int32) (v1 : Int32) (v2 : Int32) (v3 : Int32) : Nat → Int32 := if (m_X6_toldWrong pb jg fss fsq fce v0 v1) = 0 then (if (mHas pb v2) = true then (if 0 ≤ v3 ∧ v3 ≤ 11 then (if (nI ((nC v3) % 10)) ≤ 1 then upd ((g_X6_sizes_79 ru fst fro fmo fkd fcd fsr fsq fce v0 v1 v2 v3).2.2.2) ((2 * (nC v2)) + ((nC v3) / 10)) (fst ((2 * (nC v2)) + ((nC v3) / 10))) else fst) else fst) else fst) else fst
abbrev q_X6_sizes (G : gG) (h0 kd mo st ro tp cd sr ir ih ss sq ce lw wo he sk na kp gb go fa ga vo : Nat) (pb : Nat) (jg : Nat) (td : Nat) (tx : Nat) (ru : Nat) (him : Int32) (s19 : Int32) (s20 : Int32) (s21 : Int32) (s22 : Int32) (s25 : Int32) (s26 : Int32) (s27 : Int32) (s31 : Int32) (s32 : Int32) (s33 : Int32) (s34 : Int32) (s39 : Int32) (s40 : Int32) (fst : Nat → Int32) (fro : Nat → Int32) (fmo : Nat → Int32) (fkd : Nat → Int32) (fcd : Nat → Int32) (fsr : Nat → Nat) (fsk : Nat → Int32) (fna : Nat → Int32) (fkp : Nat → Int32) (fsq : Nat → Nat) (fce : Nat → Int32) (fss : Nat → Int32) (v0 : Int32) (v1 : Int32) (v2 : Int32) (v3 : Int32) (A : Nat → Prop) : Array Value → State → Outcome → State → Prop := va_Qi (fun (r : Int32) (u : (Nat → Int32) × (Nat → Int32) × (Nat → Int32)) => match u with | (ysk, yna, ykp) => r = m_X6_sizes pb jg ru fst fro fmo fkd fcd fsr fsq fce fss v0 v1 v2 v3) (fun (u : (Nat → Int32) × (Nat → Int32) × (Nat → Int32)) t => match u with | (ysk, yna, ykp) => va_P G.1 vwCl [zo6 h0 (nI pb) kd mo st (nI jg) ro tp (nI td) cd sr (nI tx) (nI ru) him ir ih ss sq ce lw s19 s20 s21 s22 wo he s25 s26 s27 sk na kp s31 s32 s33 s34 gb go fa ga s39 s40 vo, zi G st 12 (m_X6_sizes_st pb jg ru fst fro fmo fkd fcd fsr fsq fce fss v0 v1 v2 v3), zi G ro 12 fro, zi G mo 6 fmo, zi G kd 6 fkd, zi G cd 1200 fcd, zi G sr 24 (nF fsr), zi G sk 200 ysk, zi G na 6 yna, zi G kp 24 ykp, zi G sq 4 (nF fsq), zi G ce 160 fce, zi G ss 4 fss] t.heap ∧ gK G t ∧ va_D A [zo6 h0 (nI pb) kd mo st (nI jg) ro tp (nI td) cd sr (nI tx) (nI ru) him ir ih ss sq ce lw s19 s20 s21 s22 wo he s25 s26 s27 sk na kp s31 s32 s33 s34 gb go fa ga s39 s40 vo, zi G st 12 (m_X6_sizes_st pb jg ru fst fro fmo fkd fcd fsr fsq fce fss v0 v1 v2 v3), zi G ro 12 fro, zi G mo 6 fmo, zi G kd 6 fkd, zi G cd 1200 fcd, zi G sr 24 (nF fsr), zi G sk 200 ysk, zi G na 6 yna, zi G kp 24 ykp, zi G sq 4 (nF fsq), zi G ce 160 fce, zi G ss 4 fss]) A
set_option maxHeartbeats 4000000 in
set_option maxRecDepth 100000 in
theorem c_X6_sizes (l : Launch) (G : gG) (h0 kd mo st ro tp cd sr ir ih ss sq ce lw wo he sk na kp gb go fa ga vo : Nat) (pb : Nat) (jg : Nat) (td : Nat) (tx : Nat) (ru : Nat) (him : Int32) (s19 : Int32) (s20 : Int32) (s21 : Int32) (s22 : Int32) (s25 : Int32) (s26 : Int32) (s27 : Int32) (s31 : Int32) (s32 : Int32) (s33 : Int32) (s34 : Int32) (s39 : Int32) (s40 : Int32) (fst : Nat → Int32) (fro : Nat → Int32) (fmo : Nat → Int32) (fkd : Nat → Int32) (fcd : Nat → Int32) (fsr : Nat → Nat) (fsk : Nat → Int32) (fna : Nat → Int32) (fkp : Nat → Int32) (fsq : Nat → Nat) (fce : Nat → Int32) (fss : Nat → Int32) (v0 : Int32) (v1 : Int32) (v2 : Int32) (v3 : Int32) (sz : Nat) (hsq : ∀ q9, q9 < 4 → fsq q9 ≤ 40) (hwa : ∀ t9, t9 < tx → mWf fcd fsr t9) (hpb : pb ≤ 6) (hjg : jg ≤ 4) (htx : tx ≤ 6) (hru : ru < tx) : Met l yX6_sizes wsX6_sizes ({ frames := 7, cells := 0, slots := 0, locals := 172 }) (gPre G [.ref h0, .int v0, .int v1, .int v2, .int v3] [zo6 h0 (nI pb) kd mo st (nI jg) ro tp (nI td) cd sr (nI tx) (nI ru) him ir ih ss sq ce lw s19 s20 s21 s22 wo he s25 s26 s27 sk na kp s31 s32 s33 s34 gb go fa ga s39 s40 vo, zi G st 12 fst, zi G ro 12 fro, zi G mo 6 fmo, zi G kd 6 fkd, zi G cd 1200 fcd, zi G sr 24 (nF fsr), zi G sk 200 fsk, zi G na 6 fna, zi G kp 24 fkp, zi G sq 4 (nF fsq), zi G ce 160 fce, zi G ss 4 fss] sz) (q_X6_sizes G h0 kd mo st ro tp cd sr ir ih ss sq ce lw wo he sk na kp gb go fa ga vo pb jg td tx ru him s19 s20 s21 s22 s25 s26 s27 s31 s32 s33 s34 s39 s40 fst fro fmo fkd fcd fsr fsk fna fkp fsq fce fss v0 v1 v2 v3 (va_A [zo6 h0 (nI pb) kd mo st (nI jg) ro tp (nI td) cd sr (nI tx) (nI ru) him ir ih ss sq ce lw s19 s20 s21 s22 wo he s25 s26 s27 sk na kp s31 s32 s33 s34 gb go fa ga s39 s40 vo, zi G st 12 fst, zi G ro 12 fro, zi G mo 6 fmo, zi G kd 6 fkd, zi G cd 1200 fcd, zi G sr 24 (nF fsr), zi G sk 200 fsk, zi G na 6 fna, zi G kp 24 fkp, zi G sq 4 (nF fsq), zi G ce 160 fce, zi G ss 4 fss] sz)) 0 0 (va_A [zo6 h0 (nI pb) kd mo st (nI jg) ro tp (nI td) cd sr (nI tx) (nI ru) him ir ih ss sq ce lw s19 s20 s21 s22 wo he s25 s26 s27 sk na kp s31 s32 s33 s34 gb go fa ga s39 s40 vo, zi G st 12 fst, zi G ro 12 fro, zi G mo 6 fmo, zi G kd 6 fkd, zi G cd 1200 fcd, zi G sr 24 (nF fsr), zi G sk 200 fsk, zi G na 6 fna, zi G kp 24 fkp, zi G sq 4 (nF fsq), zi G ce 160 fce, zi G ss 4 fss] sz) := by
  refine Met.ofW (cc := cX6_sizes) (maxL := 12) (ret := (some .int)) (by decide +kernel) rfl ?_
  intro p e s m args below meth c s₁ B hml hv
  obtain ⟨rfl, hsz, hP, hK, hD0⟩ := hv
  have hx := B.exec
  have hb := B.bytes
  have hr := B.returns
  have hts := atoms_spec (ws := wsX6_sizes) B.pre
  have hown : s.vm.findClass RX6 = some m.cls := findClass_of_methodNamed B.named
  have hlocks := B.notSynchronized
  subst hsz
  have hD := hD0.self (sz := s.heap.size)
  generalize hAe : va_A [zo6 h0 (nI pb) kd mo st (nI jg) ro tp (nI td) cd sr (nI tx) (nI ru) him ir ih ss sq ce lw s19 s20 s21 s22 wo he s25 s26 s27 sk na kp s31 s32 s33 s34 gb go fa ga s39 s40 vo, zi G st 12 fst, zi G ro 12 fro, zi G mo 6 fmo, zi G kd 6 fkd, zi G cd 1200 fcd, zi G sr 24 (nF fsr), zi G sk 200 fsk, zi G na 6 fna, zi G kp 24 fkp, zi G sq 4 (nF fsq), zi G ce 160 fce, zi G ss 4 fss] s.heap.size = A at hD ⊢
  have hA : ∀ q : Nat, s.heap.size ≤ q → A q := fun q h => by rw [← hAe]; exact Or.inr h
  have hS : va_S A s.heap s.heap [] := va_S.rf
  have hz9 : gPD G A [zo6 h0 (nI pb) kd mo st (nI jg) ro tp (nI td) cd sr (nI tx) (nI ru) him ir ih ss sq ce lw s19 s20 s21 s22 wo he s25 s26 s27 sk na kp s31 s32 s33 s34 gb go fa ga s39 s40 vo, zi G st 12 fst, zi G ro 12 fro, zi G mo 6 fmo, zi G kd 6 fkd, zi G cd 1200 fcd, zi G sr 24 (nF fsr), zi G sk 200 fsk, zi G na 6 fna, zi G kp 24 fkp, zi G sq 4 (nF fsq), zi G ce 160 fce, zi G ss 4 fss] s.heap := ⟨hP, hD⟩
  have hP := hz9.1
  have hD := hz9.2
  have hl := lv_entry ([.ref h0, .int v0, .int v1, .int v2, .int v3]) (n := 12) (Nat.le_of_ble_eq_true rfl)
  rw [lg_entry_eq]
  generalize (lg_sl ([.ref h0, .int v0, .int v1, .int v2, .int v3]) ++ List.replicate (12 - (lg_sl ([.ref h0, .int v0, .int v1, .int v2, .int v3])).length) Slot.unset).toArray = ls at hl ⊢
  have hl : lv_has ls 12 [zR 0 h0, zI 1 v0, zI 2 v1, zI 3 v2, zI 4 v3] := hl
  have kf16 := hts (.fieldLink RX6 16 "PebbleInShoeModel" "stones" "[I") (by decide +kernel)
  have hiX6 := (by decide +kernel : ∀ w ∈ wsX60, w ∈ wsX6_sizes)
  refine lv_aload_n hx hb dX6_sizes_0 rfl (lv_at hl 0 rfl) ?_
  refine lv_iload_n hx hb dX6_sizes_1 rfl (lv_at hl 1 rfl) ?_
  refine lv_iload_n hx hb dX6_sizes_2 rfl (lv_at hl 2 rfl) ?_
  refine z_calli [0, 12, 10, 11] (v := m_X6_toldWrong pb jg fss fsq fce v0 v1) (fun _ _ h => h) (va_runV (As := [.int v0, .int v1]) (rest := []) ⟨hx, hb, hml, hown, hts⟩ (c_X6_toldWrong l G h0 kd mo st ro tp cd sr ir ih ss sq ce lw wo he sk na kp gb go fa ga vo pb jg td tx ru him s19 s20 s21 s22 s25 s26 s27 s31 s32 s33 s34 s39 s40 fss fsq fce v0 v1 s.heap.size (by first | exact hsq | assumption | omega) (by first | exact hpb | assumption | omega) (by first | exact hjg | assumption | omega) (by first | exact htx | assumption | omega) (by first | exact hru | assumption | omega)) (cwV 2 hts gX6_sizes_X6_toldWrong rfl rfl rfl (by decide +kernel) ⟨Nat.le_of_ble_eq_true rfl, Nat.le_of_ble_eq_true rfl⟩) ⟨gPre_blind, va_recv (q := (RX6, TX6, 42)) hK hP (ci := 6) (q0 := 0) rfl rfl, fun U hU hW => gPre_ofF [0, 12, 10, 11] hU hW hK hP hD (by decide +kernel) rfl⟩ rfl rfl hl.1 rfl (lv_room (Nat.le_of_ble_eq_true rfl)) dX6_sizes_3 ⟨Nat.le_of_ble_eq_true rfl, Nat.le_of_ble_eq_true rfl⟩) hS hD hA rfl (fun u t H locs ht hvm hB hz1 hk1 hFq hAq hS => ?_)
  obtain ⟨hP1, hK1, hD1⟩ := hB
  have hP := zKeep hP hD [0, 12, 10, 11] hAq hk1 ht hP1 rfl
  refine lv_istore (lv' := [zI 5 (m_X6_toldWrong pb jg fss fsq fce v0 v1), zR 0 h0, zI 1 v0, zI 2 v1, zI 3 v2, zI 4 v3]) hx hb dX6_sizes_6 hl (by decide +kernel) rfl (fun ls hl => ?_)
  refine lv_iload hx hb dX6_sizes_8 (lv_at hl 0 rfl) ?_
  refine lv_if_eq (tgt := 16) hx hb dX6_sizes_10 (by decide +kernel) (fun c_3 => ?_) (fun c_3 => ?_)
  · skip
    obtain ⟨hs3, hjw, hvl⟩ := toldWrong_0 hpb c_3
    have hv_4 : v0 = nI (nC v0) := nC_eq hs3.1
    have hk_5 : nC v0 ≤ 3 := nC_le (n := 3) (by omega) hs3
    have hv_6 : v1 = nI (nC v1) := mHas_eq hjw
    have hk_7 : nC v1 < jg := mHas_lt (by omega) hjw
    refine lv_aload_n hx hb dX6_sizes_16 rfl (lv_at hl 1 rfl) ?_
    refine lv_iload_n hx hb dX6_sizes_17 rfl (lv_at hl 4 rfl) ?_
    refine z_calli [0] (v := bz (mHas pb v2)) (fun _ _ h => h) (va_runV (As := [.int v2]) (rest := []) ⟨hx, hb, hml, hown, hts⟩ (c_X6_isPebble l G h0 kd mo st ro tp cd sr ir ih ss sq ce lw wo he sk na kp gb go fa ga vo pb jg td tx ru him s19 s20 s21 s22 s25 s26 s27 s31 s32 s33 s34 s39 s40 v2 H.size (by first | exact hpb | assumption | omega) (by first | exact hjg | assumption | omega) (by first | exact htx | assumption | omega) (by first | exact hru | assumption | omega)) (cwV 1 hts gX6_sizes_X6_isPebble rfl rfl rfl (by decide +kernel) ⟨Nat.le_of_ble_eq_true rfl, Nat.le_of_ble_eq_true rfl⟩) ⟨gPre_blind, va_recv (q := (RX6, TX6, 42)) hK hP (ci := 6) (q0 := 0) rfl rfl, fun U hU hW => gPre_ofF [0] hU hW hK hP hD (by decide +kernel) rfl⟩ rfl rfl hl.1 rfl (lv_room (Nat.le_of_ble_eq_true rfl)) dX6_sizes_18 ⟨Nat.le_of_ble_eq_true rfl, Nat.le_of_ble_eq_true rfl⟩) hS hD hA rfl (fun u t H locs ht hvm hB hz1 hk1 hFq hAq hS => ?_)
    obtain ⟨hP1, hK1, hD1⟩ := hB
    have hP := zKeep hP hD [0] hAq hk1 ht hP1 rfl
    refine lv_if_ne (tgt := 27) hx hb dX6_sizes_21 (by decide +kernel) (fun c_10 => ?_) (fun c_10 => ?_)
    · skip
      have p_11 : (mHas pb v2) = true := bz_ne rfl c_10
      have hv_13 : v2 = nI (nC v2) := mHas_eq p_11
      have hk_14 : nC v2 < pb := mHas_lt (by omega) p_11
      refine lv_iload hx hb dX6_sizes_27 (lv_at hl 5 rfl) ?_
      refine lv_iconst (v := 0) hx hb dX6_sizes_29 (by decide +kernel) ?_
      refine lv_bipush (v := 11) hx hb dX6_sizes_30 (by decide +kernel) ?_
      refine z_calli [] (v := bz (decide (0 ≤ v3 ∧ v3 ≤ 11))) (fun _ _ h => h) (va_runS (As := [.int v3, .int 0, .int 11]) (rest := []) ⟨hx, hb, hml, hown, hts⟩ (c_X6_in l G v3 0 11 H.size) (va_cwS 3 hts gX6_sizes_X6_in rfl rfl rfl (by decide +kernel) ⟨Nat.le_of_ble_eq_true rfl, Nat.le_of_ble_eq_true rfl⟩) ⟨gPre_blind, fun U hU hW => gPre_ofF [] hU hW hK hP hD (by decide +kernel) rfl⟩ rfl rfl hl.1 rfl (lv_room (Nat.le_of_ble_eq_true rfl)) dX6_sizes_32 ⟨Nat.le_of_ble_eq_true rfl, Nat.le_of_ble_eq_true rfl⟩) hS hD hA rfl (fun u t H locs ht hvm hB hz1 hk1 hFq hAq hS => ?_)
      obtain ⟨hP1, hK1, hD1⟩ := hB
      have hP := zKeep hP hD [] hAq hk1 ht hP1 rfl
      refine lv_if_eq (tgt := 47) hx hb dX6_sizes_35 (by decide +kernel) (fun c_17 => ?_) (fun c_17 => ?_)
      · skip
        have n_19 : ¬ (0 ≤ v3 ∧ v3 ≤ 11) := of_decide_eq_false (bz_eq rfl c_17)
        refine lv_bipush (v := -7) hx hb dX6_sizes_47 (by decide +kernel) ?_
        have q_22 : m_X6_sizes_st pb jg ru fst fro fmo fkd fcd fsr fsq fce fss v0 v1 v2 v3 = fst := by unfold m_X6_sizes_st; rw [if_pos c_3, if_pos p_11, if_neg n_19]
        have hz9 : gPD G A [zo6 h0 (nI pb) kd mo st (nI jg) ro tp (nI td) cd sr (nI tx) (nI ru) him ir ih ss sq ce lw s19 s20 s21 s22 wo he s25 s26 s27 sk na kp s31 s32 s33 s34 gb go fa ga s39 s40 vo, zi G st 12 (m_X6_sizes_st pb jg ru fst fro fmo fkd fcd fsr fsq fce fss v0 v1 v2 v3), zi G ro 12 fro, zi G mo 6 fmo, zi G kd 6 fkd, zi G cd 1200 fcd, zi G sr 24 (nF fsr), zi G sk 200 fsk, zi G na 6 fna, zi G kp 24 fkp, zi G sq 4 (nF fsq), zi G ce 160 fce, zi G ss 4 fss] H := ⟨by rw [q_22]; exact hP, by rw [q_22]; exact hD⟩
        have hP9 := hz9.1
        have hD9 := hz9.2
        have hpost : (fun (r : Int32) (u : (Nat → Int32) × (Nat → Int32) × (Nat → Int32)) => match u with | (ysk, yna, ykp) => r = m_X6_sizes pb jg ru fst fro fmo fkd fcd fsr fsq fce fss v0 v1 v2 v3) (-7) (fsk, fna, fkp) := (show m_X6_sizes pb jg ru fst fro fmo fkd fcd fsr fsq fce fss v0 v1 v2 v3 = (-7) from by unfold m_X6_sizes; rw [if_pos c_3, if_pos p_11, if_neg n_19]).symm
        exact W.iret (v := (-7)) hx hb hr (fun t ht hW => ⟨⟨(-7), (fsk, fna, fkp), rfl, hpost, by rw [ht]; exact hP9, va_K.moved hW.alike hK, hD9⟩, hS.F ht⟩) hS.2.2 dX6_sizes_49
      · skip
        have p_18 : 0 ≤ v3 ∧ v3 ≤ 11 := of_decide_eq_true (bz_ne rfl c_17)
        have hv_20 : v3 = nI (nC v3) := nC_eq p_18.1
        have hk_21 : nC v3 ≤ 11 := nC_le (n := 11) (by omega) p_18
        refine lv_iload hx hb dX6_sizes_38 (lv_at hl 5 rfl) ?_
        refine g_topi (y := nI (nC v3)) hv_20 ?_
        refine lv_bipush (v := 10) hx hb dX6_sizes_40 (by decide +kernel) ?_
        refine lv_irem hx hb dX6_sizes_42 (by decide +kernel) ?_
        refine g_topi (y := nI ((nC v3) % 10)) (nI_rem (a := (nC v3)) (d := 10) (by omega) (by omega) (by omega)) ?_
        refine lv_iconst (v := 1) hx hb dX6_sizes_43 (by decide +kernel) ?_
        refine lv_icmp_le (tgt := 50) hx hb dX6_sizes_44 (by decide +kernel) (fun c_25 => ?_) (fun c_25 => ?_)
        · skip
          have c_25N : ((nC v3) % 10) ≤ 1 := nI_le1 (a := ((nC v3) % 10)) (b := 1) (by omega) (by omega) c_25
          refine lv_iconst (v := 2) hx hb dX6_sizes_50 (by decide +kernel) ?_
          refine lv_iload_n hx hb dX6_sizes_51 rfl (lv_at hl 4 rfl) ?_
          refine g_topi (y := nI (nC v2)) hv_13 ?_
          refine lv_imul hx hb dX6_sizes_52 ?_
          refine g_topi (y := nI (2 * (nC v2))) (pk_mul 2 (nC v2)) ?_
          refine lv_iload hx hb dX6_sizes_53 (lv_at hl 5 rfl) ?_
          refine g_topi (y := nI (nC v3)) hv_20 ?_
          refine lv_bipush (v := 10) hx hb dX6_sizes_55 (by decide +kernel) ?_
          refine lv_idiv hx hb dX6_sizes_57 (by decide +kernel) ?_
          refine g_topi (y := nI ((nC v3) / 10)) (pk_div (a := (nC v3)) (d := 10) (by omega) (by omega) (by omega)) ?_
          refine lv_iadd hx hb dX6_sizes_58 ?_
          refine g_topi (y := nI ((2 * (nC v2)) + ((nC v3) / 10))) (nI_add (2 * (nC v2)) ((nC v3) / 10)) ?_
          refine lv_istore (lv' := [zI 6 (nI ((2 * (nC v2)) + ((nC v3) / 10))), zI 5 (m_X6_toldWrong pb jg fss fsq fce v0 v1), zR 0 h0, zI 1 v0, zI 2 v1, zI 3 v2, zI 4 v3]) hx hb dX6_sizes_59 hl (by decide +kernel) rfl (fun ls hl => ?_)
          refine g_aget (D := G.1) (ci := 6) (v := .ref st) (C := RX6) (T := TX6) (N := 42) hx hb dX6_sizes_61 rfl (lv_at hl 2 rfl) hts hiX6 hown hK hP 0 rfl rfl 3 (by decide +kernel) kf16 (fun _ h9 => h9) rfl dX6_sizes_62 ?_
          refine lv_iload hx hb dX6_sizes_65 (lv_at hl 0 rfl) ?_
          refine g_iald (D := G.1) hx hb hK hP 1 0 rfl rfl (k := (2 * (nC v2)) + ((nC v3) / 10)) (y := fst ((2 * (nC v2)) + ((nC v3) / 10))) (by omega) rfl rfl dX6_sizes_67 ?_
          refine lv_istore (lv' := [zI 7 (fst ((2 * (nC v2)) + ((nC v3) / 10))), zI 6 (nI ((2 * (nC v2)) + ((nC v3) / 10))), zI 5 (m_X6_toldWrong pb jg fss fsq fce v0 v1), zR 0 h0, zI 1 v0, zI 2 v1, zI 3 v2, zI 4 v3]) hx hb dX6_sizes_68 hl (by decide +kernel) rfl (fun ls hl => ?_)
          refine lv_iconst (v := 0) hx hb dX6_sizes_70 (by decide +kernel) ?_
          refine lv_istore (lv' := [zI 8 0, zI 7 (fst ((2 * (nC v2)) + ((nC v3) / 10))), zI 6 (nI ((2 * (nC v2)) + ((nC v3) / 10))), zI 5 (m_X6_toldWrong pb jg fss fsq fce v0 v1), zR 0 h0, zI 1 v0, zI 2 v1, zI 3 v2, zI 4 v3]) hx hb dX6_sizes_71 hl (by decide +kernel) rfl (fun ls hl => ?_)
          refine lv_iconst (v := -1) hx hb dX6_sizes_73 (by decide +kernel) ?_
          refine lv_istore (lv' := [zI 9 (-1), zI 8 0, zI 7 (fst ((2 * (nC v2)) + ((nC v3) / 10))), zI 6 (nI ((2 * (nC v2)) + ((nC v3) / 10))), zI 5 (m_X6_toldWrong pb jg fss fsq fce v0 v1), zR 0 h0, zI 1 v0, zI 2 v1, zI 3 v2, zI 4 v3]) hx hb dX6_sizes_74 hl (by decide +kernel) rfl (fun ls hl => ?_)
          refine lv_iconst (v := 0) hx hb dX6_sizes_76 (by decide +kernel) ?_
          refine lv_istore (lv' := [zI 10 0, zI 9 (-1), zI 8 0, zI 7 (fst ((2 * (nC v2)) + ((nC v3) / 10))), zI 6 (nI ((2 * (nC v2)) + ((nC v3) / 10))), zI 5 (m_X6_toldWrong pb jg fss fsq fce v0 v1), zR 0 h0, zI 1 v0, zI 2 v1, zI 3 v2, zI 4 v3]) hx hb dX6_sizes_77 hl (by decide +kernel) rfl (fun ls hl => ?_)
          have loop_79 : ∀ (n9 : Nat) (w79 : Nat) (mn : Int32) (le : Int32) (y79st : Nat → Int32) (x79sk : Nat → Int32) (x79na : Nat → Int32) (x79kp : Nat → Int32), (w79 ≤ 100) → (p_X6_sizes_79 ru fro fmo fkd fcd fsr fsq fce v0 v1 v2 v3 (100 - w79) w79 mn le y79st = (g_X6_sizes_79 ru fst fro fmo fkd fcd fsr fsq fce v0 v1 v2 v3)) → (100 - w79) < n9 → ∀ (H : Heap) (locs : List Loc), va_P G.1 vwCl [zo6 h0 (nI pb) kd mo st (nI jg) ro tp (nI td) cd sr (nI tx) (nI ru) him ir ih ss sq ce lw s19 s20 s21 s22 wo he s25 s26 s27 sk na kp s31 s32 s33 s34 gb go fa ga s39 s40 vo, zi G st 12 y79st, zi G ro 12 fro, zi G mo 6 fmo, zi G kd 6 fkd, zi G cd 1200 fcd, zi G sr 24 (nF fsr), zi G sk 200 x79sk, zi G na 6 x79na, zi G kp 24 x79kp, zi G sq 4 (nF fsq), zi G ce 160 fce, zi G ss 4 fss] H → va_D A [zo6 h0 (nI pb) kd mo st (nI jg) ro tp (nI td) cd sr (nI tx) (nI ru) him ir ih ss sq ce lw s19 s20 s21 s22 wo he s25 s26 s27 sk na kp s31 s32 s33 s34 gb go fa ga s39 s40 vo, zi G st 12 y79st, zi G ro 12 fro, zi G mo 6 fmo, zi G kd 6 fkd, zi G cd 1200 fcd, zi G sr 24 (nF fsr), zi G sk 200 x79sk, zi G na 6 x79na, zi G kp 24 x79kp, zi G sq 4 (nF fsq), zi G ce 160 fce, zi G ss 4 fss] → va_S A s.heap H locs → ∀ ls : Array Slot, lv_has ls 12 [zI 10 (nI w79), zI 9 le, zI 8 mn, zI 7 (fst ((2 * (nC v2)) + ((nC v3) / 10))), zI 6 (nI ((2 * (nC v2)) + ((nC v3) / 10))), zI 5 (m_X6_toldWrong pb jg fss fsq fce v0 v1), zR 0 h0, zI 1 v0, zI 2 v1, zI 3 v2, zI 4 v3] → W p l e (headSpec wsX6_sizes ({ frames := 7, cells := 0, slots := 0, locals := 172 })).room s m ([.ref h0, .int v0, .int v1, .int v2, .int v3] : List Value).toArray below meth c H locs 0 0 (MQ below (q_X6_sizes G h0 kd mo st ro tp cd sr ir ih ss sq ce lw wo he sk na kp gb go fa ga vo pb jg td tx ru him s19 s20 s21 s22 s25 s26 s27 s31 s32 s33 s34 s39 s40 fst fro fmo fkd fcd fsr fsk fna fkp fsq fce fss v0 v1 v2 v3 A) ([.ref h0, .int v0, .int v1, .int v2, .int v3] : List Value).toArray s 0 0 A) (F0 m 79 ls []) := by
            intro n9
            induction n9 with
            | zero => intro w79 mn le y79st x79sk x79na x79kp hw79 R79 hm9_79; exact absurd hm9_79 (Nat.not_lt_zero _)
            | succ n9 ih9_79 =>
              intro w79 mn le y79st x79sk x79na x79kp hw79 R79 hm9_79 H locs hP hD hS ls hl
              refine lv_iload hx hb dX6_sizes_79 (lv_at hl 0 rfl) ?_
              refine lv_bipush (v := 99) hx hb dX6_sizes_81 (by decide +kernel) ?_
              refine lv_icmp_gt (tgt := 153) hx hb dX6_sizes_83 (by decide +kernel) (fun c_32 => ?_) (fun c_32 => ?_)
              · skip
                have c_32N : 99 < w79 := nI_lt1 (a := 99) (b := w79) (by omega) (by omega) c_32
                have hF79 : (g_X6_sizes_79 ru fst fro fmo fkd fcd fsr fsq fce v0 v1 v2 v3) = (w79, mn, le, y79st) := by rw [← R79, show 100 - w79 = 0 by omega]; rfl
                have hE79_0 : w79 = ((g_X6_sizes_79 ru fst fro fmo fkd fcd fsr fsq fce v0 v1 v2 v3).1) := by rw [hF79]
                have hE79_1 : mn = ((g_X6_sizes_79 ru fst fro fmo fkd fcd fsr fsq fce v0 v1 v2 v3).2.1) := by rw [hF79]
                have hE79_2 : le = ((g_X6_sizes_79 ru fst fro fmo fkd fcd fsr fsq fce v0 v1 v2 v3).2.2.1) := by rw [hF79]
                have hE79_3 : y79st = ((g_X6_sizes_79 ru fst fro fmo fkd fcd fsr fsq fce v0 v1 v2 v3).2.2.2) := by rw [hF79]
                clear hF79 R79
                subst hE79_0
                subst hE79_1
                subst hE79_2
                subst hE79_3
                refine g_aget (D := G.1) (ci := 6) (v := .ref st) (C := RX6) (T := TX6) (N := 42) hx hb dX6_sizes_153 rfl (lv_at hl 6 rfl) hts hiX6 hown hK hP 0 rfl rfl 3 (by decide +kernel) kf16 (fun _ h9 => h9) rfl dX6_sizes_154 ?_
                refine lv_iload hx hb dX6_sizes_157 (lv_at hl 4 rfl) ?_
                refine lv_iload hx hb dX6_sizes_159 (lv_at hl 3 rfl) ?_
                refine g_iast (D := G.1) hx hb hK hP hD hS 1 0 rfl rfl (k := (2 * (nC v2)) + ((nC v3) / 10)) (x := (fst ((2 * (nC v2)) + ((nC v3) / 10)))) (by omega) rfl dX6_sizes_161 (fun H locs hP hD hS => ?_)
                have hz9 : gPD G A [zo6 h0 (nI pb) kd mo st (nI jg) ro tp (nI td) cd sr (nI tx) (nI ru) him ir ih ss sq ce lw s19 s20 s21 s22 wo he s25 s26 s27 sk na kp s31 s32 s33 s34 gb go fa ga s39 s40 vo, zi G st 12 (upd ((g_X6_sizes_79 ru fst fro fmo fkd fcd fsr fsq fce v0 v1 v2 v3).2.2.2) ((2 * (nC v2)) + ((nC v3) / 10)) (fst ((2 * (nC v2)) + ((nC v3) / 10)))), zi G ro 12 fro, zi G mo 6 fmo, zi G kd 6 fkd, zi G cd 1200 fcd, zi G sr 24 (nF fsr), zi G sk 200 x79sk, zi G na 6 x79na, zi G kp 24 x79kp, zi G sq 4 (nF fsq), zi G ce 160 fce, zi G ss 4 fss] H := ⟨hP, hD⟩
                have hP := hz9.1
                have hD := hz9.2
                refine lv_iload hx hb dX6_sizes_162 (lv_at hl 10 rfl) ?_
                refine g_topi (y := nI (nC v3)) hv_20 ?_
                refine lv_bipush (v := 10) hx hb dX6_sizes_164 (by decide +kernel) ?_
                refine lv_irem hx hb dX6_sizes_166 (by decide +kernel) ?_
                refine g_topi (y := nI ((nC v3) % 10)) (nI_rem (a := (nC v3)) (d := 10) (by omega) (by omega) (by omega)) ?_
                refine lv_if_ne (tgt := 175) hx hb dX6_sizes_167 (by decide +kernel) (fun c_35 => ?_) (fun c_35 => ?_)
                · skip
                  have c_35N : ¬ ((nC v3) % 10) = 0 := nI_eq0 (a := ((nC v3) % 10)) (b := 0) (by omega) (by omega) c_35
                  refine lv_iload hx hb dX6_sizes_175 (lv_at hl 1 rfl) ?_
                  have q_36 : m_X6_sizes_st pb jg ru fst fro fmo fkd fcd fsr fsq fce fss v0 v1 v2 v3 = upd ((g_X6_sizes_79 ru fst fro fmo fkd fcd fsr fsq fce v0 v1 v2 v3).2.2.2) ((2 * (nC v2)) + ((nC v3) / 10)) (fst ((2 * (nC v2)) + ((nC v3) / 10))) := by unfold m_X6_sizes_st; rw [if_pos c_3, if_pos p_11, if_pos p_18, if_pos c_25]
                  have hz9 : gPD G A [zo6 h0 (nI pb) kd mo st (nI jg) ro tp (nI td) cd sr (nI tx) (nI ru) him ir ih ss sq ce lw s19 s20 s21 s22 wo he s25 s26 s27 sk na kp s31 s32 s33 s34 gb go fa ga s39 s40 vo, zi G st 12 (m_X6_sizes_st pb jg ru fst fro fmo fkd fcd fsr fsq fce fss v0 v1 v2 v3), zi G ro 12 fro, zi G mo 6 fmo, zi G kd 6 fkd, zi G cd 1200 fcd, zi G sr 24 (nF fsr), zi G sk 200 x79sk, zi G na 6 x79na, zi G kp 24 x79kp, zi G sq 4 (nF fsq), zi G ce 160 fce, zi G ss 4 fss] H := ⟨by rw [q_36]; exact hP, by rw [q_36]; exact hD⟩
                  have hP9 := hz9.1
                  have hD9 := hz9.2
                  have hpost : (fun (r : Int32) (u : (Nat → Int32) × (Nat → Int32) × (Nat → Int32)) => match u with | (ysk, yna, ykp) => r = m_X6_sizes pb jg ru fst fro fmo fkd fcd fsr fsq fce fss v0 v1 v2 v3) ((g_X6_sizes_79 ru fst fro fmo fkd fcd fsr fsq fce v0 v1 v2 v3).2.2.1) (x79sk, x79na, x79kp) := (show m_X6_sizes pb jg ru fst fro fmo fkd fcd fsr fsq fce fss v0 v1 v2 v3 = ((g_X6_sizes_79 ru fst fro fmo fkd fcd fsr fsq fce v0 v1 v2 v3).2.2.1) from by unfold m_X6_sizes; rw [if_pos c_3, if_pos p_11, if_pos p_18, if_pos c_25, if_neg c_35]).symm
                  exact W.iret (v := ((g_X6_sizes_79 ru fst fro fmo fkd fcd fsr fsq fce v0 v1 v2 v3).2.2.1)) hx hb hr (fun t ht hW => ⟨⟨((g_X6_sizes_79 ru fst fro fmo fkd fcd fsr fsq fce v0 v1 v2 v3).2.2.1), (x79sk, x79na, x79kp), rfl, hpost, by rw [ht]; exact hP9, va_K.moved hW.alike hK, hD9⟩, hS.F ht⟩) hS.2.2 dX6_sizes_177
                · skip
                  have c_35N : ((nC v3) % 10) = 0 := nI_eq1 (a := ((nC v3) % 10)) (b := 0) (by omega) (by omega) c_35
                  refine lv_iload hx hb dX6_sizes_170 (lv_at hl 2 rfl) ?_
                  refine lv_goto (tgt := 177) hx hb dX6_sizes_172 (by decide +kernel) ?_
                  have q_37 : m_X6_sizes_st pb jg ru fst fro fmo fkd fcd fsr fsq fce fss v0 v1 v2 v3 = upd ((g_X6_sizes_79 ru fst fro fmo fkd fcd fsr fsq fce v0 v1 v2 v3).2.2.2) ((2 * (nC v2)) + ((nC v3) / 10)) (fst ((2 * (nC v2)) + ((nC v3) / 10))) := by unfold m_X6_sizes_st; rw [if_pos c_3, if_pos p_11, if_pos p_18, if_pos c_25]
                  have hz9 : gPD G A [zo6 h0 (nI pb) kd mo st (nI jg) ro tp (nI td) cd sr (nI tx) (nI ru) him ir ih ss sq ce lw s19 s20 s21 s22 wo he s25 s26 s27 sk na kp s31 s32 s33 s34 gb go fa ga s39 s40 vo, zi G st 12 (m_X6_sizes_st pb jg ru fst fro fmo fkd fcd fsr fsq fce fss v0 v1 v2 v3), zi G ro 12 fro, zi G mo 6 fmo, zi G kd 6 fkd, zi G cd 1200 fcd, zi G sr 24 (nF fsr), zi G sk 200 x79sk, zi G na 6 x79na, zi G kp 24 x79kp, zi G sq 4 (nF fsq), zi G ce 160 fce, zi G ss 4 fss] H := ⟨by rw [q_37]; exact hP, by rw [q_37]; exact hD⟩
                  have hP9 := hz9.1
                  have hD9 := hz9.2
                  have hpost : (fun (r : Int32) (u : (Nat → Int32) × (Nat → Int32) × (Nat → Int32)) => match u with | (ysk, yna, ykp) => r = m_X6_sizes pb jg ru fst fro fmo fkd fcd fsr fsq fce fss v0 v1 v2 v3) ((g_X6_sizes_79 ru fst fro fmo fkd fcd fsr fsq fce v0 v1 v2 v3).2.1) (x79sk, x79na, x79kp) := (show m_X6_sizes pb jg ru fst fro fmo fkd fcd fsr fsq fce fss v0 v1 v2 v3 = ((g_X6_sizes_79 ru fst fro fmo fkd fcd fsr fsq fce v0 v1 v2 v3).2.1) from by unfold m_X6_sizes; rw [if_pos c_3, if_pos p_11, if_pos p_18, if_pos c_25, if_pos c_35]).symm
                  exact W.iret (v := ((g_X6_sizes_79 ru fst fro fmo fkd fcd fsr fsq fce v0 v1 v2 v3).2.1)) hx hb hr (fun t ht hW => ⟨⟨((g_X6_sizes_79 ru fst fro fmo fkd fcd fsr fsq fce v0 v1 v2 v3).2.1), (x79sk, x79na, x79kp), rfl, hpost, by rw [ht]; exact hP9, va_K.moved hW.alike hK, hD9⟩, hS.F ht⟩) hS.2.2 dX6_sizes_177
              · skip
                have c_32N : w79 ≤ 99 := nI_lt0 (a := 99) (b := w79) (by omega) (by omega) c_32
                refine g_aget (D := G.1) (ci := 6) (v := .ref st) (C := RX6) (T := TX6) (N := 42) hx hb dX6_sizes_86 rfl (lv_at hl 6 rfl) hts hiX6 hown hK hP 0 rfl rfl 3 (by decide +kernel) kf16 (fun _ h9 => h9) rfl dX6_sizes_87 ?_
                refine lv_iload hx hb dX6_sizes_90 (lv_at hl 4 rfl) ?_
                refine lv_iload hx hb dX6_sizes_92 (lv_at hl 0 rfl) ?_
                refine g_iast (D := G.1) hx hb hK hP hD hS 1 0 rfl rfl (k := (2 * (nC v2)) + ((nC v3) / 10)) (x := (nI w79)) (by omega) rfl dX6_sizes_94 (fun H locs hP hD hS => ?_)
                have hz9 : gPD G A [zo6 h0 (nI pb) kd mo st (nI jg) ro tp (nI td) cd sr (nI tx) (nI ru) him ir ih ss sq ce lw s19 s20 s21 s22 wo he s25 s26 s27 sk na kp s31 s32 s33 s34 gb go fa ga s39 s40 vo, zi G st 12 (upd y79st ((2 * (nC v2)) + ((nC v3) / 10)) (nI w79)), zi G ro 12 fro, zi G mo 6 fmo, zi G kd 6 fkd, zi G cd 1200 fcd, zi G sr 24 (nF fsr), zi G sk 200 x79sk, zi G na 6 x79na, zi G kp 24 x79kp, zi G sq 4 (nF fsq), zi G ce 160 fce, zi G ss 4 fss] H := ⟨hP, hD⟩
                have hP := hz9.1
                have hD := hz9.2
                refine lv_aload_n hx hb dX6_sizes_95 rfl (lv_at hl 6 rfl) ?_
                refine lv_iload_n hx hb dX6_sizes_96 rfl (lv_at hl 7 rfl) ?_
                refine g_topi (y := nI (nC v0)) hv_4 ?_
                refine lv_iload_n hx hb dX6_sizes_97 rfl (lv_at hl 8 rfl) ?_
                refine g_topi (y := nI (nC v1)) hv_6 ?_
                refine z_calli [0, 1, 2, 3, 4, 5, 6, 7, 8, 9, 10, 11] (v := m_X6_firstOther ru (upd y79st ((2 * (nC v2)) + ((nC v3) / 10)) (nI w79)) fro fmo fkd fcd fsr fsq fce (nC v0) (nC v1)) (fun _ ⟨_, _, _⟩ h => h) (va_runV (As := [.int (nI (nC v0)), .int (nI (nC v1))]) (rest := []) ⟨hx, hb, hml, hown, hts⟩ (c_X6_firstOther l G h0 kd mo st ro tp cd sr ir ih ss sq ce lw wo he sk na kp gb go fa ga vo pb jg td tx ru him s19 s20 s21 s22 s25 s26 s27 s31 s32 s33 s34 s39 s40 (upd y79st ((2 * (nC v2)) + ((nC v3) / 10)) (nI w79)) fro fmo fkd fcd fsr x79sk x79na x79kp fsq fce (nC v0) (nC v1) H.size (by first | exact hsn | assumption | omega) (by first | exact hj | assumption | omega) (hwa _ (by omega)) (by first | exact hsq | assumption | omega) (by first | exact hvl | assumption | omega) (by first | exact hpb | assumption | omega) (by first | exact hjg | assumption | omega) (by first | exact htx | assumption | omega) (by first | exact hru | assumption | omega)) (cwV 2 hts gX6_sizes_X6_firstOther rfl rfl rfl (by decide +kernel) ⟨Nat.le_of_ble_eq_true rfl, Nat.le_of_ble_eq_true rfl⟩) ⟨gPre_blind, va_recv (q := (RX6, TX6, 42)) hK hP (ci := 6) (q0 := 0) rfl rfl, fun U hU hW => gPre_ofF [0, 1, 2, 3, 4, 5, 6, 7, 8, 9, 10, 11] hU hW hK hP hD (by decide +kernel) rfl⟩ rfl rfl hl.1 rfl (lv_room (Nat.le_of_ble_eq_true rfl)) dX6_sizes_98 ⟨Nat.le_of_ble_eq_true rfl, Nat.le_of_ble_eq_true rfl⟩) hS hD hA rfl (fun u t H locs ht hvm hB hz1 hk1 hFq hAq hS => ?_)
                obtain ⟨ysk_42, yna_43, ykp_44⟩ := u
                obtain ⟨hP1, hK1, hD1⟩ := hB
                have hz9 : gPD G A [zo6 h0 (nI pb) kd mo st (nI jg) ro tp (nI td) cd sr (nI tx) (nI ru) him ir ih ss sq ce lw s19 s20 s21 s22 wo he s25 s26 s27 sk na kp s31 s32 s33 s34 gb go fa ga s39 s40 vo, zi G st 12 (upd y79st ((2 * (nC v2)) + ((nC v3) / 10)) (nI w79)), zi G ro 12 fro, zi G mo 6 fmo, zi G kd 6 fkd, zi G cd 1200 fcd, zi G sr 24 (nF fsr), zi G sk 200 ysk_42, zi G na 6 yna_43, zi G kp 24 ykp_44, zi G sq 4 (nF fsq), zi G ce 160 fce, zi G ss 4 fss] H := zFill hP hD [0, 1, 2, 3, 4, 5, 6, 7, 8, 9, 10, 11] [1, 2, 3, 4, 5, 6, 7, 8, 9, 10, 11, 12] hAq hk1 hFq ht hP1 hD1 rfl (by decide +kernel)
                have hP := hz9.1
                have hD := hz9.2
                refine lv_iconst (v := -1) hx hb dX6_sizes_101 (by decide +kernel) ?_
                refine lv_icmp_ne (tgt := 109) hx hb dX6_sizes_102 (by decide +kernel) (fun c_45 => ?_) (fun c_45 => ?_)
                · skip
                  refine lv_iconst (v := 0) hx hb dX6_sizes_109 (by decide +kernel) ?_
                  refine lv_istore (lv' := [zI 11 0, zI 10 (nI w79), zI 9 le, zI 8 mn, zI 7 (fst ((2 * (nC v2)) + ((nC v3) / 10))), zI 6 (nI ((2 * (nC v2)) + ((nC v3) / 10))), zI 5 (m_X6_toldWrong pb jg fss fsq fce v0 v1), zR 0 h0, zI 1 v0, zI 2 v1, zI 3 v2, zI 4 v3]) hx hb dX6_sizes_110 hl (by decide +kernel) rfl (fun ls hl => ?_)
                  refine lv_iload hx hb dX6_sizes_112 (lv_at hl 3 rfl) ?_
                  refine lv_iload hx hb dX6_sizes_114 (lv_at hl 0 rfl) ?_
                  refine lv_if_eq (tgt := 123) hx hb dX6_sizes_116 (by decide +kernel) (fun c_46 => ?_) (fun c_46 => ?_)
                  rotate_left
                  · exact absurd (by decide +kernel) c_46
                  refine lv_iconst (v := 0) hx hb dX6_sizes_123 (by decide +kernel) ?_
                  refine lv_iadd hx hb dX6_sizes_124 ?_
                  refine lv_istore (lv' := [zI 8 (mn + 0), zI 11 0, zI 10 (nI w79), zI 9 le, zI 7 (fst ((2 * (nC v2)) + ((nC v3) / 10))), zI 6 (nI ((2 * (nC v2)) + ((nC v3) / 10))), zI 5 (m_X6_toldWrong pb jg fss fsq fce v0 v1), zR 0 h0, zI 1 v0, zI 2 v1, zI 3 v2, zI 4 v3]) hx hb dX6_sizes_125 hl (by decide +kernel) rfl (fun ls hl => ?_)
                  refine lv_iload hx hb dX6_sizes_127 (lv_at hl 1 rfl) ?_
                  refine lv_if_eq (tgt := 143) hx hb dX6_sizes_129 (by decide +kernel) (fun c_47 => ?_) (fun c_47 => ?_)
                  rotate_left
                  · exact absurd (by decide +kernel) c_47
                  refine lv_iload hx hb dX6_sizes_143 (lv_at hl 3 rfl) ?_
                  refine lv_istore (lv' := [zI 9 le, zI 8 (mn + 0), zI 11 0, zI 10 (nI w79), zI 7 (fst ((2 * (nC v2)) + ((nC v3) / 10))), zI 6 (nI ((2 * (nC v2)) + ((nC v3) / 10))), zI 5 (m_X6_toldWrong pb jg fss fsq fce v0 v1), zR 0 h0, zI 1 v0, zI 2 v1, zI 3 v2, zI 4 v3]) hx hb dX6_sizes_145 hl (by decide +kernel) rfl (fun ls hl => ?_)
                  refine lv_iinc (v := nI (w79 + 1)) (lv' := [zI 10 (nI (w79 + 1)), zI 9 le, zI 8 (mn + 0), zI 11 0, zI 7 (fst ((2 * (nC v2)) + ((nC v3) / 10))), zI 6 (nI ((2 * (nC v2)) + ((nC v3) / 10))), zI 5 (m_X6_toldWrong pb jg fss fsq fce v0 v1), zR 0 h0, zI 1 v0, zI 2 v1, zI 3 v2, zI 4 v3]) hx hb dX6_sizes_147 hl (k := 3) rfl (nI_add w79 1) (by decide +kernel) rfl (fun ls hl => ?_)
                  refine lv_goto (tgt := 79) hx hb dX6_sizes_150 (by decide +kernel) ?_
                  exact ih9_79 (w79 + 1) (mn + 0) le (upd y79st ((2 * (nC v2)) + ((nC v3) / 10)) (nI w79)) ysk_42 yna_43 ykp_44 (by omega) (Eq.trans (Eq.symm ((congrArg (fun z9 => p_X6_sizes_79 ru fro fmo fkd fcd fsr fsq fce v0 v1 v2 v3 (z9) w79 mn le y79st) (show 100 - w79 = 100 - (w79 + 1) + 1 by omega)).trans (by show p_X6_sizes_79 ru fro fmo fkd fcd fsr fsq fce v0 v1 v2 v3 (100 - (w79 + 1) + 1) w79 mn le y79st = _; rw [p_X6_sizes_79, if_neg c_45]))) R79) (by omega) _ _ hP hD hS ls (lv_sub hl [0, 1, 2, 4, 5, 6, 7, 8, 9, 10, 11] rfl)
                · skip
                  refine lv_iconst (v := 1) hx hb dX6_sizes_105 (by decide +kernel) ?_
                  refine lv_goto (tgt := 110) hx hb dX6_sizes_106 (by decide +kernel) ?_
                  refine lv_istore (lv' := [zI 11 1, zI 10 (nI w79), zI 9 le, zI 8 mn, zI 7 (fst ((2 * (nC v2)) + ((nC v3) / 10))), zI 6 (nI ((2 * (nC v2)) + ((nC v3) / 10))), zI 5 (m_X6_toldWrong pb jg fss fsq fce v0 v1), zR 0 h0, zI 1 v0, zI 2 v1, zI 3 v2, zI 4 v3]) hx hb dX6_sizes_110 hl (by decide +kernel) rfl (fun ls hl => ?_)
                  refine lv_iload hx hb dX6_sizes_112 (lv_at hl 3 rfl) ?_
                  refine lv_iload hx hb dX6_sizes_114 (lv_at hl 0 rfl) ?_
                  refine lv_if_eq (tgt := 123) hx hb dX6_sizes_116 (by decide +kernel) (fun c_48 => ?_) (fun c_48 => ?_)
                  · exact absurd c_48 (by decide +kernel)
                  refine lv_iconst (v := 1) hx hb dX6_sizes_119 (by decide +kernel) ?_
                  refine lv_goto (tgt := 124) hx hb dX6_sizes_120 (by decide +kernel) ?_
                  refine lv_iadd hx hb dX6_sizes_124 ?_
                  refine lv_istore (lv' := [zI 8 (mn + 1), zI 11 1, zI 10 (nI w79), zI 9 le, zI 7 (fst ((2 * (nC v2)) + ((nC v3) / 10))), zI 6 (nI ((2 * (nC v2)) + ((nC v3) / 10))), zI 5 (m_X6_toldWrong pb jg fss fsq fce v0 v1), zR 0 h0, zI 1 v0, zI 2 v1, zI 3 v2, zI 4 v3]) hx hb dX6_sizes_125 hl (by decide +kernel) rfl (fun ls hl => ?_)
                  refine lv_iload hx hb dX6_sizes_127 (lv_at hl 1 rfl) ?_
                  refine lv_if_eq (tgt := 143) hx hb dX6_sizes_129 (by decide +kernel) (fun c_49 => ?_) (fun c_49 => ?_)
                  · exact absurd c_49 (by decide +kernel)
                  refine lv_iload hx hb dX6_sizes_132 (lv_at hl 3 rfl) ?_
                  refine lv_iconst (v := -1) hx hb dX6_sizes_134 (by decide +kernel) ?_
                  refine lv_icmp_ne (tgt := 143) hx hb dX6_sizes_135 (by decide +kernel) (fun c_50 => ?_) (fun c_50 => ?_)
                  · skip
                    refine lv_iload hx hb dX6_sizes_143 (lv_at hl 3 rfl) ?_
                    refine lv_istore (lv' := [zI 9 le, zI 8 (mn + 1), zI 11 1, zI 10 (nI w79), zI 7 (fst ((2 * (nC v2)) + ((nC v3) / 10))), zI 6 (nI ((2 * (nC v2)) + ((nC v3) / 10))), zI 5 (m_X6_toldWrong pb jg fss fsq fce v0 v1), zR 0 h0, zI 1 v0, zI 2 v1, zI 3 v2, zI 4 v3]) hx hb dX6_sizes_145 hl (by decide +kernel) rfl (fun ls hl => ?_)
                    refine lv_iinc (v := nI (w79 + 1)) (lv' := [zI 10 (nI (w79 + 1)), zI 9 le, zI 8 (mn + 1), zI 11 1, zI 7 (fst ((2 * (nC v2)) + ((nC v3) / 10))), zI 6 (nI ((2 * (nC v2)) + ((nC v3) / 10))), zI 5 (m_X6_toldWrong pb jg fss fsq fce v0 v1), zR 0 h0, zI 1 v0, zI 2 v1, zI 3 v2, zI 4 v3]) hx hb dX6_sizes_147 hl (k := 3) rfl (nI_add w79 1) (by decide +kernel) rfl (fun ls hl => ?_)
                    refine lv_goto (tgt := 79) hx hb dX6_sizes_150 (by decide +kernel) ?_
                    exact ih9_79 (w79 + 1) (mn + 1) le (upd y79st ((2 * (nC v2)) + ((nC v3) / 10)) (nI w79)) ysk_42 yna_43 ykp_44 (by omega) (Eq.trans (Eq.symm ((congrArg (fun z9 => p_X6_sizes_79 ru fro fmo fkd fcd fsr fsq fce v0 v1 v2 v3 (z9) w79 mn le y79st) (show 100 - w79 = 100 - (w79 + 1) + 1 by omega)).trans (by show p_X6_sizes_79 ru fro fmo fkd fcd fsr fsq fce v0 v1 v2 v3 (100 - (w79 + 1) + 1) w79 mn le y79st = _; rw [p_X6_sizes_79, if_pos c_45, if_neg c_50]))) R79) (by omega) _ _ hP hD hS ls (lv_sub hl [0, 1, 2, 4, 5, 6, 7, 8, 9, 10, 11] rfl)
                  · skip
                    refine lv_iload hx hb dX6_sizes_138 (lv_at hl 2 rfl) ?_
                    refine lv_goto (tgt := 145) hx hb dX6_sizes_140 (by decide +kernel) ?_
                    refine lv_istore (lv' := [zI 9 (nI w79), zI 8 (mn + 1), zI 11 1, zI 10 (nI w79), zI 7 (fst ((2 * (nC v2)) + ((nC v3) / 10))), zI 6 (nI ((2 * (nC v2)) + ((nC v3) / 10))), zI 5 (m_X6_toldWrong pb jg fss fsq fce v0 v1), zR 0 h0, zI 1 v0, zI 2 v1, zI 3 v2, zI 4 v3]) hx hb dX6_sizes_145 hl (by decide +kernel) rfl (fun ls hl => ?_)
                    refine lv_iinc (v := nI (w79 + 1)) (lv' := [zI 10 (nI (w79 + 1)), zI 9 (nI w79), zI 8 (mn + 1), zI 11 1, zI 7 (fst ((2 * (nC v2)) + ((nC v3) / 10))), zI 6 (nI ((2 * (nC v2)) + ((nC v3) / 10))), zI 5 (m_X6_toldWrong pb jg fss fsq fce v0 v1), zR 0 h0, zI 1 v0, zI 2 v1, zI 3 v2, zI 4 v3]) hx hb dX6_sizes_147 hl (k := 3) rfl (nI_add w79 1) (by decide +kernel) rfl (fun ls hl => ?_)
                    refine lv_goto (tgt := 79) hx hb dX6_sizes_150 (by decide +kernel) ?_
                    exact ih9_79 (w79 + 1) (mn + 1) (nI w79) (upd y79st ((2 * (nC v2)) + ((nC v3) / 10)) (nI w79)) ysk_42 yna_43 ykp_44 (by omega) (Eq.trans (Eq.symm ((congrArg (fun z9 => p_X6_sizes_79 ru fro fmo fkd fcd fsr fsq fce v0 v1 v2 v3 (z9) w79 mn le y79st) (show 100 - w79 = 100 - (w79 + 1) + 1 by omega)).trans (by show p_X6_sizes_79 ru fro fmo fkd fcd fsr fsq fce v0 v1 v2 v3 (100 - (w79 + 1) + 1) w79 mn le y79st = _; rw [p_X6_sizes_79, if_pos c_45, if_pos c_50]))) R79) (by omega) _ _ hP hD hS ls (lv_sub hl [0, 1, 2, 4, 5, 6, 7, 8, 9, 10, 11] rfl)
          exact loop_79 (100 - 0 + 1) 0 0 (-1) fst fsk fna fkp (by omega) (rfl) (by omega) _ _ hP hD hS ls hl
        · skip
          have c_25N : 1 < ((nC v3) % 10) := nI_le0 (a := ((nC v3) % 10)) (b := 1) (by omega) (by omega) c_25
          refine lv_bipush (v := -7) hx hb dX6_sizes_47 (by decide +kernel) ?_
          have q_51 : m_X6_sizes_st pb jg ru fst fro fmo fkd fcd fsr fsq fce fss v0 v1 v2 v3 = fst := by unfold m_X6_sizes_st; rw [if_pos c_3, if_pos p_11, if_pos p_18, if_neg c_25]
          have hz9 : gPD G A [zo6 h0 (nI pb) kd mo st (nI jg) ro tp (nI td) cd sr (nI tx) (nI ru) him ir ih ss sq ce lw s19 s20 s21 s22 wo he s25 s26 s27 sk na kp s31 s32 s33 s34 gb go fa ga s39 s40 vo, zi G st 12 (m_X6_sizes_st pb jg ru fst fro fmo fkd fcd fsr fsq fce fss v0 v1 v2 v3), zi G ro 12 fro, zi G mo 6 fmo, zi G kd 6 fkd, zi G cd 1200 fcd, zi G sr 24 (nF fsr), zi G sk 200 fsk, zi G na 6 fna, zi G kp 24 fkp, zi G sq 4 (nF fsq), zi G ce 160 fce, zi G ss 4 fss] H := ⟨by rw [q_51]; exact hP, by rw [q_51]; exact hD⟩
          have hP9 := hz9.1
          have hD9 := hz9.2
          have hpost : (fun (r : Int32) (u : (Nat → Int32) × (Nat → Int32) × (Nat → Int32)) => match u with | (ysk, yna, ykp) => r = m_X6_sizes pb jg ru fst fro fmo fkd fcd fsr fsq fce fss v0 v1 v2 v3) (-7) (fsk, fna, fkp) := (show m_X6_sizes pb jg ru fst fro fmo fkd fcd fsr fsq fce fss v0 v1 v2 v3 = (-7) from by unfold m_X6_sizes; rw [if_pos c_3, if_pos p_11, if_pos p_18, if_neg c_25]).symm
          exact W.iret (v := (-7)) hx hb hr (fun t ht hW => ⟨⟨(-7), (fsk, fna, fkp), rfl, hpost, by rw [ht]; exact hP9, va_K.moved hW.alike hK, hD9⟩, hS.F ht⟩) hS.2.2 dX6_sizes_49
    · skip
      have n_12 : (mHas pb v2) = false := bz_eq rfl c_10
      have n_12N : ¬ ((mHas pb v2) = true) := by rw [n_12]; decide
      refine lv_bipush (v := -6) hx hb dX6_sizes_24 (by decide +kernel) ?_
      have q_52 : m_X6_sizes_st pb jg ru fst fro fmo fkd fcd fsr fsq fce fss v0 v1 v2 v3 = fst := by unfold m_X6_sizes_st; rw [if_pos c_3, if_neg n_12N]
      have hz9 : gPD G A [zo6 h0 (nI pb) kd mo st (nI jg) ro tp (nI td) cd sr (nI tx) (nI ru) him ir ih ss sq ce lw s19 s20 s21 s22 wo he s25 s26 s27 sk na kp s31 s32 s33 s34 gb go fa ga s39 s40 vo, zi G st 12 (m_X6_sizes_st pb jg ru fst fro fmo fkd fcd fsr fsq fce fss v0 v1 v2 v3), zi G ro 12 fro, zi G mo 6 fmo, zi G kd 6 fkd, zi G cd 1200 fcd, zi G sr 24 (nF fsr), zi G sk 200 fsk, zi G na 6 fna, zi G kp 24 fkp, zi G sq 4 (nF fsq), zi G ce 160 fce, zi G ss 4 fss] H := ⟨by rw [q_52]; exact hP, by rw [q_52]; exact hD⟩
      have hP9 := hz9.1
      have hD9 := hz9.2
      have hpost : (fun (r : Int32) (u : (Nat → Int32) × (Nat → Int32) × (Nat → Int32)) => match u with | (ysk, yna, ykp) => r = m_X6_sizes pb jg ru fst fro fmo fkd fcd fsr fsq fce fss v0 v1 v2 v3) (-6) (fsk, fna, fkp) := (show m_X6_sizes pb jg ru fst fro fmo fkd fcd fsr fsq fce fss v0 v1 v2 v3 = (-6) from by unfold m_X6_sizes; rw [if_pos c_3, if_neg n_12N]).symm
      exact W.iret (v := (-6)) hx hb hr (fun t ht hW => ⟨⟨(-6), (fsk, fna, fkp), rfl, hpost, by rw [ht]; exact hP9, va_K.moved hW.alike hK, hD9⟩, hS.F ht⟩) hS.2.2 dX6_sizes_26
  · skip
    refine lv_iload hx hb dX6_sizes_13 (lv_at hl 0 rfl) ?_
    have q_53 : m_X6_sizes_st pb jg ru fst fro fmo fkd fcd fsr fsq fce fss v0 v1 v2 v3 = fst := by unfold m_X6_sizes_st; rw [if_neg c_3]
    have hz9 : gPD G A [zo6 h0 (nI pb) kd mo st (nI jg) ro tp (nI td) cd sr (nI tx) (nI ru) him ir ih ss sq ce lw s19 s20 s21 s22 wo he s25 s26 s27 sk na kp s31 s32 s33 s34 gb go fa ga s39 s40 vo, zi G st 12 (m_X6_sizes_st pb jg ru fst fro fmo fkd fcd fsr fsq fce fss v0 v1 v2 v3), zi G ro 12 fro, zi G mo 6 fmo, zi G kd 6 fkd, zi G cd 1200 fcd, zi G sr 24 (nF fsr), zi G sk 200 fsk, zi G na 6 fna, zi G kp 24 fkp, zi G sq 4 (nF fsq), zi G ce 160 fce, zi G ss 4 fss] H := ⟨by rw [q_53]; exact hP, by rw [q_53]; exact hD⟩
    have hP9 := hz9.1
    have hD9 := hz9.2
    have hpost : (fun (r : Int32) (u : (Nat → Int32) × (Nat → Int32) × (Nat → Int32)) => match u with | (ysk, yna, ykp) => r = m_X6_sizes pb jg ru fst fro fmo fkd fcd fsr fsq fce fss v0 v1 v2 v3) (m_X6_toldWrong pb jg fss fsq fce v0 v1) (fsk, fna, fkp) := (show m_X6_sizes pb jg ru fst fro fmo fkd fcd fsr fsq fce fss v0 v1 v2 v3 = (m_X6_toldWrong pb jg fss fsq fce v0 v1) from by unfold m_X6_sizes; rw [if_neg c_3]).symm
    exact W.iret (v := (m_X6_toldWrong pb jg fss fsq fce v0 v1)) hx hb hr (fun t ht hW => ⟨⟨(m_X6_toldWrong pb jg fss fsq fce v0 v1), (fsk, fna, fkp), rfl, hpost, by rw [ht]; exact hP9, va_K.moved hW.alike hK, hD9⟩, hS.F ht⟩) hS.2.2 dX6_sizes_15
noncomputable def p_X6_film_36 (v0 : Int32) : Nat → Nat → (Nat → Int32) → Nat × (Nat → Int32)
  | 0, i36, y36ce => (i36, y36ce)
  | q9 + 1, i36, y36ce => p_X6_film_36 v0 q9 (i36 + 1) (upd y36ce ((40 * (nC v0)) + i36) 0)
noncomputable def g_X6_film_36 (fce : Nat → Int32) (v0 : Int32) : Nat × (Nat → Int32) := p_X6_film_36 v0 (40 - 0) 0 fce
noncomputable def p_X6_film_72 (ru : Nat) (fmo : Nat → Int32) (fkd : Nat → Int32) (fcd : Nat → Int32) (fsr : Nat → Nat) (v0 : Int32) (v1 : Int32) (v2 : Int32) : Nat → Nat → Int32 → (Nat → Int32) → (Nat → Int32) → (Nat → Int32) → Nat × Int32 × (Nat → Int32) × (Nat → Int32) × (Nat → Int32)
  | 0, p72, mn, y72ce, y72st, y72ro => (p72, mn, y72ce, y72st, y72ro)
  | q9 + 1, p72, mn, y72ce, y72st, y72ro => if (m_X6_caseOf ru y72st y72ro fmo fkd fcd fsr (nC v1) p72 (nC v2)) < (m_X6_asksOf ru (m_X6_caseOf_st ru y72st y72ro fmo fkd fcd fsr (nC v1) p72 (nC v2)) (m_X6_caseOf_ro ru y72st y72ro fmo fkd fcd fsr (nC v1) p72 (nC v2)) fmo fcd fsr 2 (nC v1) p72) then p_X6_film_72 ru fmo fkd fcd fsr v0 v1 v2 q9 (p72 + 1) (mn + 0) (upd (upd (upd y72ce ((40 * (nC v0)) + (3 * p72)) (nI p72)) (((40 * (nC v0)) + (3 * p72)) + 1) (nI (nC v2))) (((40 * (nC v0)) + (3 * p72)) + 2) 0) (m_X6_caseOf_st ru y72st y72ro fmo fkd fcd fsr (nC v1) p72 (nC v2)) (m_X6_caseOf_ro ru y72st y72ro fmo fkd fcd fsr (nC v1) p72 (nC v2)) else p_X6_film_72 ru fmo fkd fcd fsr v0 v1 v2 q9 (p72 + 1) (mn + 1) (upd (upd (upd y72ce ((40 * (nC v0)) + (3 * p72)) (nI p72)) (((40 * (nC v0)) + (3 * p72)) + 1) (nI (nC v2))) (((40 * (nC v0)) + (3 * p72)) + 2) 1) (m_X6_caseOf_st ru y72st y72ro fmo fkd fcd fsr (nC v1) p72 (nC v2)) (m_X6_caseOf_ro ru y72st y72ro fmo fkd fcd fsr (nC v1) p72 (nC v2))
noncomputable def g_X6_film_72 (pb : Nat) (ru : Nat) (fst : Nat → Int32) (fro : Nat → Int32) (fmo : Nat → Int32) (fkd : Nat → Int32) (fcd : Nat → Int32) (fsr : Nat → Nat) (fce : Nat → Int32) (v0 : Int32) (v1 : Int32) (v2 : Int32) : Nat × Int32 × (Nat → Int32) × (Nat → Int32) × (Nat → Int32) := p_X6_film_72 ru fmo fkd fcd fsr v0 v1 v2 (pb - 0) 0 0 ((g_X6_film_36 fce v0).2) fst fro
noncomputable def m_X6_film (pb : Nat) (jg : Nat) (ru : Nat) (fst : Nat → Int32) (fro : Nat → Int32) (fmo : Nat → Int32) (fkd : Nat → Int32) (fcd : Nat → Int32) (fsr : Nat → Nat) (fce : Nat → Int32) (v0 : Int32) (v1 : Int32) (v2 : Int32) : Int32 := if 0 ≤ v0 ∧ v0 ≤ 3 then (if (mHas jg v1) = true then (if 0 ≤ v2 ∧ v2 ≤ 60 then ((g_X6_film_72 pb ru fst fro fmo fkd fcd fsr fce v0 v1 v2).2.1) else -7) else -5) else -2
noncomputable def m_X6_film_sq (pb : Nat) (jg : Nat) (fsq : Nat → Nat) (v0 : Int32) (v1 : Int32) (v2 : Int32) : Nat → Nat := if 0 ≤ v0 ∧ v0 ≤ 3 then (if (mHas jg v1) = true then (if 0 ≤ v2 ∧ v2 ≤ 60 then updN fsq (nC v0) (3 * pb) else fsq) else fsq) else fsq
noncomputable def m_X6_film_ce (pb : Nat) (jg : Nat) (ru : Nat) (fst : Nat → Int32) (fro : Nat → Int32) (fmo : Nat → Int32) (fkd : Nat → Int32) (fcd : Nat → Int32) (fsr : Nat → Nat) (fce : Nat → Int32) (v0 : Int32) (v1 : Int32) (v2 : Int32) : Nat → Int32 := if 0 ≤ v0 ∧ v0 ≤ 3 then (if (mHas jg v1) = true then (if 0 ≤ v2 ∧ v2 ≤ 60 then ((g_X6_film_72 pb ru fst fro fmo fkd fcd fsr fce v0 v1 v2).2.2.1) else fce) else fce) else fce
noncomputable def m_X6_film_ss (jg : Nat) (fss : Nat → Int32) (v0 : Int32) (v1 : Int32) (v2 : Int32) : Nat → Int32 := if 0 ≤ v0 ∧ v0 ≤ 3 then (if (mHas jg v1) = true then (if 0 ≤ v2 ∧ v2 ≤ 60 then upd fss (nC v0) 0 else fss) else fss) else fss
abbrev q_X6_film (G : gG) (h0 kd mo st ro tp cd sr ir ih ss sq ce lw wo he sk na kp gb go fa ga vo : Nat) (pb : Nat) (jg : Nat) (td : Nat) (tx : Nat) (ru : Nat) (him : Int32) (s19 : Int32) (s20 : Int32) (s21 : Int32) (s22 : Int32) (s25 : Int32) (s26 : Int32) (s27 : Int32) (s31 : Int32) (s32 : Int32) (s33 : Int32) (s34 : Int32) (s39 : Int32) (s40 : Int32) (fst : Nat → Int32) (fro : Nat → Int32) (fmo : Nat → Int32) (fkd : Nat → Int32) (fcd : Nat → Int32) (fsr : Nat → Nat) (fsk : Nat → Int32) (fna : Nat → Int32) (fkp : Nat → Int32) (fsq : Nat → Nat) (fce : Nat → Int32) (fss : Nat → Int32) (v0 : Int32) (v1 : Int32) (v2 : Int32) (A : Nat → Prop) : Array Value → State → Outcome → State → Prop := va_Qi (fun (r : Int32) (u : (Nat → Int32) × (Nat → Int32) × (Nat → Int32)) => match u with | (ysk, yna, ykp) => r = m_X6_film pb jg ru fst fro fmo fkd fcd fsr fce v0 v1 v2) (fun (u : (Nat → Int32) × (Nat → Int32) × (Nat → Int32)) t => match u with | (ysk, yna, ykp) => va_P G.1 vwCl [zo6 h0 (nI pb) kd mo st (nI jg) ro tp (nI td) cd sr (nI tx) (nI ru) him ir ih ss sq ce lw s19 s20 s21 s22 wo he s25 s26 s27 sk na kp s31 s32 s33 s34 gb go fa ga s39 s40 vo, zi G st 12 fst, zi G ro 12 fro, zi G mo 6 fmo, zi G kd 6 fkd, zi G cd 1200 fcd, zi G sr 24 (nF fsr), zi G sk 200 ysk, zi G na 6 yna, zi G kp 24 ykp, zi G sq 4 (nF (m_X6_film_sq pb jg fsq v0 v1 v2)), zi G ce 160 (m_X6_film_ce pb jg ru fst fro fmo fkd fcd fsr fce v0 v1 v2), zi G ss 4 (m_X6_film_ss jg fss v0 v1 v2)] t.heap ∧ gK G t ∧ va_D A [zo6 h0 (nI pb) kd mo st (nI jg) ro tp (nI td) cd sr (nI tx) (nI ru) him ir ih ss sq ce lw s19 s20 s21 s22 wo he s25 s26 s27 sk na kp s31 s32 s33 s34 gb go fa ga s39 s40 vo, zi G st 12 fst, zi G ro 12 fro, zi G mo 6 fmo, zi G kd 6 fkd, zi G cd 1200 fcd, zi G sr 24 (nF fsr), zi G sk 200 ysk, zi G na 6 yna, zi G kp 24 ykp, zi G sq 4 (nF (m_X6_film_sq pb jg fsq v0 v1 v2)), zi G ce 160 (m_X6_film_ce pb jg ru fst fro fmo fkd fcd fsr fce v0 v1 v2), zi G ss 4 (m_X6_film_ss jg fss v0 v1 v2)]) A
set_option maxHeartbeats 4000000 in
set_option maxRecDepth 100000 in
theorem c_X6_film (l : Launch) (G : gG) (h0 kd mo st ro tp cd sr ir ih ss sq ce lw wo he sk na kp gb go fa ga vo : Nat) (pb : Nat) (jg : Nat) (td : Nat) (tx : Nat) (ru : Nat) (him : Int32) (s19 : Int32) (s20 : Int32) (s21 : Int32) (s22 : Int32) (s25 : Int32) (s26 : Int32) (s27 : Int32) (s31 : Int32) (s32 : Int32) (s33 : Int32) (s34 : Int32) (s39 : Int32) (s40 : Int32) (fst : Nat → Int32) (fro : Nat → Int32) (fmo : Nat → Int32) (fkd : Nat → Int32) (fcd : Nat → Int32) (fsr : Nat → Nat) (fsk : Nat → Int32) (fna : Nat → Int32) (fkp : Nat → Int32) (fsq : Nat → Nat) (fce : Nat → Int32) (fss : Nat → Int32) (v0 : Int32) (v1 : Int32) (v2 : Int32) (sz : Nat) (hsq : ∀ q9, q9 < 4 → fsq q9 ≤ 40) (hwa : ∀ t9, t9 < tx → mWf fcd fsr t9) (hpb : pb ≤ 6) (hjg : jg ≤ 4) (htx : tx ≤ 6) (hru : ru < tx) : Met l yX6_film wsX6_film ({ frames := 6, cells := 0, slots := 0, locals := 145 }) (gPre G [.ref h0, .int v0, .int v1, .int v2] [zo6 h0 (nI pb) kd mo st (nI jg) ro tp (nI td) cd sr (nI tx) (nI ru) him ir ih ss sq ce lw s19 s20 s21 s22 wo he s25 s26 s27 sk na kp s31 s32 s33 s34 gb go fa ga s39 s40 vo, zi G st 12 fst, zi G ro 12 fro, zi G mo 6 fmo, zi G kd 6 fkd, zi G cd 1200 fcd, zi G sr 24 (nF fsr), zi G sk 200 fsk, zi G na 6 fna, zi G kp 24 fkp, zi G sq 4 (nF fsq), zi G ce 160 fce, zi G ss 4 fss] sz) (q_X6_film G h0 kd mo st ro tp cd sr ir ih ss sq ce lw wo he sk na kp gb go fa ga vo pb jg td tx ru him s19 s20 s21 s22 s25 s26 s27 s31 s32 s33 s34 s39 s40 fst fro fmo fkd fcd fsr fsk fna fkp fsq fce fss v0 v1 v2 (va_A [zo6 h0 (nI pb) kd mo st (nI jg) ro tp (nI td) cd sr (nI tx) (nI ru) him ir ih ss sq ce lw s19 s20 s21 s22 wo he s25 s26 s27 sk na kp s31 s32 s33 s34 gb go fa ga s39 s40 vo, zi G st 12 fst, zi G ro 12 fro, zi G mo 6 fmo, zi G kd 6 fkd, zi G cd 1200 fcd, zi G sr 24 (nF fsr), zi G sk 200 fsk, zi G na 6 fna, zi G kp 24 fkp, zi G sq 4 (nF fsq), zi G ce 160 fce, zi G ss 4 fss] sz)) 0 0 (va_A [zo6 h0 (nI pb) kd mo st (nI jg) ro tp (nI td) cd sr (nI tx) (nI ru) him ir ih ss sq ce lw s19 s20 s21 s22 wo he s25 s26 s27 sk na kp s31 s32 s33 s34 gb go fa ga s39 s40 vo, zi G st 12 fst, zi G ro 12 fro, zi G mo 6 fmo, zi G kd 6 fkd, zi G cd 1200 fcd, zi G sr 24 (nF fsr), zi G sk 200 fsk, zi G na 6 fna, zi G kp 24 fkp, zi G sq 4 (nF fsq), zi G ce 160 fce, zi G ss 4 fss] sz) := by
  refine Met.ofW (cc := cX6_film) (maxL := 8) (ret := (some .int)) (by decide +kernel) rfl ?_
  intro p e s m args below meth c s₁ B hml hv
  obtain ⟨rfl, hsz, hP, hK, hD0⟩ := hv
  have hx := B.exec
  have hb := B.bytes
  have hr := B.returns
  have hts := atoms_spec (ws := wsX6_film) B.pre
  have hown : s.vm.findClass RX6 = some m.cls := findClass_of_methodNamed B.named
  have hlocks := B.notSynchronized
  subst hsz
  have hD := hD0.self (sz := s.heap.size)
  generalize hAe : va_A [zo6 h0 (nI pb) kd mo st (nI jg) ro tp (nI td) cd sr (nI tx) (nI ru) him ir ih ss sq ce lw s19 s20 s21 s22 wo he s25 s26 s27 sk na kp s31 s32 s33 s34 gb go fa ga s39 s40 vo, zi G st 12 fst, zi G ro 12 fro, zi G mo 6 fmo, zi G kd 6 fkd, zi G cd 1200 fcd, zi G sr 24 (nF fsr), zi G sk 200 fsk, zi G na 6 fna, zi G kp 24 fkp, zi G sq 4 (nF fsq), zi G ce 160 fce, zi G ss 4 fss] s.heap.size = A at hD ⊢
  have hA : ∀ q : Nat, s.heap.size ≤ q → A q := fun q h => by rw [← hAe]; exact Or.inr h
  have hS : va_S A s.heap s.heap [] := va_S.rf
  have hz9 : gPD G A [zo6 h0 (nI pb) kd mo st (nI jg) ro tp (nI td) cd sr (nI tx) (nI ru) him ir ih ss sq ce lw s19 s20 s21 s22 wo he s25 s26 s27 sk na kp s31 s32 s33 s34 gb go fa ga s39 s40 vo, zi G st 12 fst, zi G ro 12 fro, zi G mo 6 fmo, zi G kd 6 fkd, zi G cd 1200 fcd, zi G sr 24 (nF fsr), zi G sk 200 fsk, zi G na 6 fna, zi G kp 24 fkp, zi G sq 4 (nF fsq), zi G ce 160 fce, zi G ss 4 fss] s.heap := ⟨hP, hD⟩
  have hP := hz9.1
  have hD := hz9.2
  have hl := lv_entry ([.ref h0, .int v0, .int v1, .int v2]) (n := 8) (Nat.le_of_ble_eq_true rfl)
  rw [lg_entry_eq]
  generalize (lg_sl ([.ref h0, .int v0, .int v1, .int v2]) ++ List.replicate (8 - (lg_sl ([.ref h0, .int v0, .int v1, .int v2])).length) Slot.unset).toArray = ls at hl ⊢
  have hl : lv_has ls 8 [zR 0 h0, zI 1 v0, zI 2 v1, zI 3 v2] := hl
  have kf88 := hts (.fieldLink RX6 88 "PebbleInShoeModel" "pebbles" "I") (by decide +kernel)
  have hiX6 := (by decide +kernel : ∀ w ∈ wsX60, w ∈ wsX6_film)
  have kf37 := hts (.fieldLink RX6 37 "PebbleInShoeModel" "sheetSort" "[I") (by decide +kernel)
  have kf40 := hts (.fieldLink RX6 40 "PebbleInShoeModel" "sheetSize" "[I") (by decide +kernel)
  have kf43 := hts (.fieldLink RX6 43 "PebbleInShoeModel" "cells" "[I") (by decide +kernel)
  refine lv_iload_n hx hb dX6_film_0 rfl (lv_at hl 1 rfl) ?_
  refine lv_iconst (v := 0) hx hb dX6_film_1 (by decide +kernel) ?_
  refine lv_iconst (v := 3) hx hb dX6_film_2 (by decide +kernel) ?_
  refine z_calli [] (v := bz (decide (0 ≤ v0 ∧ v0 ≤ 3))) (fun _ _ h => h) (va_runS (As := [.int v0, .int 0, .int 3]) (rest := []) ⟨hx, hb, hml, hown, hts⟩ (c_X6_in l G v0 0 3 s.heap.size) (va_cwS 3 hts gX6_film_X6_in rfl rfl rfl (by decide +kernel) ⟨Nat.le_of_ble_eq_true rfl, Nat.le_of_ble_eq_true rfl⟩) ⟨gPre_blind, fun U hU hW => gPre_ofF [] hU hW hK hP hD (by decide +kernel) rfl⟩ rfl rfl hl.1 rfl (lv_room (Nat.le_of_ble_eq_true rfl)) dX6_film_3 ⟨Nat.le_of_ble_eq_true rfl, Nat.le_of_ble_eq_true rfl⟩) hS hD hA rfl (fun u t H locs ht hvm hB hz1 hk1 hFq hAq hS => ?_)
  obtain ⟨hP1, hK1, hD1⟩ := hB
  have hP := zKeep hP hD [] hAq hk1 ht hP1 rfl
  refine lv_if_ne (tgt := 12) hx hb dX6_film_6 (by decide +kernel) (fun c_3 => ?_) (fun c_3 => ?_)
  · skip
    have p_4 : 0 ≤ v0 ∧ v0 ≤ 3 := of_decide_eq_true (bz_ne rfl c_3)
    have hv_6 : v0 = nI (nC v0) := nC_eq p_4.1
    have hk_7 : nC v0 ≤ 3 := nC_le (n := 3) (by omega) p_4
    refine lv_aload_n hx hb dX6_film_12 rfl (lv_at hl 0 rfl) ?_
    refine lv_iload_n hx hb dX6_film_13 rfl (lv_at hl 2 rfl) ?_
    refine z_calli [0] (v := bz (mHas jg v1)) (fun _ _ h => h) (va_runV (As := [.int v1]) (rest := []) ⟨hx, hb, hml, hown, hts⟩ (c_X6_isJudge l G h0 kd mo st ro tp cd sr ir ih ss sq ce lw wo he sk na kp gb go fa ga vo pb jg td tx ru him s19 s20 s21 s22 s25 s26 s27 s31 s32 s33 s34 s39 s40 v1 H.size (by first | exact hpb | assumption | omega) (by first | exact hjg | assumption | omega) (by first | exact htx | assumption | omega) (by first | exact hru | assumption | omega)) (cwV 1 hts gX6_film_X6_isJudge rfl rfl rfl (by decide +kernel) ⟨Nat.le_of_ble_eq_true rfl, Nat.le_of_ble_eq_true rfl⟩) ⟨gPre_blind, va_recv (q := (RX6, TX6, 42)) hK hP (ci := 6) (q0 := 0) rfl rfl, fun U hU hW => gPre_ofF [0] hU hW hK hP hD (by decide +kernel) rfl⟩ rfl rfl hl.1 rfl (lv_room (Nat.le_of_ble_eq_true rfl)) dX6_film_14 ⟨Nat.le_of_ble_eq_true rfl, Nat.le_of_ble_eq_true rfl⟩) hS hD hA rfl (fun u t H locs ht hvm hB hz1 hk1 hFq hAq hS => ?_)
    obtain ⟨hP1, hK1, hD1⟩ := hB
    have hP := zKeep hP hD [0] hAq hk1 ht hP1 rfl
    refine lv_if_ne (tgt := 23) hx hb dX6_film_17 (by decide +kernel) (fun c_10 => ?_) (fun c_10 => ?_)
    · skip
      have p_11 : (mHas jg v1) = true := bz_ne rfl c_10
      have hv_13 : v1 = nI (nC v1) := mHas_eq p_11
      have hk_14 : nC v1 < jg := mHas_lt (by omega) p_11
      refine lv_iload_n hx hb dX6_film_23 rfl (lv_at hl 3 rfl) ?_
      refine z_calli [] (v := bz (decide (0 ≤ v2 ∧ v2 ≤ 60))) (fun _ _ h => h) (va_runS (As := [.int v2]) (rest := []) ⟨hx, hb, hml, hown, hts⟩ (c_X6_isCase l G v2 H.size) (va_cwS 1 hts gX6_film_X6_isCase rfl rfl rfl (by decide +kernel) ⟨Nat.le_of_ble_eq_true rfl, Nat.le_of_ble_eq_true rfl⟩) ⟨gPre_blind, fun U hU hW => gPre_ofF [] hU hW hK hP hD (by decide +kernel) rfl⟩ rfl rfl hl.1 rfl (lv_room (Nat.le_of_ble_eq_true rfl)) dX6_film_24 ⟨Nat.le_of_ble_eq_true rfl, Nat.le_of_ble_eq_true rfl⟩) hS hD hA rfl (fun u t H locs ht hvm hB hz1 hk1 hFq hAq hS => ?_)
      obtain ⟨hP1, hK1, hD1⟩ := hB
      have hP := zKeep hP hD [] hAq hk1 ht hP1 rfl
      refine lv_if_ne (tgt := 33) hx hb dX6_film_27 (by decide +kernel) (fun c_17 => ?_) (fun c_17 => ?_)
      · skip
        have p_18 : 0 ≤ v2 ∧ v2 ≤ 60 := of_decide_eq_true (bz_ne rfl c_17)
        have hv_20 : v2 = nI (nC v2) := nC_eq p_18.1
        have hk_21 : nC v2 ≤ 60 := nC_le (n := 60) (by omega) p_18
        refine lv_iconst (v := 0) hx hb dX6_film_33 (by decide +kernel) ?_
        refine lv_istore (lv' := [zI 4 0, zR 0 h0, zI 1 v0, zI 2 v1, zI 3 v2]) hx hb dX6_film_34 hl (by decide +kernel) rfl (fun ls hl => ?_)
        have loop_36 : ∀ (n9 : Nat) (i36 : Nat) (y36ce : Nat → Int32), (i36 ≤ 40) → (p_X6_film_36 v0 (40 - i36) i36 y36ce = (g_X6_film_36 fce v0)) → (40 - i36) < n9 → ∀ (H : Heap) (locs : List Loc), va_P G.1 vwCl [zo6 h0 (nI pb) kd mo st (nI jg) ro tp (nI td) cd sr (nI tx) (nI ru) him ir ih ss sq ce lw s19 s20 s21 s22 wo he s25 s26 s27 sk na kp s31 s32 s33 s34 gb go fa ga s39 s40 vo, zi G st 12 fst, zi G ro 12 fro, zi G mo 6 fmo, zi G kd 6 fkd, zi G cd 1200 fcd, zi G sr 24 (nF fsr), zi G sk 200 fsk, zi G na 6 fna, zi G kp 24 fkp, zi G sq 4 (nF fsq), zi G ce 160 y36ce, zi G ss 4 fss] H → va_D A [zo6 h0 (nI pb) kd mo st (nI jg) ro tp (nI td) cd sr (nI tx) (nI ru) him ir ih ss sq ce lw s19 s20 s21 s22 wo he s25 s26 s27 sk na kp s31 s32 s33 s34 gb go fa ga s39 s40 vo, zi G st 12 fst, zi G ro 12 fro, zi G mo 6 fmo, zi G kd 6 fkd, zi G cd 1200 fcd, zi G sr 24 (nF fsr), zi G sk 200 fsk, zi G na 6 fna, zi G kp 24 fkp, zi G sq 4 (nF fsq), zi G ce 160 y36ce, zi G ss 4 fss] → va_S A s.heap H locs → ∀ ls : Array Slot, lv_has ls 8 [zI 4 (nI i36), zR 0 h0, zI 1 v0, zI 2 v1, zI 3 v2] → W p l e (headSpec wsX6_film ({ frames := 6, cells := 0, slots := 0, locals := 145 })).room s m ([.ref h0, .int v0, .int v1, .int v2] : List Value).toArray below meth c H locs 0 0 (MQ below (q_X6_film G h0 kd mo st ro tp cd sr ir ih ss sq ce lw wo he sk na kp gb go fa ga vo pb jg td tx ru him s19 s20 s21 s22 s25 s26 s27 s31 s32 s33 s34 s39 s40 fst fro fmo fkd fcd fsr fsk fna fkp fsq fce fss v0 v1 v2 A) ([.ref h0, .int v0, .int v1, .int v2] : List Value).toArray s 0 0 A) (F0 m 36 ls []) := by
          intro n9
          induction n9 with
          | zero => intro i36 y36ce hi36 R36 hm9_36; exact absurd hm9_36 (Nat.not_lt_zero _)
          | succ n9 ih9_36 =>
            intro i36 y36ce hi36 R36 hm9_36 H locs hP hD hS ls hl
            refine lv_iload hx hb dX6_film_36 (lv_at hl 0 rfl) ?_
            refine lv_bipush (v := 40) hx hb dX6_film_38 (by decide +kernel) ?_
            refine lv_icmp_ge (tgt := 62) hx hb dX6_film_40 (by decide +kernel) (fun c_22 => ?_) (fun c_22 => ?_)
            · skip
              have c_22N : 40 ≤ i36 := nI_le1 (a := 40) (b := i36) (by omega) (by omega) c_22
              have hF36 : (g_X6_film_36 fce v0) = (i36, y36ce) := by rw [← R36, show 40 - i36 = 0 by omega]; rfl
              have hE36_0 : i36 = ((g_X6_film_36 fce v0).1) := by rw [hF36]
              have hE36_1 : y36ce = ((g_X6_film_36 fce v0).2) := by rw [hF36]
              clear hF36 R36
              subst hE36_0
              subst hE36_1
              refine lv_iconst (v := 0) hx hb dX6_film_62 (by decide +kernel) ?_
              refine lv_istore (lv' := [zI 4 0, zR 0 h0, zI 1 v0, zI 2 v1, zI 3 v2]) hx hb dX6_film_63 hl (by decide +kernel) rfl (fun ls hl => ?_)
              refine lv_aload_n hx hb dX6_film_65 rfl (lv_at hl 1 rfl) ?_
              refine z_callv [0, 9, 2, 1] (va_runV (As := []) (rest := []) ⟨hx, hb, hml, hown, hts⟩ (c_X6_keeps l G h0 kd mo st ro tp cd sr ir ih ss sq ce lw wo he sk na kp gb go fa ga vo pb jg td tx ru him s19 s20 s21 s22 s25 s26 s27 s31 s32 s33 s34 s39 s40 fkp fro fst H.size (by first | exact hpb | assumption | omega) (by first | exact hjg | assumption | omega) (by first | exact htx | assumption | omega) (by first | exact hru | assumption | omega)) (cwV 0 hts gX6_film_X6_keeps rfl rfl rfl (by decide +kernel) ⟨Nat.le_of_ble_eq_true rfl, Nat.le_of_ble_eq_true rfl⟩) ⟨gPre_blind, va_recv (q := (RX6, TX6, 42)) hK hP (ci := 6) (q0 := 0) rfl rfl, fun U hU hW => gPre_ofF [0, 9, 2, 1] hU hW hK hP hD (by decide +kernel) rfl⟩ rfl rfl hl.1 rfl (lv_room (Nat.le_of_ble_eq_true rfl)) dX6_film_66 ⟨Nat.le_of_ble_eq_true rfl, Nat.le_of_ble_eq_true rfl⟩) hS hD hA rfl (fun u t H locs ht hvm w_24 hB hz1 hk1 hFq hAq hS => ?_)
              obtain ⟨hP1, hK1, hD1⟩ := hB
              have hz9 : gPD G A [zo6 h0 (nI pb) kd mo st (nI jg) ro tp (nI td) cd sr (nI tx) (nI ru) him ir ih ss sq ce lw s19 s20 s21 s22 wo he s25 s26 s27 sk na kp s31 s32 s33 s34 gb go fa ga s39 s40 vo, zi G st 12 fst, zi G ro 12 fro, zi G mo 6 fmo, zi G kd 6 fkd, zi G cd 1200 fcd, zi G sr 24 (nF fsr), zi G sk 200 fsk, zi G na 6 fna, zi G kp 24 (mKeep fro fst), zi G sq 4 (nF fsq), zi G ce 160 ((g_X6_film_36 fce v0).2), zi G ss 4 fss] H := zFill hP hD [0, 9, 2, 1] [1, 4, 3, 0, 0, 0, 0, 0, 0, 2] hAq hk1 hFq ht hP1 hD1 rfl (by decide +kernel)
              have hP := hz9.1
              have hD := hz9.2
              refine lv_iconst (v := 0) hx hb dX6_film_69 (by decide +kernel) ?_
              refine lv_istore (lv' := [zI 5 0, zI 4 0, zR 0 h0, zI 1 v0, zI 2 v1, zI 3 v2]) hx hb dX6_film_70 hl (by decide +kernel) rfl (fun ls hl => ?_)
              have loop_72 : ∀ (n9 : Nat) (p72 : Nat) (mn : Int32) (y72ce : Nat → Int32) (y72st : Nat → Int32) (y72ro : Nat → Int32) (x72sk : Nat → Int32) (x72na : Nat → Int32), (p72 ≤ pb) → (p_X6_film_72 ru fmo fkd fcd fsr v0 v1 v2 (pb - p72) p72 mn y72ce y72st y72ro = (g_X6_film_72 pb ru fst fro fmo fkd fcd fsr fce v0 v1 v2)) → (pb - p72) < n9 → ∀ (H : Heap) (locs : List Loc), va_P G.1 vwCl [zo6 h0 (nI pb) kd mo st (nI jg) ro tp (nI td) cd sr (nI tx) (nI ru) him ir ih ss sq ce lw s19 s20 s21 s22 wo he s25 s26 s27 sk na kp s31 s32 s33 s34 gb go fa ga s39 s40 vo, zi G st 12 y72st, zi G ro 12 y72ro, zi G mo 6 fmo, zi G kd 6 fkd, zi G cd 1200 fcd, zi G sr 24 (nF fsr), zi G sk 200 x72sk, zi G na 6 x72na, zi G kp 24 (mKeep fro fst), zi G sq 4 (nF fsq), zi G ce 160 y72ce, zi G ss 4 fss] H → va_D A [zo6 h0 (nI pb) kd mo st (nI jg) ro tp (nI td) cd sr (nI tx) (nI ru) him ir ih ss sq ce lw s19 s20 s21 s22 wo he s25 s26 s27 sk na kp s31 s32 s33 s34 gb go fa ga s39 s40 vo, zi G st 12 y72st, zi G ro 12 y72ro, zi G mo 6 fmo, zi G kd 6 fkd, zi G cd 1200 fcd, zi G sr 24 (nF fsr), zi G sk 200 x72sk, zi G na 6 x72na, zi G kp 24 (mKeep fro fst), zi G sq 4 (nF fsq), zi G ce 160 y72ce, zi G ss 4 fss] → va_S A s.heap H locs → ∀ ls : Array Slot, lv_has ls 8 [zI 5 (nI p72), zI 4 mn, zR 0 h0, zI 1 v0, zI 2 v1, zI 3 v2] → W p l e (headSpec wsX6_film ({ frames := 6, cells := 0, slots := 0, locals := 145 })).room s m ([.ref h0, .int v0, .int v1, .int v2] : List Value).toArray below meth c H locs 0 0 (MQ below (q_X6_film G h0 kd mo st ro tp cd sr ir ih ss sq ce lw wo he sk na kp gb go fa ga vo pb jg td tx ru him s19 s20 s21 s22 s25 s26 s27 s31 s32 s33 s34 s39 s40 fst fro fmo fkd fcd fsr fsk fna fkp fsq fce fss v0 v1 v2 A) ([.ref h0, .int v0, .int v1, .int v2] : List Value).toArray s 0 0 A) (F0 m 72 ls []) := by
                intro n9
                induction n9 with
                | zero => intro p72 mn y72ce y72st y72ro x72sk x72na hp72 R72 hm9_72; exact absurd hm9_72 (Nat.not_lt_zero _)
                | succ n9 ih9_72 =>
                  intro p72 mn y72ce y72st y72ro x72sk x72na hp72 R72 hm9_72 H locs hP hD hS ls hl
                  refine lv_iload hx hb dX6_film_72 (lv_at hl 0 rfl) ?_
                  refine g_aget (D := G.1) (ci := 6) (v := .int (nI pb)) (C := RX6) (T := TX6) (N := 42) hx hb dX6_film_74 rfl (lv_at hl 2 rfl) hts hiX6 hown hK hP 0 rfl rfl 0 (by decide +kernel) kf88 (fun _ h9 => h9) rfl dX6_film_75 ?_
                  refine lv_icmp_ge (tgt := 175) hx hb dX6_film_78 (by decide +kernel) (fun c_25 => ?_) (fun c_25 => ?_)
                  · skip
                    have c_25N : pb ≤ p72 := nI_le1 (a := pb) (b := p72) (by omega) (by omega) c_25
                    have hF72 : (g_X6_film_72 pb ru fst fro fmo fkd fcd fsr fce v0 v1 v2) = (p72, mn, y72ce, y72st, y72ro) := by rw [← R72, show pb - p72 = 0 by omega]; rfl
                    have hE72_0 : p72 = ((g_X6_film_72 pb ru fst fro fmo fkd fcd fsr fce v0 v1 v2).1) := by rw [hF72]
                    have hE72_1 : mn = ((g_X6_film_72 pb ru fst fro fmo fkd fcd fsr fce v0 v1 v2).2.1) := by rw [hF72]
                    have hE72_2 : y72ce = ((g_X6_film_72 pb ru fst fro fmo fkd fcd fsr fce v0 v1 v2).2.2.1) := by rw [hF72]
                    have hE72_3 : y72st = ((g_X6_film_72 pb ru fst fro fmo fkd fcd fsr fce v0 v1 v2).2.2.2.1) := by rw [hF72]
                    have hE72_4 : y72ro = ((g_X6_film_72 pb ru fst fro fmo fkd fcd fsr fce v0 v1 v2).2.2.2.2) := by rw [hF72]
                    clear hF72 R72
                    subst hE72_0
                    subst hE72_1
                    subst hE72_2
                    subst hE72_3
                    subst hE72_4
                    refine lv_aload_n hx hb dX6_film_175 rfl (lv_at hl 2 rfl) ?_
                    refine z_callv [0, 9, 2, 1] (va_runV (As := []) (rest := []) ⟨hx, hb, hml, hown, hts⟩ (c_X6_laysBack l G h0 kd mo st ro tp cd sr ir ih ss sq ce lw wo he sk na kp gb go fa ga vo pb jg td tx ru him s19 s20 s21 s22 s25 s26 s27 s31 s32 s33 s34 s39 s40 ((g_X6_film_72 pb ru fst fro fmo fkd fcd fsr fce v0 v1 v2).2.2.2.2) ((g_X6_film_72 pb ru fst fro fmo fkd fcd fsr fce v0 v1 v2).2.2.2.1) fro fst H.size (by first | exact hpb | assumption | omega) (by first | exact hjg | assumption | omega) (by first | exact htx | assumption | omega) (by first | exact hru | assumption | omega)) (cwV 0 hts gX6_film_X6_laysBack rfl rfl rfl (by decide +kernel) ⟨Nat.le_of_ble_eq_true rfl, Nat.le_of_ble_eq_true rfl⟩) ⟨gPre_blind, va_recv (q := (RX6, TX6, 42)) hK hP (ci := 6) (q0 := 0) rfl rfl, fun U hU hW => gPre_ofF [0, 9, 2, 1] hU hW hK hP hD (by decide +kernel) rfl⟩ rfl rfl hl.1 rfl (lv_room (Nat.le_of_ble_eq_true rfl)) dX6_film_176 ⟨Nat.le_of_ble_eq_true rfl, Nat.le_of_ble_eq_true rfl⟩) hS hD hA rfl (fun u t H locs ht hvm w_27 hB hz1 hk1 hFq hAq hS => ?_)
                    obtain ⟨hP1, hK1, hD1⟩ := hB
                    have hz9 : gPD G A [zo6 h0 (nI pb) kd mo st (nI jg) ro tp (nI td) cd sr (nI tx) (nI ru) him ir ih ss sq ce lw s19 s20 s21 s22 wo he s25 s26 s27 sk na kp s31 s32 s33 s34 gb go fa ga s39 s40 vo, zi G st 12 fst, zi G ro 12 fro, zi G mo 6 fmo, zi G kd 6 fkd, zi G cd 1200 fcd, zi G sr 24 (nF fsr), zi G sk 200 x72sk, zi G na 6 x72na, zi G kp 24 (mKeep fro fst), zi G sq 4 (nF fsq), zi G ce 160 ((g_X6_film_72 pb ru fst fro fmo fkd fcd fsr fce v0 v1 v2).2.2.1), zi G ss 4 fss] H := zFill hP hD [0, 9, 2, 1] [1, 4, 3, 0, 0, 0, 0, 0, 0, 2] hAq hk1 hFq ht hP1 hD1 rfl (by decide +kernel)
                    have hP := hz9.1
                    have hD := hz9.2
                    refine g_aget (D := G.1) (ci := 6) (v := .ref ss) (C := RX6) (T := TX6) (N := 42) hx hb dX6_film_179 rfl (lv_at hl 2 rfl) hts hiX6 hown hK hP 0 rfl rfl 15 (by decide +kernel) kf37 (fun _ h9 => h9) rfl dX6_film_180 ?_
                    refine lv_iload_n hx hb dX6_film_183 rfl (lv_at hl 3 rfl) ?_
                    refine g_topi (y := nI (nC v0)) hv_6 ?_
                    refine lv_iconst (v := 0) hx hb dX6_film_184 (by decide +kernel) ?_
                    refine g_iast (D := G.1) hx hb hK hP hD hS 12 0 rfl rfl (k := nC v0) (x := 0) (by omega) rfl dX6_film_185 (fun H locs hP hD hS => ?_)
                    have hz9 : gPD G A [zo6 h0 (nI pb) kd mo st (nI jg) ro tp (nI td) cd sr (nI tx) (nI ru) him ir ih ss sq ce lw s19 s20 s21 s22 wo he s25 s26 s27 sk na kp s31 s32 s33 s34 gb go fa ga s39 s40 vo, zi G st 12 fst, zi G ro 12 fro, zi G mo 6 fmo, zi G kd 6 fkd, zi G cd 1200 fcd, zi G sr 24 (nF fsr), zi G sk 200 x72sk, zi G na 6 x72na, zi G kp 24 (mKeep fro fst), zi G sq 4 (nF fsq), zi G ce 160 ((g_X6_film_72 pb ru fst fro fmo fkd fcd fsr fce v0 v1 v2).2.2.1), zi G ss 4 (upd fss (nC v0) 0)] H := ⟨hP, hD⟩
                    have hP := hz9.1
                    have hD := hz9.2
                    refine g_aget (D := G.1) (ci := 6) (v := .ref sq) (C := RX6) (T := TX6) (N := 42) hx hb dX6_film_186 rfl (lv_at hl 2 rfl) hts hiX6 hown hK hP 0 rfl rfl 16 (by decide +kernel) kf40 (fun _ h9 => h9) rfl dX6_film_187 ?_
                    refine lv_iload_n hx hb dX6_film_190 rfl (lv_at hl 3 rfl) ?_
                    refine g_topi (y := nI (nC v0)) hv_6 ?_
                    refine lv_iconst (v := 3) hx hb dX6_film_191 (by decide +kernel) ?_
                    refine g_aget (D := G.1) (ci := 6) (v := .int (nI pb)) (C := RX6) (T := TX6) (N := 42) hx hb dX6_film_192 rfl (lv_at hl 2 rfl) hts hiX6 hown hK hP 0 rfl rfl 0 (by decide +kernel) kf88 (fun _ h9 => h9) rfl dX6_film_193 ?_
                    refine lv_imul hx hb dX6_film_196 ?_
                    refine g_topi (y := nI (3 * pb)) (pk_mul 3 pb) ?_
                    refine va_iast (D := G.1) hx hb hK hP hD hS 10 0 rfl rfl (i := (nI (nC v0))) (x := (nI (3 * pb))) (vpn (by omega) rfl) dX6_film_197 (fun H locs hP hD hS => ?_)
                    have hz9 : gPD G A [zo6 h0 (nI pb) kd mo st (nI jg) ro tp (nI td) cd sr (nI tx) (nI ru) him ir ih ss sq ce lw s19 s20 s21 s22 wo he s25 s26 s27 sk na kp s31 s32 s33 s34 gb go fa ga s39 s40 vo, zi G st 12 fst, zi G ro 12 fro, zi G mo 6 fmo, zi G kd 6 fkd, zi G cd 1200 fcd, zi G sr 24 (nF fsr), zi G sk 200 x72sk, zi G na 6 x72na, zi G kp 24 (mKeep fro fst), zi G sq 4 (nF (updN fsq (nC v0) (3 * pb))), zi G ce 160 ((g_X6_film_72 pb ru fst fro fmo fkd fcd fsr fce v0 v1 v2).2.2.1), zi G ss 4 (upd fss (nC v0) 0)] H := ⟨by rw [nI_clamp (by omega), show upd (nF fsq) (nC v0) (nI (3 * pb)) = nF (updN fsq (nC v0) (3 * pb)) from nF_upd] at hP; exact hP, by rw [nI_clamp (by omega), show upd (nF fsq) (nC v0) (nI (3 * pb)) = nF (updN fsq (nC v0) (3 * pb)) from nF_upd] at hD; exact hD⟩
                    have hP := hz9.1
                    have hD := hz9.2
                    refine lv_iload hx hb dX6_film_198 (lv_at hl 1 rfl) ?_
                    have q_31 : m_X6_film_sq pb jg fsq v0 v1 v2 = updN fsq (nC v0) (3 * pb) := by unfold m_X6_film_sq; rw [if_pos p_4, if_pos p_11, if_pos p_18]
                    have q_32 : m_X6_film_ce pb jg ru fst fro fmo fkd fcd fsr fce v0 v1 v2 = ((g_X6_film_72 pb ru fst fro fmo fkd fcd fsr fce v0 v1 v2).2.2.1) := by unfold m_X6_film_ce; rw [if_pos p_4, if_pos p_11, if_pos p_18]
                    have q_33 : m_X6_film_ss jg fss v0 v1 v2 = upd fss (nC v0) 0 := by unfold m_X6_film_ss; rw [if_pos p_4, if_pos p_11, if_pos p_18]
                    have hz9 : gPD G A [zo6 h0 (nI pb) kd mo st (nI jg) ro tp (nI td) cd sr (nI tx) (nI ru) him ir ih ss sq ce lw s19 s20 s21 s22 wo he s25 s26 s27 sk na kp s31 s32 s33 s34 gb go fa ga s39 s40 vo, zi G st 12 fst, zi G ro 12 fro, zi G mo 6 fmo, zi G kd 6 fkd, zi G cd 1200 fcd, zi G sr 24 (nF fsr), zi G sk 200 x72sk, zi G na 6 x72na, zi G kp 24 (mKeep fro fst), zi G sq 4 (nF (m_X6_film_sq pb jg fsq v0 v1 v2)), zi G ce 160 (m_X6_film_ce pb jg ru fst fro fmo fkd fcd fsr fce v0 v1 v2), zi G ss 4 (m_X6_film_ss jg fss v0 v1 v2)] H := ⟨by rw [q_31, q_32, q_33]; exact hP, by rw [q_31, q_32, q_33]; exact hD⟩
                    have hP9 := hz9.1
                    have hD9 := hz9.2
                    have hpost : (fun (r : Int32) (u : (Nat → Int32) × (Nat → Int32) × (Nat → Int32)) => match u with | (ysk, yna, ykp) => r = m_X6_film pb jg ru fst fro fmo fkd fcd fsr fce v0 v1 v2) ((g_X6_film_72 pb ru fst fro fmo fkd fcd fsr fce v0 v1 v2).2.1) (x72sk, x72na, mKeep fro fst) := (show m_X6_film pb jg ru fst fro fmo fkd fcd fsr fce v0 v1 v2 = ((g_X6_film_72 pb ru fst fro fmo fkd fcd fsr fce v0 v1 v2).2.1) from by unfold m_X6_film; rw [if_pos p_4, if_pos p_11, if_pos p_18]).symm
                    exact W.iret (v := ((g_X6_film_72 pb ru fst fro fmo fkd fcd fsr fce v0 v1 v2).2.1)) hx hb hr (fun t ht hW => ⟨⟨((g_X6_film_72 pb ru fst fro fmo fkd fcd fsr fce v0 v1 v2).2.1), (x72sk, x72na, mKeep fro fst), rfl, hpost, by rw [ht]; exact hP9, va_K.moved hW.alike hK, hD9⟩, hS.F ht⟩) hS.2.2 dX6_film_200
                  · skip
                    have c_25N : p72 < pb := nI_le0 (a := pb) (b := p72) (by omega) (by omega) c_25
                    refine lv_aload_n hx hb dX6_film_81 rfl (lv_at hl 2 rfl) ?_
                    refine lv_iload_n hx hb dX6_film_82 rfl (lv_at hl 4 rfl) ?_
                    refine g_topi (y := nI (nC v1)) hv_13 ?_
                    refine lv_iload hx hb dX6_film_83 (lv_at hl 0 rfl) ?_
                    refine lv_iload_n hx hb dX6_film_85 rfl (lv_at hl 5 rfl) ?_
                    refine g_topi (y := nI (nC v2)) hv_20 ?_
                    refine z_calli [0, 1, 2, 3, 4, 5, 6, 7, 8] (v := m_X6_caseOf ru y72st y72ro fmo fkd fcd fsr (nC v1) p72 (nC v2)) (fun _ ⟨_, _⟩ h => h) (va_runV (As := [.int (nI (nC v1)), .int (nI p72), .int (nI (nC v2))]) (rest := []) ⟨hx, hb, hml, hown, hts⟩ (c_X6_caseOf l G h0 kd mo st ro tp cd sr ir ih ss sq ce lw wo he sk na kp gb go fa ga vo pb jg td tx ru him s19 s20 s21 s22 s25 s26 s27 s31 s32 s33 s34 s39 s40 y72st y72ro fmo fkd fcd fsr x72sk x72na (nC v1) p72 (nC v2) H.size (by first | exact hj | assumption | omega) (by first | exact hp | assumption | omega) (by first | exact hnn | assumption | omega) (hwa _ (by omega)) (by first | exact hpb | assumption | omega) (by first | exact hjg | assumption | omega) (by first | exact htx | assumption | omega) (by first | exact hru | assumption | omega)) (cwV 3 hts gX6_film_X6_caseOf rfl rfl rfl (by decide +kernel) ⟨Nat.le_of_ble_eq_true rfl, Nat.le_of_ble_eq_true rfl⟩) ⟨gPre_blind, va_recv (q := (RX6, TX6, 42)) hK hP (ci := 6) (q0 := 0) rfl rfl, fun U hU hW => gPre_ofF [0, 1, 2, 3, 4, 5, 6, 7, 8] hU hW hK hP hD (by decide +kernel) rfl⟩ rfl rfl hl.1 rfl (lv_room (Nat.le_of_ble_eq_true rfl)) dX6_film_86 ⟨Nat.le_of_ble_eq_true rfl, Nat.le_of_ble_eq_true rfl⟩) hS hD hA rfl (fun u t H locs ht hvm hB hz1 hk1 hFq hAq hS => ?_)
                    obtain ⟨ysk_38, yna_39⟩ := u
                    obtain ⟨hP1, hK1, hD1⟩ := hB
                    have hz9 : gPD G A [zo6 h0 (nI pb) kd mo st (nI jg) ro tp (nI td) cd sr (nI tx) (nI ru) him ir ih ss sq ce lw s19 s20 s21 s22 wo he s25 s26 s27 sk na kp s31 s32 s33 s34 gb go fa ga s39 s40 vo, zi G st 12 (m_X6_caseOf_st ru y72st y72ro fmo fkd fcd fsr (nC v1) p72 (nC v2)), zi G ro 12 (m_X6_caseOf_ro ru y72st y72ro fmo fkd fcd fsr (nC v1) p72 (nC v2)), zi G mo 6 fmo, zi G kd 6 fkd, zi G cd 1200 fcd, zi G sr 24 (nF fsr), zi G sk 200 ysk_38, zi G na 6 yna_39, zi G kp 24 (mKeep fro fst), zi G sq 4 (nF fsq), zi G ce 160 y72ce, zi G ss 4 fss] H := zFill hP hD [0, 1, 2, 3, 4, 5, 6, 7, 8] [1, 2, 3, 4, 5, 6, 7, 8, 9] hAq hk1 hFq ht hP1 hD1 rfl (by decide +kernel)
                    have hP := hz9.1
                    have hD := hz9.2
                    refine lv_istore (lv' := [zI 6 (m_X6_caseOf ru y72st y72ro fmo fkd fcd fsr (nC v1) p72 (nC v2)), zI 5 (nI p72), zI 4 mn, zR 0 h0, zI 1 v0, zI 2 v1, zI 3 v2]) hx hb dX6_film_89 hl (by decide +kernel) rfl (fun ls hl => ?_)
                    refine lv_iload hx hb dX6_film_91 (lv_at hl 0 rfl) ?_
                    refine lv_aload_n hx hb dX6_film_93 rfl (lv_at hl 3 rfl) ?_
                    refine lv_iconst (v := 2) hx hb dX6_film_94 (by decide +kernel) ?_
                    refine lv_iload_n hx hb dX6_film_95 rfl (lv_at hl 5 rfl) ?_
                    refine g_topi (y := nI (nC v1)) hv_13 ?_
                    refine lv_iload hx hb dX6_film_96 (lv_at hl 1 rfl) ?_
                    refine z_calli [0, 1, 2, 3, 5, 6, 7, 8] (v := m_X6_asksOf ru (m_X6_caseOf_st ru y72st y72ro fmo fkd fcd fsr (nC v1) p72 (nC v2)) (m_X6_caseOf_ro ru y72st y72ro fmo fkd fcd fsr (nC v1) p72 (nC v2)) fmo fcd fsr 2 (nC v1) p72) (fun _ ⟨_, _⟩ h => h) (va_runV (As := [.int 2, .int (nI (nC v1)), .int (nI p72)]) (rest := [.int (m_X6_caseOf ru y72st y72ro fmo fkd fcd fsr (nC v1) p72 (nC v2))]) ⟨hx, hb, hml, hown, hts⟩ (c_X6_asksOf l G h0 kd mo st ro tp cd sr ir ih ss sq ce lw wo he sk na kp gb go fa ga vo pb jg td tx ru him s19 s20 s21 s22 s25 s26 s27 s31 s32 s33 s34 s39 s40 (m_X6_caseOf_st ru y72st y72ro fmo fkd fcd fsr (nC v1) p72 (nC v2)) (m_X6_caseOf_ro ru y72st y72ro fmo fkd fcd fsr (nC v1) p72 (nC v2)) fmo fcd fsr ysk_38 yna_39 2 (nC v1) p72 H.size (by omega) (by first | exact hj | assumption | omega) (by first | exact hp | assumption | omega) (hwa _ (by omega)) (by first | exact hpb | assumption | omega) (by first | exact hjg | assumption | omega) (by first | exact htx | assumption | omega) (by first | exact hru | assumption | omega)) (cwV 3 hts gX6_film_X6_asksOf rfl rfl rfl (by decide +kernel) ⟨Nat.le_of_ble_eq_true rfl, Nat.le_of_ble_eq_true rfl⟩) ⟨gPre_blind, va_recv (q := (RX6, TX6, 42)) hK hP (ci := 6) (q0 := 0) rfl rfl, fun U hU hW => gPre_ofF [0, 1, 2, 3, 5, 6, 7, 8] hU hW hK hP hD (by decide +kernel) rfl⟩ rfl rfl hl.1 rfl (lv_room (Nat.le_of_ble_eq_true rfl)) dX6_film_98 ⟨Nat.le_of_ble_eq_true rfl, Nat.le_of_ble_eq_true rfl⟩) hS hD hA rfl (fun u t H locs ht hvm hB hz1 hk1 hFq hAq hS => ?_)
                    obtain ⟨ysk_43, yna_44⟩ := u
                    obtain ⟨hP1, hK1, hD1⟩ := hB
                    have hz9 : gPD G A [zo6 h0 (nI pb) kd mo st (nI jg) ro tp (nI td) cd sr (nI tx) (nI ru) him ir ih ss sq ce lw s19 s20 s21 s22 wo he s25 s26 s27 sk na kp s31 s32 s33 s34 gb go fa ga s39 s40 vo, zi G st 12 (m_X6_caseOf_st ru y72st y72ro fmo fkd fcd fsr (nC v1) p72 (nC v2)), zi G ro 12 (m_X6_caseOf_ro ru y72st y72ro fmo fkd fcd fsr (nC v1) p72 (nC v2)), zi G mo 6 fmo, zi G kd 6 fkd, zi G cd 1200 fcd, zi G sr 24 (nF fsr), zi G sk 200 ysk_43, zi G na 6 yna_44, zi G kp 24 (mKeep fro fst), zi G sq 4 (nF fsq), zi G ce 160 y72ce, zi G ss 4 fss] H := zFill hP hD [0, 1, 2, 3, 5, 6, 7, 8] [1, 2, 3, 4, 0, 5, 6, 7, 8] hAq hk1 hFq ht hP1 hD1 rfl (by decide +kernel)
                    have hP := hz9.1
                    have hD := hz9.2
                    refine lv_icmp_lt (tgt := 108) hx hb dX6_film_101 (by decide +kernel) (fun c_45 => ?_) (fun c_45 => ?_)
                    · skip
                      refine lv_iconst (v := 0) hx hb dX6_film_108 (by decide +kernel) ?_
                      refine lv_istore (lv' := [zI 7 0, zI 6 (m_X6_caseOf ru y72st y72ro fmo fkd fcd fsr (nC v1) p72 (nC v2)), zI 5 (nI p72), zI 4 mn, zR 0 h0, zI 1 v0, zI 2 v1, zI 3 v2]) hx hb dX6_film_109 hl (by decide +kernel) rfl (fun ls hl => ?_)
                      refine g_aget (D := G.1) (ci := 6) (v := .ref ce) (C := RX6) (T := TX6) (N := 42) hx hb dX6_film_111 rfl (lv_at hl 4 rfl) hts hiX6 hown hK hP 0 rfl rfl 17 (by decide +kernel) kf43 (fun _ h9 => h9) rfl dX6_film_112 ?_
                      refine lv_bipush (v := 40) hx hb dX6_film_115 (by decide +kernel) ?_
                      refine lv_iload_n hx hb dX6_film_117 rfl (lv_at hl 5 rfl) ?_
                      refine g_topi (y := nI (nC v0)) hv_6 ?_
                      refine lv_imul hx hb dX6_film_118 ?_
                      refine g_topi (y := nI (40 * (nC v0))) (pk_mul 40 (nC v0)) ?_
                      refine lv_iconst (v := 3) hx hb dX6_film_119 (by decide +kernel) ?_
                      refine lv_iload hx hb dX6_film_120 (lv_at hl 2 rfl) ?_
                      refine lv_imul hx hb dX6_film_122 ?_
                      refine g_topi (y := nI (3 * p72)) (pk_mul 3 p72) ?_
                      refine lv_iadd hx hb dX6_film_123 ?_
                      refine g_topi (y := nI ((40 * (nC v0)) + (3 * p72))) (nI_add (40 * (nC v0)) (3 * p72)) ?_
                      refine lv_iload hx hb dX6_film_124 (lv_at hl 2 rfl) ?_
                      refine g_iast (D := G.1) hx hb hK hP hD hS 11 0 rfl rfl (k := (40 * (nC v0)) + (3 * p72)) (x := (nI p72)) (by omega) rfl dX6_film_126 (fun H locs hP hD hS => ?_)
                      have hz9 : gPD G A [zo6 h0 (nI pb) kd mo st (nI jg) ro tp (nI td) cd sr (nI tx) (nI ru) him ir ih ss sq ce lw s19 s20 s21 s22 wo he s25 s26 s27 sk na kp s31 s32 s33 s34 gb go fa ga s39 s40 vo, zi G st 12 (m_X6_caseOf_st ru y72st y72ro fmo fkd fcd fsr (nC v1) p72 (nC v2)), zi G ro 12 (m_X6_caseOf_ro ru y72st y72ro fmo fkd fcd fsr (nC v1) p72 (nC v2)), zi G mo 6 fmo, zi G kd 6 fkd, zi G cd 1200 fcd, zi G sr 24 (nF fsr), zi G sk 200 ysk_43, zi G na 6 yna_44, zi G kp 24 (mKeep fro fst), zi G sq 4 (nF fsq), zi G ce 160 (upd y72ce ((40 * (nC v0)) + (3 * p72)) (nI p72)), zi G ss 4 fss] H := ⟨hP, hD⟩
                      have hP := hz9.1
                      have hD := hz9.2
                      refine g_aget (D := G.1) (ci := 6) (v := .ref ce) (C := RX6) (T := TX6) (N := 42) hx hb dX6_film_127 rfl (lv_at hl 4 rfl) hts hiX6 hown hK hP 0 rfl rfl 17 (by decide +kernel) kf43 (fun _ h9 => h9) rfl dX6_film_128 ?_
                      refine lv_bipush (v := 40) hx hb dX6_film_131 (by decide +kernel) ?_
                      refine lv_iload_n hx hb dX6_film_133 rfl (lv_at hl 5 rfl) ?_
                      refine g_topi (y := nI (nC v0)) hv_6 ?_
                      refine lv_imul hx hb dX6_film_134 ?_
                      refine g_topi (y := nI (40 * (nC v0))) (pk_mul 40 (nC v0)) ?_
                      refine lv_iconst (v := 3) hx hb dX6_film_135 (by decide +kernel) ?_
                      refine lv_iload hx hb dX6_film_136 (lv_at hl 2 rfl) ?_
                      refine lv_imul hx hb dX6_film_138 ?_
                      refine g_topi (y := nI (3 * p72)) (pk_mul 3 p72) ?_
                      refine lv_iadd hx hb dX6_film_139 ?_
                      refine g_topi (y := nI ((40 * (nC v0)) + (3 * p72))) (nI_add (40 * (nC v0)) (3 * p72)) ?_
                      refine lv_iconst (v := 1) hx hb dX6_film_140 (by decide +kernel) ?_
                      refine lv_iadd hx hb dX6_film_141 ?_
                      refine g_topi (y := nI (((40 * (nC v0)) + (3 * p72)) + 1)) (nI_add ((40 * (nC v0)) + (3 * p72)) 1) ?_
                      refine lv_iload_n hx hb dX6_film_142 rfl (lv_at hl 7 rfl) ?_
                      refine g_topi (y := nI (nC v2)) hv_20 ?_
                      refine g_iast (D := G.1) hx hb hK hP hD hS 11 0 rfl rfl (k := ((40 * (nC v0)) + (3 * p72)) + 1) (x := (nI (nC v2))) (by omega) rfl dX6_film_143 (fun H locs hP hD hS => ?_)
                      have hz9 : gPD G A [zo6 h0 (nI pb) kd mo st (nI jg) ro tp (nI td) cd sr (nI tx) (nI ru) him ir ih ss sq ce lw s19 s20 s21 s22 wo he s25 s26 s27 sk na kp s31 s32 s33 s34 gb go fa ga s39 s40 vo, zi G st 12 (m_X6_caseOf_st ru y72st y72ro fmo fkd fcd fsr (nC v1) p72 (nC v2)), zi G ro 12 (m_X6_caseOf_ro ru y72st y72ro fmo fkd fcd fsr (nC v1) p72 (nC v2)), zi G mo 6 fmo, zi G kd 6 fkd, zi G cd 1200 fcd, zi G sr 24 (nF fsr), zi G sk 200 ysk_43, zi G na 6 yna_44, zi G kp 24 (mKeep fro fst), zi G sq 4 (nF fsq), zi G ce 160 (upd (upd y72ce ((40 * (nC v0)) + (3 * p72)) (nI p72)) (((40 * (nC v0)) + (3 * p72)) + 1) (nI (nC v2))), zi G ss 4 fss] H := ⟨hP, hD⟩
                      have hP := hz9.1
                      have hD := hz9.2
                      refine g_aget (D := G.1) (ci := 6) (v := .ref ce) (C := RX6) (T := TX6) (N := 42) hx hb dX6_film_144 rfl (lv_at hl 4 rfl) hts hiX6 hown hK hP 0 rfl rfl 17 (by decide +kernel) kf43 (fun _ h9 => h9) rfl dX6_film_145 ?_
                      refine lv_bipush (v := 40) hx hb dX6_film_148 (by decide +kernel) ?_
                      refine lv_iload_n hx hb dX6_film_150 rfl (lv_at hl 5 rfl) ?_
                      refine g_topi (y := nI (nC v0)) hv_6 ?_
                      refine lv_imul hx hb dX6_film_151 ?_
                      refine g_topi (y := nI (40 * (nC v0))) (pk_mul 40 (nC v0)) ?_
                      refine lv_iconst (v := 3) hx hb dX6_film_152 (by decide +kernel) ?_
                      refine lv_iload hx hb dX6_film_153 (lv_at hl 2 rfl) ?_
                      refine lv_imul hx hb dX6_film_155 ?_
                      refine g_topi (y := nI (3 * p72)) (pk_mul 3 p72) ?_
                      refine lv_iadd hx hb dX6_film_156 ?_
                      refine g_topi (y := nI ((40 * (nC v0)) + (3 * p72))) (nI_add (40 * (nC v0)) (3 * p72)) ?_
                      refine lv_iconst (v := 2) hx hb dX6_film_157 (by decide +kernel) ?_
                      refine lv_iadd hx hb dX6_film_158 ?_
                      refine g_topi (y := nI (((40 * (nC v0)) + (3 * p72)) + 2)) (nI_add ((40 * (nC v0)) + (3 * p72)) 2) ?_
                      refine lv_iload hx hb dX6_film_159 (lv_at hl 0 rfl) ?_
                      refine g_iast (D := G.1) hx hb hK hP hD hS 11 0 rfl rfl (k := ((40 * (nC v0)) + (3 * p72)) + 2) (x := 0) (by omega) rfl dX6_film_161 (fun H locs hP hD hS => ?_)
                      have hz9 : gPD G A [zo6 h0 (nI pb) kd mo st (nI jg) ro tp (nI td) cd sr (nI tx) (nI ru) him ir ih ss sq ce lw s19 s20 s21 s22 wo he s25 s26 s27 sk na kp s31 s32 s33 s34 gb go fa ga s39 s40 vo, zi G st 12 (m_X6_caseOf_st ru y72st y72ro fmo fkd fcd fsr (nC v1) p72 (nC v2)), zi G ro 12 (m_X6_caseOf_ro ru y72st y72ro fmo fkd fcd fsr (nC v1) p72 (nC v2)), zi G mo 6 fmo, zi G kd 6 fkd, zi G cd 1200 fcd, zi G sr 24 (nF fsr), zi G sk 200 ysk_43, zi G na 6 yna_44, zi G kp 24 (mKeep fro fst), zi G sq 4 (nF fsq), zi G ce 160 (upd (upd (upd y72ce ((40 * (nC v0)) + (3 * p72)) (nI p72)) (((40 * (nC v0)) + (3 * p72)) + 1) (nI (nC v2))) (((40 * (nC v0)) + (3 * p72)) + 2) 0), zi G ss 4 fss] H := ⟨hP, hD⟩
                      have hP := hz9.1
                      have hD := hz9.2
                      refine lv_iload hx hb dX6_film_162 (lv_at hl 3 rfl) ?_
                      refine lv_iload hx hb dX6_film_164 (lv_at hl 0 rfl) ?_
                      refine lv_iadd hx hb dX6_film_166 ?_
                      refine lv_istore (lv' := [zI 4 (mn + 0), zI 7 0, zI 6 (m_X6_caseOf ru y72st y72ro fmo fkd fcd fsr (nC v1) p72 (nC v2)), zI 5 (nI p72), zR 0 h0, zI 1 v0, zI 2 v1, zI 3 v2]) hx hb dX6_film_167 hl (by decide +kernel) rfl (fun ls hl => ?_)
                      refine lv_iinc (v := nI (p72 + 1)) (lv' := [zI 5 (nI (p72 + 1)), zI 4 (mn + 0), zI 7 0, zI 6 (m_X6_caseOf ru y72st y72ro fmo fkd fcd fsr (nC v1) p72 (nC v2)), zR 0 h0, zI 1 v0, zI 2 v1, zI 3 v2]) hx hb dX6_film_169 hl (k := 3) rfl (nI_add p72 1) (by decide +kernel) rfl (fun ls hl => ?_)
                      refine lv_goto (tgt := 72) hx hb dX6_film_172 (by decide +kernel) ?_
                      exact ih9_72 (p72 + 1) (mn + 0) (upd (upd (upd y72ce ((40 * (nC v0)) + (3 * p72)) (nI p72)) (((40 * (nC v0)) + (3 * p72)) + 1) (nI (nC v2))) (((40 * (nC v0)) + (3 * p72)) + 2) 0) (m_X6_caseOf_st ru y72st y72ro fmo fkd fcd fsr (nC v1) p72 (nC v2)) (m_X6_caseOf_ro ru y72st y72ro fmo fkd fcd fsr (nC v1) p72 (nC v2)) ysk_43 yna_44 (by omega) (Eq.trans (Eq.symm ((congrArg (fun z9 => p_X6_film_72 ru fmo fkd fcd fsr v0 v1 v2 (z9) p72 mn y72ce y72st y72ro) (show pb - p72 = pb - (p72 + 1) + 1 by omega)).trans (by show p_X6_film_72 ru fmo fkd fcd fsr v0 v1 v2 (pb - (p72 + 1) + 1) p72 mn y72ce y72st y72ro = _; rw [p_X6_film_72, if_pos c_45]))) R72) (by omega) _ _ hP hD hS ls (lv_sub hl [0, 1, 4, 5, 6, 7] rfl)
                    · skip
                      refine lv_iconst (v := 1) hx hb dX6_film_104 (by decide +kernel) ?_
                      refine lv_goto (tgt := 109) hx hb dX6_film_105 (by decide +kernel) ?_
                      refine lv_istore (lv' := [zI 7 1, zI 6 (m_X6_caseOf ru y72st y72ro fmo fkd fcd fsr (nC v1) p72 (nC v2)), zI 5 (nI p72), zI 4 mn, zR 0 h0, zI 1 v0, zI 2 v1, zI 3 v2]) hx hb dX6_film_109 hl (by decide +kernel) rfl (fun ls hl => ?_)
                      refine g_aget (D := G.1) (ci := 6) (v := .ref ce) (C := RX6) (T := TX6) (N := 42) hx hb dX6_film_111 rfl (lv_at hl 4 rfl) hts hiX6 hown hK hP 0 rfl rfl 17 (by decide +kernel) kf43 (fun _ h9 => h9) rfl dX6_film_112 ?_
                      refine lv_bipush (v := 40) hx hb dX6_film_115 (by decide +kernel) ?_
                      refine lv_iload_n hx hb dX6_film_117 rfl (lv_at hl 5 rfl) ?_
                      refine g_topi (y := nI (nC v0)) hv_6 ?_
                      refine lv_imul hx hb dX6_film_118 ?_
                      refine g_topi (y := nI (40 * (nC v0))) (pk_mul 40 (nC v0)) ?_
                      refine lv_iconst (v := 3) hx hb dX6_film_119 (by decide +kernel) ?_
                      refine lv_iload hx hb dX6_film_120 (lv_at hl 2 rfl) ?_
                      refine lv_imul hx hb dX6_film_122 ?_
                      refine g_topi (y := nI (3 * p72)) (pk_mul 3 p72) ?_
                      refine lv_iadd hx hb dX6_film_123 ?_
                      refine g_topi (y := nI ((40 * (nC v0)) + (3 * p72))) (nI_add (40 * (nC v0)) (3 * p72)) ?_
                      refine lv_iload hx hb dX6_film_124 (lv_at hl 2 rfl) ?_
                      refine g_iast (D := G.1) hx hb hK hP hD hS 11 0 rfl rfl (k := (40 * (nC v0)) + (3 * p72)) (x := (nI p72)) (by omega) rfl dX6_film_126 (fun H locs hP hD hS => ?_)
                      have hz9 : gPD G A [zo6 h0 (nI pb) kd mo st (nI jg) ro tp (nI td) cd sr (nI tx) (nI ru) him ir ih ss sq ce lw s19 s20 s21 s22 wo he s25 s26 s27 sk na kp s31 s32 s33 s34 gb go fa ga s39 s40 vo, zi G st 12 (m_X6_caseOf_st ru y72st y72ro fmo fkd fcd fsr (nC v1) p72 (nC v2)), zi G ro 12 (m_X6_caseOf_ro ru y72st y72ro fmo fkd fcd fsr (nC v1) p72 (nC v2)), zi G mo 6 fmo, zi G kd 6 fkd, zi G cd 1200 fcd, zi G sr 24 (nF fsr), zi G sk 200 ysk_43, zi G na 6 yna_44, zi G kp 24 (mKeep fro fst), zi G sq 4 (nF fsq), zi G ce 160 (upd y72ce ((40 * (nC v0)) + (3 * p72)) (nI p72)), zi G ss 4 fss] H := ⟨hP, hD⟩
                      have hP := hz9.1
                      have hD := hz9.2
                      refine g_aget (D := G.1) (ci := 6) (v := .ref ce) (C := RX6) (T := TX6) (N := 42) hx hb dX6_film_127 rfl (lv_at hl 4 rfl) hts hiX6 hown hK hP 0 rfl rfl 17 (by decide +kernel) kf43 (fun _ h9 => h9) rfl dX6_film_128 ?_
                      refine lv_bipush (v := 40) hx hb dX6_film_131 (by decide +kernel) ?_
                      refine lv_iload_n hx hb dX6_film_133 rfl (lv_at hl 5 rfl) ?_
                      refine g_topi (y := nI (nC v0)) hv_6 ?_
                      refine lv_imul hx hb dX6_film_134 ?_
                      refine g_topi (y := nI (40 * (nC v0))) (pk_mul 40 (nC v0)) ?_
                      refine lv_iconst (v := 3) hx hb dX6_film_135 (by decide +kernel) ?_
                      refine lv_iload hx hb dX6_film_136 (lv_at hl 2 rfl) ?_
                      refine lv_imul hx hb dX6_film_138 ?_
                      refine g_topi (y := nI (3 * p72)) (pk_mul 3 p72) ?_
                      refine lv_iadd hx hb dX6_film_139 ?_
                      refine g_topi (y := nI ((40 * (nC v0)) + (3 * p72))) (nI_add (40 * (nC v0)) (3 * p72)) ?_
                      refine lv_iconst (v := 1) hx hb dX6_film_140 (by decide +kernel) ?_
                      refine lv_iadd hx hb dX6_film_141 ?_
                      refine g_topi (y := nI (((40 * (nC v0)) + (3 * p72)) + 1)) (nI_add ((40 * (nC v0)) + (3 * p72)) 1) ?_
                      refine lv_iload_n hx hb dX6_film_142 rfl (lv_at hl 7 rfl) ?_
                      refine g_topi (y := nI (nC v2)) hv_20 ?_
                      refine g_iast (D := G.1) hx hb hK hP hD hS 11 0 rfl rfl (k := ((40 * (nC v0)) + (3 * p72)) + 1) (x := (nI (nC v2))) (by omega) rfl dX6_film_143 (fun H locs hP hD hS => ?_)
                      have hz9 : gPD G A [zo6 h0 (nI pb) kd mo st (nI jg) ro tp (nI td) cd sr (nI tx) (nI ru) him ir ih ss sq ce lw s19 s20 s21 s22 wo he s25 s26 s27 sk na kp s31 s32 s33 s34 gb go fa ga s39 s40 vo, zi G st 12 (m_X6_caseOf_st ru y72st y72ro fmo fkd fcd fsr (nC v1) p72 (nC v2)), zi G ro 12 (m_X6_caseOf_ro ru y72st y72ro fmo fkd fcd fsr (nC v1) p72 (nC v2)), zi G mo 6 fmo, zi G kd 6 fkd, zi G cd 1200 fcd, zi G sr 24 (nF fsr), zi G sk 200 ysk_43, zi G na 6 yna_44, zi G kp 24 (mKeep fro fst), zi G sq 4 (nF fsq), zi G ce 160 (upd (upd y72ce ((40 * (nC v0)) + (3 * p72)) (nI p72)) (((40 * (nC v0)) + (3 * p72)) + 1) (nI (nC v2))), zi G ss 4 fss] H := ⟨hP, hD⟩
                      have hP := hz9.1
                      have hD := hz9.2
                      refine g_aget (D := G.1) (ci := 6) (v := .ref ce) (C := RX6) (T := TX6) (N := 42) hx hb dX6_film_144 rfl (lv_at hl 4 rfl) hts hiX6 hown hK hP 0 rfl rfl 17 (by decide +kernel) kf43 (fun _ h9 => h9) rfl dX6_film_145 ?_
                      refine lv_bipush (v := 40) hx hb dX6_film_148 (by decide +kernel) ?_
                      refine lv_iload_n hx hb dX6_film_150 rfl (lv_at hl 5 rfl) ?_
                      refine g_topi (y := nI (nC v0)) hv_6 ?_
                      refine lv_imul hx hb dX6_film_151 ?_
                      refine g_topi (y := nI (40 * (nC v0))) (pk_mul 40 (nC v0)) ?_
                      refine lv_iconst (v := 3) hx hb dX6_film_152 (by decide +kernel) ?_
                      refine lv_iload hx hb dX6_film_153 (lv_at hl 2 rfl) ?_
                      refine lv_imul hx hb dX6_film_155 ?_
                      refine g_topi (y := nI (3 * p72)) (pk_mul 3 p72) ?_
                      refine lv_iadd hx hb dX6_film_156 ?_
                      refine g_topi (y := nI ((40 * (nC v0)) + (3 * p72))) (nI_add (40 * (nC v0)) (3 * p72)) ?_
                      refine lv_iconst (v := 2) hx hb dX6_film_157 (by decide +kernel) ?_
                      refine lv_iadd hx hb dX6_film_158 ?_
                      refine g_topi (y := nI (((40 * (nC v0)) + (3 * p72)) + 2)) (nI_add ((40 * (nC v0)) + (3 * p72)) 2) ?_
                      refine lv_iload hx hb dX6_film_159 (lv_at hl 0 rfl) ?_
                      refine g_iast (D := G.1) hx hb hK hP hD hS 11 0 rfl rfl (k := ((40 * (nC v0)) + (3 * p72)) + 2) (x := 1) (by omega) rfl dX6_film_161 (fun H locs hP hD hS => ?_)
                      have hz9 : gPD G A [zo6 h0 (nI pb) kd mo st (nI jg) ro tp (nI td) cd sr (nI tx) (nI ru) him ir ih ss sq ce lw s19 s20 s21 s22 wo he s25 s26 s27 sk na kp s31 s32 s33 s34 gb go fa ga s39 s40 vo, zi G st 12 (m_X6_caseOf_st ru y72st y72ro fmo fkd fcd fsr (nC v1) p72 (nC v2)), zi G ro 12 (m_X6_caseOf_ro ru y72st y72ro fmo fkd fcd fsr (nC v1) p72 (nC v2)), zi G mo 6 fmo, zi G kd 6 fkd, zi G cd 1200 fcd, zi G sr 24 (nF fsr), zi G sk 200 ysk_43, zi G na 6 yna_44, zi G kp 24 (mKeep fro fst), zi G sq 4 (nF fsq), zi G ce 160 (upd (upd (upd y72ce ((40 * (nC v0)) + (3 * p72)) (nI p72)) (((40 * (nC v0)) + (3 * p72)) + 1) (nI (nC v2))) (((40 * (nC v0)) + (3 * p72)) + 2) 1), zi G ss 4 fss] H := ⟨hP, hD⟩
                      have hP := hz9.1
                      have hD := hz9.2
                      refine lv_iload hx hb dX6_film_162 (lv_at hl 3 rfl) ?_
                      refine lv_iload hx hb dX6_film_164 (lv_at hl 0 rfl) ?_
                      refine lv_iadd hx hb dX6_film_166 ?_
                      refine lv_istore (lv' := [zI 4 (mn + 1), zI 7 1, zI 6 (m_X6_caseOf ru y72st y72ro fmo fkd fcd fsr (nC v1) p72 (nC v2)), zI 5 (nI p72), zR 0 h0, zI 1 v0, zI 2 v1, zI 3 v2]) hx hb dX6_film_167 hl (by decide +kernel) rfl (fun ls hl => ?_)
                      refine lv_iinc (v := nI (p72 + 1)) (lv' := [zI 5 (nI (p72 + 1)), zI 4 (mn + 1), zI 7 1, zI 6 (m_X6_caseOf ru y72st y72ro fmo fkd fcd fsr (nC v1) p72 (nC v2)), zR 0 h0, zI 1 v0, zI 2 v1, zI 3 v2]) hx hb dX6_film_169 hl (k := 3) rfl (nI_add p72 1) (by decide +kernel) rfl (fun ls hl => ?_)
                      refine lv_goto (tgt := 72) hx hb dX6_film_172 (by decide +kernel) ?_
                      exact ih9_72 (p72 + 1) (mn + 1) (upd (upd (upd y72ce ((40 * (nC v0)) + (3 * p72)) (nI p72)) (((40 * (nC v0)) + (3 * p72)) + 1) (nI (nC v2))) (((40 * (nC v0)) + (3 * p72)) + 2) 1) (m_X6_caseOf_st ru y72st y72ro fmo fkd fcd fsr (nC v1) p72 (nC v2)) (m_X6_caseOf_ro ru y72st y72ro fmo fkd fcd fsr (nC v1) p72 (nC v2)) ysk_43 yna_44 (by omega) (Eq.trans (Eq.symm ((congrArg (fun z9 => p_X6_film_72 ru fmo fkd fcd fsr v0 v1 v2 (z9) p72 mn y72ce y72st y72ro) (show pb - p72 = pb - (p72 + 1) + 1 by omega)).trans (by show p_X6_film_72 ru fmo fkd fcd fsr v0 v1 v2 (pb - (p72 + 1) + 1) p72 mn y72ce y72st y72ro = _; rw [p_X6_film_72, if_neg c_45]))) R72) (by omega) _ _ hP hD hS ls (lv_sub hl [0, 1, 4, 5, 6, 7] rfl)
              exact loop_72 (pb - 0 + 1) 0 0 ((g_X6_film_36 fce v0).2) fst fro fsk fna (by omega) (rfl) (by omega) _ _ hP hD hS ls hl
            · skip
              have c_22N : i36 < 40 := nI_le0 (a := 40) (b := i36) (by omega) (by omega) c_22
              refine g_aget (D := G.1) (ci := 6) (v := .ref ce) (C := RX6) (T := TX6) (N := 42) hx hb dX6_film_43 rfl (lv_at hl 1 rfl) hts hiX6 hown hK hP 0 rfl rfl 17 (by decide +kernel) kf43 (fun _ h9 => h9) rfl dX6_film_44 ?_
              refine lv_bipush (v := 40) hx hb dX6_film_47 (by decide +kernel) ?_
              refine lv_iload_n hx hb dX6_film_49 rfl (lv_at hl 2 rfl) ?_
              refine g_topi (y := nI (nC v0)) hv_6 ?_
              refine lv_imul hx hb dX6_film_50 ?_
              refine g_topi (y := nI (40 * (nC v0))) (pk_mul 40 (nC v0)) ?_
              refine lv_iload hx hb dX6_film_51 (lv_at hl 0 rfl) ?_
              refine lv_iadd hx hb dX6_film_53 ?_
              refine g_topi (y := nI ((40 * (nC v0)) + i36)) (nI_add (40 * (nC v0)) i36) ?_
              refine lv_iconst (v := 0) hx hb dX6_film_54 (by decide +kernel) ?_
              refine g_iast (D := G.1) hx hb hK hP hD hS 11 0 rfl rfl (k := (40 * (nC v0)) + i36) (x := 0) (by omega) rfl dX6_film_55 (fun H locs hP hD hS => ?_)
              have hz9 : gPD G A [zo6 h0 (nI pb) kd mo st (nI jg) ro tp (nI td) cd sr (nI tx) (nI ru) him ir ih ss sq ce lw s19 s20 s21 s22 wo he s25 s26 s27 sk na kp s31 s32 s33 s34 gb go fa ga s39 s40 vo, zi G st 12 fst, zi G ro 12 fro, zi G mo 6 fmo, zi G kd 6 fkd, zi G cd 1200 fcd, zi G sr 24 (nF fsr), zi G sk 200 fsk, zi G na 6 fna, zi G kp 24 fkp, zi G sq 4 (nF fsq), zi G ce 160 (upd y36ce ((40 * (nC v0)) + i36) 0), zi G ss 4 fss] H := ⟨hP, hD⟩
              have hP := hz9.1
              have hD := hz9.2
              refine lv_iinc (v := nI (i36 + 1)) (lv' := [zI 4 (nI (i36 + 1)), zR 0 h0, zI 1 v0, zI 2 v1, zI 3 v2]) hx hb dX6_film_56 hl (k := 0) rfl (nI_add i36 1) (by decide +kernel) rfl (fun ls hl => ?_)
              refine lv_goto (tgt := 36) hx hb dX6_film_59 (by decide +kernel) ?_
              exact ih9_36 (i36 + 1) (upd y36ce ((40 * (nC v0)) + i36) 0) (by omega) (Eq.trans (Eq.symm ((congrArg (fun z9 => p_X6_film_36 v0 (z9) i36 y36ce) (show 40 - i36 = 40 - (i36 + 1) + 1 by omega)).trans (by show p_X6_film_36 v0 (40 - (i36 + 1) + 1) i36 y36ce = _; rw [p_X6_film_36]))) R36) (by omega) _ _ hP hD hS ls hl
        exact loop_36 (40 - 0 + 1) 0 fce (by omega) (rfl) (by omega) _ _ hP hD hS ls hl
      · skip
        have n_19 : ¬ (0 ≤ v2 ∧ v2 ≤ 60) := of_decide_eq_false (bz_eq rfl c_17)
        refine lv_bipush (v := -7) hx hb dX6_film_30 (by decide +kernel) ?_
        have q_79 : m_X6_film_sq pb jg fsq v0 v1 v2 = fsq := by unfold m_X6_film_sq; rw [if_pos p_4, if_pos p_11, if_neg n_19]
        have q_80 : m_X6_film_ce pb jg ru fst fro fmo fkd fcd fsr fce v0 v1 v2 = fce := by unfold m_X6_film_ce; rw [if_pos p_4, if_pos p_11, if_neg n_19]
        have q_81 : m_X6_film_ss jg fss v0 v1 v2 = fss := by unfold m_X6_film_ss; rw [if_pos p_4, if_pos p_11, if_neg n_19]
        have hz9 : gPD G A [zo6 h0 (nI pb) kd mo st (nI jg) ro tp (nI td) cd sr (nI tx) (nI ru) him ir ih ss sq ce lw s19 s20 s21 s22 wo he s25 s26 s27 sk na kp s31 s32 s33 s34 gb go fa ga s39 s40 vo, zi G st 12 fst, zi G ro 12 fro, zi G mo 6 fmo, zi G kd 6 fkd, zi G cd 1200 fcd, zi G sr 24 (nF fsr), zi G sk 200 fsk, zi G na 6 fna, zi G kp 24 fkp, zi G sq 4 (nF (m_X6_film_sq pb jg fsq v0 v1 v2)), zi G ce 160 (m_X6_film_ce pb jg ru fst fro fmo fkd fcd fsr fce v0 v1 v2), zi G ss 4 (m_X6_film_ss jg fss v0 v1 v2)] H := ⟨by rw [q_79, q_80, q_81]; exact hP, by rw [q_79, q_80, q_81]; exact hD⟩
        have hP9 := hz9.1
        have hD9 := hz9.2
        have hpost : (fun (r : Int32) (u : (Nat → Int32) × (Nat → Int32) × (Nat → Int32)) => match u with | (ysk, yna, ykp) => r = m_X6_film pb jg ru fst fro fmo fkd fcd fsr fce v0 v1 v2) (-7) (fsk, fna, fkp) := (show m_X6_film pb jg ru fst fro fmo fkd fcd fsr fce v0 v1 v2 = (-7) from by unfold m_X6_film; rw [if_pos p_4, if_pos p_11, if_neg n_19]).symm
        exact W.iret (v := (-7)) hx hb hr (fun t ht hW => ⟨⟨(-7), (fsk, fna, fkp), rfl, hpost, by rw [ht]; exact hP9, va_K.moved hW.alike hK, hD9⟩, hS.F ht⟩) hS.2.2 dX6_film_32
    · skip
      have n_12 : (mHas jg v1) = false := bz_eq rfl c_10
      have n_12N : ¬ ((mHas jg v1) = true) := by rw [n_12]; decide
      refine lv_bipush (v := -5) hx hb dX6_film_20 (by decide +kernel) ?_
      have q_82 : m_X6_film_sq pb jg fsq v0 v1 v2 = fsq := by unfold m_X6_film_sq; rw [if_pos p_4, if_neg n_12N]
      have q_83 : m_X6_film_ce pb jg ru fst fro fmo fkd fcd fsr fce v0 v1 v2 = fce := by unfold m_X6_film_ce; rw [if_pos p_4, if_neg n_12N]
      have q_84 : m_X6_film_ss jg fss v0 v1 v2 = fss := by unfold m_X6_film_ss; rw [if_pos p_4, if_neg n_12N]
      have hz9 : gPD G A [zo6 h0 (nI pb) kd mo st (nI jg) ro tp (nI td) cd sr (nI tx) (nI ru) him ir ih ss sq ce lw s19 s20 s21 s22 wo he s25 s26 s27 sk na kp s31 s32 s33 s34 gb go fa ga s39 s40 vo, zi G st 12 fst, zi G ro 12 fro, zi G mo 6 fmo, zi G kd 6 fkd, zi G cd 1200 fcd, zi G sr 24 (nF fsr), zi G sk 200 fsk, zi G na 6 fna, zi G kp 24 fkp, zi G sq 4 (nF (m_X6_film_sq pb jg fsq v0 v1 v2)), zi G ce 160 (m_X6_film_ce pb jg ru fst fro fmo fkd fcd fsr fce v0 v1 v2), zi G ss 4 (m_X6_film_ss jg fss v0 v1 v2)] H := ⟨by rw [q_82, q_83, q_84]; exact hP, by rw [q_82, q_83, q_84]; exact hD⟩
      have hP9 := hz9.1
      have hD9 := hz9.2
      have hpost : (fun (r : Int32) (u : (Nat → Int32) × (Nat → Int32) × (Nat → Int32)) => match u with | (ysk, yna, ykp) => r = m_X6_film pb jg ru fst fro fmo fkd fcd fsr fce v0 v1 v2) (-5) (fsk, fna, fkp) := (show m_X6_film pb jg ru fst fro fmo fkd fcd fsr fce v0 v1 v2 = (-5) from by unfold m_X6_film; rw [if_pos p_4, if_neg n_12N]).symm
      exact W.iret (v := (-5)) hx hb hr (fun t ht hW => ⟨⟨(-5), (fsk, fna, fkp), rfl, hpost, by rw [ht]; exact hP9, va_K.moved hW.alike hK, hD9⟩, hS.F ht⟩) hS.2.2 dX6_film_22
  · skip
    have n_5 : ¬ (0 ≤ v0 ∧ v0 ≤ 3) := of_decide_eq_false (bz_eq rfl c_3)
    refine lv_bipush (v := -2) hx hb dX6_film_9 (by decide +kernel) ?_
    have q_85 : m_X6_film_sq pb jg fsq v0 v1 v2 = fsq := by unfold m_X6_film_sq; rw [if_neg n_5]
    have q_86 : m_X6_film_ce pb jg ru fst fro fmo fkd fcd fsr fce v0 v1 v2 = fce := by unfold m_X6_film_ce; rw [if_neg n_5]
    have q_87 : m_X6_film_ss jg fss v0 v1 v2 = fss := by unfold m_X6_film_ss; rw [if_neg n_5]
    have hz9 : gPD G A [zo6 h0 (nI pb) kd mo st (nI jg) ro tp (nI td) cd sr (nI tx) (nI ru) him ir ih ss sq ce lw s19 s20 s21 s22 wo he s25 s26 s27 sk na kp s31 s32 s33 s34 gb go fa ga s39 s40 vo, zi G st 12 fst, zi G ro 12 fro, zi G mo 6 fmo, zi G kd 6 fkd, zi G cd 1200 fcd, zi G sr 24 (nF fsr), zi G sk 200 fsk, zi G na 6 fna, zi G kp 24 fkp, zi G sq 4 (nF (m_X6_film_sq pb jg fsq v0 v1 v2)), zi G ce 160 (m_X6_film_ce pb jg ru fst fro fmo fkd fcd fsr fce v0 v1 v2), zi G ss 4 (m_X6_film_ss jg fss v0 v1 v2)] H := ⟨by rw [q_85, q_86, q_87]; exact hP, by rw [q_85, q_86, q_87]; exact hD⟩
    have hP9 := hz9.1
    have hD9 := hz9.2
    have hpost : (fun (r : Int32) (u : (Nat → Int32) × (Nat → Int32) × (Nat → Int32)) => match u with | (ysk, yna, ykp) => r = m_X6_film pb jg ru fst fro fmo fkd fcd fsr fce v0 v1 v2) (-2) (fsk, fna, fkp) := (show m_X6_film pb jg ru fst fro fmo fkd fcd fsr fce v0 v1 v2 = (-2) from by unfold m_X6_film; rw [if_neg n_5]).symm
    exact W.iret (v := (-2)) hx hb hr (fun t ht hW => ⟨⟨(-2), (fsk, fna, fkp), rfl, hpost, by rw [ht]; exact hP9, va_K.moved hW.alike hK, hD9⟩, hS.F ht⟩) hS.2.2 dX6_film_11
