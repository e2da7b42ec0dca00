noncomputable def p_X6_sheetWrong_44 (pb : Nat) (fce : Nat → Int32) (v0 : Int32) : Nat → Nat → Int32 → Nat × Int32
  | 0, i44, gd => (i44, gd)
  | q9 + 1, i44, gd => if (mHas pb (fce ((40 * (nC v0)) + (3 * i44)))) = true then (if 0 ≤ (fce (((40 * (nC v0)) + (3 * i44)) + 1)) ∧ (fce (((40 * (nC v0)) + (3 * i44)) + 1)) ≤ 60 then (if 0 ≤ (fce (((40 * (nC v0)) + (3 * i44)) + 2)) ∧ (fce (((40 * (nC v0)) + (3 * i44)) + 2)) ≤ 1 then p_X6_sheetWrong_44 pb fce v0 q9 (i44 + 1) (gd &&& 1) else p_X6_sheetWrong_44 pb fce v0 q9 (i44 + 1) (gd &&& 0)) else p_X6_sheetWrong_44 pb fce v0 q9 (i44 + 1) (gd &&& 0)) else p_X6_sheetWrong_44 pb fce v0 q9 (i44 + 1) (gd &&& 0)
noncomputable def g_X6_sheetWrong_44 (pb : Nat) (fsq : Nat → Nat) (fce : Nat → Int32) (v0 : Int32) : Nat × Int32 := p_X6_sheetWrong_44 pb fce v0 ((fsq (nC v0) / 3) - 0) 0 0
noncomputable def p_X6_sheetWrong_44q1 (pb : Nat) (fce : Nat → Int32) (v0 : Int32) : Nat → Nat → Int32 → Nat × Int32
  | 0, i44, gd => (i44, gd)
  | q9 + 1, i44, gd => if (mHas pb (fce ((40 * (nC v0)) + (3 * i44)))) = true then (if 0 ≤ (fce (((40 * (nC v0)) + (3 * i44)) + 1)) ∧ (fce (((40 * (nC v0)) + (3 * i44)) + 1)) ≤ 60 then (if 0 ≤ (fce (((40 * (nC v0)) + (3 * i44)) + 2)) ∧ (fce (((40 * (nC v0)) + (3 * i44)) + 2)) ≤ 1 then p_X6_sheetWrong_44q1 pb fce v0 q9 (i44 + 1) (gd &&& 1) else p_X6_sheetWrong_44q1 pb fce v0 q9 (i44 + 1) (gd &&& 0)) else p_X6_sheetWrong_44q1 pb fce v0 q9 (i44 + 1) (gd &&& 0)) else p_X6_sheetWrong_44q1 pb fce v0 q9 (i44 + 1) (gd &&& 0)
noncomputable def g_X6_sheetWrong_44q1 (pb : Nat) (fsq : Nat → Nat) (fce : Nat → Int32) (v0 : Int32) : Nat × Int32 := p_X6_sheetWrong_44q1 pb fce v0 ((fsq (nC v0) / 3) - 0) 0 1
noncomputable def m_X6_sheetWrong (pb : Nat) (fss : Nat → Int32) (fsq : Nat → Nat) (fce : Nat → Int32) (v0 : Int32) : Int32 := if 0 ≤ v0 ∧ v0 ≤ 3 then (if (fss (nC v0)) = (-1) then -11 else (if (nI ((fsq (nC v0)) % 3)) = 0 then (if ((g_X6_sheetWrong_44q1 pb fsq fce v0).2) = 0 then -2 else 0) else (if ((g_X6_sheetWrong_44 pb fsq fce v0).2) = 0 then -2 else 0))) else -2
abbrev q_X6_sheetWrong (G : gG) (h0 kd mo st ro tp cd sr ir ih ss sq ce lw wo he sk na kp gb go fa ga vo : Nat) (pb : Nat) (jg : Nat) (td : Nat) (tx : Nat) (ru : Nat) (him : Int32) (s19 : Int32) (s20 : Int32) (s21 : Int32) (s22 : Int32) (s25 : Int32) (s26 : Int32) (s27 : Int32) (s31 : Int32) (s32 : Int32) (s33 : Int32) (s34 : Int32) (s39 : Int32) (s40 : Int32) (fss : Nat → Int32) (fsq : Nat → Nat) (fce : Nat → Int32) (v0 : Int32) (A : Nat → Prop) : Array Value → State → Outcome → State → Prop := va_Qi (fun (r : Int32) (u : Unit) => match u with | _ => r = m_X6_sheetWrong pb fss fsq fce v0) (fun (u : Unit) t => match u with | _ => va_P G.1 vwCl [zo6 h0 (nI pb) kd mo st (nI jg) ro tp (nI td) cd sr (nI tx) (nI ru) him ir ih ss sq ce lw s19 s20 s21 s22 wo he s25 s26 s27 sk na kp s31 s32 s33 s34 gb go fa ga s39 s40 vo, zi G ss 4 fss, zi G sq 4 (nF fsq), zi G ce 160 fce] t.heap ∧ gK G t ∧ va_D A [zo6 h0 (nI pb) kd mo st (nI jg) ro tp (nI td) cd sr (nI tx) (nI ru) him ir ih ss sq ce lw s19 s20 s21 s22 wo he s25 s26 s27 sk na kp s31 s32 s33 s34 gb go fa ga s39 s40 vo, zi G ss 4 fss, zi G sq 4 (nF fsq), zi G ce 160 fce]) A
set_option maxHeartbeats 4000000 in
set_option maxRecDepth 100000 in
theorem c_X6_sheetWrong (l : Launch) (G : gG) (h0 kd mo st ro tp cd sr ir ih ss sq ce lw wo he sk na kp gb go fa ga vo : Nat) (pb : Nat) (jg : Nat) (td : Nat) (tx : Nat) (ru : Nat) (him : Int32) (s19 : Int32) (s20 : Int32) (s21 : Int32) (s22 : Int32) (s25 : Int32) (s26 : Int32) (s27 : Int32) (s31 : Int32) (s32 : Int32) (s33 : Int32) (s34 : Int32) (s39 : Int32) (s40 : Int32) (fss : Nat → Int32) (fsq : Nat → Nat) (fce : Nat → Int32) (v0 : Int32) (sz : Nat) (hsq : ∀ q9, q9 < 4 → fsq q9 ≤ 40) (hpb : pb ≤ 6) (hjg : jg ≤ 4) (htx : tx ≤ 6) (hru : ru < tx) : Met l yX6_sheetWrong wsX6_sheetWrong ({ frames := 2, cells := 0, slots := 0, locals := 43 }) (gPre G [.ref h0, .int v0] [zo6 h0 (nI pb) kd mo st (nI jg) ro tp (nI td) cd sr (nI tx) (nI ru) him ir ih ss sq ce lw s19 s20 s21 s22 wo he s25 s26 s27 sk na kp s31 s32 s33 s34 gb go fa ga s39 s40 vo, zi G ss 4 fss, zi G sq 4 (nF fsq), zi G ce 160 fce] sz) (q_X6_sheetWrong G h0 kd mo st ro tp cd sr ir ih ss sq ce lw wo he sk na kp gb go fa ga vo pb jg td tx ru him s19 s20 s21 s22 s25 s26 s27 s31 s32 s33 s34 s39 s40 fss fsq fce v0 (va_A [zo6 h0 (nI pb) kd mo st (nI jg) ro tp (nI td) cd sr (nI tx) (nI ru) him ir ih ss sq ce lw s19 s20 s21 s22 wo he s25 s26 s27 sk na kp s31 s32 s33 s34 gb go fa ga s39 s40 vo, zi G ss 4 fss, zi G sq 4 (nF fsq), zi G ce 160 fce] sz)) 0 0 (va_A [zo6 h0 (nI pb) kd mo st (nI jg) ro tp (nI td) cd sr (nI tx) (nI ru) him ir ih ss sq ce lw s19 s20 s21 s22 wo he s25 s26 s27 sk na kp s31 s32 s33 s34 gb go fa ga s39 s40 vo, zi G ss 4 fss, zi G sq 4 (nF fsq), zi G ce 160 fce] sz) := by
  refine Met.ofW (cc := cX6_sheetWrong) (maxL := 5) (ret := (some .int)) (by decide +kernel) rfl ?_
  intro p e s m args below meth c s₁ B hml hv
  obtain ⟨rfl, hsz, hP, hK, hD0⟩ := hv
  have hx := B.exec
  have hb := B.bytes
  have hr := B.returns
  have hts := atoms_spec (ws := wsX6_sheetWrong) B.pre
  have hown : s.vm.findClass RX6 = some m.cls := findClass_of_methodNamed B.named
  have hlocks := B.notSynchronized
  subst hsz
  have hD := hD0.self (sz := s.heap.size)
  generalize hAe : va_A [zo6 h0 (nI pb) kd mo st (nI jg) ro tp (nI td) cd sr (nI tx) (nI ru) him ir ih ss sq ce lw s19 s20 s21 s22 wo he s25 s26 s27 sk na kp s31 s32 s33 s34 gb go fa ga s39 s40 vo, zi G ss 4 fss, zi G sq 4 (nF fsq), zi G ce 160 fce] s.heap.size = A at hD ⊢
  have hA : ∀ q : Nat, s.heap.size ≤ q → A q := fun q h => by rw [← hAe]; exact Or.inr h
  have hS : va_S A s.heap s.heap [] := va_S.rf
  have hz9 : gPD G A [zo6 h0 (nI pb) kd mo st (nI jg) ro tp (nI td) cd sr (nI tx) (nI ru) him ir ih ss sq ce lw s19 s20 s21 s22 wo he s25 s26 s27 sk na kp s31 s32 s33 s34 gb go fa ga s39 s40 vo, zi G ss 4 fss, zi G sq 4 (nF fsq), zi G ce 160 fce] s.heap := ⟨hP, hD⟩
  have hP := hz9.1
  have hD := hz9.2
  have hl := lv_entry ([.ref h0, .int v0]) (n := 5) (Nat.le_of_ble_eq_true rfl)
  rw [lg_entry_eq]
  generalize (lg_sl ([.ref h0, .int v0]) ++ List.replicate (5 - (lg_sl ([.ref h0, .int v0])).length) Slot.unset).toArray = ls at hl ⊢
  have hl : lv_has ls 5 [zR 0 h0, zI 1 v0] := hl
  have kf37 := hts (.fieldLink RX6 37 "PebbleInShoeModel" "sheetSort" "[I") (by decide +kernel)
  have hiX6 := (by decide +kernel : ∀ w ∈ wsX60, w ∈ wsX6_sheetWrong)
  have kf40 := hts (.fieldLink RX6 40 "PebbleInShoeModel" "sheetSize" "[I") (by decide +kernel)
  have kf43 := hts (.fieldLink RX6 43 "PebbleInShoeModel" "cells" "[I") (by decide +kernel)
  refine lv_iload_n hx hb dX6_sheetWrong_0 rfl (lv_at hl 1 rfl) ?_
  refine lv_iconst (v := 0) hx hb dX6_sheetWrong_1 (by decide +kernel) ?_
  refine lv_iconst (v := 3) hx hb dX6_sheetWrong_2 (by decide +kernel) ?_
  refine z_calli [] (v := bz (decide (0 ≤ v0 ∧ v0 ≤ 3))) (fun _ _ h => h) (va_runS (As := [.int v0, .int 0, .int 3]) (rest := []) ⟨hx, hb, hml, hown, hts⟩ (c_X6_in l G v0 0 3 s.heap.size) (va_cwS 3 hts gX6_sheetWrong_X6_in rfl rfl rfl (by decide +kernel) ⟨Nat.le_of_ble_eq_true rfl, Nat.le_of_ble_eq_true rfl⟩) ⟨gPre_blind, fun U hU hW => gPre_ofF [] hU hW hK hP hD (by decide +kernel) rfl⟩ rfl rfl hl.1 rfl (lv_room (Nat.le_of_ble_eq_true rfl)) dX6_sheetWrong_3 ⟨Nat.le_of_ble_eq_true rfl, Nat.le_of_ble_eq_true rfl⟩) hS hD hA rfl (fun u t H locs ht hvm hB hz1 hk1 hFq hAq hS => ?_)
  obtain ⟨hP1, hK1, hD1⟩ := hB
  have hP := zKeep hP hD [] hAq hk1 ht hP1 rfl
  refine lv_if_ne (tgt := 12) hx hb dX6_sheetWrong_6 (by decide +kernel) (fun c_3 => ?_) (fun c_3 => ?_)
  · skip
    have p_4 : 0 ≤ v0 ∧ v0 ≤ 3 := of_decide_eq_true (bz_ne rfl c_3)
    have hv_6 : v0 = nI (nC v0) := nC_eq p_4.1
    have hk_7 : nC v0 ≤ 3 := nC_le (n := 3) (by omega) p_4
    refine g_aget (D := G.1) (ci := 6) (v := .ref ss) (C := RX6) (T := TX6) (N := 42) hx hb dX6_sheetWrong_12 rfl (lv_at hl 0 rfl) hts hiX6 hown hK hP 0 rfl rfl 15 (by decide +kernel) kf37 (fun _ h9 => h9) rfl dX6_sheetWrong_13 ?_
    refine lv_iload_n hx hb dX6_sheetWrong_16 rfl (lv_at hl 1 rfl) ?_
    refine g_topi (y := nI (nC v0)) hv_6 ?_
    refine g_iald (D := G.1) hx hb hK hP 1 0 rfl rfl (k := nC v0) (y := fss (nC v0)) (by omega) rfl rfl dX6_sheetWrong_17 ?_
    refine lv_iconst (v := -1) hx hb dX6_sheetWrong_18 (by decide +kernel) ?_
    refine lv_icmp_ne (tgt := 25) hx hb dX6_sheetWrong_19 (by decide +kernel) (fun c_10 => ?_) (fun c_10 => ?_)
    · skip
      have hs4 := hsq (nC v0) (by omega)
      refine g_aget (D := G.1) (ci := 6) (v := .ref sq) (C := RX6) (T := TX6) (N := 42) hx hb dX6_sheetWrong_25 rfl (lv_at hl 0 rfl) hts hiX6 hown hK hP 0 rfl rfl 16 (by decide +kernel) kf40 (fun _ h9 => h9) rfl dX6_sheetWrong_26 ?_
      refine lv_iload_n hx hb dX6_sheetWrong_29 rfl (lv_at hl 1 rfl) ?_
      refine g_topi (y := nI (nC v0)) hv_6 ?_
      refine va_iald (D := G.1) hx hb hK hP 2 0 rfl rfl (i := (nI (nC v0))) (vpn (by omega) rfl) dX6_sheetWrong_30 ?_
      refine g_topi (y := nI (fsq (nC v0))) (nF_at (by omega)) ?_
      refine lv_iconst (v := 3) hx hb dX6_sheetWrong_31 (by decide +kernel) ?_
      refine lv_irem hx hb dX6_sheetWrong_32 (by decide +kernel) ?_
      refine g_topi (y := nI ((fsq (nC v0)) % 3)) (nI_rem (a := (fsq (nC v0))) (d := 3) (by omega) (by omega) (by omega)) ?_
      refine lv_if_ne (tgt := 40) hx hb dX6_sheetWrong_33 (by decide +kernel) (fun c_14 => ?_) (fun c_14 => ?_)
      · skip
        have c_14N : ¬ ((fsq (nC v0)) % 3) = 0 := nI_eq0 (a := ((fsq (nC v0)) % 3)) (b := 0) (by omega) (by omega) c_14
        refine lv_iconst (v := 0) hx hb dX6_sheetWrong_40 (by decide +kernel) ?_
        refine lv_istore_n (lv' := [zI 2 0, zR 0 h0, zI 1 v0]) hx hb dX6_sheetWrong_41 rfl hl (by decide +kernel) rfl (fun ls hl => ?_)
        refine lv_iconst (v := 0) hx hb dX6_sheetWrong_42 (by decide +kernel) ?_
        refine lv_istore_n (lv' := [zI 3 0, zI 2 0, zR 0 h0, zI 1 v0]) hx hb dX6_sheetWrong_43 rfl hl (by decide +kernel) rfl (fun ls hl => ?_)
        have loop_44 : ∀ (n9 : Nat) (i44 : Nat) (gd : Int32), (i44 ≤ (fsq (nC v0) / 3)) → (p_X6_sheetWrong_44 pb fce v0 ((fsq (nC v0) / 3) - i44) i44 gd = (g_X6_sheetWrong_44 pb fsq fce v0)) → ((fsq (nC v0) / 3) - i44) < n9 → ∀ (H : Heap) (locs : List Loc), va_P G.1 vwCl [zo6 h0 (nI pb) kd mo st (nI jg) ro tp (nI td) cd sr (nI tx) (nI ru) him ir ih ss sq ce lw s19 s20 s21 s22 wo he s25 s26 s27 sk na kp s31 s32 s33 s34 gb go fa ga s39 s40 vo, zi G ss 4 fss, zi G sq 4 (nF fsq), zi G ce 160 fce] H → va_D A [zo6 h0 (nI pb) kd mo st (nI jg) ro tp (nI td) cd sr (nI tx) (nI ru) him ir ih ss sq ce lw s19 s20 s21 s22 wo he s25 s26 s27 sk na kp s31 s32 s33 s34 gb go fa ga s39 s40 vo, zi G ss 4 fss, zi G sq 4 (nF fsq), zi G ce 160 fce] → va_S A s.heap H locs → ∀ ls : Array Slot, lv_has ls 5 [zI 3 (nI (3 * i44)), zI 2 gd, zR 0 h0, zI 1 v0] → W p l e (headSpec wsX6_sheetWrong ({ frames := 2, cells := 0, slots := 0, locals := 43 })).room s m ([.ref h0, .int v0] : List Value).toArray below meth c H locs 0 0 (MQ below (q_X6_sheetWrong G h0 kd mo st ro tp cd sr ir ih ss sq ce lw wo he sk na kp gb go fa ga vo pb jg td tx ru him s19 s20 s21 s22 s25 s26 s27 s31 s32 s33 s34 s39 s40 fss fsq fce v0 A) ([.ref h0, .int v0] : List Value).toArray s 0 0 A) (F0 m 44 ls []) := by
          intro n9
          induction n9 with
          | zero => intro i44 gd hi44 R44 hm9_44; exact absurd hm9_44 (Nat.not_lt_zero _)
          | succ n9 ih9_44 =>
            intro i44 gd hi44 R44 hm9_44 H locs hP hD hS ls hl
            refine lv_iload_n hx hb dX6_sheetWrong_44 rfl (lv_at hl 0 rfl) ?_
            refine lv_iconst (v := 2) hx hb dX6_sheetWrong_45 (by decide +kernel) ?_
            refine lv_iadd hx hb dX6_sheetWrong_46 ?_
            refine g_topi (y := nI ((3 * i44) + 2)) (nI_add (3 * i44) 2) ?_
            refine g_aget (D := G.1) (ci := 6) (v := .ref sq) (C := RX6) (T := TX6) (N := 42) hx hb dX6_sheetWrong_47 rfl (lv_at hl 2 rfl) hts hiX6 hown hK hP 0 rfl rfl 16 (by decide +kernel) kf40 (fun _ h9 => h9) rfl dX6_sheetWrong_48 ?_
            refine lv_iload_n hx hb dX6_sheetWrong_51 rfl (lv_at hl 3 rfl) ?_
            refine g_topi (y := nI (nC v0)) hv_6 ?_
            refine va_iald (D := G.1) hx hb hK hP 2 0 rfl rfl (i := (nI (nC v0))) (vpn (by omega) rfl) dX6_sheetWrong_52 ?_
            refine g_topi (y := nI (fsq (nC v0))) (nF_at (by omega)) ?_
            refine lv_icmp_ge (tgt := 124) hx hb dX6_sheetWrong_53 (by decide +kernel) (fun c_18 => ?_) (fun c_18 => ?_)
            · skip
              have c_18N : (fsq (nC v0)) ≤ ((3 * i44) + 2) := nI_le1 (a := (fsq (nC v0))) (b := ((3 * i44) + 2)) (by omega) (by omega) c_18
              have hF44 : (g_X6_sheetWrong_44 pb fsq fce v0) = (i44, gd) := by rw [← R44, show (fsq (nC v0) / 3) - i44 = 0 by omega]; rfl
              have hE44_0 : i44 = ((g_X6_sheetWrong_44 pb fsq fce v0).1) := by rw [hF44]
              have hE44_1 : gd = ((g_X6_sheetWrong_44 pb fsq fce v0).2) := by rw [hF44]
              clear hF44 R44
              subst hE44_0
              subst hE44_1
              refine lv_iload_n hx hb dX6_sheetWrong_124 rfl (lv_at hl 1 rfl) ?_
              refine lv_if_eq (tgt := 132) hx hb dX6_sheetWrong_125 (by decide +kernel) (fun c_19 => ?_) (fun c_19 => ?_)
              · skip
                refine lv_bipush (v := -2) hx hb dX6_sheetWrong_132 (by decide +kernel) ?_
                have hpost : (fun (r : Int32) (u : Unit) => match u with | _ => r = m_X6_sheetWrong pb fss fsq fce v0) (-2) () := (show m_X6_sheetWrong pb fss fsq fce v0 = (-2) from by unfold m_X6_sheetWrong; rw [if_pos p_4, if_neg c_10, if_neg c_14, if_pos c_19]).symm
                exact W.iret (v := (-2)) hx hb hr (fun t ht hW => ⟨⟨(-2), (), rfl, hpost, by rw [ht]; exact hP, va_K.moved hW.alike hK, hD⟩, hS.F ht⟩) hS.2.2 dX6_sheetWrong_134
              · skip
                refine lv_iconst (v := 0) hx hb dX6_sheetWrong_128 (by decide +kernel) ?_
                refine lv_goto (tgt := 134) hx hb dX6_sheetWrong_129 (by decide +kernel) ?_
                have hpost : (fun (r : Int32) (u : Unit) => match u with | _ => r = m_X6_sheetWrong pb fss fsq fce v0) 0 () := (show m_X6_sheetWrong pb fss fsq fce v0 = 0 from by unfold m_X6_sheetWrong; rw [if_pos p_4, if_neg c_10, if_neg c_14, if_neg c_19]).symm
                exact W.iret (v := 0) hx hb hr (fun t ht hW => ⟨⟨0, (), rfl, hpost, by rw [ht]; exact hP, va_K.moved hW.alike hK, hD⟩, hS.F ht⟩) hS.2.2 dX6_sheetWrong_134
            · skip
              have c_18N : ((3 * i44) + 2) < (fsq (nC v0)) := nI_le0 (a := (fsq (nC v0))) (b := ((3 * i44) + 2)) (by omega) (by omega) c_18
              refine lv_bipush (v := 40) hx hb dX6_sheetWrong_56 (by decide +kernel) ?_
              refine lv_iload_n hx hb dX6_sheetWrong_58 rfl (lv_at hl 3 rfl) ?_
              refine g_topi (y := nI (nC v0)) hv_6 ?_
              refine lv_imul hx hb dX6_sheetWrong_59 ?_
              refine g_topi (y := nI (40 * (nC v0))) (pk_mul 40 (nC v0)) ?_
              refine lv_iload_n hx hb dX6_sheetWrong_60 rfl (lv_at hl 0 rfl) ?_
              refine lv_iadd hx hb dX6_sheetWrong_61 ?_
              refine g_topi (y := nI ((40 * (nC v0)) + (3 * i44))) (nI_add (40 * (nC v0)) (3 * i44)) ?_
              refine lv_istore (lv' := [zI 4 (nI ((40 * (nC v0)) + (3 * i44))), zI 3 (nI (3 * i44)), zI 2 gd, zR 0 h0, zI 1 v0]) hx hb dX6_sheetWrong_62 hl (by decide +kernel) rfl (fun ls hl => ?_)
              refine lv_iload_n hx hb dX6_sheetWrong_64 rfl (lv_at hl 2 rfl) ?_
              refine lv_aload_n hx hb dX6_sheetWrong_65 rfl (lv_at hl 3 rfl) ?_
              refine g_aget (D := G.1) (ci := 6) (v := .ref ce) (C := RX6) (T := TX6) (N := 42) hx hb dX6_sheetWrong_66 rfl (lv_at hl 3 rfl) hts hiX6 hown hK hP 0 rfl rfl 17 (by decide +kernel) kf43 (fun _ h9 => h9) rfl dX6_sheetWrong_67 ?_
              refine lv_iload hx hb dX6_sheetWrong_70 (lv_at hl 0 rfl) ?_
              refine g_iald (D := G.1) hx hb hK hP 3 0 rfl rfl (k := (40 * (nC v0)) + (3 * i44)) (y := fce ((40 * (nC v0)) + (3 * i44))) (by omega) rfl rfl dX6_sheetWrong_72 ?_
              refine z_calli [0] (v := bz (mHas pb (fce ((40 * (nC v0)) + (3 * i44))))) (fun _ _ h => h) (va_runV (As := [.int (fce ((40 * (nC v0)) + (3 * i44)))]) (rest := [.int gd]) ⟨hx, hb, hml, hown, hts⟩ (c_X6_isPebble l G h0 kd mo st ro tp cd sr ir ih ss sq ce lw wo he sk na kp gb go fa ga vo pb jg td tx ru him s19 s20 s21 s22 s25 s26 s27 s31 s32 s33 s34 s39 s40 (fce ((40 * (nC v0)) + (3 * i44))) H.size (by first | exact hpb | assumption | omega) (by first | exact hjg | assumption | omega) (by first | exact htx | assumption | omega) (by first | exact hru | assumption | omega)) (cwV 1 hts gX6_sheetWrong_X6_isPebble rfl rfl rfl (by decide +kernel) ⟨Nat.le_of_ble_eq_true rfl, Nat.le_of_ble_eq_true rfl⟩) ⟨gPre_blind, va_recv (q := (RX6, TX6, 42)) hK hP (ci := 6) (q0 := 0) rfl rfl, fun U hU hW => gPre_ofF [0] hU hW hK hP hD (by decide +kernel) rfl⟩ rfl rfl hl.1 rfl (lv_room (Nat.le_of_ble_eq_true rfl)) dX6_sheetWrong_73 ⟨Nat.le_of_ble_eq_true rfl, Nat.le_of_ble_eq_true rfl⟩) hS hD hA rfl (fun u t H locs ht hvm hB hz1 hk1 hFq hAq hS => ?_)
              obtain ⟨hP1, hK1, hD1⟩ := hB
              have hP := zKeep hP hD [0] hAq hk1 ht hP1 rfl
              refine lv_if_eq (tgt := 115) hx hb dX6_sheetWrong_76 (by decide +kernel) (fun c_26 => ?_) (fun c_26 => ?_)
              · skip
                have n_28 : (mHas pb (fce ((40 * (nC v0)) + (3 * i44)))) = false := bz_eq rfl c_26
                have n_28N : ¬ ((mHas pb (fce ((40 * (nC v0)) + (3 * i44)))) = true) := by rw [n_28]; decide
                refine lv_iconst (v := 0) hx hb dX6_sheetWrong_115 (by decide +kernel) ?_
                refine lv_iand hx hb dX6_sheetWrong_116 ?_
                refine lv_istore_n (lv' := [zI 2 (gd &&& 0), zI 4 (nI ((40 * (nC v0)) + (3 * i44))), zI 3 (nI (3 * i44)), zR 0 h0, zI 1 v0]) hx hb dX6_sheetWrong_117 rfl hl (by decide +kernel) rfl (fun ls hl => ?_)
                refine lv_iinc (v := nI ((3 * i44) + 3)) (lv' := [zI 3 (nI ((3 * i44) + 3)), zI 2 (gd &&& 0), zI 4 (nI ((40 * (nC v0)) + (3 * i44))), zR 0 h0, zI 1 v0]) hx hb dX6_sheetWrong_118 hl (k := 2) rfl (nI_add (3 * i44) 3) (by decide +kernel) rfl (fun ls hl => ?_)
                refine lv_goto (tgt := 44) hx hb dX6_sheetWrong_121 (by decide +kernel) ?_
                exact ih9_44 (i44 + 1) (gd &&& 0) (by omega) (Eq.trans (Eq.symm ((congrArg (fun z9 => p_X6_sheetWrong_44 pb fce v0 (z9) i44 gd) (show (fsq (nC v0) / 3) - i44 = (fsq (nC v0) / 3) - (i44 + 1) + 1 by omega)).trans (by show p_X6_sheetWrong_44 pb fce v0 ((fsq (nC v0) / 3) - (i44 + 1) + 1) i44 gd = _; rw [p_X6_sheetWrong_44, if_neg n_28N]))) R44) (by omega) _ _ hP hD hS ls (lv_sub hl [0, 1, 3, 4] rfl)
              · skip
                have p_27 : (mHas pb (fce ((40 * (nC v0)) + (3 * i44)))) = true := bz_ne rfl c_26
                refine g_aget (D := G.1) (ci := 6) (v := .ref ce) (C := RX6) (T := TX6) (N := 42) hx hb dX6_sheetWrong_79 rfl (lv_at hl 3 rfl) hts hiX6 hown hK hP 0 rfl rfl 17 (by decide +kernel) kf43 (fun _ h9 => h9) rfl dX6_sheetWrong_80 ?_
                refine lv_iload hx hb dX6_sheetWrong_83 (lv_at hl 0 rfl) ?_
                refine lv_iconst (v := 1) hx hb dX6_sheetWrong_85 (by decide +kernel) ?_
                refine lv_iadd hx hb dX6_sheetWrong_86 ?_
                refine g_topi (y := nI (((40 * (nC v0)) + (3 * i44)) + 1)) (nI_add ((40 * (nC v0)) + (3 * i44)) 1) ?_
                refine g_iald (D := G.1) hx hb hK hP 3 0 rfl rfl (k := ((40 * (nC v0)) + (3 * i44)) + 1) (y := fce (((40 * (nC v0)) + (3 * i44)) + 1)) (by omega) rfl rfl dX6_sheetWrong_87 ?_
                refine z_calli [] (v := bz (decide (0 ≤ (fce (((40 * (nC v0)) + (3 * i44)) + 1)) ∧ (fce (((40 * (nC v0)) + (3 * i44)) + 1)) ≤ 60))) (fun _ _ h => h) (va_runS (As := [.int (fce (((40 * (nC v0)) + (3 * i44)) + 1))]) (rest := [.int gd]) ⟨hx, hb, hml, hown, hts⟩ (c_X6_isCase l G (fce (((40 * (nC v0)) + (3 * i44)) + 1)) H.size) (va_cwS 1 hts gX6_sheetWrong_X6_isCase rfl rfl rfl (by decide +kernel) ⟨Nat.le_of_ble_eq_true rfl, Nat.le_of_ble_eq_true rfl⟩) ⟨gPre_blind, fun U hU hW => gPre_ofF [] hU hW hK hP hD (by decide +kernel) rfl⟩ rfl rfl hl.1 rfl (lv_room (Nat.le_of_ble_eq_true rfl)) dX6_sheetWrong_88 ⟨Nat.le_of_ble_eq_true rfl, Nat.le_of_ble_eq_true rfl⟩) hS hD hA rfl (fun u t H locs ht hvm hB hz1 hk1 hFq hAq hS => ?_)
                obtain ⟨hP1, hK1, hD1⟩ := hB
                have hP := zKeep hP hD [] hAq hk1 ht hP1 rfl
                refine lv_if_eq (tgt := 115) hx hb dX6_sheetWrong_91 (by decide +kernel) (fun c_33 => ?_) (fun c_33 => ?_)
                · skip
                  have n_35 : ¬ (0 ≤ (fce (((40 * (nC v0)) + (3 * i44)) + 1)) ∧ (fce (((40 * (nC v0)) + (3 * i44)) + 1)) ≤ 60) := of_decide_eq_false (bz_eq rfl c_33)
                  refine lv_iconst (v := 0) hx hb dX6_sheetWrong_115 (by decide +kernel) ?_
                  refine lv_iand hx hb dX6_sheetWrong_116 ?_
                  refine lv_istore_n (lv' := [zI 2 (gd &&& 0), zI 4 (nI ((40 * (nC v0)) + (3 * i44))), zI 3 (nI (3 * i44)), zR 0 h0, zI 1 v0]) hx hb dX6_sheetWrong_117 rfl hl (by decide +kernel) rfl (fun ls hl => ?_)
                  refine lv_iinc (v := nI ((3 * i44) + 3)) (lv' := [zI 3 (nI ((3 * i44) + 3)), zI 2 (gd &&& 0), zI 4 (nI ((40 * (nC v0)) + (3 * i44))), zR 0 h0, zI 1 v0]) hx hb dX6_sheetWrong_118 hl (k := 2) rfl (nI_add (3 * i44) 3) (by decide +kernel) rfl (fun ls hl => ?_)
                  refine lv_goto (tgt := 44) hx hb dX6_sheetWrong_121 (by decide +kernel) ?_
                  exact ih9_44 (i44 + 1) (gd &&& 0) (by omega) (Eq.trans (Eq.symm ((congrArg (fun z9 => p_X6_sheetWrong_44 pb fce v0 (z9) i44 gd) (show (fsq (nC v0) / 3) - i44 = (fsq (nC v0) / 3) - (i44 + 1) + 1 by omega)).trans (by show p_X6_sheetWrong_44 pb fce v0 ((fsq (nC v0) / 3) - (i44 + 1) + 1) i44 gd = _; rw [p_X6_sheetWrong_44, if_pos p_27, if_neg n_35]))) R44) (by omega) _ _ hP hD hS ls (lv_sub hl [0, 1, 3, 4] rfl)
                · skip
                  have p_34 : 0 ≤ (fce (((40 * (nC v0)) + (3 * i44)) + 1)) ∧ (fce (((40 * (nC v0)) + (3 * i44)) + 1)) ≤ 60 := of_decide_eq_true (bz_ne rfl c_33)
                  refine g_aget (D := G.1) (ci := 6) (v := .ref ce) (C := RX6) (T := TX6) (N := 42) hx hb dX6_sheetWrong_94 rfl (lv_at hl 3 rfl) hts hiX6 hown hK hP 0 rfl rfl 17 (by decide +kernel) kf43 (fun _ h9 => h9) rfl dX6_sheetWrong_95 ?_
                  refine lv_iload hx hb dX6_sheetWrong_98 (lv_at hl 0 rfl) ?_
                  refine lv_iconst (v := 2) hx hb dX6_sheetWrong_100 (by decide +kernel) ?_
                  refine lv_iadd hx hb dX6_sheetWrong_101 ?_
                  refine g_topi (y := nI (((40 * (nC v0)) + (3 * i44)) + 2)) (nI_add ((40 * (nC v0)) + (3 * i44)) 2) ?_
                  refine g_iald (D := G.1) hx hb hK hP 3 0 rfl rfl (k := ((40 * (nC v0)) + (3 * i44)) + 2) (y := fce (((40 * (nC v0)) + (3 * i44)) + 2)) (by omega) rfl rfl dX6_sheetWrong_102 ?_
                  refine lv_iconst (v := 0) hx hb dX6_sheetWrong_103 (by decide +kernel) ?_
                  refine lv_iconst (v := 1) hx hb dX6_sheetWrong_104 (by decide +kernel) ?_
                  refine z_calli [] (v := bz (decide (0 ≤ (fce (((40 * (nC v0)) + (3 * i44)) + 2)) ∧ (fce (((40 * (nC v0)) + (3 * i44)) + 2)) ≤ 1))) (fun _ _ h => h) (va_runS (As := [.int (fce (((40 * (nC v0)) + (3 * i44)) + 2)), .int 0, .int 1]) (rest := [.int gd]) ⟨hx, hb, hml, hown, hts⟩ (c_X6_in l G (fce (((40 * (nC v0)) + (3 * i44)) + 2)) 0 1 H.size) (va_cwS 3 hts gX6_sheetWrong_X6_in rfl rfl rfl (by decide +kernel) ⟨Nat.le_of_ble_eq_true rfl, Nat.le_of_ble_eq_true rfl⟩) ⟨gPre_blind, fun U hU hW => gPre_ofF [] hU hW hK hP hD (by decide +kernel) rfl⟩ rfl rfl hl.1 rfl (lv_room (Nat.le_of_ble_eq_true rfl)) dX6_sheetWrong_105 ⟨Nat.le_of_ble_eq_true rfl, Nat.le_of_ble_eq_true rfl⟩) hS hD hA rfl (fun u t H locs ht hvm hB hz1 hk1 hFq hAq hS => ?_)
                  obtain ⟨hP1, hK1, hD1⟩ := hB
                  have hP := zKeep hP hD [] hAq hk1 ht hP1 rfl
                  refine lv_if_eq (tgt := 115) hx hb dX6_sheetWrong_108 (by decide +kernel) (fun c_40 => ?_) (fun c_40 => ?_)
                  · skip
                    have n_42 : ¬ (0 ≤ (fce (((40 * (nC v0)) + (3 * i44)) + 2)) ∧ (fce (((40 * (nC v0)) + (3 * i44)) + 2)) ≤ 1) := of_decide_eq_false (bz_eq rfl c_40)
                    refine lv_iconst (v := 0) hx hb dX6_sheetWrong_115 (by decide +kernel) ?_
                    refine lv_iand hx hb dX6_sheetWrong_116 ?_
                    refine lv_istore_n (lv' := [zI 2 (gd &&& 0), zI 4 (nI ((40 * (nC v0)) + (3 * i44))), zI 3 (nI (3 * i44)), zR 0 h0, zI 1 v0]) hx hb dX6_sheetWrong_117 rfl hl (by decide +kernel) rfl (fun ls hl => ?_)
                    refine lv_iinc (v := nI ((3 * i44) + 3)) (lv' := [zI 3 (nI ((3 * i44) + 3)), zI 2 (gd &&& 0), zI 4 (nI ((40 * (nC v0)) + (3 * i44))), zR 0 h0, zI 1 v0]) hx hb dX6_sheetWrong_118 hl (k := 2) rfl (nI_add (3 * i44) 3) (by decide +kernel) rfl (fun ls hl => ?_)
                    refine lv_goto (tgt := 44) hx hb dX6_sheetWrong_121 (by decide +kernel) ?_
                    exact ih9_44 (i44 + 1) (gd &&& 0) (by omega) (Eq.trans (Eq.symm ((congrArg (fun z9 => p_X6_sheetWrong_44 pb fce v0 (z9) i44 gd) (show (fsq (nC v0) / 3) - i44 = (fsq (nC v0) / 3) - (i44 + 1) + 1 by omega)).trans (by show p_X6_sheetWrong_44 pb fce v0 ((fsq (nC v0) / 3) - (i44 + 1) + 1) i44 gd = _; rw [p_X6_sheetWrong_44, if_pos p_27, if_pos p_34, if_neg n_42]))) R44) (by omega) _ _ hP hD hS ls (lv_sub hl [0, 1, 3, 4] rfl)
                  · skip
                    have p_41 : 0 ≤ (fce (((40 * (nC v0)) + (3 * i44)) + 2)) ∧ (fce (((40 * (nC v0)) + (3 * i44)) + 2)) ≤ 1 := of_decide_eq_true (bz_ne rfl c_40)
                    refine lv_iconst (v := 1) hx hb dX6_sheetWrong_111 (by decide +kernel) ?_
                    refine lv_goto (tgt := 116) hx hb dX6_sheetWrong_112 (by decide +kernel) ?_
                    refine lv_iand hx hb dX6_sheetWrong_116 ?_
                    refine lv_istore_n (lv' := [zI 2 (gd &&& 1), zI 4 (nI ((40 * (nC v0)) + (3 * i44))), zI 3 (nI (3 * i44)), zR 0 h0, zI 1 v0]) hx hb dX6_sheetWrong_117 rfl hl (by decide +kernel) rfl (fun ls hl => ?_)
                    refine lv_iinc (v := nI ((3 * i44) + 3)) (lv' := [zI 3 (nI ((3 * i44) + 3)), zI 2 (gd &&& 1), zI 4 (nI ((40 * (nC v0)) + (3 * i44))), zR 0 h0, zI 1 v0]) hx hb dX6_sheetWrong_118 hl (k := 2) rfl (nI_add (3 * i44) 3) (by decide +kernel) rfl (fun ls hl => ?_)
                    refine lv_goto (tgt := 44) hx hb dX6_sheetWrong_121 (by decide +kernel) ?_
                    exact ih9_44 (i44 + 1) (gd &&& 1) (by omega) (Eq.trans (Eq.symm ((congrArg (fun z9 => p_X6_sheetWrong_44 pb fce v0 (z9) i44 gd) (show (fsq (nC v0) / 3) - i44 = (fsq (nC v0) / 3) - (i44 + 1) + 1 by omega)).trans (by show p_X6_sheetWrong_44 pb fce v0 ((fsq (nC v0) / 3) - (i44 + 1) + 1) i44 gd = _; rw [p_X6_sheetWrong_44, if_pos p_27, if_pos p_34, if_pos p_41]))) R44) (by omega) _ _ hP hD hS ls (lv_sub hl [0, 1, 3, 4] rfl)
        exact loop_44 ((fsq (nC v0) / 3) - 0 + 1) 0 0 (by omega) (rfl) (by omega) _ _ hP hD hS ls hl
      · skip
        have c_14N : ((fsq (nC v0)) % 3) = 0 := nI_eq1 (a := ((fsq (nC v0)) % 3)) (b := 0) (by omega) (by omega) c_14
        refine lv_iconst (v := 1) hx hb dX6_sheetWrong_36 (by decide +kernel) ?_
        refine lv_goto (tgt := 41) hx hb dX6_sheetWrong_37 (by decide +kernel) ?_
        refine lv_istore_n (lv' := [zI 2 1, zR 0 h0, zI 1 v0]) hx hb dX6_sheetWrong_41 rfl hl (by decide +kernel) rfl (fun ls hl => ?_)
        refine lv_iconst (v := 0) hx hb dX6_sheetWrong_42 (by decide +kernel) ?_
        refine lv_istore_n (lv' := [zI 3 0, zI 2 1, zR 0 h0, zI 1 v0]) hx hb dX6_sheetWrong_43 rfl hl (by decide +kernel) rfl (fun ls hl => ?_)
        have loop_44 : ∀ (n9 : Nat) (i44 : Nat) (gd : Int32), (i44 ≤ (fsq (nC v0) / 3)) → (p_X6_sheetWrong_44q1 pb fce v0 ((fsq (nC v0) / 3) - i44) i44 gd = (g_X6_sheetWrong_44q1 pb fsq fce v0)) → ((fsq (nC v0) / 3) - i44) < n9 → ∀ (H : Heap) (locs : List Loc), va_P G.1 vwCl [zo6 h0 (nI pb) kd mo st (nI jg) ro tp (nI td) cd sr (nI tx) (nI ru) him ir ih ss sq ce lw s19 s20 s21 s22 wo he s25 s26 s27 sk na kp s31 s32 s33 s34 gb go fa ga s39 s40 vo, zi G ss 4 fss, zi G sq 4 (nF fsq), zi G ce 160 fce] H → va_D A [zo6 h0 (nI pb) kd mo st (nI jg) ro tp (nI td) cd sr (nI tx) (nI ru) him ir ih ss sq ce lw s19 s20 s21 s22 wo he s25 s26 s27 sk na kp s31 s32 s33 s34 gb go fa ga s39 s40 vo, zi G ss 4 fss, zi G sq 4 (nF fsq), zi G ce 160 fce] → va_S A s.heap H locs → ∀ ls : Array Slot, lv_has ls 5 [zI 3 (nI (3 * i44)), zI 2 gd, zR 0 h0, zI 1 v0] → W p l e (headSpec wsX6_sheetWrong ({ frames := 2, cells := 0, slots := 0, locals := 43 })).room s m ([.ref h0, .int v0] : List Value).toArray below meth c H locs 0 0 (MQ below (q_X6_sheetWrong G h0 kd mo st ro tp cd sr ir ih ss sq ce lw wo he sk na kp gb go fa ga vo pb jg td tx ru him s19 s20 s21 s22 s25 s26 s27 s31 s32 s33 s34 s39 s40 fss fsq fce v0 A) ([.ref h0, .int v0] : List Value).toArray s 0 0 A) (F0 m 44 ls []) := by
          intro n9
          induction n9 with
          | zero => intro i44 gd hi44 R44 hm9_44; exact absurd hm9_44 (Nat.not_lt_zero _)
          | succ n9 ih9_44 =>
            intro i44 gd hi44 R44 hm9_44 H locs hP hD hS ls hl
            refine lv_iload_n hx hb dX6_sheetWrong_44 rfl (lv_at hl 0 rfl) ?_
            refine lv_iconst (v := 2) hx hb dX6_sheetWrong_45 (by decide +kernel) ?_
            refine lv_iadd hx hb dX6_sheetWrong_46 ?_
            refine g_topi (y := nI ((3 * i44) + 2)) (nI_add (3 * i44) 2) ?_
            refine g_aget (D := G.1) (ci := 6) (v := .ref sq) (C := RX6) (T := TX6) (N := 42) hx hb dX6_sheetWrong_47 rfl (lv_at hl 2 rfl) hts hiX6 hown hK hP 0 rfl rfl 16 (by decide +kernel) kf40 (fun _ h9 => h9) rfl dX6_sheetWrong_48 ?_
            refine lv_iload_n hx hb dX6_sheetWrong_51 rfl (lv_at hl 3 rfl) ?_
            refine g_topi (y := nI (nC v0)) hv_6 ?_
            refine va_iald (D := G.1) hx hb hK hP 2 0 rfl rfl (i := (nI (nC v0))) (vpn (by omega) rfl) dX6_sheetWrong_52 ?_
            refine g_topi (y := nI (fsq (nC v0))) (nF_at (by omega)) ?_
            refine lv_icmp_ge (tgt := 124) hx hb dX6_sheetWrong_53 (by decide +kernel) (fun c_46 => ?_) (fun c_46 => ?_)
            · skip
              have c_46N : (fsq (nC v0)) ≤ ((3 * i44) + 2) := nI_le1 (a := (fsq (nC v0))) (b := ((3 * i44) + 2)) (by omega) (by omega) c_46
              have hF44 : (g_X6_sheetWrong_44q1 pb fsq fce v0) = (i44, gd) := by rw [← R44, show (fsq (nC v0) / 3) - i44 = 0 by omega]; rfl
              have hE44_0 : i44 = ((g_X6_sheetWrong_44q1 pb fsq fce v0).1) := by rw [hF44]
              have hE44_1 : gd = ((g_X6_sheetWrong_44q1 pb fsq fce v0).2) := by rw [hF44]
              clear hF44 R44
              subst hE44_0
              subst hE44_1
              refine lv_iload_n hx hb dX6_sheetWrong_124 rfl (lv_at hl 1 rfl) ?_
              refine lv_if_eq (tgt := 132) hx hb dX6_sheetWrong_125 (by decide +kernel) (fun c_47 => ?_) (fun c_47 => ?_)
              · skip
                refine lv_bipush (v := -2) hx hb dX6_sheetWrong_132 (by decide +kernel) ?_
                have hpost : (fun (r : Int32) (u : Unit) => match u with | _ => r = m_X6_sheetWrong pb fss fsq fce v0) (-2) () := (show m_X6_sheetWrong pb fss fsq fce v0 = (-2) from by unfold m_X6_sheetWrong; rw [if_pos p_4, if_neg c_10, if_pos c_14, if_pos c_47]).symm
                exact W.iret (v := (-2)) hx hb hr (fun t ht hW => ⟨⟨(-2), (), rfl, hpost, by rw [ht]; exact hP, va_K.moved hW.alike hK, hD⟩, hS.F ht⟩) hS.2.2 dX6_sheetWrong_134
              · skip
                refine lv_iconst (v := 0) hx hb dX6_sheetWrong_128 (by decide +kernel) ?_
                refine lv_goto (tgt := 134) hx hb dX6_sheetWrong_129 (by decide +kernel) ?_
                have hpost : (fun (r : Int32) (u : Unit) => match u with | _ => r = m_X6_sheetWrong pb fss fsq fce v0) 0 () := (show m_X6_sheetWrong pb fss fsq fce v0 = 0 from by unfold m_X6_sheetWrong; rw [if_pos p_4, if_neg c_10, if_pos c_14, if_neg c_47]).symm
                exact W.iret (v := 0) hx hb hr (fun t ht hW => ⟨⟨0, (), rfl, hpost, by rw [ht]; exact hP, va_K.moved hW.alike hK, hD⟩, hS.F ht⟩) hS.2.2 dX6_sheetWrong_134
            · skip
              have c_46N : ((3 * i44) + 2) < (fsq (nC v0)) := nI_le0 (a := (fsq (nC v0))) (b := ((3 * i44) + 2)) (by omega) (by omega) c_46
              refine lv_bipush (v := 40) hx hb dX6_sheetWrong_56 (by decide +kernel) ?_
              refine lv_iload_n hx hb dX6_sheetWrong_58 rfl (lv_at hl 3 rfl) ?_
              refine g_topi (y := nI (nC v0)) hv_6 ?_
              refine lv_imul hx hb dX6_sheetWrong_59 ?_
              refine g_topi (y := nI (40 * (nC v0))) (pk_mul 40 (nC v0)) ?_
              refine lv_iload_n hx hb dX6_sheetWrong_60 rfl (lv_at hl 0 rfl) ?_
              refine lv_iadd hx hb dX6_sheetWrong_61 ?_
              refine g_topi (y := nI ((40 * (nC v0)) + (3 * i44))) (nI_add (40 * (nC v0)) (3 * i44)) ?_
              refine lv_istore (lv' := [zI 4 (nI ((40 * (nC v0)) + (3 * i44))), zI 3 (nI (3 * i44)), zI 2 gd, zR 0 h0, zI 1 v0]) hx hb dX6_sheetWrong_62 hl (by decide +kernel) rfl (fun ls hl => ?_)
              refine lv_iload_n hx hb dX6_sheetWrong_64 rfl (lv_at hl 2 rfl) ?_
              refine lv_aload_n hx hb dX6_sheetWrong_65 rfl (lv_at hl 3 rfl) ?_
              refine g_aget (D := G.1) (ci := 6) (v := .ref ce) (C := RX6) (T := TX6) (N := 42) hx hb dX6_sheetWrong_66 rfl (lv_at hl 3 rfl) hts hiX6 hown hK hP 0 rfl rfl 17 (by decide +kernel) kf43 (fun _ h9 => h9) rfl dX6_sheetWrong_67 ?_
              refine lv_iload hx hb dX6_sheetWrong_70 (lv_at hl 0 rfl) ?_
              refine g_iald (D := G.1) hx hb hK hP 3 0 rfl rfl (k := (40 * (nC v0)) + (3 * i44)) (y := fce ((40 * (nC v0)) + (3 * i44))) (by omega) rfl rfl dX6_sheetWrong_72 ?_
              refine z_calli [0] (v := bz (mHas pb (fce ((40 * (nC v0)) + (3 * i44))))) (fun _ _ h => h) (va_runV (As := [.int (fce ((40 * (nC v0)) + (3 * i44)))]) (rest := [.int gd]) ⟨hx, hb, hml, hown, hts⟩ (c_X6_isPebble l G h0 kd mo st ro tp cd sr ir ih ss sq ce lw wo he sk na kp gb go fa ga vo pb jg td tx ru him s19 s20 s21 s22 s25 s26 s27 s31 s32 s33 s34 s39 s40 (fce ((40 * (nC v0)) + (3 * i44))) H.size (by first | exact hpb | assumption | omega) (by first | exact hjg | assumption | omega) (by first | exact htx | assumption | omega) (by first | exact hru | assumption | omega)) (cwV 1 hts gX6_sheetWrong_X6_isPebble rfl rfl rfl (by decide +kernel) ⟨Nat.le_of_ble_eq_true rfl, Nat.le_of_ble_eq_true rfl⟩) ⟨gPre_blind, va_recv (q := (RX6, TX6, 42)) hK hP (ci := 6) (q0 := 0) rfl rfl, fun U hU hW => gPre_ofF [0] hU hW hK hP hD (by decide +kernel) rfl⟩ rfl rfl hl.1 rfl (lv_room (Nat.le_of_ble_eq_true rfl)) dX6_sheetWrong_73 ⟨Nat.le_of_ble_eq_true rfl, Nat.le_of_ble_eq_true rfl⟩) hS hD hA rfl (fun u t H locs ht hvm hB hz1 hk1 hFq hAq hS => ?_)
              obtain ⟨hP1, hK1, hD1⟩ := hB
              have hP := zKeep hP hD [0] hAq hk1 ht hP1 rfl
              refine lv_if_eq (tgt := 115) hx hb dX6_sheetWrong_76 (by decide +kernel) (fun c_54 => ?_) (fun c_54 => ?_)
              · skip
                have n_56 : (mHas pb (fce ((40 * (nC v0)) + (3 * i44)))) = false := bz_eq rfl c_54
                have n_56N : ¬ ((mHas pb (fce ((40 * (nC v0)) + (3 * i44)))) = true) := by rw [n_56]; decide
                refine lv_iconst (v := 0) hx hb dX6_sheetWrong_115 (by decide +kernel) ?_
                refine lv_iand hx hb dX6_sheetWrong_116 ?_
                refine lv_istore_n (lv' := [zI 2 (gd &&& 0), zI 4 (nI ((40 * (nC v0)) + (3 * i44))), zI 3 (nI (3 * i44)), zR 0 h0, zI 1 v0]) hx hb dX6_sheetWrong_117 rfl hl (by decide +kernel) rfl (fun ls hl => ?_)
                refine lv_iinc (v := nI ((3 * i44) + 3)) (lv' := [zI 3 (nI ((3 * i44) + 3)), zI 2 (gd &&& 0), zI 4 (nI ((40 * (nC v0)) + (3 * i44))), zR 0 h0, zI 1 v0]) hx hb dX6_sheetWrong_118 hl (k := 2) rfl (nI_add (3 * i44) 3) (by decide +kernel) rfl (fun ls hl => ?_)
                refine lv_goto (tgt := 44) hx hb dX6_sheetWrong_121 (by decide +kernel) ?_
                exact ih9_44 (i44 + 1) (gd &&& 0) (by omega) (Eq.trans (Eq.symm ((congrArg (fun z9 => p_X6_sheetWrong_44q1 pb fce v0 (z9) i44 gd) (show (fsq (nC v0) / 3) - i44 = (fsq (nC v0) / 3) - (i44 + 1) + 1 by omega)).trans (by show p_X6_sheetWrong_44q1 pb fce v0 ((fsq (nC v0) / 3) - (i44 + 1) + 1) i44 gd = _; rw [p_X6_sheetWrong_44q1, if_neg n_56N]))) R44) (by omega) _ _ hP hD hS ls (lv_sub hl [0, 1, 3, 4] rfl)
              · skip
                have p_55 : (mHas pb (fce ((40 * (nC v0)) + (3 * i44)))) = true := bz_ne rfl c_54
                refine g_aget (D := G.1) (ci := 6) (v := .ref ce) (C := RX6) (T := TX6) (N := 42) hx hb dX6_sheetWrong_79 rfl (lv_at hl 3 rfl) hts hiX6 hown hK hP 0 rfl rfl 17 (by decide +kernel) kf43 (fun _ h9 => h9) rfl dX6_sheetWrong_80 ?_
                refine lv_iload hx hb dX6_sheetWrong_83 (lv_at hl 0 rfl) ?_
                refine lv_iconst (v := 1) hx hb dX6_sheetWrong_85 (by decide +kernel) ?_
                refine lv_iadd hx hb dX6_sheetWrong_86 ?_
                refine g_topi (y := nI (((40 * (nC v0)) + (3 * i44)) + 1)) (nI_add ((40 * (nC v0)) + (3 * i44)) 1) ?_
                refine g_iald (D := G.1) hx hb hK hP 3 0 rfl rfl (k := ((40 * (nC v0)) + (3 * i44)) + 1) (y := fce (((40 * (nC v0)) + (3 * i44)) + 1)) (by omega) rfl rfl dX6_sheetWrong_87 ?_
                refine z_calli [] (v := bz (decide (0 ≤ (fce (((40 * (nC v0)) + (3 * i44)) + 1)) ∧ (fce (((40 * (nC v0)) + (3 * i44)) + 1)) ≤ 60))) (fun _ _ h => h) (va_runS (As := [.int (fce (((40 * (nC v0)) + (3 * i44)) + 1))]) (rest := [.int gd]) ⟨hx, hb, hml, hown, hts⟩ (c_X6_isCase l G (fce (((40 * (nC v0)) + (3 * i44)) + 1)) H.size) (va_cwS 1 hts gX6_sheetWrong_X6_isCase rfl rfl rfl (by decide +kernel) ⟨Nat.le_of_ble_eq_true rfl, Nat.le_of_ble_eq_true rfl⟩) ⟨gPre_blind, fun U hU hW => gPre_ofF [] hU hW hK hP hD (by decide +kernel) rfl⟩ rfl rfl hl.1 rfl (lv_room (Nat.le_of_ble_eq_true rfl)) dX6_sheetWrong_88 ⟨Nat.le_of_ble_eq_true rfl, Nat.le_of_ble_eq_true rfl⟩) hS hD hA rfl (fun u t H locs ht hvm hB hz1 hk1 hFq hAq hS => ?_)
                obtain ⟨hP1, hK1, hD1⟩ := hB
                have hP := zKeep hP hD [] hAq hk1 ht hP1 rfl
                refine lv_if_eq (tgt := 115) hx hb dX6_sheetWrong_91 (by decide +kernel) (fun c_61 => ?_) (fun c_61 => ?_)
                · skip
                  have n_63 : ¬ (0 ≤ (fce (((40 * (nC v0)) + (3 * i44)) + 1)) ∧ (fce (((40 * (nC v0)) + (3 * i44)) + 1)) ≤ 60) := of_decide_eq_false (bz_eq rfl c_61)
                  refine lv_iconst (v := 0) hx hb dX6_sheetWrong_115 (by decide +kernel) ?_
                  refine lv_iand hx hb dX6_sheetWrong_116 ?_
                  refine lv_istore_n (lv' := [zI 2 (gd &&& 0), zI 4 (nI ((40 * (nC v0)) + (3 * i44))), zI 3 (nI (3 * i44)), zR 0 h0, zI 1 v0]) hx hb dX6_sheetWrong_117 rfl hl (by decide +kernel) rfl (fun ls hl => ?_)
                  refine lv_iinc (v := nI ((3 * i44) + 3)) (lv' := [zI 3 (nI ((3 * i44) + 3)), zI 2 (gd &&& 0), zI 4 (nI ((40 * (nC v0)) + (3 * i44))), zR 0 h0, zI 1 v0]) hx hb dX6_sheetWrong_118 hl (k := 2) rfl (nI_add (3 * i44) 3) (by decide +kernel) rfl (fun ls hl => ?_)
                  refine lv_goto (tgt := 44) hx hb dX6_sheetWrong_121 (by decide +kernel) ?_
                  exact ih9_44 (i44 + 1) (gd &&& 0) (by omega) (Eq.trans (Eq.symm ((congrArg (fun z9 => p_X6_sheetWrong_44q1 pb fce v0 (z9) i44 gd) (show (fsq (nC v0) / 3) - i44 = (fsq (nC v0) / 3) - (i44 + 1) + 1 by omega)).trans (by show p_X6_sheetWrong_44q1 pb fce v0 ((fsq (nC v0) / 3) - (i44 + 1) + 1) i44 gd = _; rw [p_X6_sheetWrong_44q1, if_pos p_55, if_neg n_63]))) R44) (by omega) _ _ hP hD hS ls (lv_sub hl [0, 1, 3, 4] rfl)
                · skip
                  have p_62 : 0 ≤ (fce (((40 * (nC v0)) + (3 * i44)) + 1)) ∧ (fce (((40 * (nC v0)) + (3 * i44)) + 1)) ≤ 60 := of_decide_eq_true (bz_ne rfl c_61)
                  refine g_aget (D := G.1) (ci := 6) (v := .ref ce) (C := RX6) (T := TX6) (N := 42) hx hb dX6_sheetWrong_94 rfl (lv_at hl 3 rfl) hts hiX6 hown hK hP 0 rfl rfl 17 (by decide +kernel) kf43 (fun _ h9 => h9) rfl dX6_sheetWrong_95 ?_
                  refine lv_iload hx hb dX6_sheetWrong_98 (lv_at hl 0 rfl) ?_
                  refine lv_iconst (v := 2) hx hb dX6_sheetWrong_100 (by decide +kernel) ?_
                  refine lv_iadd hx hb dX6_sheetWrong_101 ?_
                  refine g_topi (y := nI (((40 * (nC v0)) + (3 * i44)) + 2)) (nI_add ((40 * (nC v0)) + (3 * i44)) 2) ?_
                  refine g_iald (D := G.1) hx hb hK hP 3 0 rfl rfl (k := ((40 * (nC v0)) + (3 * i44)) + 2) (y := fce (((40 * (nC v0)) + (3 * i44)) + 2)) (by omega) rfl rfl dX6_sheetWrong_102 ?_
                  refine lv_iconst (v := 0) hx hb dX6_sheetWrong_103 (by decide +kernel) ?_
                  refine lv_iconst (v := 1) hx hb dX6_sheetWrong_104 (by decide +kernel) ?_
                  refine z_calli [] (v := bz (decide (0 ≤ (fce (((40 * (nC v0)) + (3 * i44)) + 2)) ∧ (fce (((40 * (nC v0)) + (3 * i44)) + 2)) ≤ 1))) (fun _ _ h => h) (va_runS (As := [.int (fce (((40 * (nC v0)) + (3 * i44)) + 2)), .int 0, .int 1]) (rest := [.int gd]) ⟨hx, hb, hml, hown, hts⟩ (c_X6_in l G (fce (((40 * (nC v0)) + (3 * i44)) + 2)) 0 1 H.size) (va_cwS 3 hts gX6_sheetWrong_X6_in rfl rfl rfl (by decide +kernel) ⟨Nat.le_of_ble_eq_true rfl, Nat.le_of_ble_eq_true rfl⟩) ⟨gPre_blind, fun U hU hW => gPre_ofF [] hU hW hK hP hD (by decide +kernel) rfl⟩ rfl rfl hl.1 rfl (lv_room (Nat.le_of_ble_eq_true rfl)) dX6_sheetWrong_105 ⟨Nat.le_of_ble_eq_true rfl, Nat.le_of_ble_eq_true rfl⟩) hS hD hA rfl (fun u t H locs ht hvm hB hz1 hk1 hFq hAq hS => ?_)
                  obtain ⟨hP1, hK1, hD1⟩ := hB
                  have hP := zKeep hP hD [] hAq hk1 ht hP1 rfl
                  refine lv_if_eq (tgt := 115) hx hb dX6_sheetWrong_108 (by decide +kernel) (fun c_68 => ?_) (fun c_68 => ?_)
                  · skip
                    have n_70 : ¬ (0 ≤ (fce (((40 * (nC v0)) + (3 * i44)) + 2)) ∧ (fce (((40 * (nC v0)) + (3 * i44)) + 2)) ≤ 1) := of_decide_eq_false (bz_eq rfl c_68)
                    refine lv_iconst (v := 0) hx hb dX6_sheetWrong_115 (by decide +kernel) ?_
                    refine lv_iand hx hb dX6_sheetWrong_116 ?_
                    refine lv_istore_n (lv' := [zI 2 (gd &&& 0), zI 4 (nI ((40 * (nC v0)) + (3 * i44))), zI 3 (nI (3 * i44)), zR 0 h0, zI 1 v0]) hx hb dX6_sheetWrong_117 rfl hl (by decide +kernel) rfl (fun ls hl => ?_)
                    refine lv_iinc (v := nI ((3 * i44) + 3)) (lv' := [zI 3 (nI ((3 * i44) + 3)), zI 2 (gd &&& 0), zI 4 (nI ((40 * (nC v0)) + (3 * i44))), zR 0 h0, zI 1 v0]) hx hb dX6_sheetWrong_118 hl (k := 2) rfl (nI_add (3 * i44) 3) (by decide +kernel) rfl (fun ls hl => ?_)
                    refine lv_goto (tgt := 44) hx hb dX6_sheetWrong_121 (by decide +kernel) ?_
                    exact ih9_44 (i44 + 1) (gd &&& 0) (by omega) (Eq.trans (Eq.symm ((congrArg (fun z9 => p_X6_sheetWrong_44q1 pb fce v0 (z9) i44 gd) (show (fsq (nC v0) / 3) - i44 = (fsq (nC v0) / 3) - (i44 + 1) + 1 by omega)).trans (by show p_X6_sheetWrong_44q1 pb fce v0 ((fsq (nC v0) / 3) - (i44 + 1) + 1) i44 gd = _; rw [p_X6_sheetWrong_44q1, if_pos p_55, if_pos p_62, if_neg n_70]))) R44) (by omega) _ _ hP hD hS ls (lv_sub hl [0, 1, 3, 4] rfl)
                  · skip
                    have p_69 : 0 ≤ (fce (((40 * (nC v0)) + (3 * i44)) + 2)) ∧ (fce (((40 * (nC v0)) + (3 * i44)) + 2)) ≤ 1 := of_decide_eq_true (bz_ne rfl c_68)
                    refine lv_iconst (v := 1) hx hb dX6_sheetWrong_111 (by decide +kernel) ?_
                    refine lv_goto (tgt := 116) hx hb dX6_sheetWrong_112 (by decide +kernel) ?_
                    refine lv_iand hx hb dX6_sheetWrong_116 ?_
                    refine lv_istore_n (lv' := [zI 2 (gd &&& 1), zI 4 (nI ((40 * (nC v0)) + (3 * i44))), zI 3 (nI (3 * i44)), zR 0 h0, zI 1 v0]) hx hb dX6_sheetWrong_117 rfl hl (by decide +kernel) rfl (fun ls hl => ?_)
                    refine lv_iinc (v := nI ((3 * i44) + 3)) (lv' := [zI 3 (nI ((3 * i44) + 3)), zI 2 (gd &&& 1), zI 4 (nI ((40 * (nC v0)) + (3 * i44))), zR 0 h0, zI 1 v0]) hx hb dX6_sheetWrong_118 hl (k := 2) rfl (nI_add (3 * i44) 3) (by decide +kernel) rfl (fun ls hl => ?_)
                    refine lv_goto (tgt := 44) hx hb dX6_sheetWrong_121 (by decide +kernel) ?_
                    exact ih9_44 (i44 + 1) (gd &&& 1) (by omega) (Eq.trans (Eq.symm ((congrArg (fun z9 => p_X6_sheetWrong_44q1 pb fce v0 (z9) i44 gd) (show (fsq (nC v0) / 3) - i44 = (fsq (nC v0) / 3) - (i44 + 1) + 1 by omega)).trans (by show p_X6_sheetWrong_44q1 pb fce v0 ((fsq (nC v0) / 3) - (i44 + 1) + 1) i44 gd = _; rw [p_X6_sheetWrong_44q1, if_pos p_55, if_pos p_62, if_pos p_69]))) R44) (by omega) _ _ hP hD hS ls (lv_sub hl [0, 1, 3, 4] rfl)
        exact loop_44 ((fsq (nC v0) / 3) - 0 + 1) 0 1 (by omega) (rfl) (by omega) _ _ hP hD hS ls hl
    · skip
      refine lv_bipush (v := -11) hx hb dX6_sheetWrong_22 (by decide +kernel) ?_
      have hpost : (fun (r : Int32) (u : Unit) => match u with | _ => r = m_X6_sheetWrong pb fss fsq fce v0) (-11) () := (show m_X6_sheetWrong pb fss fsq fce v0 = (-11) from by unfold m_X6_sheetWrong; rw [if_pos p_4, if_pos c_10]).symm
      exact W.iret (v := (-11)) hx hb hr (fun t ht hW => ⟨⟨(-11), (), rfl, hpost, by rw [ht]; exact hP, va_K.moved hW.alike hK, hD⟩, hS.F ht⟩) hS.2.2 dX6_sheetWrong_24
  · skip
    have n_5 : ¬ (0 ≤ v0 ∧ v0 ≤ 3) := of_decide_eq_false (bz_eq rfl c_3)
    refine lv_bipush (v := -2) hx hb dX6_sheetWrong_9 (by decide +kernel) ?_
    have hpost : (fun (r : Int32) (u : Unit) => match u with | _ => r = m_X6_sheetWrong pb fss fsq fce v0) (-2) () := (show m_X6_sheetWrong pb fss fsq fce v0 = (-2) from by unfold m_X6_sheetWrong; rw [if_neg n_5]).symm
    exact W.iret (v := (-2)) hx hb hr (fun t ht hW => ⟨⟨(-2), (), rfl, hpost, by rw [ht]; exact hP, va_K.moved hW.alike hK, hD⟩, hS.F ht⟩) hS.2.2 dX6_sheetWrong_11
noncomputable def m_X6_toldWrong (pb : Nat) (jg : Nat) (fss : Nat → Int32) (fsq : Nat → Nat) (fce : Nat → Int32) (v0 : Int32) (v1 : Int32) : Int32 := if (m_X6_sheetWrong pb fss fsq fce v0) = 0 then (if (mHas jg v1) = true then 0 else -5) else m_X6_sheetWrong pb fss fsq fce v0
abbrev q_X6_toldWrong (G : gG) (h0 kd mo st ro tp cd sr ir ih ss sq ce lw wo he sk na kp gb go fa ga vo : Nat) (pb : Nat) (jg : Nat) (td : Nat) (tx : Nat) (ru : Nat) (him : Int32) (s19 : Int32) (s20 : Int32) (s21 : Int32) (s22 : Int32) (s25 : Int32) (s26 : Int32) (s27 : Int32) (s31 : Int32) (s32 : Int32) (s33 : Int32) (s34 : Int32) (s39 : Int32) (s40 : Int32) (fss : Nat → Int32) (fsq : Nat → Nat) (fce : Nat → Int32) (v0 : Int32) (v1 : Int32) (A : Nat → Prop) : Array Value → State → Outcome → State → Prop := va_Qi (fun (r : Int32) (u : Unit) => match u with | _ => r = m_X6_toldWrong pb jg fss fsq fce v0 v1) (fun (u : Unit) t => match u with | _ => va_P G.1 vwCl [zo6 h0 (nI pb) kd mo st (nI jg) ro tp (nI td) cd sr (nI tx) (nI ru) him ir ih ss sq ce lw s19 s20 s21 s22 wo he s25 s26 s27 sk na kp s31 s32 s33 s34 gb go fa ga s39 s40 vo, zi G ss 4 fss, zi G sq 4 (nF fsq), zi G ce 160 fce] t.heap ∧ gK G t ∧ va_D A [zo6 h0 (nI pb) kd mo st (nI jg) ro tp (nI td) cd sr (nI tx) (nI ru) him ir ih ss sq ce lw s19 s20 s21 s22 wo he s25 s26 s27 sk na kp s31 s32 s33 s34 gb go fa ga s39 s40 vo, zi G ss 4 fss, zi G sq 4 (nF fsq), zi G ce 160 fce]) A
set_option maxHeartbeats 4000000 in
set_option maxRecDepth 100000 in
theorem c_X6_toldWrong (l : Launch) (G : gG) (h0 kd mo st ro tp cd sr ir ih ss sq ce lw wo he sk na kp gb go fa ga vo : Nat) (pb : Nat) (jg : Nat) (td : Nat) (tx : Nat) (ru : Nat) (him : Int32) (s19 : Int32) (s20 : Int32) (s21 : Int32) (s22 : Int32) (s25 : Int32) (s26 : Int32) (s27 : Int32) (s31 : Int32) (s32 : Int32) (s33 : Int32) (s34 : Int32) (s39 : Int32) (s40 : Int32) (fss : Nat → Int32) (fsq : Nat → Nat) (fce : Nat → Int32) (v0 : Int32) (v1 : Int32) (sz : Nat) (hsq : ∀ q9, q9 < 4 → fsq q9 ≤ 40) (hpb : pb ≤ 6) (hjg : jg ≤ 4) (htx : tx ≤ 6) (hru : ru < tx) : Met l yX6_toldWrong wsX6_toldWrong ({ frames := 3, cells := 0, slots := 0, locals := 67 }) (gPre G [.ref h0, .int v0, .int v1] [zo6 h0 (nI pb) kd mo st (nI jg) ro tp (nI td) cd sr (nI tx) (nI ru) him ir ih ss sq ce lw s19 s20 s21 s22 wo he s25 s26 s27 sk na kp s31 s32 s33 s34 gb go fa ga s39 s40 vo, zi G ss 4 fss, zi G sq 4 (nF fsq), zi G ce 160 fce] sz) (q_X6_toldWrong G h0 kd mo st ro tp cd sr ir ih ss sq ce lw wo he sk na kp gb go fa ga vo pb jg td tx ru him s19 s20 s21 s22 s25 s26 s27 s31 s32 s33 s34 s39 s40 fss fsq fce v0 v1 (va_A [zo6 h0 (nI pb) kd mo st (nI jg) ro tp (nI td) cd sr (nI tx) (nI ru) him ir ih ss sq ce lw s19 s20 s21 s22 wo he s25 s26 s27 sk na kp s31 s32 s33 s34 gb go fa ga s39 s40 vo, zi G ss 4 fss, zi G sq 4 (nF fsq), zi G ce 160 fce] sz)) 0 0 (va_A [zo6 h0 (nI pb) kd mo st (nI jg) ro tp (nI td) cd sr (nI tx) (nI ru) him ir ih ss sq ce lw s19 s20 s21 s22 wo he s25 s26 s27 sk na kp s31 s32 s33 s34 gb go fa ga s39 s40 vo, zi G ss 4 fss, zi G sq 4 (nF fsq), zi G ce 160 fce] sz) := by
  refine Met.ofW (cc := cX6_toldWrong) (maxL := 4) (ret := (some .int)) (by decide +kernel) rfl ?_
  intro p e s m args below meth c s₁ B hml hv
  obtain ⟨rfl, hsz, hP, hK, hD0⟩ := hv
  have hx := B.exec
  have hb := B.bytes
  have hr := B.returns
  have hts := atoms_spec (ws := wsX6_toldWrong) B.pre
  have hown : s.vm.findClass RX6 = some m.cls := findClass_of_methodNamed B.named
  have hlocks := B.notSynchronized
  subst hsz
  have hD := hD0.self (sz := s.heap.size)
  generalize hAe : va_A [zo6 h0 (nI pb) kd mo st (nI jg) ro tp (nI td) cd sr (nI tx) (nI ru) him ir ih ss sq ce lw s19 s20 s21 s22 wo he s25 s26 s27 sk na kp s31 s32 s33 s34 gb go fa ga s39 s40 vo, zi G ss 4 fss, zi G sq 4 (nF fsq), zi G ce 160 fce] s.heap.size = A at hD ⊢
  have hA : ∀ q : Nat, s.heap.size ≤ q → A q := fun q h => by rw [← hAe]; exact Or.inr h
  have hS : va_S A s.heap s.heap [] := va_S.rf
  have hz9 : gPD G A [zo6 h0 (nI pb) kd mo st (nI jg) ro tp (nI td) cd sr (nI tx) (nI ru) him ir ih ss sq ce lw s19 s20 s21 s22 wo he s25 s26 s27 sk na kp s31 s32 s33 s34 gb go fa ga s39 s40 vo, zi G ss 4 fss, zi G sq 4 (nF fsq), zi G ce 160 fce] s.heap := ⟨hP, hD⟩
  have hP := hz9.1
  have hD := hz9.2
  have hl := lv_entry ([.ref h0, .int v0, .int v1]) (n := 4) (Nat.le_of_ble_eq_true rfl)
  rw [lg_entry_eq]
  generalize (lg_sl ([.ref h0, .int v0, .int v1]) ++ List.replicate (4 - (lg_sl ([.ref h0, .int v0, .int v1])).length) Slot.unset).toArray = ls at hl ⊢
  have hl : lv_has ls 4 [zR 0 h0, zI 1 v0, zI 2 v1] := hl
  refine lv_aload_n hx hb dX6_toldWrong_0 rfl (lv_at hl 0 rfl) ?_
  refine lv_iload_n hx hb dX6_toldWrong_1 rfl (lv_at hl 1 rfl) ?_
  refine z_calli [0, 1, 2, 3] (v := m_X6_sheetWrong pb fss fsq fce v0) (fun _ _ h => h) (va_runV (As := [.int v0]) (rest := []) ⟨hx, hb, hml, hown, hts⟩ (c_X6_sheetWrong l G h0 kd mo st ro tp cd sr ir ih ss sq ce lw wo he sk na kp gb go fa ga vo pb jg td tx ru him s19 s20 s21 s22 s25 s26 s27 s31 s32 s33 s34 s39 s40 fss fsq fce v0 s.heap.size (by first | exact hsq | assumption | omega) (by first | exact hpb | assumption | omega) (by first | exact hjg | assumption | omega) (by first | exact htx | assumption | omega) (by first | exact hru | assumption | omega)) (cwV 1 hts gX6_toldWrong_X6_sheetWrong rfl rfl rfl (by decide +kernel) ⟨Nat.le_of_ble_eq_true rfl, Nat.le_of_ble_eq_true rfl⟩) ⟨gPre_blind, va_recv (q := (RX6, TX6, 42)) hK hP (ci := 6) (q0 := 0) rfl rfl, fun U hU hW => gPre_of hU hW hK hP hD⟩ rfl rfl hl.1 rfl (lv_room (Nat.le_of_ble_eq_true rfl)) dX6_toldWrong_2 ⟨Nat.le_of_ble_eq_true rfl, Nat.le_of_ble_eq_true rfl⟩) hS hD hA rfl (fun u t H locs ht hvm hB hz1 hk1 hFq hAq hS => ?_)
  obtain ⟨hP1, hK1, hD1⟩ := hB
  have hP := zKeep hP hD [0, 1, 2, 3] hAq hk1 ht hP1 rfl
  refine lv_istore_n (lv' := [zI 3 (m_X6_sheetWrong pb fss fsq fce v0), zR 0 h0, zI 1 v0, zI 2 v1]) hx hb dX6_toldWrong_5 rfl hl (by decide +kernel) rfl (fun ls hl => ?_)
  refine lv_iload_n hx hb dX6_toldWrong_6 rfl (lv_at hl 0 rfl) ?_
  refine lv_if_eq (tgt := 14) hx hb dX6_toldWrong_7 (by decide +kernel) (fun c_3 => ?_) (fun c_3 => ?_)
  · skip
    refine lv_aload_n hx hb dX6_toldWrong_14 rfl (lv_at hl 1 rfl) ?_
    refine lv_iload_n hx hb dX6_toldWrong_15 rfl (lv_at hl 3 rfl) ?_
    refine z_calli [0] (v := bz (mHas jg v1)) (fun _ _ h => h) (va_runV (As := [.int v1]) (rest := []) ⟨hx, hb, hml, hown, hts⟩ (c_X6_isJudge l G h0 kd mo st ro tp cd sr ir ih ss sq ce lw wo he sk na kp gb go fa ga vo pb jg td tx ru him s19 s20 s21 s22 s25 s26 s27 s31 s32 s33 s34 s39 s40 v1 H.size (by first | exact hpb | assumption | omega) (by first | exact hjg | assumption | omega) (by first | exact htx | assumption | omega) (by first | exact hru | assumption | omega)) (cwV 1 hts gX6_toldWrong_X6_isJudge rfl rfl rfl (by decide +kernel) ⟨Nat.le_of_ble_eq_true rfl, Nat.le_of_ble_eq_true rfl⟩) ⟨gPre_blind, va_recv (q := (RX6, TX6, 42)) hK hP (ci := 6) (q0 := 0) rfl rfl, fun U hU hW => gPre_ofF [0] hU hW hK hP hD (by decide +kernel) rfl⟩ rfl rfl hl.1 rfl (lv_room (Nat.le_of_ble_eq_true rfl)) dX6_toldWrong_16 ⟨Nat.le_of_ble_eq_true rfl, Nat.le_of_ble_eq_true rfl⟩) hS hD hA rfl (fun u t H locs ht hvm hB hz1 hk1 hFq hAq hS => ?_)
    obtain ⟨hP1, hK1, hD1⟩ := hB
    have hP := zKeep hP hD [0] hAq hk1 ht hP1 rfl
    refine lv_if_eq (tgt := 26) hx hb dX6_toldWrong_19 (by decide +kernel) (fun c_6 => ?_) (fun c_6 => ?_)
    · skip
      have n_8 : (mHas jg v1) = false := bz_eq rfl c_6
      have n_8N : ¬ ((mHas jg v1) = true) := by rw [n_8]; decide
      refine lv_bipush (v := -5) hx hb dX6_toldWrong_26 (by decide +kernel) ?_
      have hpost : (fun (r : Int32) (u : Unit) => match u with | _ => r = m_X6_toldWrong pb jg fss fsq fce v0 v1) (-5) () := (show m_X6_toldWrong pb jg fss fsq fce v0 v1 = (-5) from by unfold m_X6_toldWrong; rw [if_pos c_3, if_neg n_8N]).symm
      exact W.iret (v := (-5)) hx hb hr (fun t ht hW => ⟨⟨(-5), (), rfl, hpost, by rw [ht]; exact hP, va_K.moved hW.alike hK, hD⟩, hS.F ht⟩) hS.2.2 dX6_toldWrong_28
    · skip
      have p_7 : (mHas jg v1) = true := bz_ne rfl c_6
      have hv_9 : v1 = nI (nC v1) := mHas_eq p_7
      have hk_10 : nC v1 < jg := mHas_lt (by omega) p_7
      refine lv_iconst (v := 0) hx hb dX6_toldWrong_22 (by decide +kernel) ?_
      refine lv_goto (tgt := 28) hx hb dX6_toldWrong_23 (by decide +kernel) ?_
      have hpost : (fun (r : Int32) (u : Unit) => match u with | _ => r = m_X6_toldWrong pb jg fss fsq fce v0 v1) 0 () := (show m_X6_toldWrong pb jg fss fsq fce v0 v1 = 0 from by unfold m_X6_toldWrong; rw [if_pos c_3, if_pos p_7]).symm
      exact W.iret (v := 0) hx hb hr (fun t ht hW => ⟨⟨0, (), rfl, hpost, by rw [ht]; exact hP, va_K.moved hW.alike hK, hD⟩, hS.F ht⟩) hS.2.2 dX6_toldWrong_28
  · skip
    refine lv_iload_n hx hb dX6_toldWrong_10 rfl (lv_at hl 0 rfl) ?_
    refine lv_goto (tgt := 28) hx hb dX6_toldWrong_11 (by decide +kernel) ?_
    have hpost : (fun (r : Int32) (u : Unit) => match u with | _ => r = m_X6_toldWrong pb jg fss fsq fce v0 v1) (m_X6_sheetWrong pb fss fsq fce v0) () := (show m_X6_toldWrong pb jg fss fsq fce v0 v1 = (m_X6_sheetWrong pb fss fsq fce v0) from by unfold m_X6_toldWrong; rw [if_neg c_3]).symm
    exact W.iret (v := (m_X6_sheetWrong pb fss fsq fce v0)) hx hb hr (fun t ht hW => ⟨⟨(m_X6_sheetWrong pb fss fsq fce v0), (), rfl, hpost, by rw [ht]; exact hP, va_K.moved hW.alike hK, hD⟩, hS.F ht⟩) hS.2.2 dX6_toldWrong_28
/-! a sheet that tells cases -/
def mCase (pb : Nat) (fce : Nat → Int32) (sn k : Nat) : Prop := mHas pb (fce (40 * sn + 3 * k)) = true ∧ (0 ≤ fce (40 * sn + 3 * k + 1) ∧ fce (40 * sn + 3 * k + 1) ≤ 60) ∧ (0 ≤ fce (40 * sn + 3 * k + 2) ∧ fce (40 * sn + 3 * k + 2) ≤ 1)
def mTold (pb : Nat) (fsq : Nat → Nat) (fce : Nat → Int32) (sn : Nat) : Prop := ∀ k, k < fsq sn / 3 → mCase pb fce sn k
theorem mTold_at {pb : Nat} {fsq : Nat → Nat} {fce : Nat → Int32} {sn k : Nat} (h : mTold pb fsq fce sn) (hk : k < fsq sn / 3) (hpb : pb ≤ 6) : fce (40 * sn + 3 * k) = nI (nC (fce (40 * sn + 3 * k))) ∧ nC (fce (40 * sn + 3 * k)) < pb ∧ fce (40 * sn + 3 * k + 1) = nI (nC (fce (40 * sn + 3 * k + 1))) ∧ nC (fce (40 * sn + 3 * k + 1)) ≤ 60 ∧ (0 ≤ fce (40 * sn + 3 * k + 2) ∧ fce (40 * sn + 3 * k + 2) ≤ 1) := by
  obtain ⟨h1, h2, h3⟩ := h k hk
  exact ⟨mHas_eq h1, mHas_lt (by omega) h1, nC_eq h2.1, nC_le (n := 60) (by omega) h2, h3⟩
theorem gd_and {g : Int32} (h : g = 0 ∨ g = 1) : (g &&& 1 = 0 ∨ g &&& 1 = 1) ∧ (g &&& 1 = 1 → g = 1) ∧ g &&& 0 = 0 := by
  rcases h with e | e <;> subst e <;> decide
theorem sw_all {pb : Nat} {fce : Nat → Int32} {v0 : Int32} : ∀ (q i : Nat) (gd : Int32), (gd = 0 ∨ gd = 1) → ¬ (p_X6_sheetWrong_44 pb fce v0 q i gd).2 = 0 → gd = 1 ∧ ∀ k, i ≤ k → k < i + q → mCase pb fce (nC v0) k
  | 0, i, gd, hg, h => by
    have h' : ¬ gd = 0 := h
    exact ⟨hg.elim (fun z => absurd z h') id, fun k h1 h2 => absurd h2 (by omega)⟩
  | q + 1, i, gd, hg, h => by
    rw [p_X6_sheetWrong_44] at h
    obtain ⟨g1, g2, g3⟩ := gd_and hg
    have bad : ∀ z : ¬ (p_X6_sheetWrong_44 pb fce v0 q (i + 1) (gd &&& 0)).2 = 0, False := fun z => by
      rw [g3] at z
      exact absurd (sw_all q (i + 1) 0 (Or.inl rfl) z).1 (by decide +kernel)
    by_cases c1 : (mHas pb (fce ((40 * (nC v0)) + (3 * i)))) = true
    · rw [if_pos c1] at h
      by_cases c2 : 0 ≤ (fce (((40 * (nC v0)) + (3 * i)) + 1)) ∧ (fce (((40 * (nC v0)) + (3 * i)) + 1)) ≤ 60
      · rw [if_pos c2] at h
        by_cases c3 : 0 ≤ (fce (((40 * (nC v0)) + (3 * i)) + 2)) ∧ (fce (((40 * (nC v0)) + (3 * i)) + 2)) ≤ 1
        · rw [if_pos c3] at h
          obtain ⟨k1, k2⟩ := sw_all q (i + 1) (gd &&& 1) g1 h
          refine ⟨g2 k1, fun k h1 h2 => ?_⟩
          by_cases e : k = i
          · subst e; exact ⟨c1, c2, c3⟩
          · exact k2 k (by omega) (by omega)
        · rw [if_neg c3] at h; exact (bad h).elim
      · rw [if_neg c2] at h; exact (bad h).elim
    · rw [if_neg c1] at h; exact (bad h).elim
theorem sw_allq1 {pb : Nat} {fce : Nat → Int32} {v0 : Int32} : ∀ (q i : Nat) (gd : Int32), (gd = 0 ∨ gd = 1) → ¬ (p_X6_sheetWrong_44q1 pb fce v0 q i gd).2 = 0 → gd = 1 ∧ ∀ k, i ≤ k → k < i + q → mCase pb fce (nC v0) k
  | 0, i, gd, hg, h => by
    have h' : ¬ gd = 0 := h
    exact ⟨hg.elim (fun z => absurd z h') id, fun k h1 h2 => absurd h2 (by omega)⟩
  | q + 1, i, gd, hg, h => by
    rw [p_X6_sheetWrong_44q1] at h
    obtain ⟨g1, g2, g3⟩ := gd_and hg
    have bad : ∀ z : ¬ (p_X6_sheetWrong_44q1 pb fce v0 q (i + 1) (gd &&& 0)).2 = 0, False := fun z => by
      rw [g3] at z
      exact absurd (sw_allq1 q (i + 1) 0 (Or.inl rfl) z).1 (by decide +kernel)
    by_cases c1 : (mHas pb (fce ((40 * (nC v0)) + (3 * i)))) = true
    · rw [if_pos c1] at h
      by_cases c2 : 0 ≤ (fce (((40 * (nC v0)) + (3 * i)) + 1)) ∧ (fce (((40 * (nC v0)) + (3 * i)) + 1)) ≤ 60
      · rw [if_pos c2] at h
        by_cases c3 : 0 ≤ (fce (((40 * (nC v0)) + (3 * i)) + 2)) ∧ (fce (((40 * (nC v0)) + (3 * i)) + 2)) ≤ 1
        · rw [if_pos c3] at h
          obtain ⟨k1, k2⟩ := sw_allq1 q (i + 1) (gd &&& 1) g1 h
          refine ⟨g2 k1, fun k h1 h2 => ?_⟩
          by_cases e : k = i
          · subst e; exact ⟨c1, c2, c3⟩
          · exact k2 k (by omega) (by omega)
        · rw [if_neg c3] at h; exact (bad h).elim
      · rw [if_neg c2] at h; exact (bad h).elim
    · rw [if_neg c1] at h; exact (bad h).elim
theorem sheetWrong_0 {pb : Nat} {fss : Nat → Int32} {fsq : Nat → Nat} {fce : Nat → Int32} {v0 : Int32} (_hpb : pb ≤ 6) (c : m_X6_sheetWrong pb fss fsq fce v0 = 0) : (0 ≤ v0 ∧ v0 ≤ 3) ∧ mTold pb fsq fce (nC v0) := by
  unfold m_X6_sheetWrong at c
  by_cases c1 : 0 ≤ v0 ∧ v0 ≤ 3
  · rw [if_pos c1] at c
    by_cases c2 : fss (nC v0) = -1
    · rw [if_pos c2] at c; exact absurd c (by decide +kernel)
    · rw [if_neg c2] at c
      by_cases c3 : nI (fsq (nC v0) % 3) = 0
      · rw [if_pos c3] at c
        by_cases c4 : (g_X6_sheetWrong_44q1 pb fsq fce v0).2 = 0
        · rw [if_pos c4] at c; exact absurd c (by decide +kernel)
        · exact ⟨c1, fun k hk => (sw_allq1 _ 0 1 (Or.inr rfl) c4).2 k (Nat.zero_le _) (by omega)⟩
      · rw [if_neg c3] at c
        by_cases c4 : (g_X6_sheetWrong_44 pb fsq fce v0).2 = 0
        · rw [if_pos c4] at c; exact absurd c (by decide +kernel)
        · exact absurd (sw_all _ 0 0 (Or.inl rfl) c4).1 (by decide +kernel)
  · rw [if_neg c1] at c; exact absurd c (by decide +kernel)
theorem toldWrong_0 {pb jg : Nat} {fss : Nat → Int32} {fsq : Nat → Nat} {fce : Nat → Int32} {v0 v1 : Int32} (hpb : pb ≤ 6) (c : m_X6_toldWrong pb jg fss fsq fce v0 v1 = 0) : (0 ≤ v0 ∧ v0 ≤ 3) ∧ mHas jg v1 = true ∧ mTold pb fsq fce (nC v0) := by
  unfold m_X6_toldWrong at c
  by_cases c1 : m_X6_sheetWrong pb fss fsq fce v0 = 0
  · rw [if_pos c1] at c
    obtain ⟨h1, h2⟩ := sheetWrong_0 hpb c1
    by_cases c2 : mHas jg v1 = true
    · exact ⟨h1, c2, h2⟩
    · rw [if_neg c2] at c; exact absurd c (by decide +kernel)
  · rw [if_neg c1] at c; exact absurd c c1
