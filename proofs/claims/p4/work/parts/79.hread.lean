abbrev q_X6_wordFrom_b (G : gG) (h0 kd mo st ro tp cd sr ir ih ss sq ce lw wo he sk na kp gb go fa ga vo : Nat) (pb : Nat) (jg : Nat) (td : Nat) (tx : Nat) (ru : Nat) (him : Int32) (s19 : Int32) (s20 : Int32) (s21 : Int32) (s22 : Int32) (s25 : Int32) (s26 : Int32) (s27 : Int32) (s31 : Int32) (s32 : Int32) (s33 : Int32) (s34 : Int32) (s39 : Int32) (s40 : Int32) (ftp : Nat → Int32) (fwo : Nat → Int32) (fr : Nat) (tw : Nat) (A : Nat → Prop) : Array Value → State → Outcome → State → Prop := va_Qi (fun (r : Int32) (u : Unit) => match u with | _ => r = m_X6_wordFrom ftp fwo fr tw) (fun (u : Unit) t => match u with | _ => va_P G.1 vwCl [zo6 h0 (nI pb) kd mo st (nI jg) ro tp (nI td) cd sr (nI tx) (nI ru) him ir ih ss sq ce lw s19 s20 s21 s22 wo he s25 s26 s27 sk na kp s31 s32 s33 s34 gb go fa ga s39 s40 vo, zi G tp 160 ftp, zi G wo 96 fwo] t.heap ∧ gK G t ∧ va_D A [zo6 h0 (nI pb) kd mo st (nI jg) ro tp (nI td) cd sr (nI tx) (nI ru) him ir ih ss sq ce lw s19 s20 s21 s22 wo he s25 s26 s27 sk na kp s31 s32 s33 s34 gb go fa ga s39 s40 vo, zi G tp 160 ftp, zi G wo 96 fwo]) A
set_option maxHeartbeats 4000000 in
set_option maxRecDepth 100000 in
theorem c_X6_wordFrom_b (l : Launch) (G : gG) (h0 kd mo st ro tp cd sr ir ih ss sq ce lw wo he sk na kp gb go fa ga vo : Nat) (pb : Nat) (jg : Nat) (td : Nat) (tx : Nat) (ru : Nat) (him : Int32) (s19 : Int32) (s20 : Int32) (s21 : Int32) (s22 : Int32) (s25 : Int32) (s26 : Int32) (s27 : Int32) (s31 : Int32) (s32 : Int32) (s33 : Int32) (s34 : Int32) (s39 : Int32) (s40 : Int32) (ftp : Nat → Int32) (fwo : Nat → Int32) (fr : Nat) (tw : Nat) (sz : Nat) (hft : fr ≤ tw ∧ tw ≤ 160) : Met l yX6_wordFrom wsX6_wordFrom ({ frames := 0, cells := 0, slots := 0, locals := 0 }) (gPre G [.ref h0, .int (nI fr), .int (nI tw)] [zo6 h0 (nI pb) kd mo st (nI jg) ro tp (nI td) cd sr (nI tx) (nI ru) him ir ih ss sq ce lw s19 s20 s21 s22 wo he s25 s26 s27 sk na kp s31 s32 s33 s34 gb go fa ga s39 s40 vo, zi G tp 160 ftp, zi G wo 96 fwo] sz) (q_X6_wordFrom_b G h0 kd mo st ro tp cd sr ir ih ss sq ce lw wo he sk na kp gb go fa ga vo pb jg td tx ru him s19 s20 s21 s22 s25 s26 s27 s31 s32 s33 s34 s39 s40 ftp fwo fr tw (va_A [zo6 h0 (nI pb) kd mo st (nI jg) ro tp (nI td) cd sr (nI tx) (nI ru) him ir ih ss sq ce lw s19 s20 s21 s22 wo he s25 s26 s27 sk na kp s31 s32 s33 s34 gb go fa ga s39 s40 vo, zi G tp 160 ftp, zi G wo 96 fwo] sz)) 0 0 (va_A [zo6 h0 (nI pb) kd mo st (nI jg) ro tp (nI td) cd sr (nI tx) (nI ru) him ir ih ss sq ce lw s19 s20 s21 s22 wo he s25 s26 s27 sk na kp s31 s32 s33 s34 gb go fa ga s39 s40 vo, zi G tp 160 ftp, zi G wo 96 fwo] sz) := by
  refine Met.ofW (cc := cX6_wordFrom) (maxL := 6) (ret := (some .int)) (by decide +kernel) rfl ?_
  intro p e s m args below meth c s₁ B hml hv
  obtain ⟨rfl, hsz, hP, hK, hD0⟩ := hv
  have hx := B.exec
  have hb := B.bytes
  have hr := B.returns
  have hts := atoms_spec (ws := wsX6_wordFrom) B.pre
  have hown : s.vm.findClass RX6 = some m.cls := findClass_of_methodNamed B.named
  have hlocks := B.notSynchronized
  subst hsz
  have hD := hD0.self (sz := s.heap.size)
  generalize hAe : va_A [zo6 h0 (nI pb) kd mo st (nI jg) ro tp (nI td) cd sr (nI tx) (nI ru) him ir ih ss sq ce lw s19 s20 s21 s22 wo he s25 s26 s27 sk na kp s31 s32 s33 s34 gb go fa ga s39 s40 vo, zi G tp 160 ftp, zi G wo 96 fwo] s.heap.size = A at hD ⊢
  have hA : ∀ q : Nat, s.heap.size ≤ q → A q := fun q h => by rw [← hAe]; exact Or.inr h
  have hS : va_S A s.heap s.heap [] := va_S.rf
  have hz9 : gPD G A [zo6 h0 (nI pb) kd mo st (nI jg) ro tp (nI td) cd sr (nI tx) (nI ru) him ir ih ss sq ce lw s19 s20 s21 s22 wo he s25 s26 s27 sk na kp s31 s32 s33 s34 gb go fa ga s39 s40 vo, zi G tp 160 ftp, zi G wo 96 fwo] s.heap := ⟨hP, hD⟩
  have hP := hz9.1
  have hD := hz9.2
  have hl := lv_entry ([.ref h0, .int (nI fr), .int (nI tw)]) (n := 6) (Nat.le_of_ble_eq_true rfl)
  rw [lg_entry_eq]
  generalize (lg_sl ([.ref h0, .int (nI fr), .int (nI tw)]) ++ List.replicate (6 - (lg_sl ([.ref h0, .int (nI fr), .int (nI tw)])).length) Slot.unset).toArray = ls at hl ⊢
  have hl : lv_has ls 6 [zR 0 h0, zI 1 (nI fr), zI 2 (nI tw)] := hl
  have kf49 := hts (.fieldLink RX6 49 "PebbleInShoeModel" "words" "[I") (by decide +kernel)
  have hiX6 := (by decide +kernel : ∀ w ∈ wsX60, w ∈ wsX6_wordFrom)
  have kf22 := hts (.fieldLink RX6 22 "PebbleInShoeModel" "tape" "[I") (by decide +kernel)
  refine lv_iconst (v := 0) hx hb dX6_wordFrom_0 (by decide +kernel) ?_
  refine lv_istore_n (lv' := [zI 3 0, zR 0 h0, zI 1 (nI fr), zI 2 (nI tw)]) hx hb dX6_wordFrom_1 rfl hl (by decide +kernel) rfl (fun ls hl => ?_)
  have loop_2 : ∀ (n9 : Nat) (k2 : Nat), (k2 ≤ 12) → (p_X6_wordFrom_2 ftp fwo fr tw (12 - k2) k2  = (g_X6_wordFrom_2 ftp fwo fr tw)) → (12 - k2) < n9 → ∀ (H : Heap) (locs : List Loc), va_P G.1 vwCl [zo6 h0 (nI pb) kd mo st (nI jg) ro tp (nI td) cd sr (nI tx) (nI ru) him ir ih ss sq ce lw s19 s20 s21 s22 wo he s25 s26 s27 sk na kp s31 s32 s33 s34 gb go fa ga s39 s40 vo, zi G tp 160 ftp, zi G wo 96 fwo] H → va_D A [zo6 h0 (nI pb) kd mo st (nI jg) ro tp (nI td) cd sr (nI tx) (nI ru) him ir ih ss sq ce lw s19 s20 s21 s22 wo he s25 s26 s27 sk na kp s31 s32 s33 s34 gb go fa ga s39 s40 vo, zi G tp 160 ftp, zi G wo 96 fwo] → va_S A s.heap H locs → ∀ ls : Array Slot, lv_has ls 6 [zI 3 (nI k2), zR 0 h0, zI 1 (nI fr), zI 2 (nI tw)] → W p l e (headSpec wsX6_wordFrom ({ frames := 0, cells := 0, slots := 0, locals := 0 })).room s m ([.ref h0, .int (nI fr), .int (nI tw)] : List Value).toArray below meth c H locs 0 0 (MQ below (q_X6_wordFrom_b G h0 kd mo st ro tp cd sr ir ih ss sq ce lw wo he sk na kp gb go fa ga vo pb jg td tx ru him s19 s20 s21 s22 s25 s26 s27 s31 s32 s33 s34 s39 s40 ftp fwo fr tw A) ([.ref h0, .int (nI fr), .int (nI tw)] : List Value).toArray s 0 0 A) (F0 m 2 ls []) := by
    intro n9
    induction n9 with
    | zero => intro k2 hk2 R2 hm9_2; exact absurd hm9_2 (Nat.not_lt_zero _)
    | succ n9 ih9_2 =>
      intro k2 hk2 R2 hm9_2 H locs hP hD hS ls hl
      refine lv_iload_n hx hb dX6_wordFrom_2 rfl (lv_at hl 0 rfl) ?_
      refine lv_bipush (v := 12) hx hb dX6_wordFrom_3 (by decide +kernel) ?_
      refine lv_icmp_ge (tgt := 101) hx hb dX6_wordFrom_5 (by decide +kernel) (fun c_1 => ?_) (fun c_1 => ?_)
      · skip
        have c_1N : 12 ≤ k2 := nI_le1 (a := 12) (b := k2) (by omega) (by omega) c_1
        have hF2 : (g_X6_wordFrom_2 ftp fwo fr tw) = k2 := by rw [← R2, show 12 - k2 = 0 by omega]; rfl
        have hE2_0 : k2 = (g_X6_wordFrom_2 ftp fwo fr tw) := by rw [hF2]
        clear hF2 R2
        subst hE2_0
        refine lv_bipush (v := 12) hx hb dX6_wordFrom_101 (by decide +kernel) ?_
        have hpost : (fun (r : Int32) (u : Unit) => match u with | _ => r = m_X6_wordFrom ftp fwo fr tw) 12 () := (show m_X6_wordFrom ftp fwo fr tw = 12 from by unfold m_X6_wordFrom; rw [if_pos c_1]).symm
        exact W.iret (v := 12) hx hb hr (fun t ht hW => ⟨⟨12, (), rfl, hpost, by rw [ht]; exact hP.sub [0, 1, 2] rfl, va_K.moved hW.alike hK, hD.sub [0, 1, 2] (by decide +kernel) rfl⟩, hS.F ht⟩) hS.2.2 dX6_wordFrom_103
      · skip
        have c_1N : k2 < 12 := nI_le0 (a := 12) (b := k2) (by omega) (by omega) c_1
        refine lv_iload_n hx hb dX6_wordFrom_8 rfl (lv_at hl 3 rfl) ?_
        refine lv_iload_n hx hb dX6_wordFrom_9 rfl (lv_at hl 2 rfl) ?_
        refine lv_isub hx hb dX6_wordFrom_10 ?_
        refine lv_topi (fun v_2 ev_2 => ?_)
        have ev_2 : v_2 = nI (tw - fr) := ev_2.trans (pk_sub (a := tw) (b := fr) (by omega))
        subst ev_2
        refine lv_bipush (v := 8) hx hb dX6_wordFrom_11 (by decide +kernel) ?_
        refine lv_icmp_gt (tgt := 20) hx hb dX6_wordFrom_13 (by decide +kernel) (fun c_3 => ?_) (fun c_3 => ?_)
        · skip
          have c_3N : 8 < (tw - fr) := nI_lt1 (a := 8) (b := (tw - fr)) (by omega) (by omega) c_3
          refine lv_iconst (v := 0) hx hb dX6_wordFrom_20 (by decide +kernel) ?_
          refine lv_istore (lv' := [zI 4 0, zI 3 (nI k2), zR 0 h0, zI 1 (nI fr), zI 2 (nI tw)]) hx hb dX6_wordFrom_21 hl (by decide +kernel) rfl (fun ls hl => ?_)
          refine lv_iconst (v := 0) hx hb dX6_wordFrom_23 (by decide +kernel) ?_
          refine lv_istore (lv' := [zI 5 0, zI 4 0, zI 3 (nI k2), zR 0 h0, zI 1 (nI fr), zI 2 (nI tw)]) hx hb dX6_wordFrom_24 hl (by decide +kernel) rfl (fun ls hl => ?_)
          have loop_26 : ∀ (n9 : Nat) (c26 : Nat) (li : Int32), (c26 ≤ 8) → (p_X6_wordFrom_26 ftp fwo fr tw k2 (8 - c26) c26 li = (g_X6_wordFrom_26 ftp fwo fr tw k2)) → (8 - c26) < n9 → ∀ (H : Heap) (locs : List Loc), va_P G.1 vwCl [zo6 h0 (nI pb) kd mo st (nI jg) ro tp (nI td) cd sr (nI tx) (nI ru) him ir ih ss sq ce lw s19 s20 s21 s22 wo he s25 s26 s27 sk na kp s31 s32 s33 s34 gb go fa ga s39 s40 vo, zi G tp 160 ftp, zi G wo 96 fwo] H → va_D A [zo6 h0 (nI pb) kd mo st (nI jg) ro tp (nI td) cd sr (nI tx) (nI ru) him ir ih ss sq ce lw s19 s20 s21 s22 wo he s25 s26 s27 sk na kp s31 s32 s33 s34 gb go fa ga s39 s40 vo, zi G tp 160 ftp, zi G wo 96 fwo] → va_S A s.heap H locs → ∀ ls : Array Slot, lv_has ls 6 [zI 5 (nI c26), zI 4 li, zI 3 (nI k2), zR 0 h0, zI 1 (nI fr), zI 2 (nI tw)] → W p l e (headSpec wsX6_wordFrom ({ frames := 0, cells := 0, slots := 0, locals := 0 })).room s m ([.ref h0, .int (nI fr), .int (nI tw)] : List Value).toArray below meth c H locs 0 0 (MQ below (q_X6_wordFrom_b G h0 kd mo st ro tp cd sr ir ih ss sq ce lw wo he sk na kp gb go fa ga vo pb jg td tx ru him s19 s20 s21 s22 s25 s26 s27 s31 s32 s33 s34 s39 s40 ftp fwo fr tw A) ([.ref h0, .int (nI fr), .int (nI tw)] : List Value).toArray s 0 0 A) (F0 m 26 ls []) := by
            intro n9
            induction n9 with
            | zero => intro c26 li hc26 R26 hm9_26; exact absurd hm9_26 (Nat.not_lt_zero _)
            | succ n9 ih9_26 =>
              intro c26 li hc26 R26 hm9_26 H locs hP hD hS ls hl
              refine lv_iload hx hb dX6_wordFrom_26 (lv_at hl 0 rfl) ?_
              refine lv_bipush (v := 8) hx hb dX6_wordFrom_28 (by decide +kernel) ?_
              refine lv_icmp_ge (tgt := 88) hx hb dX6_wordFrom_30 (by decide +kernel) (fun c_4 => ?_) (fun c_4 => ?_)
              · skip
                have c_4N : 8 ≤ c26 := nI_le1 (a := 8) (b := c26) (by omega) (by omega) c_4
                have hF26 : (g_X6_wordFrom_26 ftp fwo fr tw k2) = (c26, li) := by rw [← R26, show 8 - c26 = 0 by omega]; rfl
                have hE26_0 : c26 = ((g_X6_wordFrom_26 ftp fwo fr tw k2).1) := by rw [hF26]
                have hE26_1 : li = ((g_X6_wordFrom_26 ftp fwo fr tw k2).2) := by rw [hF26]
                clear hF26 R26
                subst hE26_0
                subst hE26_1
                refine lv_iload hx hb dX6_wordFrom_88 (lv_at hl 1 rfl) ?_
                refine lv_if_eq (tgt := 95) hx hb dX6_wordFrom_90 (by decide +kernel) (fun c_5 => ?_) (fun c_5 => ?_)
                · skip
                  refine lv_iinc (v := nI (k2 + 1)) (lv' := [zI 3 (nI (k2 + 1)), zI 5 (nI ((g_X6_wordFrom_26 ftp fwo fr tw k2).1)), zI 4 ((g_X6_wordFrom_26 ftp fwo fr tw k2).2), zR 0 h0, zI 1 (nI fr), zI 2 (nI tw)]) hx hb dX6_wordFrom_95 hl (k := 2) rfl (nI_add k2 1) (by decide +kernel) rfl (fun ls hl => ?_)
                  refine lv_goto (tgt := 2) hx hb dX6_wordFrom_98 (by decide +kernel) ?_
                  exact ih9_2 (k2 + 1) (by omega) (Eq.trans (Eq.symm ((congrArg (fun z9 => p_X6_wordFrom_2 ftp fwo fr tw (z9) k2 ) (show 12 - k2 = 12 - (k2 + 1) + 1 by omega)).trans (by show p_X6_wordFrom_2 ftp fwo fr tw (12 - (k2 + 1) + 1) k2  = _; rw [p_X6_wordFrom_2, if_pos c_3, if_pos c_5]))) R2) (by omega) _ _ (hP.sub [0, 1, 2] rfl) (hD.sub [0, 1, 2] (by decide +kernel) rfl) hS ls (lv_sub hl [0, 3, 4, 5] rfl)
                · skip
                  refine lv_iload_n hx hb dX6_wordFrom_93 rfl (lv_at hl 2 rfl) ?_
                  have hF2 : (g_X6_wordFrom_2 ftp fwo fr tw) = k2 := R2.symm.trans ((congrArg (fun z9 => p_X6_wordFrom_2 ftp fwo fr tw (z9) k2 ) (show 12 - k2 = 12 - (k2 + 1) + 1 by omega)).trans (by show p_X6_wordFrom_2 ftp fwo fr tw (12 - (k2 + 1) + 1) k2  = _; rw [p_X6_wordFrom_2, if_pos c_3, if_neg c_5]))
                  have hE2_0 : k2 = (g_X6_wordFrom_2 ftp fwo fr tw) := by rw [hF2]
                  clear hF2 R2
                  subst hE2_0
                  have hpost : (fun (r : Int32) (u : Unit) => match u with | _ => r = m_X6_wordFrom ftp fwo fr tw) (nI (g_X6_wordFrom_2 ftp fwo fr tw)) () := (show m_X6_wordFrom ftp fwo fr tw = (nI (g_X6_wordFrom_2 ftp fwo fr tw)) from by unfold m_X6_wordFrom; rw [if_neg c_1]).symm
                  exact W.iret (v := (nI (g_X6_wordFrom_2 ftp fwo fr tw))) hx hb hr (fun t ht hW => ⟨⟨(nI (g_X6_wordFrom_2 ftp fwo fr tw)), (), rfl, hpost, by rw [ht]; exact hP.sub [0, 1, 2] rfl, va_K.moved hW.alike hK, hD.sub [0, 1, 2] (by decide +kernel) rfl⟩, hS.F ht⟩) hS.2.2 dX6_wordFrom_94
              · skip
                have c_4N : c26 < 8 := nI_le0 (a := 8) (b := c26) (by omega) (by omega) c_4
                refine lv_iload hx hb dX6_wordFrom_33 (lv_at hl 1 rfl) ?_
                refine lv_if_eq (tgt := 88) hx hb dX6_wordFrom_35 (by decide +kernel) (fun c_6 => ?_) (fun c_6 => ?_)
                · skip
                  have hF26 : (g_X6_wordFrom_26 ftp fwo fr tw k2) = (c26, li) := R26.symm.trans ((congrArg (fun z9 => p_X6_wordFrom_26 ftp fwo fr tw k2 (z9) c26 li) (show 8 - c26 = 8 - (c26 + 1) + 1 by omega)).trans (by show p_X6_wordFrom_26 ftp fwo fr tw k2 (8 - (c26 + 1) + 1) c26 li = _; rw [p_X6_wordFrom_26, if_pos c_6]))
                  have hE26_0 : c26 = ((g_X6_wordFrom_26 ftp fwo fr tw k2).1) := by rw [hF26]
                  have hE26_1 : li = ((g_X6_wordFrom_26 ftp fwo fr tw k2).2) := by rw [hF26]
                  clear hF26 R26
                  subst hE26_0
                  subst hE26_1
                  refine lv_iload hx hb dX6_wordFrom_88 (lv_at hl 1 rfl) ?_
                  refine lv_if_eq (tgt := 95) hx hb dX6_wordFrom_90 (by decide +kernel) (fun c_7 => ?_) (fun c_7 => ?_)
                  · skip
                    refine lv_iinc (v := nI (k2 + 1)) (lv' := [zI 3 (nI (k2 + 1)), zI 5 (nI ((g_X6_wordFrom_26 ftp fwo fr tw k2).1)), zI 4 ((g_X6_wordFrom_26 ftp fwo fr tw k2).2), zR 0 h0, zI 1 (nI fr), zI 2 (nI tw)]) hx hb dX6_wordFrom_95 hl (k := 2) rfl (nI_add k2 1) (by decide +kernel) rfl (fun ls hl => ?_)
                    refine lv_goto (tgt := 2) hx hb dX6_wordFrom_98 (by decide +kernel) ?_
                    exact ih9_2 (k2 + 1) (by omega) (Eq.trans (Eq.symm ((congrArg (fun z9 => p_X6_wordFrom_2 ftp fwo fr tw (z9) k2 ) (show 12 - k2 = 12 - (k2 + 1) + 1 by omega)).trans (by show p_X6_wordFrom_2 ftp fwo fr tw (12 - (k2 + 1) + 1) k2  = _; rw [p_X6_wordFrom_2, if_pos c_3, if_pos c_7]))) R2) (by omega) _ _ (hP.sub [0, 1, 2] rfl) (hD.sub [0, 1, 2] (by decide +kernel) rfl) hS ls (lv_sub hl [0, 3, 4, 5] rfl)
                  · skip
                    refine lv_iload_n hx hb dX6_wordFrom_93 rfl (lv_at hl 2 rfl) ?_
                    have hF2 : (g_X6_wordFrom_2 ftp fwo fr tw) = k2 := R2.symm.trans ((congrArg (fun z9 => p_X6_wordFrom_2 ftp fwo fr tw (z9) k2 ) (show 12 - k2 = 12 - (k2 + 1) + 1 by omega)).trans (by show p_X6_wordFrom_2 ftp fwo fr tw (12 - (k2 + 1) + 1) k2  = _; rw [p_X6_wordFrom_2, if_pos c_3, if_neg c_7]))
                    have hE2_0 : k2 = (g_X6_wordFrom_2 ftp fwo fr tw) := by rw [hF2]
                    clear hF2 R2
                    subst hE2_0
                    have hpost : (fun (r : Int32) (u : Unit) => match u with | _ => r = m_X6_wordFrom ftp fwo fr tw) (nI (g_X6_wordFrom_2 ftp fwo fr tw)) () := (show m_X6_wordFrom ftp fwo fr tw = (nI (g_X6_wordFrom_2 ftp fwo fr tw)) from by unfold m_X6_wordFrom; rw [if_neg c_1]).symm
                    exact W.iret (v := (nI (g_X6_wordFrom_2 ftp fwo fr tw))) hx hb hr (fun t ht hW => ⟨⟨(nI (g_X6_wordFrom_2 ftp fwo fr tw)), (), rfl, hpost, by rw [ht]; exact hP.sub [0, 1, 2] rfl, va_K.moved hW.alike hK, hD.sub [0, 1, 2] (by decide +kernel) rfl⟩, hS.F ht⟩) hS.2.2 dX6_wordFrom_94
                · skip
                  refine lv_aload_n hx hb dX6_wordFrom_38 rfl (lv_at hl 3 rfl) ?_
                  refine va_get (D := G.1) (ci := 6) (v := .ref wo) (C := RX6) (T := TX6) (N := 42) hx hb hts hiX6 hown hK hP 0 rfl rfl 23 (by decide +kernel) kf49 (fun _ h9 => h9) rfl dX6_wordFrom_39 ?_
                  refine lv_bipush (v := 8) hx hb dX6_wordFrom_42 (by decide +kernel) ?_
                  refine lv_iload_n hx hb dX6_wordFrom_44 rfl (lv_at hl 2 rfl) ?_
                  refine lv_imul hx hb dX6_wordFrom_45 ?_
                  refine lv_topi (fun v_8 ev_8 => ?_)
                  have ev_8 : v_8 = nI (8 * k2) := ev_8.trans (pk_mul 8 k2)
                  subst ev_8
                  refine lv_iload hx hb dX6_wordFrom_46 (lv_at hl 0 rfl) ?_
                  refine lv_iadd hx hb dX6_wordFrom_48 ?_
                  refine lv_topi (fun v_9 ev_9 => ?_)
                  have ev_9 : v_9 = nI ((8 * k2) + c26) := ev_9.trans (nI_add (8 * k2) c26)
                  subst ev_9
                  refine va_iald (D := G.1) hx hb hK hP 2 0 rfl rfl (i := (nI ((8 * k2) + c26))) (vp_in_nI (by omega) (by omega)) dX6_wordFrom_49 ?_
                  refine lv_topi (fun v_10 ev_10 => ?_)
                  have ev_10 : v_10 = fwo ((8 * k2) + c26) := ev_10.trans (by rw [nI_clamp (by omega)])
                  subst ev_10
                  refine lv_iload_n hx hb dX6_wordFrom_50 rfl (lv_at hl 4 rfl) ?_
                  refine lv_iload hx hb dX6_wordFrom_51 (lv_at hl 0 rfl) ?_
                  refine lv_iadd hx hb dX6_wordFrom_53 ?_
                  refine lv_topi (fun v_11 ev_11 => ?_)
                  have ev_11 : v_11 = nI (fr + c26) := ev_11.trans (nI_add fr c26)
                  subst ev_11
                  refine lv_iload_n hx hb dX6_wordFrom_54 rfl (lv_at hl 5 rfl) ?_
                  refine lv_icmp_ge (tgt := 70) hx hb dX6_wordFrom_55 (by decide +kernel) (fun c_12 => ?_) (fun c_12 => ?_)
                  · skip
                    have c_12N : tw ≤ (fr + c26) := nI_le1 (a := tw) (b := (fr + c26)) (by omega) (by omega) c_12
                    refine lv_bipush (v := 32) hx hb dX6_wordFrom_70 (by decide +kernel) ?_
                    refine lv_icmp_ne (tgt := 79) hx hb dX6_wordFrom_72 (by decide +kernel) (fun c_13 => ?_) (fun c_13 => ?_)
                    · skip
                      refine lv_iconst (v := 0) hx hb dX6_wordFrom_79 (by decide +kernel) ?_
                      refine lv_istore (lv' := [zI 4 0, zI 5 (nI c26), zI 3 (nI k2), zR 0 h0, zI 1 (nI fr), zI 2 (nI tw)]) hx hb dX6_wordFrom_80 hl (by decide +kernel) rfl (fun ls hl => ?_)
                      refine lv_iinc (v := nI (c26 + 1)) (lv' := [zI 5 (nI (c26 + 1)), zI 4 0, zI 3 (nI k2), zR 0 h0, zI 1 (nI fr), zI 2 (nI tw)]) hx hb dX6_wordFrom_82 hl (k := 1) rfl (nI_add c26 1) (by decide +kernel) rfl (fun ls hl => ?_)
                      refine lv_goto (tgt := 26) hx hb dX6_wordFrom_85 (by decide +kernel) ?_
                      exact ih9_26 (c26 + 1) 0 (by omega) (Eq.trans (Eq.symm ((congrArg (fun z9 => p_X6_wordFrom_26 ftp fwo fr tw k2 (z9) c26 li) (show 8 - c26 = 8 - (c26 + 1) + 1 by omega)).trans (by show p_X6_wordFrom_26 ftp fwo fr tw k2 (8 - (c26 + 1) + 1) c26 li = _; rw [p_X6_wordFrom_26, if_neg c_6, if_pos c_12, if_neg c_13]))) R26) (by omega) _ _ (hP.sub [0, 1, 2] rfl) (hD.sub [0, 1, 2] (by decide +kernel) rfl) hS ls (lv_sub hl [0, 1, 2, 3, 4, 5] rfl)
                    · skip
                      refine lv_iconst (v := 1) hx hb dX6_wordFrom_75 (by decide +kernel) ?_
                      refine lv_goto (tgt := 80) hx hb dX6_wordFrom_76 (by decide +kernel) ?_
                      refine lv_istore (lv' := [zI 4 1, zI 5 (nI c26), zI 3 (nI k2), zR 0 h0, zI 1 (nI fr), zI 2 (nI tw)]) hx hb dX6_wordFrom_80 hl (by decide +kernel) rfl (fun ls hl => ?_)
                      refine lv_iinc (v := nI (c26 + 1)) (lv' := [zI 5 (nI (c26 + 1)), zI 4 1, zI 3 (nI k2), zR 0 h0, zI 1 (nI fr), zI 2 (nI tw)]) hx hb dX6_wordFrom_82 hl (k := 1) rfl (nI_add c26 1) (by decide +kernel) rfl (fun ls hl => ?_)
                      refine lv_goto (tgt := 26) hx hb dX6_wordFrom_85 (by decide +kernel) ?_
                      exact ih9_26 (c26 + 1) 1 (by omega) (Eq.trans (Eq.symm ((congrArg (fun z9 => p_X6_wordFrom_26 ftp fwo fr tw k2 (z9) c26 li) (show 8 - c26 = 8 - (c26 + 1) + 1 by omega)).trans (by show p_X6_wordFrom_26 ftp fwo fr tw k2 (8 - (c26 + 1) + 1) c26 li = _; rw [p_X6_wordFrom_26, if_neg c_6, if_pos c_12, if_pos c_13]))) R26) (by omega) _ _ (hP.sub [0, 1, 2] rfl) (hD.sub [0, 1, 2] (by decide +kernel) rfl) hS ls (lv_sub hl [0, 1, 2, 3, 4, 5] rfl)
                  · skip
                    have c_12N : (fr + c26) < tw := nI_le0 (a := tw) (b := (fr + c26)) (by omega) (by omega) c_12
                    refine lv_aload_n hx hb dX6_wordFrom_58 rfl (lv_at hl 3 rfl) ?_
                    refine va_get (D := G.1) (ci := 6) (v := .ref tp) (C := RX6) (T := TX6) (N := 42) hx hb hts hiX6 hown hK hP 0 rfl rfl 6 (by decide +kernel) kf22 (fun _ h9 => h9) rfl dX6_wordFrom_59 ?_
                    refine lv_iload_n hx hb dX6_wordFrom_62 rfl (lv_at hl 4 rfl) ?_
                    refine lv_iload hx hb dX6_wordFrom_63 (lv_at hl 0 rfl) ?_
                    refine lv_iadd hx hb dX6_wordFrom_65 ?_
                    refine lv_topi (fun v_14 ev_14 => ?_)
                    have ev_14 : v_14 = nI (fr + c26) := ev_14.trans (nI_add fr c26)
                    subst ev_14
                    refine va_iald (D := G.1) hx hb hK hP 1 0 rfl rfl (i := (nI (fr + c26))) (vp_in_nI (by omega) (by omega)) dX6_wordFrom_66 ?_
                    refine lv_topi (fun v_15 ev_15 => ?_)
                    have ev_15 : v_15 = ftp (fr + c26) := ev_15.trans (by rw [nI_clamp (by omega)])
                    subst ev_15
                    refine lv_goto (tgt := 72) hx hb dX6_wordFrom_67 (by decide +kernel) ?_
                    refine lv_icmp_ne (tgt := 79) hx hb dX6_wordFrom_72 (by decide +kernel) (fun c_16 => ?_) (fun c_16 => ?_)
                    · skip
                      refine lv_iconst (v := 0) hx hb dX6_wordFrom_79 (by decide +kernel) ?_
                      refine lv_istore (lv' := [zI 4 0, zI 5 (nI c26), zI 3 (nI k2), zR 0 h0, zI 1 (nI fr), zI 2 (nI tw)]) hx hb dX6_wordFrom_80 hl (by decide +kernel) rfl (fun ls hl => ?_)
                      refine lv_iinc (v := nI (c26 + 1)) (lv' := [zI 5 (nI (c26 + 1)), zI 4 0, zI 3 (nI k2), zR 0 h0, zI 1 (nI fr), zI 2 (nI tw)]) hx hb dX6_wordFrom_82 hl (k := 1) rfl (nI_add c26 1) (by decide +kernel) rfl (fun ls hl => ?_)
                      refine lv_goto (tgt := 26) hx hb dX6_wordFrom_85 (by decide +kernel) ?_
                      exact ih9_26 (c26 + 1) 0 (by omega) (Eq.trans (Eq.symm ((congrArg (fun z9 => p_X6_wordFrom_26 ftp fwo fr tw k2 (z9) c26 li) (show 8 - c26 = 8 - (c26 + 1) + 1 by omega)).trans (by show p_X6_wordFrom_26 ftp fwo fr tw k2 (8 - (c26 + 1) + 1) c26 li = _; rw [p_X6_wordFrom_26, if_neg c_6, if_neg c_12, if_neg c_16]))) R26) (by omega) _ _ (hP.sub [0, 1, 2] rfl) (hD.sub [0, 1, 2] (by decide +kernel) rfl) hS ls (lv_sub hl [0, 1, 2, 3, 4, 5] rfl)
                    · skip
                      refine lv_iconst (v := 1) hx hb dX6_wordFrom_75 (by decide +kernel) ?_
                      refine lv_goto (tgt := 80) hx hb dX6_wordFrom_76 (by decide +kernel) ?_
                      refine lv_istore (lv' := [zI 4 1, zI 5 (nI c26), zI 3 (nI k2), zR 0 h0, zI 1 (nI fr), zI 2 (nI tw)]) hx hb dX6_wordFrom_80 hl (by decide +kernel) rfl (fun ls hl => ?_)
                      refine lv_iinc (v := nI (c26 + 1)) (lv' := [zI 5 (nI (c26 + 1)), zI 4 1, zI 3 (nI k2), zR 0 h0, zI 1 (nI fr), zI 2 (nI tw)]) hx hb dX6_wordFrom_82 hl (k := 1) rfl (nI_add c26 1) (by decide +kernel) rfl (fun ls hl => ?_)
                      refine lv_goto (tgt := 26) hx hb dX6_wordFrom_85 (by decide +kernel) ?_
                      exact ih9_26 (c26 + 1) 1 (by omega) (Eq.trans (Eq.symm ((congrArg (fun z9 => p_X6_wordFrom_26 ftp fwo fr tw k2 (z9) c26 li) (show 8 - c26 = 8 - (c26 + 1) + 1 by omega)).trans (by show p_X6_wordFrom_26 ftp fwo fr tw k2 (8 - (c26 + 1) + 1) c26 li = _; rw [p_X6_wordFrom_26, if_neg c_6, if_neg c_12, if_pos c_16]))) R26) (by omega) _ _ (hP.sub [0, 1, 2] rfl) (hD.sub [0, 1, 2] (by decide +kernel) rfl) hS ls (lv_sub hl [0, 1, 2, 3, 4, 5] rfl)
          exact loop_26 (8 - 0 + 1) 0 0 (by omega) (rfl) (by omega) _ _ (hP.sub [0, 1, 2] rfl) (hD.sub [0, 1, 2] (by decide +kernel) rfl) hS ls (lv_sub hl [0, 1, 2, 3, 4, 5] rfl)
        · skip
          have c_3N : (tw - fr) ≤ 8 := nI_lt0 (a := 8) (b := (tw - fr)) (by omega) (by omega) c_3
          refine lv_iconst (v := 1) hx hb dX6_wordFrom_16 (by decide +kernel) ?_
          refine lv_goto (tgt := 21) hx hb dX6_wordFrom_17 (by decide +kernel) ?_
          refine lv_istore (lv' := [zI 4 1, zI 3 (nI k2), zR 0 h0, zI 1 (nI fr), zI 2 (nI tw)]) hx hb dX6_wordFrom_21 hl (by decide +kernel) rfl (fun ls hl => ?_)
          refine lv_iconst (v := 0) hx hb dX6_wordFrom_23 (by decide +kernel) ?_
          refine lv_istore (lv' := [zI 5 0, zI 4 1, zI 3 (nI k2), zR 0 h0, zI 1 (nI fr), zI 2 (nI tw)]) hx hb dX6_wordFrom_24 hl (by decide +kernel) rfl (fun ls hl => ?_)
          have loop_26 : ∀ (n9 : Nat) (c26 : Nat) (li : Int32), (c26 ≤ 8) → (p_X6_wordFrom_26q1 ftp fwo fr tw k2 (8 - c26) c26 li = (g_X6_wordFrom_26q1 ftp fwo fr tw k2)) → (8 - c26) < n9 → ∀ (H : Heap) (locs : List Loc), va_P G.1 vwCl [zo6 h0 (nI pb) kd mo st (nI jg) ro tp (nI td) cd sr (nI tx) (nI ru) him ir ih ss sq ce lw s19 s20 s21 s22 wo he s25 s26 s27 sk na kp s31 s32 s33 s34 gb go fa ga s39 s40 vo, zi G tp 160 ftp, zi G wo 96 fwo] H → va_D A [zo6 h0 (nI pb) kd mo st (nI jg) ro tp (nI td) cd sr (nI tx) (nI ru) him ir ih ss sq ce lw s19 s20 s21 s22 wo he s25 s26 s27 sk na kp s31 s32 s33 s34 gb go fa ga s39 s40 vo, zi G tp 160 ftp, zi G wo 96 fwo] → va_S A s.heap H locs → ∀ ls : Array Slot, lv_has ls 6 [zI 5 (nI c26), zI 4 li, zI 3 (nI k2), zR 0 h0, zI 1 (nI fr), zI 2 (nI tw)] → W p l e (headSpec wsX6_wordFrom ({ frames := 0, cells := 0, slots := 0, locals := 0 })).room s m ([.ref h0, .int (nI fr), .int (nI tw)] : List Value).toArray below meth c H locs 0 0 (MQ below (q_X6_wordFrom_b G h0 kd mo st ro tp cd sr ir ih ss sq ce lw wo he sk na kp gb go fa ga vo pb jg td tx ru him s19 s20 s21 s22 s25 s26 s27 s31 s32 s33 s34 s39 s40 ftp fwo fr tw A) ([.ref h0, .int (nI fr), .int (nI tw)] : List Value).toArray s 0 0 A) (F0 m 26 ls []) := by
            intro n9
            induction n9 with
            | zero => intro c26 li hc26 R26 hm9_26; exact absurd hm9_26 (Nat.not_lt_zero _)
            | succ n9 ih9_26 =>
              intro c26 li hc26 R26 hm9_26 H locs hP hD hS ls hl
              refine lv_iload hx hb dX6_wordFrom_26 (lv_at hl 0 rfl) ?_
              refine lv_bipush (v := 8) hx hb dX6_wordFrom_28 (by decide +kernel) ?_
              refine lv_icmp_ge (tgt := 88) hx hb dX6_wordFrom_30 (by decide +kernel) (fun c_17 => ?_) (fun c_17 => ?_)
              · skip
                have c_17N : 8 ≤ c26 := nI_le1 (a := 8) (b := c26) (by omega) (by omega) c_17
                have hF26 : (g_X6_wordFrom_26q1 ftp fwo fr tw k2) = (c26, li) := by rw [← R26, show 8 - c26 = 0 by omega]; rfl
                have hE26_0 : c26 = ((g_X6_wordFrom_26q1 ftp fwo fr tw k2).1) := by rw [hF26]
                have hE26_1 : li = ((g_X6_wordFrom_26q1 ftp fwo fr tw k2).2) := by rw [hF26]
                clear hF26 R26
                subst hE26_0
                subst hE26_1
                refine lv_iload hx hb dX6_wordFrom_88 (lv_at hl 1 rfl) ?_
                refine lv_if_eq (tgt := 95) hx hb dX6_wordFrom_90 (by decide +kernel) (fun c_18 => ?_) (fun c_18 => ?_)
                · skip
                  refine lv_iinc (v := nI (k2 + 1)) (lv' := [zI 3 (nI (k2 + 1)), zI 5 (nI ((g_X6_wordFrom_26q1 ftp fwo fr tw k2).1)), zI 4 ((g_X6_wordFrom_26q1 ftp fwo fr tw k2).2), zR 0 h0, zI 1 (nI fr), zI 2 (nI tw)]) hx hb dX6_wordFrom_95 hl (k := 2) rfl (nI_add k2 1) (by decide +kernel) rfl (fun ls hl => ?_)
                  refine lv_goto (tgt := 2) hx hb dX6_wordFrom_98 (by decide +kernel) ?_
                  exact ih9_2 (k2 + 1) (by omega) (Eq.trans (Eq.symm ((congrArg (fun z9 => p_X6_wordFrom_2 ftp fwo fr tw (z9) k2 ) (show 12 - k2 = 12 - (k2 + 1) + 1 by omega)).trans (by show p_X6_wordFrom_2 ftp fwo fr tw (12 - (k2 + 1) + 1) k2  = _; rw [p_X6_wordFrom_2, if_neg c_3, if_pos c_18]))) R2) (by omega) _ _ (hP.sub [0, 1, 2] rfl) (hD.sub [0, 1, 2] (by decide +kernel) rfl) hS ls (lv_sub hl [0, 3, 4, 5] rfl)
                · skip
                  refine lv_iload_n hx hb dX6_wordFrom_93 rfl (lv_at hl 2 rfl) ?_
                  have hF2 : (g_X6_wordFrom_2 ftp fwo fr tw) = k2 := R2.symm.trans ((congrArg (fun z9 => p_X6_wordFrom_2 ftp fwo fr tw (z9) k2 ) (show 12 - k2 = 12 - (k2 + 1) + 1 by omega)).trans (by show p_X6_wordFrom_2 ftp fwo fr tw (12 - (k2 + 1) + 1) k2  = _; rw [p_X6_wordFrom_2, if_neg c_3, if_neg c_18]))
                  have hE2_0 : k2 = (g_X6_wordFrom_2 ftp fwo fr tw) := by rw [hF2]
                  clear hF2 R2
                  subst hE2_0
                  have hpost : (fun (r : Int32) (u : Unit) => match u with | _ => r = m_X6_wordFrom ftp fwo fr tw) (nI (g_X6_wordFrom_2 ftp fwo fr tw)) () := (show m_X6_wordFrom ftp fwo fr tw = (nI (g_X6_wordFrom_2 ftp fwo fr tw)) from by unfold m_X6_wordFrom; rw [if_neg c_1]).symm
                  exact W.iret (v := (nI (g_X6_wordFrom_2 ftp fwo fr tw))) hx hb hr (fun t ht hW => ⟨⟨(nI (g_X6_wordFrom_2 ftp fwo fr tw)), (), rfl, hpost, by rw [ht]; exact hP.sub [0, 1, 2] rfl, va_K.moved hW.alike hK, hD.sub [0, 1, 2] (by decide +kernel) rfl⟩, hS.F ht⟩) hS.2.2 dX6_wordFrom_94
              · skip
                have c_17N : c26 < 8 := nI_le0 (a := 8) (b := c26) (by omega) (by omega) c_17
                refine lv_iload hx hb dX6_wordFrom_33 (lv_at hl 1 rfl) ?_
                refine lv_if_eq (tgt := 88) hx hb dX6_wordFrom_35 (by decide +kernel) (fun c_19 => ?_) (fun c_19 => ?_)
                · skip
                  have hF26 : (g_X6_wordFrom_26q1 ftp fwo fr tw k2) = (c26, li) := R26.symm.trans ((congrArg (fun z9 => p_X6_wordFrom_26q1 ftp fwo fr tw k2 (z9) c26 li) (show 8 - c26 = 8 - (c26 + 1) + 1 by omega)).trans (by show p_X6_wordFrom_26q1 ftp fwo fr tw k2 (8 - (c26 + 1) + 1) c26 li = _; rw [p_X6_wordFrom_26q1, if_pos c_19]))
                  have hE26_0 : c26 = ((g_X6_wordFrom_26q1 ftp fwo fr tw k2).1) := by rw [hF26]
                  have hE26_1 : li = ((g_X6_wordFrom_26q1 ftp fwo fr tw k2).2) := by rw [hF26]
                  clear hF26 R26
                  subst hE26_0
                  subst hE26_1
                  refine lv_iload hx hb dX6_wordFrom_88 (lv_at hl 1 rfl) ?_
                  refine lv_if_eq (tgt := 95) hx hb dX6_wordFrom_90 (by decide +kernel) (fun c_20 => ?_) (fun c_20 => ?_)
                  · skip
                    refine lv_iinc (v := nI (k2 + 1)) (lv' := [zI 3 (nI (k2 + 1)), zI 5 (nI ((g_X6_wordFrom_26q1 ftp fwo fr tw k2).1)), zI 4 ((g_X6_wordFrom_26q1 ftp fwo fr tw k2).2), zR 0 h0, zI 1 (nI fr), zI 2 (nI tw)]) hx hb dX6_wordFrom_95 hl (k := 2) rfl (nI_add k2 1) (by decide +kernel) rfl (fun ls hl => ?_)
                    refine lv_goto (tgt := 2) hx hb dX6_wordFrom_98 (by decide +kernel) ?_
                    exact ih9_2 (k2 + 1) (by omega) (Eq.trans (Eq.symm ((congrArg (fun z9 => p_X6_wordFrom_2 ftp fwo fr tw (z9) k2 ) (show 12 - k2 = 12 - (k2 + 1) + 1 by omega)).trans (by show p_X6_wordFrom_2 ftp fwo fr tw (12 - (k2 + 1) + 1) k2  = _; rw [p_X6_wordFrom_2, if_neg c_3, if_pos c_20]))) R2) (by omega) _ _ (hP.sub [0, 1, 2] rfl) (hD.sub [0, 1, 2] (by decide +kernel) rfl) hS ls (lv_sub hl [0, 3, 4, 5] rfl)
                  · skip
                    refine lv_iload_n hx hb dX6_wordFrom_93 rfl (lv_at hl 2 rfl) ?_
                    have hF2 : (g_X6_wordFrom_2 ftp fwo fr tw) = k2 := R2.symm.trans ((congrArg (fun z9 => p_X6_wordFrom_2 ftp fwo fr tw (z9) k2 ) (show 12 - k2 = 12 - (k2 + 1) + 1 by omega)).trans (by show p_X6_wordFrom_2 ftp fwo fr tw (12 - (k2 + 1) + 1) k2  = _; rw [p_X6_wordFrom_2, if_neg c_3, if_neg c_20]))
                    have hE2_0 : k2 = (g_X6_wordFrom_2 ftp fwo fr tw) := by rw [hF2]
                    clear hF2 R2
                    subst hE2_0
                    have hpost : (fun (r : Int32) (u : Unit) => match u with | _ => r = m_X6_wordFrom ftp fwo fr tw) (nI (g_X6_wordFrom_2 ftp fwo fr tw)) () := (show m_X6_wordFrom ftp fwo fr tw = (nI (g_X6_wordFrom_2 ftp fwo fr tw)) from by unfold m_X6_wordFrom; rw [if_neg c_1]).symm
                    exact W.iret (v := (nI (g_X6_wordFrom_2 ftp fwo fr tw))) hx hb hr (fun t ht hW => ⟨⟨(nI (g_X6_wordFrom_2 ftp fwo fr tw)), (), rfl, hpost, by rw [ht]; exact hP.sub [0, 1, 2] rfl, va_K.moved hW.alike hK, hD.sub [0, 1, 2] (by decide +kernel) rfl⟩, hS.F ht⟩) hS.2.2 dX6_wordFrom_94
                · skip
                  refine lv_aload_n hx hb dX6_wordFrom_38 rfl (lv_at hl 3 rfl) ?_
                  refine va_get (D := G.1) (ci := 6) (v := .ref wo) (C := RX6) (T := TX6) (N := 42) hx hb hts hiX6 hown hK hP 0 rfl rfl 23 (by decide +kernel) kf49 (fun _ h9 => h9) rfl dX6_wordFrom_39 ?_
                  refine lv_bipush (v := 8) hx hb dX6_wordFrom_42 (by decide +kernel) ?_
                  refine lv_iload_n hx hb dX6_wordFrom_44 rfl (lv_at hl 2 rfl) ?_
                  refine lv_imul hx hb dX6_wordFrom_45 ?_
                  refine lv_topi (fun v_21 ev_21 => ?_)
                  have ev_21 : v_21 = nI (8 * k2) := ev_21.trans (pk_mul 8 k2)
                  subst ev_21
                  refine lv_iload hx hb dX6_wordFrom_46 (lv_at hl 0 rfl) ?_
                  refine lv_iadd hx hb dX6_wordFrom_48 ?_
                  refine lv_topi (fun v_22 ev_22 => ?_)
                  have ev_22 : v_22 = nI ((8 * k2) + c26) := ev_22.trans (nI_add (8 * k2) c26)
                  subst ev_22
                  refine va_iald (D := G.1) hx hb hK hP 2 0 rfl rfl (i := (nI ((8 * k2) + c26))) (vp_in_nI (by omega) (by omega)) dX6_wordFrom_49 ?_
                  refine lv_topi (fun v_23 ev_23 => ?_)
                  have ev_23 : v_23 = fwo ((8 * k2) + c26) := ev_23.trans (by rw [nI_clamp (by omega)])
                  subst ev_23
                  refine lv_iload_n hx hb dX6_wordFrom_50 rfl (lv_at hl 4 rfl) ?_
                  refine lv_iload hx hb dX6_wordFrom_51 (lv_at hl 0 rfl) ?_
                  refine lv_iadd hx hb dX6_wordFrom_53 ?_
                  refine lv_topi (fun v_24 ev_24 => ?_)
                  have ev_24 : v_24 = nI (fr + c26) := ev_24.trans (nI_add fr c26)
                  subst ev_24
                  refine lv_iload_n hx hb dX6_wordFrom_54 rfl (lv_at hl 5 rfl) ?_
                  refine lv_icmp_ge (tgt := 70) hx hb dX6_wordFrom_55 (by decide +kernel) (fun c_25 => ?_) (fun c_25 => ?_)
                  · skip
                    have c_25N : tw ≤ (fr + c26) := nI_le1 (a := tw) (b := (fr + c26)) (by omega) (by omega) c_25
                    refine lv_bipush (v := 32) hx hb dX6_wordFrom_70 (by decide +kernel) ?_
                    refine lv_icmp_ne (tgt := 79) hx hb dX6_wordFrom_72 (by decide +kernel) (fun c_26 => ?_) (fun c_26 => ?_)
                    · skip
                      refine lv_iconst (v := 0) hx hb dX6_wordFrom_79 (by decide +kernel) ?_
                      refine lv_istore (lv' := [zI 4 0, zI 5 (nI c26), zI 3 (nI k2), zR 0 h0, zI 1 (nI fr), zI 2 (nI tw)]) hx hb dX6_wordFrom_80 hl (by decide +kernel) rfl (fun ls hl => ?_)
                      refine lv_iinc (v := nI (c26 + 1)) (lv' := [zI 5 (nI (c26 + 1)), zI 4 0, zI 3 (nI k2), zR 0 h0, zI 1 (nI fr), zI 2 (nI tw)]) hx hb dX6_wordFrom_82 hl (k := 1) rfl (nI_add c26 1) (by decide +kernel) rfl (fun ls hl => ?_)
                      refine lv_goto (tgt := 26) hx hb dX6_wordFrom_85 (by decide +kernel) ?_
                      exact ih9_26 (c26 + 1) 0 (by omega) (Eq.trans (Eq.symm ((congrArg (fun z9 => p_X6_wordFrom_26q1 ftp fwo fr tw k2 (z9) c26 li) (show 8 - c26 = 8 - (c26 + 1) + 1 by omega)).trans (by show p_X6_wordFrom_26q1 ftp fwo fr tw k2 (8 - (c26 + 1) + 1) c26 li = _; rw [p_X6_wordFrom_26q1, if_neg c_19, if_pos c_25, if_neg c_26]))) R26) (by omega) _ _ (hP.sub [0, 1, 2] rfl) (hD.sub [0, 1, 2] (by decide +kernel) rfl) hS ls (lv_sub hl [0, 1, 2, 3, 4, 5] rfl)
                    · skip
                      refine lv_iconst (v := 1) hx hb dX6_wordFrom_75 (by decide +kernel) ?_
                      refine lv_goto (tgt := 80) hx hb dX6_wordFrom_76 (by decide +kernel) ?_
                      refine lv_istore (lv' := [zI 4 1, zI 5 (nI c26), zI 3 (nI k2), zR 0 h0, zI 1 (nI fr), zI 2 (nI tw)]) hx hb dX6_wordFrom_80 hl (by decide +kernel) rfl (fun ls hl => ?_)
                      refine lv_iinc (v := nI (c26 + 1)) (lv' := [zI 5 (nI (c26 + 1)), zI 4 1, zI 3 (nI k2), zR 0 h0, zI 1 (nI fr), zI 2 (nI tw)]) hx hb dX6_wordFrom_82 hl (k := 1) rfl (nI_add c26 1) (by decide +kernel) rfl (fun ls hl => ?_)
                      refine lv_goto (tgt := 26) hx hb dX6_wordFrom_85 (by decide +kernel) ?_
                      exact ih9_26 (c26 + 1) 1 (by omega) (Eq.trans (Eq.symm ((congrArg (fun z9 => p_X6_wordFrom_26q1 ftp fwo fr tw k2 (z9) c26 li) (show 8 - c26 = 8 - (c26 + 1) + 1 by omega)).trans (by show p_X6_wordFrom_26q1 ftp fwo fr tw k2 (8 - (c26 + 1) + 1) c26 li = _; rw [p_X6_wordFrom_26q1, if_neg c_19, if_pos c_25, if_pos c_26]))) R26) (by omega) _ _ (hP.sub [0, 1, 2] rfl) (hD.sub [0, 1, 2] (by decide +kernel) rfl) hS ls (lv_sub hl [0, 1, 2, 3, 4, 5] rfl)
                  · skip
                    have c_25N : (fr + c26) < tw := nI_le0 (a := tw) (b := (fr + c26)) (by omega) (by omega) c_25
                    refine lv_aload_n hx hb dX6_wordFrom_58 rfl (lv_at hl 3 rfl) ?_
                    refine va_get (D := G.1) (ci := 6) (v := .ref tp) (C := RX6) (T := TX6) (N := 42) hx hb hts hiX6 hown hK hP 0 rfl rfl 6 (by decide +kernel) kf22 (fun _ h9 => h9) rfl dX6_wordFrom_59 ?_
                    refine lv_iload_n hx hb dX6_wordFrom_62 rfl (lv_at hl 4 rfl) ?_
                    refine lv_iload hx hb dX6_wordFrom_63 (lv_at hl 0 rfl) ?_
                    refine lv_iadd hx hb dX6_wordFrom_65 ?_
                    refine lv_topi (fun v_27 ev_27 => ?_)
                    have ev_27 : v_27 = nI (fr + c26) := ev_27.trans (nI_add fr c26)
                    subst ev_27
                    refine va_iald (D := G.1) hx hb hK hP 1 0 rfl rfl (i := (nI (fr + c26))) (vp_in_nI (by omega) (by omega)) dX6_wordFrom_66 ?_
                    refine lv_topi (fun v_28 ev_28 => ?_)
                    have ev_28 : v_28 = ftp (fr + c26) := ev_28.trans (by rw [nI_clamp (by omega)])
                    subst ev_28
                    refine lv_goto (tgt := 72) hx hb dX6_wordFrom_67 (by decide +kernel) ?_
                    refine lv_icmp_ne (tgt := 79) hx hb dX6_wordFrom_72 (by decide +kernel) (fun c_29 => ?_) (fun c_29 => ?_)
                    · skip
                      refine lv_iconst (v := 0) hx hb dX6_wordFrom_79 (by decide +kernel) ?_
                      refine lv_istore (lv' := [zI 4 0, zI 5 (nI c26), zI 3 (nI k2), zR 0 h0, zI 1 (nI fr), zI 2 (nI tw)]) hx hb dX6_wordFrom_80 hl (by decide +kernel) rfl (fun ls hl => ?_)
                      refine lv_iinc (v := nI (c26 + 1)) (lv' := [zI 5 (nI (c26 + 1)), zI 4 0, zI 3 (nI k2), zR 0 h0, zI 1 (nI fr), zI 2 (nI tw)]) hx hb dX6_wordFrom_82 hl (k := 1) rfl (nI_add c26 1) (by decide +kernel) rfl (fun ls hl => ?_)
                      refine lv_goto (tgt := 26) hx hb dX6_wordFrom_85 (by decide +kernel) ?_
                      exact ih9_26 (c26 + 1) 0 (by omega) (Eq.trans (Eq.symm ((congrArg (fun z9 => p_X6_wordFrom_26q1 ftp fwo fr tw k2 (z9) c26 li) (show 8 - c26 = 8 - (c26 + 1) + 1 by omega)).trans (by show p_X6_wordFrom_26q1 ftp fwo fr tw k2 (8 - (c26 + 1) + 1) c26 li = _; rw [p_X6_wordFrom_26q1, if_neg c_19, if_neg c_25, if_neg c_29]))) R26) (by omega) _ _ (hP.sub [0, 1, 2] rfl) (hD.sub [0, 1, 2] (by decide +kernel) rfl) hS ls (lv_sub hl [0, 1, 2, 3, 4, 5] rfl)
                    · skip
                      refine lv_iconst (v := 1) hx hb dX6_wordFrom_75 (by decide +kernel) ?_
                      refine lv_goto (tgt := 80) hx hb dX6_wordFrom_76 (by decide +kernel) ?_
                      refine lv_istore (lv' := [zI 4 1, zI 5 (nI c26), zI 3 (nI k2), zR 0 h0, zI 1 (nI fr), zI 2 (nI tw)]) hx hb dX6_wordFrom_80 hl (by decide +kernel) rfl (fun ls hl => ?_)
                      refine lv_iinc (v := nI (c26 + 1)) (lv' := [zI 5 (nI (c26 + 1)), zI 4 1, zI 3 (nI k2), zR 0 h0, zI 1 (nI fr), zI 2 (nI tw)]) hx hb dX6_wordFrom_82 hl (k := 1) rfl (nI_add c26 1) (by decide +kernel) rfl (fun ls hl => ?_)
                      refine lv_goto (tgt := 26) hx hb dX6_wordFrom_85 (by decide +kernel) ?_
                      exact ih9_26 (c26 + 1) 1 (by omega) (Eq.trans (Eq.symm ((congrArg (fun z9 => p_X6_wordFrom_26q1 ftp fwo fr tw k2 (z9) c26 li) (show 8 - c26 = 8 - (c26 + 1) + 1 by omega)).trans (by show p_X6_wordFrom_26q1 ftp fwo fr tw k2 (8 - (c26 + 1) + 1) c26 li = _; rw [p_X6_wordFrom_26q1, if_neg c_19, if_neg c_25, if_pos c_29]))) R26) (by omega) _ _ (hP.sub [0, 1, 2] rfl) (hD.sub [0, 1, 2] (by decide +kernel) rfl) hS ls (lv_sub hl [0, 1, 2, 3, 4, 5] rfl)
          exact loop_26 (8 - 0 + 1) 0 1 (by omega) (rfl) (by omega) _ _ (hP.sub [0, 1, 2] rfl) (hD.sub [0, 1, 2] (by decide +kernel) rfl) hS ls (lv_sub hl [0, 1, 2, 3, 4, 5] rfl)
  exact loop_2 (12 - 0 + 1) 0 (by omega) (rfl) (by omega) _ _ (hP.sub [0, 1, 2] rfl) (hD.sub [0, 1, 2] (by decide +kernel) rfl) hS ls (lv_sub hl [0, 1, 2, 3] rfl)
abbrev q_X6_next_b (G : gG) (h0 kd mo st ro tp cd sr ir ih ss sq ce lw wo he sk na kp gb go fa ga vo : Nat) (pb : Nat) (jg : Nat) (td : Nat) (tx : Nat) (ru : Nat) (him : Int32) (s20 : Int32) (s21 : Int32) (s22 : Int32) (s25 : Int32) (s26 : Int32) (s27 : Int32) (s31 : Int32) (s32 : Int32) (s33 : Int32) (s34 : Int32) (s39 : Int32) (s40 : Int32) (ftp : Nat → Int32) (fwo : Nat → Int32) (za : Nat) (A : Nat → Prop) : Array Value → State → Outcome → State → Prop := va_Qv (fun (u : Unit) => match u with | _ => za ≤ (m_X6_next_h019 td ftp za) ∧ (m_X6_next_h019 td ftp za) ≤ td ∧ (¬ (m_X6_next_h021 td ftp fwo za) = 0 → za < (m_X6_next_h019 td ftp za)) ∧ ((m_X6_next_h021 td ftp fwo za) = 2 → 0 ≤ (m_X6_next_h022 td ftp fwo za) ∧ (m_X6_next_h022 td ftp fwo za) < 6) ∧ ((m_X6_next_h021 td ftp fwo za) = 1 → 100000 ≤ 100000 + (m_X6_next_h022 td ftp fwo za))) (fun (u : Unit) t => match u with | _ => va_P G.1 vwCl [zo6 h0 (nI pb) kd mo st (nI jg) ro tp (nI td) cd sr (nI tx) (nI ru) him ir ih ss sq ce lw (nI (m_X6_next_h019 td ftp za)) (m_X6_next_h020 td ftp za) (m_X6_next_h021 td ftp fwo za) (m_X6_next_h022 td ftp fwo za) wo he s25 s26 s27 sk na kp s31 s32 s33 s34 gb go fa ga s39 s40 vo, zi G tp 160 ftp, zi G wo 96 fwo] t.heap ∧ gK G t ∧ va_D A [zo6 h0 (nI pb) kd mo st (nI jg) ro tp (nI td) cd sr (nI tx) (nI ru) him ir ih ss sq ce lw (nI (m_X6_next_h019 td ftp za)) (m_X6_next_h020 td ftp za) (m_X6_next_h021 td ftp fwo za) (m_X6_next_h022 td ftp fwo za) wo he s25 s26 s27 sk na kp s31 s32 s33 s34 gb go fa ga s39 s40 vo, zi G tp 160 ftp, zi G wo 96 fwo]) A
set_option maxHeartbeats 4000000 in
set_option maxRecDepth 100000 in
theorem c_X6_next_b (l : Launch) (G : gG) (h0 kd mo st ro tp cd sr ir ih ss sq ce lw wo he sk na kp gb go fa ga vo : Nat) (pb : Nat) (jg : Nat) (td : Nat) (tx : Nat) (ru : Nat) (him : Int32) (s20 : Int32) (s21 : Int32) (s22 : Int32) (s25 : Int32) (s26 : Int32) (s27 : Int32) (s31 : Int32) (s32 : Int32) (s33 : Int32) (s34 : Int32) (s39 : Int32) (s40 : Int32) (ftp : Nat → Int32) (fwo : Nat → Int32) (za : Nat) (sz : Nat) (htd : td ≤ 160) (hza : za ≤ td) : Met l yX6_next wsX6_next ({ frames := 1, cells := 0, slots := 0, locals := 25 }) (gPre G [.ref h0] [zo6 h0 (nI pb) kd mo st (nI jg) ro tp (nI td) cd sr (nI tx) (nI ru) him ir ih ss sq ce lw (nI za) s20 s21 s22 wo he s25 s26 s27 sk na kp s31 s32 s33 s34 gb go fa ga s39 s40 vo, zi G tp 160 ftp, zi G wo 96 fwo] sz) (q_X6_next_b G h0 kd mo st ro tp cd sr ir ih ss sq ce lw wo he sk na kp gb go fa ga vo pb jg td tx ru him s20 s21 s22 s25 s26 s27 s31 s32 s33 s34 s39 s40 ftp fwo za (va_A [zo6 h0 (nI pb) kd mo st (nI jg) ro tp (nI td) cd sr (nI tx) (nI ru) him ir ih ss sq ce lw (nI za) s20 s21 s22 wo he s25 s26 s27 sk na kp s31 s32 s33 s34 gb go fa ga s39 s40 vo, zi G tp 160 ftp, zi G wo 96 fwo] sz)) 0 0 (va_A [zo6 h0 (nI pb) kd mo st (nI jg) ro tp (nI td) cd sr (nI tx) (nI ru) him ir ih ss sq ce lw (nI za) s20 s21 s22 wo he s25 s26 s27 sk na kp s31 s32 s33 s34 gb go fa ga s39 s40 vo, zi G tp 160 ftp, zi G wo 96 fwo] sz) := by
  refine Met.ofW (cc := cX6_next) (maxL := 3) (ret := none) (by decide +kernel) rfl ?_
  intro p e s m args below meth c s₁ B hml hv
  obtain ⟨rfl, hsz, hP, hK, hD0⟩ := hv
  have hx := B.exec
  have hb := B.bytes
  have hr := B.returns
  have hts := atoms_spec (ws := wsX6_next) B.pre
  have hown : s.vm.findClass RX6 = some m.cls := findClass_of_methodNamed B.named
  have hlocks := B.notSynchronized
  subst hsz
  have hD := hD0.self (sz := s.heap.size)
  generalize hAe : va_A [zo6 h0 (nI pb) kd mo st (nI jg) ro tp (nI td) cd sr (nI tx) (nI ru) him ir ih ss sq ce lw (nI za) s20 s21 s22 wo he s25 s26 s27 sk na kp s31 s32 s33 s34 gb go fa ga s39 s40 vo, zi G tp 160 ftp, zi G wo 96 fwo] s.heap.size = A at hD ⊢
  have hA : ∀ q : Nat, s.heap.size ≤ q → A q := fun q h => by rw [← hAe]; exact Or.inr h
  have hS : va_S A s.heap s.heap [] := va_S.rf
  have hz9 : gPD G A [zo6 h0 (nI pb) kd mo st (nI jg) ro tp (nI td) cd sr (nI tx) (nI ru) him ir ih ss sq ce lw (nI za) s20 s21 s22 wo he s25 s26 s27 sk na kp s31 s32 s33 s34 gb go fa ga s39 s40 vo, zi G tp 160 ftp, zi G wo 96 fwo] s.heap := ⟨hP, hD⟩
  have hP := hz9.1
  have hD := hz9.2
  have hl := lv_entry ([.ref h0]) (n := 3) (Nat.le_of_ble_eq_true rfl)
  rw [lg_entry_eq]
  generalize (lg_sl ([.ref h0]) ++ List.replicate (3 - (lg_sl ([.ref h0])).length) Slot.unset).toArray = ls at hl ⊢
  have hl : lv_has ls 3 [zR 0 h0] := hl
  have kf111 := hts (.fieldLink RX6 111 "PebbleInShoeModel" "at" "I") (by decide +kernel)
  have hiX6 := (by decide +kernel : ∀ w ∈ wsX60, w ∈ wsX6_next)
  have kf80 := hts (.fieldLink RX6 80 "PebbleInShoeModel" "taped" "I") (by decide +kernel)
  have kf114 := hts (.fieldLink RX6 114 "PebbleInShoeModel" "begun" "I") (by decide +kernel)
  have kf117 := hts (.fieldLink RX6 117 "PebbleInShoeModel" "token" "I") (by decide +kernel)
  have kf120 := hts (.fieldLink RX6 120 "PebbleInShoeModel" "value" "I") (by decide +kernel)
  have kf22 := hts (.fieldLink RX6 22 "PebbleInShoeModel" "tape" "[I") (by decide +kernel)
  have loop_0 : ∀ (n9 : Nat) (a0 : Nat), (a0 ≤ td) → (p_X6_next_0 ftp (td - a0) a0  = (g_X6_next_0 td ftp za)) → (td - a0) < n9 → ∀ (H : Heap) (locs : List Loc), va_P G.1 vwCl [zo6 h0 (nI pb) kd mo st (nI jg) ro tp (nI td) cd sr (nI tx) (nI ru) him ir ih ss sq ce lw (nI a0) s20 s21 s22 wo he s25 s26 s27 sk na kp s31 s32 s33 s34 gb go fa ga s39 s40 vo, zi G tp 160 ftp, zi G wo 96 fwo] H → va_D A [zo6 h0 (nI pb) kd mo st (nI jg) ro tp (nI td) cd sr (nI tx) (nI ru) him ir ih ss sq ce lw (nI a0) s20 s21 s22 wo he s25 s26 s27 sk na kp s31 s32 s33 s34 gb go fa ga s39 s40 vo, zi G tp 160 ftp, zi G wo 96 fwo] → va_S A s.heap H locs → ∀ ls : Array Slot, lv_has ls 3 [zR 0 h0] → W p l e (headSpec wsX6_next ({ frames := 1, cells := 0, slots := 0, locals := 25 })).room s m ([.ref h0] : List Value).toArray below meth c H locs 0 0 (MQ below (q_X6_next_b G h0 kd mo st ro tp cd sr ir ih ss sq ce lw wo he sk na kp gb go fa ga vo pb jg td tx ru him s20 s21 s22 s25 s26 s27 s31 s32 s33 s34 s39 s40 ftp fwo za A) ([.ref h0] : List Value).toArray s 0 0 A) (F0 m 0 ls []) := by
    intro n9
    induction n9 with
    | zero => intro a0 ha0 R0 hm9_0; exact absurd hm9_0 (Nat.not_lt_zero _)
    | succ n9 ih9_0 =>
      intro a0 ha0 R0 hm9_0 H locs hP hD hS ls hl
      refine lv_aload_n hx hb dX6_next_0 rfl (lv_at hl 0 rfl) ?_
      refine va_get (D := G.1) (ci := 6) (v := .int (nI a0)) (C := RX6) (T := TX6) (N := 42) hx hb hts hiX6 hown hK hP 0 rfl rfl 19 (by decide +kernel) kf111 (fun _ h9 => h9) rfl dX6_next_1 ?_
      refine lv_aload_n hx hb dX6_next_4 rfl (lv_at hl 0 rfl) ?_
      refine va_get (D := G.1) (ci := 6) (v := .int (nI td)) (C := RX6) (T := TX6) (N := 42) hx hb hts hiX6 hown hK hP 0 rfl rfl 7 (by decide +kernel) kf80 (fun _ h9 => h9) rfl dX6_next_5 ?_
      refine lv_icmp_ge (tgt := 52) hx hb dX6_next_8 (by decide +kernel) (fun c_1 => ?_) (fun c_1 => ?_)
      · skip
        have c_1N : td ≤ a0 := nI_le1 (a := td) (b := a0) (by omega) (by omega) c_1
        have hF0 : (g_X6_next_0 td ftp za) = a0 := by rw [← R0, show td - a0 = 0 by omega]; rfl
        have hE0_0 : a0 = (g_X6_next_0 td ftp za) := by rw [hF0]
        clear hF0 R0
        subst hE0_0
        refine lv_aload_n hx hb dX6_next_52 rfl (lv_at hl 0 rfl) ?_
        refine lv_aload_n hx hb dX6_next_53 rfl (lv_at hl 0 rfl) ?_
        refine va_get (D := G.1) (ci := 6) (v := .int (nI (g_X6_next_0 td ftp za))) (C := RX6) (T := TX6) (N := 42) hx hb hts hiX6 hown hK hP 0 rfl rfl 19 (by decide +kernel) kf111 (fun _ h9 => h9) rfl dX6_next_54 ?_
        refine va_put (D := G.1) (ci := 6) (v := .int (nI (g_X6_next_0 td ftp za))) (ty := .int) (C := RX6) (T := TX6) (N := 42) hx hb hts hiX6 tyX6 tyX6_ok nmX6 hown hK hP hD hS 0 rfl rfl 20 (by decide +kernel) kf114 (fun _ h9 => h9) rfl (by decide +kernel) rfl rfl (Nat.le_of_ble_eq_true rfl) dX6_next_57 (fun H locs hP hD hS => ?_)
        have hz9 : gPD G A [zo6 h0 (nI pb) kd mo st (nI jg) ro tp (nI td) cd sr (nI tx) (nI ru) him ir ih ss sq ce lw (nI (g_X6_next_0 td ftp za)) (nI (g_X6_next_0 td ftp za)) s21 s22 wo he s25 s26 s27 sk na kp s31 s32 s33 s34 gb go fa ga s39 s40 vo, zi G tp 160 ftp, zi G wo 96 fwo] H := ⟨hP, hD⟩
        have hP := hz9.1
        have hD := hz9.2
        refine lv_aload_n hx hb dX6_next_60 rfl (lv_at hl 0 rfl) ?_
        refine lv_iconst (v := 0) hx hb dX6_next_61 (by decide +kernel) ?_
        refine va_put (D := G.1) (ci := 6) (v := .int 0) (ty := .int) (C := RX6) (T := TX6) (N := 42) hx hb hts hiX6 tyX6 tyX6_ok nmX6 hown hK hP hD hS 0 rfl rfl 21 (by decide +kernel) kf117 (fun _ h9 => h9) rfl (by decide +kernel) rfl rfl (Nat.le_of_ble_eq_true rfl) dX6_next_62 (fun H locs hP hD hS => ?_)
        have hz9 : gPD G A [zo6 h0 (nI pb) kd mo st (nI jg) ro tp (nI td) cd sr (nI tx) (nI ru) him ir ih ss sq ce lw (nI (g_X6_next_0 td ftp za)) (nI (g_X6_next_0 td ftp za)) 0 s22 wo he s25 s26 s27 sk na kp s31 s32 s33 s34 gb go fa ga s39 s40 vo, zi G tp 160 ftp, zi G wo 96 fwo] H := ⟨hP, hD⟩
        have hP := hz9.1
        have hD := hz9.2
        refine lv_aload_n hx hb dX6_next_65 rfl (lv_at hl 0 rfl) ?_
        refine lv_iconst (v := 0) hx hb dX6_next_66 (by decide +kernel) ?_
        refine va_put (D := G.1) (ci := 6) (v := .int 0) (ty := .int) (C := RX6) (T := TX6) (N := 42) hx hb hts hiX6 tyX6 tyX6_ok nmX6 hown hK hP hD hS 0 rfl rfl 22 (by decide +kernel) kf120 (fun _ h9 => h9) rfl (by decide +kernel) rfl rfl (Nat.le_of_ble_eq_true rfl) dX6_next_67 (fun H locs hP hD hS => ?_)
        have hz9 : gPD G A [zo6 h0 (nI pb) kd mo st (nI jg) ro tp (nI td) cd sr (nI tx) (nI ru) him ir ih ss sq ce lw (nI (g_X6_next_0 td ftp za)) (nI (g_X6_next_0 td ftp za)) 0 0 wo he s25 s26 s27 sk na kp s31 s32 s33 s34 gb go fa ga s39 s40 vo, zi G tp 160 ftp, zi G wo 96 fwo] H := ⟨hP, hD⟩
        have hP := hz9.1
        have hD := hz9.2
        refine lv_aload_n hx hb dX6_next_70 rfl (lv_at hl 0 rfl) ?_
        refine va_get (D := G.1) (ci := 6) (v := .int (nI (g_X6_next_0 td ftp za))) (C := RX6) (T := TX6) (N := 42) hx hb hts hiX6 hown hK hP 0 rfl rfl 19 (by decide +kernel) kf111 (fun _ h9 => h9) rfl dX6_next_71 ?_
        refine lv_aload_n hx hb dX6_next_74 rfl (lv_at hl 0 rfl) ?_
        refine va_get (D := G.1) (ci := 6) (v := .int (nI td)) (C := RX6) (T := TX6) (N := 42) hx hb hts hiX6 hown hK hP 0 rfl rfl 7 (by decide +kernel) kf80 (fun _ h9 => h9) rfl dX6_next_75 ?_
        refine lv_icmp_ne (tgt := 82) hx hb dX6_next_78 (by decide +kernel) (fun c_2 => ?_) (fun c_2 => ?_)
        · skip
          have c_2N : ¬ (g_X6_next_0 td ftp za) = td := nI_eq0 (a := (g_X6_next_0 td ftp za)) (b := td) (by omega) (by omega) c_2
          refine lv_aload_n hx hb dX6_next_82 rfl (lv_at hl 0 rfl) ?_
          refine va_get (D := G.1) (ci := 6) (v := .ref tp) (C := RX6) (T := TX6) (N := 42) hx hb hts hiX6 hown hK hP 0 rfl rfl 6 (by decide +kernel) kf22 (fun _ h9 => h9) rfl dX6_next_83 ?_
          refine lv_aload_n hx hb dX6_next_86 rfl (lv_at hl 0 rfl) ?_
          refine va_get (D := G.1) (ci := 6) (v := .int (nI (g_X6_next_0 td ftp za))) (C := RX6) (T := TX6) (N := 42) hx hb hts hiX6 hown hK hP 0 rfl rfl 19 (by decide +kernel) kf111 (fun _ h9 => h9) rfl dX6_next_87 ?_
          refine va_iald (D := G.1) hx hb hK hP 1 0 rfl rfl (i := (nI (g_X6_next_0 td ftp za))) (vp_in_nI (by omega) (by omega)) dX6_next_90 ?_
          refine lv_topi (fun v_3 ev_3 => ?_)
          have ev_3 : v_3 = ftp (g_X6_next_0 td ftp za) := ev_3.trans (by rw [nI_clamp (by omega)])
          subst ev_3
          refine lv_istore_n (lv' := [zI 1 (ftp (g_X6_next_0 td ftp za)), zR 0 h0]) hx hb dX6_next_91 rfl hl (by decide +kernel) rfl (fun ls hl => ?_)
          refine lv_iload_n hx hb dX6_next_92 rfl (lv_at hl 0 rfl) ?_
          refine lv_bipush (v := 97) hx hb dX6_next_93 (by decide +kernel) ?_
          refine lv_bipush (v := 122) hx hb dX6_next_95 (by decide +kernel) ?_
          have hz9 : gPD G A [] H := ⟨hP.sub [] rfl, hD.sub [] (by decide +kernel) rfl⟩
          have hPc := hz9.1
          have hDc := hz9.2
          have hFc := gFree hPc hD hS hA [] rfl
          refine va_calli (va_runS (As := [.int (ftp (g_X6_next_0 td ftp za)), .int 97, .int 122]) (rest := []) ⟨hx, hb, hml, hown, hts⟩ (c_X6_in l G (ftp (g_X6_next_0 td ftp za)) 97 122 H.size) (va_cwS 3 hts gX6_next_X6_in rfl rfl rfl (by decide +kernel) ⟨Nat.le_of_ble_eq_true rfl, Nat.le_of_ble_eq_true rfl⟩) ⟨gPre_blind, fun U hU hW => gPre_of hU hW hK hPc hDc⟩ rfl rfl hl.1 rfl (lv_room (Nat.le_of_ble_eq_true rfl)) dX6_next_97 ⟨Nat.le_of_ble_eq_true rfl, Nat.le_of_ble_eq_true rfl⟩) hS (fun q _ h => hFc q h) hFc (fun r_4 u t H locs ht hvm w_5 hB hz1 hk1 hS => ?_)
          obtain ⟨hP1, hK1, hD1⟩ := hB
          rw [ht] at hP1
          have hz9 : gPD G (va_A _ _) [] H := ⟨hP1, hD1⟩
          have hP1 := hz9.1
          have hD1 := hz9.2
          have w_5 : r_4 = bz (decide (97 ≤ (ftp (g_X6_next_0 td ftp za)) ∧ (ftp (g_X6_next_0 td ftp za)) ≤ 122)) := w_5
          have hz9 : gPD G A [zo6 h0 (nI pb) kd mo st (nI jg) ro tp (nI td) cd sr (nI tx) (nI ru) him ir ih ss sq ce lw (nI (g_X6_next_0 td ftp za)) (nI (g_X6_next_0 td ftp za)) 0 0 wo he s25 s26 s27 sk na kp s31 s32 s33 s34 gb go fa ga s39 s40 vo, zi G tp 160 ftp, zi G wo 96 fwo] H := gJoin hP hD hk1 hFc hP1 hD1 [] [0, 1, 2] rfl rfl rfl (by decide +kernel) (by decide +kernel)
          have hP := hz9.1
          have hD := hz9.2
          subst w_5
          refine lv_if_eq (tgt := 217) hx hb dX6_next_100 (by decide +kernel) (fun c_6 => ?_) (fun c_6 => ?_)
          · skip
            have n_8 : ¬ (97 ≤ (ftp (g_X6_next_0 td ftp za)) ∧ (ftp (g_X6_next_0 td ftp za)) ≤ 122) := of_decide_eq_false (bz_eq rfl c_6)
            refine lv_iload_n hx hb dX6_next_217 rfl (lv_at hl 0 rfl) ?_
            refine lv_bipush (v := 48) hx hb dX6_next_218 (by decide +kernel) ?_
            refine lv_bipush (v := 57) hx hb dX6_next_220 (by decide +kernel) ?_
            have hz9 : gPD G A [] H := ⟨hP.sub [] rfl, hD.sub [] (by decide +kernel) rfl⟩
            have hPc := hz9.1
            have hDc := hz9.2
            have hFc := gFree hPc hD hS hA [] rfl
            refine va_calli (va_runS (As := [.int (ftp (g_X6_next_0 td ftp za)), .int 48, .int 57]) (rest := []) ⟨hx, hb, hml, hown, hts⟩ (c_X6_in l G (ftp (g_X6_next_0 td ftp za)) 48 57 H.size) (va_cwS 3 hts gX6_next_X6_in rfl rfl rfl (by decide +kernel) ⟨Nat.le_of_ble_eq_true rfl, Nat.le_of_ble_eq_true rfl⟩) ⟨gPre_blind, fun U hU hW => gPre_of hU hW hK hPc hDc⟩ rfl rfl hl.1 rfl (lv_room (Nat.le_of_ble_eq_true rfl)) dX6_next_222 ⟨Nat.le_of_ble_eq_true rfl, Nat.le_of_ble_eq_true rfl⟩) hS (fun q _ h => hFc q h) hFc (fun r_9 u t H locs ht hvm w_10 hB hz1 hk1 hS => ?_)
            obtain ⟨hP1, hK1, hD1⟩ := hB
            rw [ht] at hP1
            have hz9 : gPD G (va_A _ _) [] H := ⟨hP1, hD1⟩
            have hP1 := hz9.1
            have hD1 := hz9.2
            have w_10 : r_9 = bz (decide (48 ≤ (ftp (g_X6_next_0 td ftp za)) ∧ (ftp (g_X6_next_0 td ftp za)) ≤ 57)) := w_10
            have hz9 : gPD G A [zo6 h0 (nI pb) kd mo st (nI jg) ro tp (nI td) cd sr (nI tx) (nI ru) him ir ih ss sq ce lw (nI (g_X6_next_0 td ftp za)) (nI (g_X6_next_0 td ftp za)) 0 0 wo he s25 s26 s27 sk na kp s31 s32 s33 s34 gb go fa ga s39 s40 vo, zi G tp 160 ftp, zi G wo 96 fwo] H := gJoin hP hD hk1 hFc hP1 hD1 [] [0, 1, 2] rfl rfl rfl (by decide +kernel) (by decide +kernel)
            have hP := hz9.1
            have hD := hz9.2
            subst w_10
            refine lv_if_eq (tgt := 326) hx hb dX6_next_225 (by decide +kernel) (fun c_11 => ?_) (fun c_11 => ?_)
            · skip
              have n_13 : ¬ (48 ≤ (ftp (g_X6_next_0 td ftp za)) ∧ (ftp (g_X6_next_0 td ftp za)) ≤ 57) := of_decide_eq_false (bz_eq rfl c_11)
              refine lv_iload_n hx hb dX6_next_326 rfl (lv_at hl 0 rfl) ?_
              refine lv_bipush (v := 40) hx hb dX6_next_327 (by decide +kernel) ?_
              refine lv_icmp_eq (tgt := 374) hx hb dX6_next_329 (by decide +kernel) (fun c_14 => ?_) (fun c_14 => ?_)
              · skip
                refine lv_iconst (v := 1) hx hb dX6_next_374 (by decide +kernel) ?_
                refine lv_goto (tgt := 379) hx hb dX6_next_375 (by decide +kernel) ?_
                refine lv_istore_n (lv' := [zI 2 1, zI 1 (ftp (g_X6_next_0 td ftp za)), zR 0 h0]) hx hb dX6_next_379 rfl hl (by decide +kernel) rfl (fun ls hl => ?_)
                refine lv_aload_n hx hb dX6_next_380 rfl (lv_at hl 2 rfl) ?_
                refine lv_iload_n hx hb dX6_next_381 rfl (lv_at hl 0 rfl) ?_
                refine lv_if_eq (tgt := 389) hx hb dX6_next_382 (by decide +kernel) (fun c_15 => ?_) (fun c_15 => ?_)
                · exact absurd c_15 (by decide +kernel)
                refine lv_iload_n hx hb dX6_next_385 rfl (lv_at hl 1 rfl) ?_
                refine lv_goto (tgt := 390) hx hb dX6_next_386 (by decide +kernel) ?_
                refine va_put (D := G.1) (ci := 6) (v := .int (ftp (g_X6_next_0 td ftp za))) (ty := .int) (C := RX6) (T := TX6) (N := 42) hx hb hts hiX6 tyX6 tyX6_ok nmX6 hown hK hP hD hS 0 rfl rfl 21 (by decide +kernel) kf117 (fun _ h9 => h9) rfl (by decide +kernel) rfl rfl (Nat.le_of_ble_eq_true rfl) dX6_next_390 (fun H locs hP hD hS => ?_)
                have hz9 : gPD G A [zo6 h0 (nI pb) kd mo st (nI jg) ro tp (nI td) cd sr (nI tx) (nI ru) him ir ih ss sq ce lw (nI (g_X6_next_0 td ftp za)) (nI (g_X6_next_0 td ftp za)) (ftp (g_X6_next_0 td ftp za)) 0 wo he s25 s26 s27 sk na kp s31 s32 s33 s34 gb go fa ga s39 s40 vo, zi G tp 160 ftp, zi G wo 96 fwo] H := ⟨hP, hD⟩
                have hP := hz9.1
                have hD := hz9.2
                refine lv_aload_n hx hb dX6_next_393 rfl (lv_at hl 2 rfl) ?_
                refine lv_dup hx hb dX6_next_394 rfl ?_
                refine va_get (D := G.1) (ci := 6) (v := .int (nI (g_X6_next_0 td ftp za))) (C := RX6) (T := TX6) (N := 42) hx hb hts hiX6 hown hK hP 0 rfl rfl 19 (by decide +kernel) kf111 (fun _ h9 => h9) rfl dX6_next_395 ?_
                refine lv_iconst (v := 1) hx hb dX6_next_398 (by decide +kernel) ?_
                refine lv_iadd hx hb dX6_next_399 ?_
                refine lv_topi (fun v_16 ev_16 => ?_)
                have ev_16 : v_16 = nI ((g_X6_next_0 td ftp za) + 1) := ev_16.trans (nI_add (g_X6_next_0 td ftp za) 1)
                subst ev_16
                refine va_put (D := G.1) (ci := 6) (v := .int (nI ((g_X6_next_0 td ftp za) + 1))) (ty := .int) (C := RX6) (T := TX6) (N := 42) hx hb hts hiX6 tyX6 tyX6_ok nmX6 hown hK hP hD hS 0 rfl rfl 19 (by decide +kernel) kf111 (fun _ h9 => h9) rfl (by decide +kernel) rfl rfl (Nat.le_of_ble_eq_true rfl) dX6_next_400 (fun H locs hP hD hS => ?_)
                have hz9 : gPD G A [zo6 h0 (nI pb) kd mo st (nI jg) ro tp (nI td) cd sr (nI tx) (nI ru) him ir ih ss sq ce lw (nI ((g_X6_next_0 td ftp za) + 1)) (nI (g_X6_next_0 td ftp za)) (ftp (g_X6_next_0 td ftp za)) 0 wo he s25 s26 s27 sk na kp s31 s32 s33 s34 gb go fa ga s39 s40 vo, zi G tp 160 ftp, zi G wo 96 fwo] H := ⟨hP, hD⟩
                have hP := hz9.1
                have hD := hz9.2
                have q_17 : m_X6_next_h019 td ftp za = (g_X6_next_0 td ftp za) + 1 := by unfold m_X6_next_h019; rw [if_neg c_2, if_neg n_8, if_neg n_13]
                have q_18 : m_X6_next_h020 td ftp za = nI (g_X6_next_0 td ftp za) := by unfold m_X6_next_h020; rw [if_neg c_2, if_neg n_8]
                have q_19 : m_X6_next_h021 td ftp fwo za = ftp (g_X6_next_0 td ftp za) := by unfold m_X6_next_h021; rw [if_neg c_2, if_neg n_8, if_neg n_13, if_pos c_14]
                have q_20 : m_X6_next_h022 td ftp fwo za = 0 := by unfold m_X6_next_h022; rw [if_neg c_2, if_neg n_8, if_neg n_13]
                have hz9 : gPD G A [zo6 h0 (nI pb) kd mo st (nI jg) ro tp (nI td) cd sr (nI tx) (nI ru) him ir ih ss sq ce lw (nI (m_X6_next_h019 td ftp za)) (m_X6_next_h020 td ftp za) (m_X6_next_h021 td ftp fwo za) (m_X6_next_h022 td ftp fwo za) wo he s25 s26 s27 sk na kp s31 s32 s33 s34 gb go fa ga s39 s40 vo, zi G tp 160 ftp, zi G wo 96 fwo] H := ⟨by rw [q_17, q_18, q_19, q_20]; exact hP.sub [0, 1, 2] rfl, by rw [q_17, q_18, q_19, q_20]; exact hD.sub [0, 1, 2] (by decide +kernel) rfl⟩
                have hP9 := hz9.1
                have hD9 := hz9.2
                have hpost : (fun (u : Unit) => match u with | _ => za ≤ (m_X6_next_h019 td ftp za) ∧ (m_X6_next_h019 td ftp za) ≤ td ∧ (¬ (m_X6_next_h021 td ftp fwo za) = 0 → za < (m_X6_next_h019 td ftp za)) ∧ ((m_X6_next_h021 td ftp fwo za) = 2 → 0 ≤ (m_X6_next_h022 td ftp fwo za) ∧ (m_X6_next_h022 td ftp fwo za) < 6) ∧ ((m_X6_next_h021 td ftp fwo za) = 1 → 100000 ≤ 100000 + (m_X6_next_h022 td ftp fwo za))) () := nx_facts hza htd
                exact W.vret hx hb hr (fun t ht hW => ⟨⟨(), rfl, hpost, by rw [ht]; exact hP9, va_K.moved hW.alike hK, hD9⟩, hS.F ht⟩) hS.2.2 dX6_next_403
              · skip
                refine lv_iload_n hx hb dX6_next_332 rfl (lv_at hl 0 rfl) ?_
                refine lv_bipush (v := 41) hx hb dX6_next_333 (by decide +kernel) ?_
                refine lv_icmp_eq (tgt := 374) hx hb dX6_next_335 (by decide +kernel) (fun c_21 => ?_) (fun c_21 => ?_)
                · skip
                  refine lv_iconst (v := 1) hx hb dX6_next_374 (by decide +kernel) ?_
                  refine lv_goto (tgt := 379) hx hb dX6_next_375 (by decide +kernel) ?_
                  refine lv_istore_n (lv' := [zI 2 1, zI 1 (ftp (g_X6_next_0 td ftp za)), zR 0 h0]) hx hb dX6_next_379 rfl hl (by decide +kernel) rfl (fun ls hl => ?_)
                  refine lv_aload_n hx hb dX6_next_380 rfl (lv_at hl 2 rfl) ?_
                  refine lv_iload_n hx hb dX6_next_381 rfl (lv_at hl 0 rfl) ?_
                  refine lv_if_eq (tgt := 389) hx hb dX6_next_382 (by decide +kernel) (fun c_22 => ?_) (fun c_22 => ?_)
                  · exact absurd c_22 (by decide +kernel)
                  refine lv_iload_n hx hb dX6_next_385 rfl (lv_at hl 1 rfl) ?_
                  refine lv_goto (tgt := 390) hx hb dX6_next_386 (by decide +kernel) ?_
                  refine va_put (D := G.1) (ci := 6) (v := .int (ftp (g_X6_next_0 td ftp za))) (ty := .int) (C := RX6) (T := TX6) (N := 42) hx hb hts hiX6 tyX6 tyX6_ok nmX6 hown hK hP hD hS 0 rfl rfl 21 (by decide +kernel) kf117 (fun _ h9 => h9) rfl (by decide +kernel) rfl rfl (Nat.le_of_ble_eq_true rfl) dX6_next_390 (fun H locs hP hD hS => ?_)
                  have hz9 : gPD G A [zo6 h0 (nI pb) kd mo st (nI jg) ro tp (nI td) cd sr (nI tx) (nI ru) him ir ih ss sq ce lw (nI (g_X6_next_0 td ftp za)) (nI (g_X6_next_0 td ftp za)) (ftp (g_X6_next_0 td ftp za)) 0 wo he s25 s26 s27 sk na kp s31 s32 s33 s34 gb go fa ga s39 s40 vo, zi G tp 160 ftp, zi G wo 96 fwo] H := ⟨hP, hD⟩
                  have hP := hz9.1
                  have hD := hz9.2
                  refine lv_aload_n hx hb dX6_next_393 rfl (lv_at hl 2 rfl) ?_
                  refine lv_dup hx hb dX6_next_394 rfl ?_
                  refine va_get (D := G.1) (ci := 6) (v := .int (nI (g_X6_next_0 td ftp za))) (C := RX6) (T := TX6) (N := 42) hx hb hts hiX6 hown hK hP 0 rfl rfl 19 (by decide +kernel) kf111 (fun _ h9 => h9) rfl dX6_next_395 ?_
                  refine lv_iconst (v := 1) hx hb dX6_next_398 (by decide +kernel) ?_
                  refine lv_iadd hx hb dX6_next_399 ?_
                  refine lv_topi (fun v_23 ev_23 => ?_)
                  have ev_23 : v_23 = nI ((g_X6_next_0 td ftp za) + 1) := ev_23.trans (nI_add (g_X6_next_0 td ftp za) 1)
                  subst ev_23
                  refine va_put (D := G.1) (ci := 6) (v := .int (nI ((g_X6_next_0 td ftp za) + 1))) (ty := .int) (C := RX6) (T := TX6) (N := 42) hx hb hts hiX6 tyX6 tyX6_ok nmX6 hown hK hP hD hS 0 rfl rfl 19 (by decide +kernel) kf111 (fun _ h9 => h9) rfl (by decide +kernel) rfl rfl (Nat.le_of_ble_eq_true rfl) dX6_next_400 (fun H locs hP hD hS => ?_)
                  have hz9 : gPD G A [zo6 h0 (nI pb) kd mo st (nI jg) ro tp (nI td) cd sr (nI tx) (nI ru) him ir ih ss sq ce lw (nI ((g_X6_next_0 td ftp za) + 1)) (nI (g_X6_next_0 td ftp za)) (ftp (g_X6_next_0 td ftp za)) 0 wo he s25 s26 s27 sk na kp s31 s32 s33 s34 gb go fa ga s39 s40 vo, zi G tp 160 ftp, zi G wo 96 fwo] H := ⟨hP, hD⟩
                  have hP := hz9.1
                  have hD := hz9.2
                  have q_24 : m_X6_next_h019 td ftp za = (g_X6_next_0 td ftp za) + 1 := by unfold m_X6_next_h019; rw [if_neg c_2, if_neg n_8, if_neg n_13]
                  have q_25 : m_X6_next_h020 td ftp za = nI (g_X6_next_0 td ftp za) := by unfold m_X6_next_h020; rw [if_neg c_2, if_neg n_8]
                  have q_26 : m_X6_next_h021 td ftp fwo za = ftp (g_X6_next_0 td ftp za) := by unfold m_X6_next_h021; rw [if_neg c_2, if_neg n_8, if_neg n_13, if_neg c_14, if_pos c_21]
                  have q_27 : m_X6_next_h022 td ftp fwo za = 0 := by unfold m_X6_next_h022; rw [if_neg c_2, if_neg n_8, if_neg n_13]
                  have hz9 : gPD G A [zo6 h0 (nI pb) kd mo st (nI jg) ro tp (nI td) cd sr (nI tx) (nI ru) him ir ih ss sq ce lw (nI (m_X6_next_h019 td ftp za)) (m_X6_next_h020 td ftp za) (m_X6_next_h021 td ftp fwo za) (m_X6_next_h022 td ftp fwo za) wo he s25 s26 s27 sk na kp s31 s32 s33 s34 gb go fa ga s39 s40 vo, zi G tp 160 ftp, zi G wo 96 fwo] H := ⟨by rw [q_24, q_25, q_26, q_27]; exact hP.sub [0, 1, 2] rfl, by rw [q_24, q_25, q_26, q_27]; exact hD.sub [0, 1, 2] (by decide +kernel) rfl⟩
                  have hP9 := hz9.1
                  have hD9 := hz9.2
                  have hpost : (fun (u : Unit) => match u with | _ => za ≤ (m_X6_next_h019 td ftp za) ∧ (m_X6_next_h019 td ftp za) ≤ td ∧ (¬ (m_X6_next_h021 td ftp fwo za) = 0 → za < (m_X6_next_h019 td ftp za)) ∧ ((m_X6_next_h021 td ftp fwo za) = 2 → 0 ≤ (m_X6_next_h022 td ftp fwo za) ∧ (m_X6_next_h022 td ftp fwo za) < 6) ∧ ((m_X6_next_h021 td ftp fwo za) = 1 → 100000 ≤ 100000 + (m_X6_next_h022 td ftp fwo za))) () := nx_facts hza htd
                  exact W.vret hx hb hr (fun t ht hW => ⟨⟨(), rfl, hpost, by rw [ht]; exact hP9, va_K.moved hW.alike hK, hD9⟩, hS.F ht⟩) hS.2.2 dX6_next_403
                · skip
                  refine lv_iload_n hx hb dX6_next_338 rfl (lv_at hl 0 rfl) ?_
                  refine lv_bipush (v := 59) hx hb dX6_next_339 (by decide +kernel) ?_
                  refine lv_icmp_eq (tgt := 374) hx hb dX6_next_341 (by decide +kernel) (fun c_28 => ?_) (fun c_28 => ?_)
                  · skip
                    refine lv_iconst (v := 1) hx hb dX6_next_374 (by decide +kernel) ?_
                    refine lv_goto (tgt := 379) hx hb dX6_next_375 (by decide +kernel) ?_
                    refine lv_istore_n (lv' := [zI 2 1, zI 1 (ftp (g_X6_next_0 td ftp za)), zR 0 h0]) hx hb dX6_next_379 rfl hl (by decide +kernel) rfl (fun ls hl => ?_)
                    refine lv_aload_n hx hb dX6_next_380 rfl (lv_at hl 2 rfl) ?_
                    refine lv_iload_n hx hb dX6_next_381 rfl (lv_at hl 0 rfl) ?_
                    refine lv_if_eq (tgt := 389) hx hb dX6_next_382 (by decide +kernel) (fun c_29 => ?_) (fun c_29 => ?_)
                    · exact absurd c_29 (by decide +kernel)
                    refine lv_iload_n hx hb dX6_next_385 rfl (lv_at hl 1 rfl) ?_
                    refine lv_goto (tgt := 390) hx hb dX6_next_386 (by decide +kernel) ?_
                    refine va_put (D := G.1) (ci := 6) (v := .int (ftp (g_X6_next_0 td ftp za))) (ty := .int) (C := RX6) (T := TX6) (N := 42) hx hb hts hiX6 tyX6 tyX6_ok nmX6 hown hK hP hD hS 0 rfl rfl 21 (by decide +kernel) kf117 (fun _ h9 => h9) rfl (by decide +kernel) rfl rfl (Nat.le_of_ble_eq_true rfl) dX6_next_390 (fun H locs hP hD hS => ?_)
                    have hz9 : gPD G A [zo6 h0 (nI pb) kd mo st (nI jg) ro tp (nI td) cd sr (nI tx) (nI ru) him ir ih ss sq ce lw (nI (g_X6_next_0 td ftp za)) (nI (g_X6_next_0 td ftp za)) (ftp (g_X6_next_0 td ftp za)) 0 wo he s25 s26 s27 sk na kp s31 s32 s33 s34 gb go fa ga s39 s40 vo, zi G tp 160 ftp, zi G wo 96 fwo] H := ⟨hP, hD⟩
                    have hP := hz9.1
                    have hD := hz9.2
                    refine lv_aload_n hx hb dX6_next_393 rfl (lv_at hl 2 rfl) ?_
                    refine lv_dup hx hb dX6_next_394 rfl ?_
                    refine va_get (D := G.1) (ci := 6) (v := .int (nI (g_X6_next_0 td ftp za))) (C := RX6) (T := TX6) (N := 42) hx hb hts hiX6 hown hK hP 0 rfl rfl 19 (by decide +kernel) kf111 (fun _ h9 => h9) rfl dX6_next_395 ?_
                    refine lv_iconst (v := 1) hx hb dX6_next_398 (by decide +kernel) ?_
                    refine lv_iadd hx hb dX6_next_399 ?_
                    refine lv_topi (fun v_30 ev_30 => ?_)
                    have ev_30 : v_30 = nI ((g_X6_next_0 td ftp za) + 1) := ev_30.trans (nI_add (g_X6_next_0 td ftp za) 1)
                    subst ev_30
                    refine va_put (D := G.1) (ci := 6) (v := .int (nI ((g_X6_next_0 td ftp za) + 1))) (ty := .int) (C := RX6) (T := TX6) (N := 42) hx hb hts hiX6 tyX6 tyX6_ok nmX6 hown hK hP hD hS 0 rfl rfl 19 (by decide +kernel) kf111 (fun _ h9 => h9) rfl (by decide +kernel) rfl rfl (Nat.le_of_ble_eq_true rfl) dX6_next_400 (fun H locs hP hD hS => ?_)
                    have hz9 : gPD G A [zo6 h0 (nI pb) kd mo st (nI jg) ro tp (nI td) cd sr (nI tx) (nI ru) him ir ih ss sq ce lw (nI ((g_X6_next_0 td ftp za) + 1)) (nI (g_X6_next_0 td ftp za)) (ftp (g_X6_next_0 td ftp za)) 0 wo he s25 s26 s27 sk na kp s31 s32 s33 s34 gb go fa ga s39 s40 vo, zi G tp 160 ftp, zi G wo 96 fwo] H := ⟨hP, hD⟩
                    have hP := hz9.1
                    have hD := hz9.2
                    have q_31 : m_X6_next_h019 td ftp za = (g_X6_next_0 td ftp za) + 1 := by unfold m_X6_next_h019; rw [if_neg c_2, if_neg n_8, if_neg n_13]
                    have q_32 : m_X6_next_h020 td ftp za = nI (g_X6_next_0 td ftp za) := by unfold m_X6_next_h020; rw [if_neg c_2, if_neg n_8]
                    have q_33 : m_X6_next_h021 td ftp fwo za = ftp (g_X6_next_0 td ftp za) := by unfold m_X6_next_h021; rw [if_neg c_2, if_neg n_8, if_neg n_13, if_neg c_14, if_neg c_21, if_pos c_28]
                    have q_34 : m_X6_next_h022 td ftp fwo za = 0 := by unfold m_X6_next_h022; rw [if_neg c_2, if_neg n_8, if_neg n_13]
                    have hz9 : gPD G A [zo6 h0 (nI pb) kd mo st (nI jg) ro tp (nI td) cd sr (nI tx) (nI ru) him ir ih ss sq ce lw (nI (m_X6_next_h019 td ftp za)) (m_X6_next_h020 td ftp za) (m_X6_next_h021 td ftp fwo za) (m_X6_next_h022 td ftp fwo za) wo he s25 s26 s27 sk na kp s31 s32 s33 s34 gb go fa ga s39 s40 vo, zi G tp 160 ftp, zi G wo 96 fwo] H := ⟨by rw [q_31, q_32, q_33, q_34]; exact hP.sub [0, 1, 2] rfl, by rw [q_31, q_32, q_33, q_34]; exact hD.sub [0, 1, 2] (by decide +kernel) rfl⟩
                    have hP9 := hz9.1
                    have hD9 := hz9.2
                    have hpost : (fun (u : Unit) => match u with | _ => za ≤ (m_X6_next_h019 td ftp za) ∧ (m_X6_next_h019 td ftp za) ≤ td ∧ (¬ (m_X6_next_h021 td ftp fwo za) = 0 → za < (m_X6_next_h019 td ftp za)) ∧ ((m_X6_next_h021 td ftp fwo za) = 2 → 0 ≤ (m_X6_next_h022 td ftp fwo za) ∧ (m_X6_next_h022 td ftp fwo za) < 6) ∧ ((m_X6_next_h021 td ftp fwo za) = 1 → 100000 ≤ 100000 + (m_X6_next_h022 td ftp fwo za))) () := nx_facts hza htd
                    exact W.vret hx hb hr (fun t ht hW => ⟨⟨(), rfl, hpost, by rw [ht]; exact hP9, va_K.moved hW.alike hK, hD9⟩, hS.F ht⟩) hS.2.2 dX6_next_403
                  · skip
                    refine lv_iload_n hx hb dX6_next_344 rfl (lv_at hl 0 rfl) ?_
                    refine lv_bipush (v := 43) hx hb dX6_next_345 (by decide +kernel) ?_
                    refine lv_icmp_eq (tgt := 374) hx hb dX6_next_347 (by decide +kernel) (fun c_35 => ?_) (fun c_35 => ?_)
                    · skip
                      refine lv_iconst (v := 1) hx hb dX6_next_374 (by decide +kernel) ?_
                      refine lv_goto (tgt := 379) hx hb dX6_next_375 (by decide +kernel) ?_
                      refine lv_istore_n (lv' := [zI 2 1, zI 1 (ftp (g_X6_next_0 td ftp za)), zR 0 h0]) hx hb dX6_next_379 rfl hl (by decide +kernel) rfl (fun ls hl => ?_)
                      refine lv_aload_n hx hb dX6_next_380 rfl (lv_at hl 2 rfl) ?_
                      refine lv_iload_n hx hb dX6_next_381 rfl (lv_at hl 0 rfl) ?_
                      refine lv_if_eq (tgt := 389) hx hb dX6_next_382 (by decide +kernel) (fun c_36 => ?_) (fun c_36 => ?_)
                      · exact absurd c_36 (by decide +kernel)
                      refine lv_iload_n hx hb dX6_next_385 rfl (lv_at hl 1 rfl) ?_
                      refine lv_goto (tgt := 390) hx hb dX6_next_386 (by decide +kernel) ?_
                      refine va_put (D := G.1) (ci := 6) (v := .int (ftp (g_X6_next_0 td ftp za))) (ty := .int) (C := RX6) (T := TX6) (N := 42) hx hb hts hiX6 tyX6 tyX6_ok nmX6 hown hK hP hD hS 0 rfl rfl 21 (by decide +kernel) kf117 (fun _ h9 => h9) rfl (by decide +kernel) rfl rfl (Nat.le_of_ble_eq_true rfl) dX6_next_390 (fun H locs hP hD hS => ?_)
                      have hz9 : gPD G A [zo6 h0 (nI pb) kd mo st (nI jg) ro tp (nI td) cd sr (nI tx) (nI ru) him ir ih ss sq ce lw (nI (g_X6_next_0 td ftp za)) (nI (g_X6_next_0 td ftp za)) (ftp (g_X6_next_0 td ftp za)) 0 wo he s25 s26 s27 sk na kp s31 s32 s33 s34 gb go fa ga s39 s40 vo, zi G tp 160 ftp, zi G wo 96 fwo] H := ⟨hP, hD⟩
                      have hP := hz9.1
                      have hD := hz9.2
                      refine lv_aload_n hx hb dX6_next_393 rfl (lv_at hl 2 rfl) ?_
                      refine lv_dup hx hb dX6_next_394 rfl ?_
                      refine va_get (D := G.1) (ci := 6) (v := .int (nI (g_X6_next_0 td ftp za))) (C := RX6) (T := TX6) (N := 42) hx hb hts hiX6 hown hK hP 0 rfl rfl 19 (by decide +kernel) kf111 (fun _ h9 => h9) rfl dX6_next_395 ?_
                      refine lv_iconst (v := 1) hx hb dX6_next_398 (by decide +kernel) ?_
                      refine lv_iadd hx hb dX6_next_399 ?_
                      refine lv_topi (fun v_37 ev_37 => ?_)
                      have ev_37 : v_37 = nI ((g_X6_next_0 td ftp za) + 1) := ev_37.trans (nI_add (g_X6_next_0 td ftp za) 1)
                      subst ev_37
                      refine va_put (D := G.1) (ci := 6) (v := .int (nI ((g_X6_next_0 td ftp za) + 1))) (ty := .int) (C := RX6) (T := TX6) (N := 42) hx hb hts hiX6 tyX6 tyX6_ok nmX6 hown hK hP hD hS 0 rfl rfl 19 (by decide +kernel) kf111 (fun _ h9 => h9) rfl (by decide +kernel) rfl rfl (Nat.le_of_ble_eq_true rfl) dX6_next_400 (fun H locs hP hD hS => ?_)
                      have hz9 : gPD G A [zo6 h0 (nI pb) kd mo st (nI jg) ro tp (nI td) cd sr (nI tx) (nI ru) him ir ih ss sq ce lw (nI ((g_X6_next_0 td ftp za) + 1)) (nI (g_X6_next_0 td ftp za)) (ftp (g_X6_next_0 td ftp za)) 0 wo he s25 s26 s27 sk na kp s31 s32 s33 s34 gb go fa ga s39 s40 vo, zi G tp 160 ftp, zi G wo 96 fwo] H := ⟨hP, hD⟩
                      have hP := hz9.1
                      have hD := hz9.2
                      have q_38 : m_X6_next_h019 td ftp za = (g_X6_next_0 td ftp za) + 1 := by unfold m_X6_next_h019; rw [if_neg c_2, if_neg n_8, if_neg n_13]
                      have q_39 : m_X6_next_h020 td ftp za = nI (g_X6_next_0 td ftp za) := by unfold m_X6_next_h020; rw [if_neg c_2, if_neg n_8]
                      have q_40 : m_X6_next_h021 td ftp fwo za = ftp (g_X6_next_0 td ftp za) := by unfold m_X6_next_h021; rw [if_neg c_2, if_neg n_8, if_neg n_13, if_neg c_14, if_neg c_21, if_neg c_28, if_pos c_35]
                      have q_41 : m_X6_next_h022 td ftp fwo za = 0 := by unfold m_X6_next_h022; rw [if_neg c_2, if_neg n_8, if_neg n_13]
                      have hz9 : gPD G A [zo6 h0 (nI pb) kd mo st (nI jg) ro tp (nI td) cd sr (nI tx) (nI ru) him ir ih ss sq ce lw (nI (m_X6_next_h019 td ftp za)) (m_X6_next_h020 td ftp za) (m_X6_next_h021 td ftp fwo za) (m_X6_next_h022 td ftp fwo za) wo he s25 s26 s27 sk na kp s31 s32 s33 s34 gb go fa ga s39 s40 vo, zi G tp 160 ftp, zi G wo 96 fwo] H := ⟨by rw [q_38, q_39, q_40, q_41]; exact hP.sub [0, 1, 2] rfl, by rw [q_38, q_39, q_40, q_41]; exact hD.sub [0, 1, 2] (by decide +kernel) rfl⟩
                      have hP9 := hz9.1
                      have hD9 := hz9.2
                      have hpost : (fun (u : Unit) => match u with | _ => za ≤ (m_X6_next_h019 td ftp za) ∧ (m_X6_next_h019 td ftp za) ≤ td ∧ (¬ (m_X6_next_h021 td ftp fwo za) = 0 → za < (m_X6_next_h019 td ftp za)) ∧ ((m_X6_next_h021 td ftp fwo za) = 2 → 0 ≤ (m_X6_next_h022 td ftp fwo za) ∧ (m_X6_next_h022 td ftp fwo za) < 6) ∧ ((m_X6_next_h021 td ftp fwo za) = 1 → 100000 ≤ 100000 + (m_X6_next_h022 td ftp fwo za))) () := nx_facts hza htd
                      exact W.vret hx hb hr (fun t ht hW => ⟨⟨(), rfl, hpost, by rw [ht]; exact hP9, va_K.moved hW.alike hK, hD9⟩, hS.F ht⟩) hS.2.2 dX6_next_403
                    · skip
                      refine lv_iload_n hx hb dX6_next_350 rfl (lv_at hl 0 rfl) ?_
                      refine lv_bipush (v := 45) hx hb dX6_next_351 (by decide +kernel) ?_
                      refine lv_icmp_eq (tgt := 374) hx hb dX6_next_353 (by decide +kernel) (fun c_42 => ?_) (fun c_42 => ?_)
                      · skip
                        refine lv_iconst (v := 1) hx hb dX6_next_374 (by decide +kernel) ?_
                        refine lv_goto (tgt := 379) hx hb dX6_next_375 (by decide +kernel) ?_
                        refine lv_istore_n (lv' := [zI 2 1, zI 1 (ftp (g_X6_next_0 td ftp za)), zR 0 h0]) hx hb dX6_next_379 rfl hl (by decide +kernel) rfl (fun ls hl => ?_)
                        refine lv_aload_n hx hb dX6_next_380 rfl (lv_at hl 2 rfl) ?_
                        refine lv_iload_n hx hb dX6_next_381 rfl (lv_at hl 0 rfl) ?_
                        refine lv_if_eq (tgt := 389) hx hb dX6_next_382 (by decide +kernel) (fun c_43 => ?_) (fun c_43 => ?_)
                        · exact absurd c_43 (by decide +kernel)
                        refine lv_iload_n hx hb dX6_next_385 rfl (lv_at hl 1 rfl) ?_
                        refine lv_goto (tgt := 390) hx hb dX6_next_386 (by decide +kernel) ?_
                        refine va_put (D := G.1) (ci := 6) (v := .int (ftp (g_X6_next_0 td ftp za))) (ty := .int) (C := RX6) (T := TX6) (N := 42) hx hb hts hiX6 tyX6 tyX6_ok nmX6 hown hK hP hD hS 0 rfl rfl 21 (by decide +kernel) kf117 (fun _ h9 => h9) rfl (by decide +kernel) rfl rfl (Nat.le_of_ble_eq_true rfl) dX6_next_390 (fun H locs hP hD hS => ?_)
                        have hz9 : gPD G A [zo6 h0 (nI pb) kd mo st (nI jg) ro tp (nI td) cd sr (nI tx) (nI ru) him ir ih ss sq ce lw (nI (g_X6_next_0 td ftp za)) (nI (g_X6_next_0 td ftp za)) (ftp (g_X6_next_0 td ftp za)) 0 wo he s25 s26 s27 sk na kp s31 s32 s33 s34 gb go fa ga s39 s40 vo, zi G tp 160 ftp, zi G wo 96 fwo] H := ⟨hP, hD⟩
                        have hP := hz9.1
                        have hD := hz9.2
                        refine lv_aload_n hx hb dX6_next_393 rfl (lv_at hl 2 rfl) ?_
                        refine lv_dup hx hb dX6_next_394 rfl ?_
                        refine va_get (D := G.1) (ci := 6) (v := .int (nI (g_X6_next_0 td ftp za))) (C := RX6) (T := TX6) (N := 42) hx hb hts hiX6 hown hK hP 0 rfl rfl 19 (by decide +kernel) kf111 (fun _ h9 => h9) rfl dX6_next_395 ?_
                        refine lv_iconst (v := 1) hx hb dX6_next_398 (by decide +kernel) ?_
                        refine lv_iadd hx hb dX6_next_399 ?_
                        refine lv_topi (fun v_44 ev_44 => ?_)
                        have ev_44 : v_44 = nI ((g_X6_next_0 td ftp za) + 1) := ev_44.trans (nI_add (g_X6_next_0 td ftp za) 1)
                        subst ev_44
                        refine va_put (D := G.1) (ci := 6) (v := .int (nI ((g_X6_next_0 td ftp za) + 1))) (ty := .int) (C := RX6) (T := TX6) (N := 42) hx hb hts hiX6 tyX6 tyX6_ok nmX6 hown hK hP hD hS 0 rfl rfl 19 (by decide +kernel) kf111 (fun _ h9 => h9) rfl (by decide +kernel) rfl rfl (Nat.le_of_ble_eq_true rfl) dX6_next_400 (fun H locs hP hD hS => ?_)
                        have hz9 : gPD G A [zo6 h0 (nI pb) kd mo st (nI jg) ro tp (nI td) cd sr (nI tx) (nI ru) him ir ih ss sq ce lw (nI ((g_X6_next_0 td ftp za) + 1)) (nI (g_X6_next_0 td ftp za)) (ftp (g_X6_next_0 td ftp za)) 0 wo he s25 s26 s27 sk na kp s31 s32 s33 s34 gb go fa ga s39 s40 vo, zi G tp 160 ftp, zi G wo 96 fwo] H := ⟨hP, hD⟩
                        have hP := hz9.1
                        have hD := hz9.2
                        have q_45 : m_X6_next_h019 td ftp za = (g_X6_next_0 td ftp za) + 1 := by unfold m_X6_next_h019; rw [if_neg c_2, if_neg n_8, if_neg n_13]
                        have q_46 : m_X6_next_h020 td ftp za = nI (g_X6_next_0 td ftp za) := by unfold m_X6_next_h020; rw [if_neg c_2, if_neg n_8]
                        have q_47 : m_X6_next_h021 td ftp fwo za = ftp (g_X6_next_0 td ftp za) := by unfold m_X6_next_h021; rw [if_neg c_2, if_neg n_8, if_neg n_13, if_neg c_14, if_neg c_21, if_neg c_28, if_neg c_35, if_pos c_42]
                        have q_48 : m_X6_next_h022 td ftp fwo za = 0 := by unfold m_X6_next_h022; rw [if_neg c_2, if_neg n_8, if_neg n_13]
                        have hz9 : gPD G A [zo6 h0 (nI pb) kd mo st (nI jg) ro tp (nI td) cd sr (nI tx) (nI ru) him ir ih ss sq ce lw (nI (m_X6_next_h019 td ftp za)) (m_X6_next_h020 td ftp za) (m_X6_next_h021 td ftp fwo za) (m_X6_next_h022 td ftp fwo za) wo he s25 s26 s27 sk na kp s31 s32 s33 s34 gb go fa ga s39 s40 vo, zi G tp 160 ftp, zi G wo 96 fwo] H := ⟨by rw [q_45, q_46, q_47, q_48]; exact hP.sub [0, 1, 2] rfl, by rw [q_45, q_46, q_47, q_48]; exact hD.sub [0, 1, 2] (by decide +kernel) rfl⟩
                        have hP9 := hz9.1
                        have hD9 := hz9.2
                        have hpost : (fun (u : Unit) => match u with | _ => za ≤ (m_X6_next_h019 td ftp za) ∧ (m_X6_next_h019 td ftp za) ≤ td ∧ (¬ (m_X6_next_h021 td ftp fwo za) = 0 → za < (m_X6_next_h019 td ftp za)) ∧ ((m_X6_next_h021 td ftp fwo za) = 2 → 0 ≤ (m_X6_next_h022 td ftp fwo za) ∧ (m_X6_next_h022 td ftp fwo za) < 6) ∧ ((m_X6_next_h021 td ftp fwo za) = 1 → 100000 ≤ 100000 + (m_X6_next_h022 td ftp fwo za))) () := nx_facts hza htd
                        exact W.vret hx hb hr (fun t ht hW => ⟨⟨(), rfl, hpost, by rw [ht]; exact hP9, va_K.moved hW.alike hK, hD9⟩, hS.F ht⟩) hS.2.2 dX6_next_403
                      · skip
                        refine lv_iload_n hx hb dX6_next_356 rfl (lv_at hl 0 rfl) ?_
                        refine lv_bipush (v := 42) hx hb dX6_next_357 (by decide +kernel) ?_
                        refine lv_icmp_eq (tgt := 374) hx hb dX6_next_359 (by decide +kernel) (fun c_49 => ?_) (fun c_49 => ?_)
                        · skip
                          refine lv_iconst (v := 1) hx hb dX6_next_374 (by decide +kernel) ?_
                          refine lv_goto (tgt := 379) hx hb dX6_next_375 (by decide +kernel) ?_
                          refine lv_istore_n (lv' := [zI 2 1, zI 1 (ftp (g_X6_next_0 td ftp za)), zR 0 h0]) hx hb dX6_next_379 rfl hl (by decide +kernel) rfl (fun ls hl => ?_)
                          refine lv_aload_n hx hb dX6_next_380 rfl (lv_at hl 2 rfl) ?_
                          refine lv_iload_n hx hb dX6_next_381 rfl (lv_at hl 0 rfl) ?_
                          refine lv_if_eq (tgt := 389) hx hb dX6_next_382 (by decide +kernel) (fun c_50 => ?_) (fun c_50 => ?_)
                          · exact absurd c_50 (by decide +kernel)
                          refine lv_iload_n hx hb dX6_next_385 rfl (lv_at hl 1 rfl) ?_
                          refine lv_goto (tgt := 390) hx hb dX6_next_386 (by decide +kernel) ?_
                          refine va_put (D := G.1) (ci := 6) (v := .int (ftp (g_X6_next_0 td ftp za))) (ty := .int) (C := RX6) (T := TX6) (N := 42) hx hb hts hiX6 tyX6 tyX6_ok nmX6 hown hK hP hD hS 0 rfl rfl 21 (by decide +kernel) kf117 (fun _ h9 => h9) rfl (by decide +kernel) rfl rfl (Nat.le_of_ble_eq_true rfl) dX6_next_390 (fun H locs hP hD hS => ?_)
                          have hz9 : gPD G A [zo6 h0 (nI pb) kd mo st (nI jg) ro tp (nI td) cd sr (nI tx) (nI ru) him ir ih ss sq ce lw (nI (g_X6_next_0 td ftp za)) (nI (g_X6_next_0 td ftp za)) (ftp (g_X6_next_0 td ftp za)) 0 wo he s25 s26 s27 sk na kp s31 s32 s33 s34 gb go fa ga s39 s40 vo, zi G tp 160 ftp, zi G wo 96 fwo] H := ⟨hP, hD⟩
                          have hP := hz9.1
                          have hD := hz9.2
                          refine lv_aload_n hx hb dX6_next_393 rfl (lv_at hl 2 rfl) ?_
                          refine lv_dup hx hb dX6_next_394 rfl ?_
                          refine va_get (D := G.1) (ci := 6) (v := .int (nI (g_X6_next_0 td ftp za))) (C := RX6) (T := TX6) (N := 42) hx hb hts hiX6 hown hK hP 0 rfl rfl 19 (by decide +kernel) kf111 (fun _ h9 => h9) rfl dX6_next_395 ?_
                          refine lv_iconst (v := 1) hx hb dX6_next_398 (by decide +kernel) ?_
                          refine lv_iadd hx hb dX6_next_399 ?_
                          refine lv_topi (fun v_51 ev_51 => ?_)
                          have ev_51 : v_51 = nI ((g_X6_next_0 td ftp za) + 1) := ev_51.trans (nI_add (g_X6_next_0 td ftp za) 1)
                          subst ev_51
                          refine va_put (D := G.1) (ci := 6) (v := .int (nI ((g_X6_next_0 td ftp za) + 1))) (ty := .int) (C := RX6) (T := TX6) (N := 42) hx hb hts hiX6 tyX6 tyX6_ok nmX6 hown hK hP hD hS 0 rfl rfl 19 (by decide +kernel) kf111 (fun _ h9 => h9) rfl (by decide +kernel) rfl rfl (Nat.le_of_ble_eq_true rfl) dX6_next_400 (fun H locs hP hD hS => ?_)
                          have hz9 : gPD G A [zo6 h0 (nI pb) kd mo st (nI jg) ro tp (nI td) cd sr (nI tx) (nI ru) him ir ih ss sq ce lw (nI ((g_X6_next_0 td ftp za) + 1)) (nI (g_X6_next_0 td ftp za)) (ftp (g_X6_next_0 td ftp za)) 0 wo he s25 s26 s27 sk na kp s31 s32 s33 s34 gb go fa ga s39 s40 vo, zi G tp 160 ftp, zi G wo 96 fwo] H := ⟨hP, hD⟩
                          have hP := hz9.1
                          have hD := hz9.2
                          have q_52 : m_X6_next_h019 td ftp za = (g_X6_next_0 td ftp za) + 1 := by unfold m_X6_next_h019; rw [if_neg c_2, if_neg n_8, if_neg n_13]
                          have q_53 : m_X6_next_h020 td ftp za = nI (g_X6_next_0 td ftp za) := by unfold m_X6_next_h020; rw [if_neg c_2, if_neg n_8]
                          have q_54 : m_X6_next_h021 td ftp fwo za = ftp (g_X6_next_0 td ftp za) := by unfold m_X6_next_h021; rw [if_neg c_2, if_neg n_8, if_neg n_13, if_neg c_14, if_neg c_21, if_neg c_28, if_neg c_35, if_neg c_42, if_pos c_49]
                          have q_55 : m_X6_next_h022 td ftp fwo za = 0 := by unfold m_X6_next_h022; rw [if_neg c_2, if_neg n_8, if_neg n_13]
                          have hz9 : gPD G A [zo6 h0 (nI pb) kd mo st (nI jg) ro tp (nI td) cd sr (nI tx) (nI ru) him ir ih ss sq ce lw (nI (m_X6_next_h019 td ftp za)) (m_X6_next_h020 td ftp za) (m_X6_next_h021 td ftp fwo za) (m_X6_next_h022 td ftp fwo za) wo he s25 s26 s27 sk na kp s31 s32 s33 s34 gb go fa ga s39 s40 vo, zi G tp 160 ftp, zi G wo 96 fwo] H := ⟨by rw [q_52, q_53, q_54, q_55]; exact hP.sub [0, 1, 2] rfl, by rw [q_52, q_53, q_54, q_55]; exact hD.sub [0, 1, 2] (by decide +kernel) rfl⟩
                          have hP9 := hz9.1
                          have hD9 := hz9.2
                          have hpost : (fun (u : Unit) => match u with | _ => za ≤ (m_X6_next_h019 td ftp za) ∧ (m_X6_next_h019 td ftp za) ≤ td ∧ (¬ (m_X6_next_h021 td ftp fwo za) = 0 → za < (m_X6_next_h019 td ftp za)) ∧ ((m_X6_next_h021 td ftp fwo za) = 2 → 0 ≤ (m_X6_next_h022 td ftp fwo za) ∧ (m_X6_next_h022 td ftp fwo za) < 6) ∧ ((m_X6_next_h021 td ftp fwo za) = 1 → 100000 ≤ 100000 + (m_X6_next_h022 td ftp fwo za))) () := nx_facts hza htd
                          exact W.vret hx hb hr (fun t ht hW => ⟨⟨(), rfl, hpost, by rw [ht]; exact hP9, va_K.moved hW.alike hK, hD9⟩, hS.F ht⟩) hS.2.2 dX6_next_403
                        · skip
                          refine lv_iload_n hx hb dX6_next_362 rfl (lv_at hl 0 rfl) ?_
                          refine lv_bipush (v := 60) hx hb dX6_next_363 (by decide +kernel) ?_
                          refine lv_icmp_eq (tgt := 374) hx hb dX6_next_365 (by decide +kernel) (fun c_56 => ?_) (fun c_56 => ?_)
                          · skip
                            refine lv_iconst (v := 1) hx hb dX6_next_374 (by decide +kernel) ?_
                            refine lv_goto (tgt := 379) hx hb dX6_next_375 (by decide +kernel) ?_
                            refine lv_istore_n (lv' := [zI 2 1, zI 1 (ftp (g_X6_next_0 td ftp za)), zR 0 h0]) hx hb dX6_next_379 rfl hl (by decide +kernel) rfl (fun ls hl => ?_)
                            refine lv_aload_n hx hb dX6_next_380 rfl (lv_at hl 2 rfl) ?_
                            refine lv_iload_n hx hb dX6_next_381 rfl (lv_at hl 0 rfl) ?_
                            refine lv_if_eq (tgt := 389) hx hb dX6_next_382 (by decide +kernel) (fun c_57 => ?_) (fun c_57 => ?_)
                            · exact absurd c_57 (by decide +kernel)
                            refine lv_iload_n hx hb dX6_next_385 rfl (lv_at hl 1 rfl) ?_
                            refine lv_goto (tgt := 390) hx hb dX6_next_386 (by decide +kernel) ?_
                            refine va_put (D := G.1) (ci := 6) (v := .int (ftp (g_X6_next_0 td ftp za))) (ty := .int) (C := RX6) (T := TX6) (N := 42) hx hb hts hiX6 tyX6 tyX6_ok nmX6 hown hK hP hD hS 0 rfl rfl 21 (by decide +kernel) kf117 (fun _ h9 => h9) rfl (by decide +kernel) rfl rfl (Nat.le_of_ble_eq_true rfl) dX6_next_390 (fun H locs hP hD hS => ?_)
                            have hz9 : gPD G A [zo6 h0 (nI pb) kd mo st (nI jg) ro tp (nI td) cd sr (nI tx) (nI ru) him ir ih ss sq ce lw (nI (g_X6_next_0 td ftp za)) (nI (g_X6_next_0 td ftp za)) (ftp (g_X6_next_0 td ftp za)) 0 wo he s25 s26 s27 sk na kp s31 s32 s33 s34 gb go fa ga s39 s40 vo, zi G tp 160 ftp, zi G wo 96 fwo] H := ⟨hP, hD⟩
                            have hP := hz9.1
                            have hD := hz9.2
                            refine lv_aload_n hx hb dX6_next_393 rfl (lv_at hl 2 rfl) ?_
                            refine lv_dup hx hb dX6_next_394 rfl ?_
                            refine va_get (D := G.1) (ci := 6) (v := .int (nI (g_X6_next_0 td ftp za))) (C := RX6) (T := TX6) (N := 42) hx hb hts hiX6 hown hK hP 0 rfl rfl 19 (by decide +kernel) kf111 (fun _ h9 => h9) rfl dX6_next_395 ?_
                            refine lv_iconst (v := 1) hx hb dX6_next_398 (by decide +kernel) ?_
                            refine lv_iadd hx hb dX6_next_399 ?_
                            refine lv_topi (fun v_58 ev_58 => ?_)
                            have ev_58 : v_58 = nI ((g_X6_next_0 td ftp za) + 1) := ev_58.trans (nI_add (g_X6_next_0 td ftp za) 1)
                            subst ev_58
                            refine va_put (D := G.1) (ci := 6) (v := .int (nI ((g_X6_next_0 td ftp za) + 1))) (ty := .int) (C := RX6) (T := TX6) (N := 42) hx hb hts hiX6 tyX6 tyX6_ok nmX6 hown hK hP hD hS 0 rfl rfl 19 (by decide +kernel) kf111 (fun _ h9 => h9) rfl (by decide +kernel) rfl rfl (Nat.le_of_ble_eq_true rfl) dX6_next_400 (fun H locs hP hD hS => ?_)
                            have hz9 : gPD G A [zo6 h0 (nI pb) kd mo st (nI jg) ro tp (nI td) cd sr (nI tx) (nI ru) him ir ih ss sq ce lw (nI ((g_X6_next_0 td ftp za) + 1)) (nI (g_X6_next_0 td ftp za)) (ftp (g_X6_next_0 td ftp za)) 0 wo he s25 s26 s27 sk na kp s31 s32 s33 s34 gb go fa ga s39 s40 vo, zi G tp 160 ftp, zi G wo 96 fwo] H := ⟨hP, hD⟩
                            have hP := hz9.1
                            have hD := hz9.2
                            have q_59 : m_X6_next_h019 td ftp za = (g_X6_next_0 td ftp za) + 1 := by unfold m_X6_next_h019; rw [if_neg c_2, if_neg n_8, if_neg n_13]
                            have q_60 : m_X6_next_h020 td ftp za = nI (g_X6_next_0 td ftp za) := by unfold m_X6_next_h020; rw [if_neg c_2, if_neg n_8]
                            have q_61 : m_X6_next_h021 td ftp fwo za = ftp (g_X6_next_0 td ftp za) := by unfold m_X6_next_h021; rw [if_neg c_2, if_neg n_8, if_neg n_13, if_neg c_14, if_neg c_21, if_neg c_28, if_neg c_35, if_neg c_42, if_neg c_49, if_pos c_56]
                            have q_62 : m_X6_next_h022 td ftp fwo za = 0 := by unfold m_X6_next_h022; rw [if_neg c_2, if_neg n_8, if_neg n_13]
                            have hz9 : gPD G A [zo6 h0 (nI pb) kd mo st (nI jg) ro tp (nI td) cd sr (nI tx) (nI ru) him ir ih ss sq ce lw (nI (m_X6_next_h019 td ftp za)) (m_X6_next_h020 td ftp za) (m_X6_next_h021 td ftp fwo za) (m_X6_next_h022 td ftp fwo za) wo he s25 s26 s27 sk na kp s31 s32 s33 s34 gb go fa ga s39 s40 vo, zi G tp 160 ftp, zi G wo 96 fwo] H := ⟨by rw [q_59, q_60, q_61, q_62]; exact hP.sub [0, 1, 2] rfl, by rw [q_59, q_60, q_61, q_62]; exact hD.sub [0, 1, 2] (by decide +kernel) rfl⟩
                            have hP9 := hz9.1
                            have hD9 := hz9.2
                            have hpost : (fun (u : Unit) => match u with | _ => za ≤ (m_X6_next_h019 td ftp za) ∧ (m_X6_next_h019 td ftp za) ≤ td ∧ (¬ (m_X6_next_h021 td ftp fwo za) = 0 → za < (m_X6_next_h019 td ftp za)) ∧ ((m_X6_next_h021 td ftp fwo za) = 2 → 0 ≤ (m_X6_next_h022 td ftp fwo za) ∧ (m_X6_next_h022 td ftp fwo za) < 6) ∧ ((m_X6_next_h021 td ftp fwo za) = 1 → 100000 ≤ 100000 + (m_X6_next_h022 td ftp fwo za))) () := nx_facts hza htd
                            exact W.vret hx hb hr (fun t ht hW => ⟨⟨(), rfl, hpost, by rw [ht]; exact hP9, va_K.moved hW.alike hK, hD9⟩, hS.F ht⟩) hS.2.2 dX6_next_403
                          · skip
                            refine lv_iload_n hx hb dX6_next_368 rfl (lv_at hl 0 rfl) ?_
                            refine lv_bipush (v := 61) hx hb dX6_next_369 (by decide +kernel) ?_
                            refine lv_icmp_ne (tgt := 378) hx hb dX6_next_371 (by decide +kernel) (fun c_63 => ?_) (fun c_63 => ?_)
                            · skip
                              refine lv_iconst (v := 0) hx hb dX6_next_378 (by decide +kernel) ?_
                              refine lv_istore_n (lv' := [zI 2 0, zI 1 (ftp (g_X6_next_0 td ftp za)), zR 0 h0]) hx hb dX6_next_379 rfl hl (by decide +kernel) rfl (fun ls hl => ?_)
                              refine lv_aload_n hx hb dX6_next_380 rfl (lv_at hl 2 rfl) ?_
                              refine lv_iload_n hx hb dX6_next_381 rfl (lv_at hl 0 rfl) ?_
                              refine lv_if_eq (tgt := 389) hx hb dX6_next_382 (by decide +kernel) (fun c_64 => ?_) (fun c_64 => ?_)
                              rotate_left
                              · exact absurd (by decide +kernel) c_64
                              refine lv_iconst (v := -1) hx hb dX6_next_389 (by decide +kernel) ?_
                              refine va_put (D := G.1) (ci := 6) (v := .int (-1)) (ty := .int) (C := RX6) (T := TX6) (N := 42) hx hb hts hiX6 tyX6 tyX6_ok nmX6 hown hK hP hD hS 0 rfl rfl 21 (by decide +kernel) kf117 (fun _ h9 => h9) rfl (by decide +kernel) rfl rfl (Nat.le_of_ble_eq_true rfl) dX6_next_390 (fun H locs hP hD hS => ?_)
                              have hz9 : gPD G A [zo6 h0 (nI pb) kd mo st (nI jg) ro tp (nI td) cd sr (nI tx) (nI ru) him ir ih ss sq ce lw (nI (g_X6_next_0 td ftp za)) (nI (g_X6_next_0 td ftp za)) (-1) 0 wo he s25 s26 s27 sk na kp s31 s32 s33 s34 gb go fa ga s39 s40 vo, zi G tp 160 ftp, zi G wo 96 fwo] H := ⟨hP, hD⟩
                              have hP := hz9.1
                              have hD := hz9.2
                              refine lv_aload_n hx hb dX6_next_393 rfl (lv_at hl 2 rfl) ?_
                              refine lv_dup hx hb dX6_next_394 rfl ?_
                              refine va_get (D := G.1) (ci := 6) (v := .int (nI (g_X6_next_0 td ftp za))) (C := RX6) (T := TX6) (N := 42) hx hb hts hiX6 hown hK hP 0 rfl rfl 19 (by decide +kernel) kf111 (fun _ h9 => h9) rfl dX6_next_395 ?_
                              refine lv_iconst (v := 1) hx hb dX6_next_398 (by decide +kernel) ?_
                              refine lv_iadd hx hb dX6_next_399 ?_
                              refine lv_topi (fun v_65 ev_65 => ?_)
                              have ev_65 : v_65 = nI ((g_X6_next_0 td ftp za) + 1) := ev_65.trans (nI_add (g_X6_next_0 td ftp za) 1)
                              subst ev_65
                              refine va_put (D := G.1) (ci := 6) (v := .int (nI ((g_X6_next_0 td ftp za) + 1))) (ty := .int) (C := RX6) (T := TX6) (N := 42) hx hb hts hiX6 tyX6 tyX6_ok nmX6 hown hK hP hD hS 0 rfl rfl 19 (by decide +kernel) kf111 (fun _ h9 => h9) rfl (by decide +kernel) rfl rfl (Nat.le_of_ble_eq_true rfl) dX6_next_400 (fun H locs hP hD hS => ?_)
                              have hz9 : gPD G A [zo6 h0 (nI pb) kd mo st (nI jg) ro tp (nI td) cd sr (nI tx) (nI ru) him ir ih ss sq ce lw (nI ((g_X6_next_0 td ftp za) + 1)) (nI (g_X6_next_0 td ftp za)) (-1) 0 wo he s25 s26 s27 sk na kp s31 s32 s33 s34 gb go fa ga s39 s40 vo, zi G tp 160 ftp, zi G wo 96 fwo] H := ⟨hP, hD⟩
                              have hP := hz9.1
                              have hD := hz9.2
                              have q_66 : m_X6_next_h019 td ftp za = (g_X6_next_0 td ftp za) + 1 := by unfold m_X6_next_h019; rw [if_neg c_2, if_neg n_8, if_neg n_13]
                              have q_67 : m_X6_next_h020 td ftp za = nI (g_X6_next_0 td ftp za) := by unfold m_X6_next_h020; rw [if_neg c_2, if_neg n_8]
                              have q_68 : m_X6_next_h021 td ftp fwo za = -1 := by unfold m_X6_next_h021; rw [if_neg c_2, if_neg n_8, if_neg n_13, if_neg c_14, if_neg c_21, if_neg c_28, if_neg c_35, if_neg c_42, if_neg c_49, if_neg c_56, if_neg c_63]
                              have q_69 : m_X6_next_h022 td ftp fwo za = 0 := by unfold m_X6_next_h022; rw [if_neg c_2, if_neg n_8, if_neg n_13]
                              have hz9 : gPD G A [zo6 h0 (nI pb) kd mo st (nI jg) ro tp (nI td) cd sr (nI tx) (nI ru) him ir ih ss sq ce lw (nI (m_X6_next_h019 td ftp za)) (m_X6_next_h020 td ftp za) (m_X6_next_h021 td ftp fwo za) (m_X6_next_h022 td ftp fwo za) wo he s25 s26 s27 sk na kp s31 s32 s33 s34 gb go fa ga s39 s40 vo, zi G tp 160 ftp, zi G wo 96 fwo] H := ⟨by rw [q_66, q_67, q_68, q_69]; exact hP.sub [0, 1, 2] rfl, by rw [q_66, q_67, q_68, q_69]; exact hD.sub [0, 1, 2] (by decide +kernel) rfl⟩
                              have hP9 := hz9.1
                              have hD9 := hz9.2
                              have hpost : (fun (u : Unit) => match u with | _ => za ≤ (m_X6_next_h019 td ftp za) ∧ (m_X6_next_h019 td ftp za) ≤ td ∧ (¬ (m_X6_next_h021 td ftp fwo za) = 0 → za < (m_X6_next_h019 td ftp za)) ∧ ((m_X6_next_h021 td ftp fwo za) = 2 → 0 ≤ (m_X6_next_h022 td ftp fwo za) ∧ (m_X6_next_h022 td ftp fwo za) < 6) ∧ ((m_X6_next_h021 td ftp fwo za) = 1 → 100000 ≤ 100000 + (m_X6_next_h022 td ftp fwo za))) () := nx_facts hza htd
                              exact W.vret hx hb hr (fun t ht hW => ⟨⟨(), rfl, hpost, by rw [ht]; exact hP9, va_K.moved hW.alike hK, hD9⟩, hS.F ht⟩) hS.2.2 dX6_next_403
                            · skip
                              refine lv_iconst (v := 1) hx hb dX6_next_374 (by decide +kernel) ?_
                              refine lv_goto (tgt := 379) hx hb dX6_next_375 (by decide +kernel) ?_
                              refine lv_istore_n (lv' := [zI 2 1, zI 1 (ftp (g_X6_next_0 td ftp za)), zR 0 h0]) hx hb dX6_next_379 rfl hl (by decide +kernel) rfl (fun ls hl => ?_)
                              refine lv_aload_n hx hb dX6_next_380 rfl (lv_at hl 2 rfl) ?_
                              refine lv_iload_n hx hb dX6_next_381 rfl (lv_at hl 0 rfl) ?_
                              refine lv_if_eq (tgt := 389) hx hb dX6_next_382 (by decide +kernel) (fun c_70 => ?_) (fun c_70 => ?_)
                              · exact absurd c_70 (by decide +kernel)
                              refine lv_iload_n hx hb dX6_next_385 rfl (lv_at hl 1 rfl) ?_
                              refine lv_goto (tgt := 390) hx hb dX6_next_386 (by decide +kernel) ?_
                              refine va_put (D := G.1) (ci := 6) (v := .int (ftp (g_X6_next_0 td ftp za))) (ty := .int) (C := RX6) (T := TX6) (N := 42) hx hb hts hiX6 tyX6 tyX6_ok nmX6 hown hK hP hD hS 0 rfl rfl 21 (by decide +kernel) kf117 (fun _ h9 => h9) rfl (by decide +kernel) rfl rfl (Nat.le_of_ble_eq_true rfl) dX6_next_390 (fun H locs hP hD hS => ?_)
                              have hz9 : gPD G A [zo6 h0 (nI pb) kd mo st (nI jg) ro tp (nI td) cd sr (nI tx) (nI ru) him ir ih ss sq ce lw (nI (g_X6_next_0 td ftp za)) (nI (g_X6_next_0 td ftp za)) (ftp (g_X6_next_0 td ftp za)) 0 wo he s25 s26 s27 sk na kp s31 s32 s33 s34 gb go fa ga s39 s40 vo, zi G tp 160 ftp, zi G wo 96 fwo] H := ⟨hP, hD⟩
                              have hP := hz9.1
                              have hD := hz9.2
                              refine lv_aload_n hx hb dX6_next_393 rfl (lv_at hl 2 rfl) ?_
                              refine lv_dup hx hb dX6_next_394 rfl ?_
                              refine va_get (D := G.1) (ci := 6) (v := .int (nI (g_X6_next_0 td ftp za))) (C := RX6) (T := TX6) (N := 42) hx hb hts hiX6 hown hK hP 0 rfl rfl 19 (by decide +kernel) kf111 (fun _ h9 => h9) rfl dX6_next_395 ?_
                              refine lv_iconst (v := 1) hx hb dX6_next_398 (by decide +kernel) ?_
                              refine lv_iadd hx hb dX6_next_399 ?_
                              refine lv_topi (fun v_71 ev_71 => ?_)
                              have ev_71 : v_71 = nI ((g_X6_next_0 td ftp za) + 1) := ev_71.trans (nI_add (g_X6_next_0 td ftp za) 1)
                              subst ev_71
                              refine va_put (D := G.1) (ci := 6) (v := .int (nI ((g_X6_next_0 td ftp za) + 1))) (ty := .int) (C := RX6) (T := TX6) (N := 42) hx hb hts hiX6 tyX6 tyX6_ok nmX6 hown hK hP hD hS 0 rfl rfl 19 (by decide +kernel) kf111 (fun _ h9 => h9) rfl (by decide +kernel) rfl rfl (Nat.le_of_ble_eq_true rfl) dX6_next_400 (fun H locs hP hD hS => ?_)
                              have hz9 : gPD G A [zo6 h0 (nI pb) kd mo st (nI jg) ro tp (nI td) cd sr (nI tx) (nI ru) him ir ih ss sq ce lw (nI ((g_X6_next_0 td ftp za) + 1)) (nI (g_X6_next_0 td ftp za)) (ftp (g_X6_next_0 td ftp za)) 0 wo he s25 s26 s27 sk na kp s31 s32 s33 s34 gb go fa ga s39 s40 vo, zi G tp 160 ftp, zi G wo 96 fwo] H := ⟨hP, hD⟩
                              have hP := hz9.1
                              have hD := hz9.2
                              have q_72 : m_X6_next_h019 td ftp za = (g_X6_next_0 td ftp za) + 1 := by unfold m_X6_next_h019; rw [if_neg c_2, if_neg n_8, if_neg n_13]
                              have q_73 : m_X6_next_h020 td ftp za = nI (g_X6_next_0 td ftp za) := by unfold m_X6_next_h020; rw [if_neg c_2, if_neg n_8]
                              have q_74 : m_X6_next_h021 td ftp fwo za = ftp (g_X6_next_0 td ftp za) := by unfold m_X6_next_h021; rw [if_neg c_2, if_neg n_8, if_neg n_13, if_neg c_14, if_neg c_21, if_neg c_28, if_neg c_35, if_neg c_42, if_neg c_49, if_neg c_56, if_pos c_63]
                              have q_75 : m_X6_next_h022 td ftp fwo za = 0 := by unfold m_X6_next_h022; rw [if_neg c_2, if_neg n_8, if_neg n_13]
                              have hz9 : gPD G A [zo6 h0 (nI pb) kd mo st (nI jg) ro tp (nI td) cd sr (nI tx) (nI ru) him ir ih ss sq ce lw (nI (m_X6_next_h019 td ftp za)) (m_X6_next_h020 td ftp za) (m_X6_next_h021 td ftp fwo za) (m_X6_next_h022 td ftp fwo za) wo he s25 s26 s27 sk na kp s31 s32 s33 s34 gb go fa ga s39 s40 vo, zi G tp 160 ftp, zi G wo 96 fwo] H := ⟨by rw [q_72, q_73, q_74, q_75]; exact hP.sub [0, 1, 2] rfl, by rw [q_72, q_73, q_74, q_75]; exact hD.sub [0, 1, 2] (by decide +kernel) rfl⟩
                              have hP9 := hz9.1
                              have hD9 := hz9.2
                              have hpost : (fun (u : Unit) => match u with | _ => za ≤ (m_X6_next_h019 td ftp za) ∧ (m_X6_next_h019 td ftp za) ≤ td ∧ (¬ (m_X6_next_h021 td ftp fwo za) = 0 → za < (m_X6_next_h019 td ftp za)) ∧ ((m_X6_next_h021 td ftp fwo za) = 2 → 0 ≤ (m_X6_next_h022 td ftp fwo za) ∧ (m_X6_next_h022 td ftp fwo za) < 6) ∧ ((m_X6_next_h021 td ftp fwo za) = 1 → 100000 ≤ 100000 + (m_X6_next_h022 td ftp fwo za))) () := nx_facts hza htd
                              exact W.vret hx hb hr (fun t ht hW => ⟨⟨(), rfl, hpost, by rw [ht]; exact hP9, va_K.moved hW.alike hK, hD9⟩, hS.F ht⟩) hS.2.2 dX6_next_403
            · skip
              have p_12 : 48 ≤ (ftp (g_X6_next_0 td ftp za)) ∧ (ftp (g_X6_next_0 td ftp za)) ≤ 57 := of_decide_eq_true (bz_ne rfl c_11)
              refine lv_iconst (v := 0) hx hb dX6_next_228 (by decide +kernel) ?_
              refine lv_istore_n (lv' := [zI 2 0, zI 1 (ftp (g_X6_next_0 td ftp za)), zR 0 h0]) hx hb dX6_next_229 rfl hl (by decide +kernel) rfl (fun ls hl => ?_)
              have loop_230 : ∀ (n9 : Nat) (a2 : Nat) (n2 : Nat) (z22v : Int32), (a2 ≤ td) → (p_X6_next_230 ftp (td - a2) a2 n2 z22v = (g_X6_next_230 td ftp za)) → (n2 ≤ a2) → (td - a2) < n9 → ∀ (H : Heap) (locs : List Loc), va_P G.1 vwCl [zo6 h0 (nI pb) kd mo st (nI jg) ro tp (nI td) cd sr (nI tx) (nI ru) him ir ih ss sq ce lw (nI a2) (nI (g_X6_next_0 td ftp za)) 0 z22v wo he s25 s26 s27 sk na kp s31 s32 s33 s34 gb go fa ga s39 s40 vo, zi G tp 160 ftp, zi G wo 96 fwo] H → va_D A [zo6 h0 (nI pb) kd mo st (nI jg) ro tp (nI td) cd sr (nI tx) (nI ru) him ir ih ss sq ce lw (nI a2) (nI (g_X6_next_0 td ftp za)) 0 z22v wo he s25 s26 s27 sk na kp s31 s32 s33 s34 gb go fa ga s39 s40 vo, zi G tp 160 ftp, zi G wo 96 fwo] → va_S A s.heap H locs → ∀ ls : Array Slot, lv_has ls 3 [zI 2 (nI n2), zI 1 (ftp (g_X6_next_0 td ftp za)), zR 0 h0] → W p l e (headSpec wsX6_next ({ frames := 1, cells := 0, slots := 0, locals := 25 })).room s m ([.ref h0] : List Value).toArray below meth c H locs 0 0 (MQ below (q_X6_next_b G h0 kd mo st ro tp cd sr ir ih ss sq ce lw wo he sk na kp gb go fa ga vo pb jg td tx ru him s20 s21 s22 s25 s26 s27 s31 s32 s33 s34 s39 s40 ftp fwo za A) ([.ref h0] : List Value).toArray s 0 0 A) (F0 m 230 ls []) := by
                intro n9
                induction n9 with
                | zero => intro a2 n2 z22v ha2 R230 hn2 hm9_230; exact absurd hm9_230 (Nat.not_lt_zero _)
                | succ n9 ih9_230 =>
                  intro a2 n2 z22v ha2 R230 hn2 hm9_230 H locs hP hD hS ls hl
                  refine lv_aload_n hx hb dX6_next_230 rfl (lv_at hl 2 rfl) ?_
                  refine va_get (D := G.1) (ci := 6) (v := .int (nI a2)) (C := RX6) (T := TX6) (N := 42) hx hb hts hiX6 hown hK hP 0 rfl rfl 19 (by decide +kernel) kf111 (fun _ h9 => h9) rfl dX6_next_231 ?_
                  refine lv_aload_n hx hb dX6_next_234 rfl (lv_at hl 2 rfl) ?_
                  refine va_get (D := G.1) (ci := 6) (v := .int (nI td)) (C := RX6) (T := TX6) (N := 42) hx hb hts hiX6 hown hK hP 0 rfl rfl 7 (by decide +kernel) kf80 (fun _ h9 => h9) rfl dX6_next_235 ?_
                  refine lv_icmp_ge (tgt := 309) hx hb dX6_next_238 (by decide +kernel) (fun c_76 => ?_) (fun c_76 => ?_)
                  · skip
                    have c_76N : td ≤ a2 := nI_le1 (a := td) (b := a2) (by omega) (by omega) c_76
                    have hF230 : (g_X6_next_230 td ftp za) = (a2, n2, z22v) := by rw [← R230, show td - a2 = 0 by omega]; rfl
                    have hE230_0 : a2 = ((g_X6_next_230 td ftp za).1) := by rw [hF230]
                    have hE230_1 : n2 = ((g_X6_next_230 td ftp za).2.1) := by rw [hF230]
                    have hE230_2 : z22v = ((g_X6_next_230 td ftp za).2.2) := by rw [hF230]
                    clear hF230 R230
                    subst hE230_0
                    subst hE230_1
                    subst hE230_2
                    refine lv_aload_n hx hb dX6_next_309 rfl (lv_at hl 2 rfl) ?_
                    refine lv_iload_n hx hb dX6_next_310 rfl (lv_at hl 0 rfl) ?_
                    refine lv_iconst (v := 4) hx hb dX6_next_311 (by decide +kernel) ?_
                    refine lv_icmp_le (tgt := 319) hx hb dX6_next_312 (by decide +kernel) (fun c_77 => ?_) (fun c_77 => ?_)
                    · skip
                      have c_77N : ((g_X6_next_230 td ftp za).2.1) ≤ 4 := nI_le1 (a := ((g_X6_next_230 td ftp za).2.1)) (b := 4) (by omega) (by omega) c_77
                      refine lv_iconst (v := 1) hx hb dX6_next_319 (by decide +kernel) ?_
                      refine va_put (D := G.1) (ci := 6) (v := .int 1) (ty := .int) (C := RX6) (T := TX6) (N := 42) hx hb hts hiX6 tyX6 tyX6_ok nmX6 hown hK hP hD hS 0 rfl rfl 21 (by decide +kernel) kf117 (fun _ h9 => h9) rfl (by decide +kernel) rfl rfl (Nat.le_of_ble_eq_true rfl) dX6_next_320 (fun H locs hP hD hS => ?_)
                      have hz9 : gPD G A [zo6 h0 (nI pb) kd mo st (nI jg) ro tp (nI td) cd sr (nI tx) (nI ru) him ir ih ss sq ce lw (nI ((g_X6_next_230 td ftp za).1)) (nI (g_X6_next_0 td ftp za)) 1 ((g_X6_next_230 td ftp za).2.2) wo he s25 s26 s27 sk na kp s31 s32 s33 s34 gb go fa ga s39 s40 vo, zi G tp 160 ftp, zi G wo 96 fwo] H := ⟨hP, hD⟩
                      have hP := hz9.1
                      have hD := hz9.2
                      refine lv_goto (tgt := 403) hx hb dX6_next_323 (by decide +kernel) ?_
                      have q_78 : m_X6_next_h019 td ftp za = (g_X6_next_230 td ftp za).1 := by unfold m_X6_next_h019; rw [if_neg c_2, if_neg n_8, if_pos p_12]
                      have q_79 : m_X6_next_h020 td ftp za = nI (g_X6_next_0 td ftp za) := by unfold m_X6_next_h020; rw [if_neg c_2, if_neg n_8]
                      have q_80 : m_X6_next_h021 td ftp fwo za = 1 := by unfold m_X6_next_h021; rw [if_neg c_2, if_neg n_8, if_pos p_12, if_pos c_77]
                      have q_81 : m_X6_next_h022 td ftp fwo za = ((g_X6_next_230 td ftp za).2.2) := by unfold m_X6_next_h022; rw [if_neg c_2, if_neg n_8, if_pos p_12]
                      have hz9 : gPD G A [zo6 h0 (nI pb) kd mo st (nI jg) ro tp (nI td) cd sr (nI tx) (nI ru) him ir ih ss sq ce lw (nI (m_X6_next_h019 td ftp za)) (m_X6_next_h020 td ftp za) (m_X6_next_h021 td ftp fwo za) (m_X6_next_h022 td ftp fwo za) wo he s25 s26 s27 sk na kp s31 s32 s33 s34 gb go fa ga s39 s40 vo, zi G tp 160 ftp, zi G wo 96 fwo] H := ⟨by rw [q_78, q_79, q_80, q_81]; exact hP.sub [0, 1, 2] rfl, by rw [q_78, q_79, q_80, q_81]; exact hD.sub [0, 1, 2] (by decide +kernel) rfl⟩
                      have hP9 := hz9.1
                      have hD9 := hz9.2
                      have hpost : (fun (u : Unit) => match u with | _ => za ≤ (m_X6_next_h019 td ftp za) ∧ (m_X6_next_h019 td ftp za) ≤ td ∧ (¬ (m_X6_next_h021 td ftp fwo za) = 0 → za < (m_X6_next_h019 td ftp za)) ∧ ((m_X6_next_h021 td ftp fwo za) = 2 → 0 ≤ (m_X6_next_h022 td ftp fwo za) ∧ (m_X6_next_h022 td ftp fwo za) < 6) ∧ ((m_X6_next_h021 td ftp fwo za) = 1 → 100000 ≤ 100000 + (m_X6_next_h022 td ftp fwo za))) () := nx_facts hza htd
                      exact W.vret hx hb hr (fun t ht hW => ⟨⟨(), rfl, hpost, by rw [ht]; exact hP9, va_K.moved hW.alike hK, hD9⟩, hS.F ht⟩) hS.2.2 dX6_next_403
                    · skip
                      have c_77N : 4 < ((g_X6_next_230 td ftp za).2.1) := nI_le0 (a := ((g_X6_next_230 td ftp za).2.1)) (b := 4) (by omega) (by omega) c_77
                      refine lv_iconst (v := -1) hx hb dX6_next_315 (by decide +kernel) ?_
                      refine lv_goto (tgt := 320) hx hb dX6_next_316 (by decide +kernel) ?_
                      refine va_put (D := G.1) (ci := 6) (v := .int (-1)) (ty := .int) (C := RX6) (T := TX6) (N := 42) hx hb hts hiX6 tyX6 tyX6_ok nmX6 hown hK hP hD hS 0 rfl rfl 21 (by decide +kernel) kf117 (fun _ h9 => h9) rfl (by decide +kernel) rfl rfl (Nat.le_of_ble_eq_true rfl) dX6_next_320 (fun H locs hP hD hS => ?_)
                      have hz9 : gPD G A [zo6 h0 (nI pb) kd mo st (nI jg) ro tp (nI td) cd sr (nI tx) (nI ru) him ir ih ss sq ce lw (nI ((g_X6_next_230 td ftp za).1)) (nI (g_X6_next_0 td ftp za)) (-1) ((g_X6_next_230 td ftp za).2.2) wo he s25 s26 s27 sk na kp s31 s32 s33 s34 gb go fa ga s39 s40 vo, zi G tp 160 ftp, zi G wo 96 fwo] H := ⟨hP, hD⟩
                      have hP := hz9.1
                      have hD := hz9.2
                      refine lv_goto (tgt := 403) hx hb dX6_next_323 (by decide +kernel) ?_
                      have q_82 : m_X6_next_h019 td ftp za = (g_X6_next_230 td ftp za).1 := by unfold m_X6_next_h019; rw [if_neg c_2, if_neg n_8, if_pos p_12]
                      have q_83 : m_X6_next_h020 td ftp za = nI (g_X6_next_0 td ftp za) := by unfold m_X6_next_h020; rw [if_neg c_2, if_neg n_8]
                      have q_84 : m_X6_next_h021 td ftp fwo za = -1 := by unfold m_X6_next_h021; rw [if_neg c_2, if_neg n_8, if_pos p_12, if_neg c_77]
                      have q_85 : m_X6_next_h022 td ftp fwo za = ((g_X6_next_230 td ftp za).2.2) := by unfold m_X6_next_h022; rw [if_neg c_2, if_neg n_8, if_pos p_12]
                      have hz9 : gPD G A [zo6 h0 (nI pb) kd mo st (nI jg) ro tp (nI td) cd sr (nI tx) (nI ru) him ir ih ss sq ce lw (nI (m_X6_next_h019 td ftp za)) (m_X6_next_h020 td ftp za) (m_X6_next_h021 td ftp fwo za) (m_X6_next_h022 td ftp fwo za) wo he s25 s26 s27 sk na kp s31 s32 s33 s34 gb go fa ga s39 s40 vo, zi G tp 160 ftp, zi G wo 96 fwo] H := ⟨by rw [q_82, q_83, q_84, q_85]; exact hP.sub [0, 1, 2] rfl, by rw [q_82, q_83, q_84, q_85]; exact hD.sub [0, 1, 2] (by decide +kernel) rfl⟩
                      have hP9 := hz9.1
                      have hD9 := hz9.2
                      have hpost : (fun (u : Unit) => match u with | _ => za ≤ (m_X6_next_h019 td ftp za) ∧ (m_X6_next_h019 td ftp za) ≤ td ∧ (¬ (m_X6_next_h021 td ftp fwo za) = 0 → za < (m_X6_next_h019 td ftp za)) ∧ ((m_X6_next_h021 td ftp fwo za) = 2 → 0 ≤ (m_X6_next_h022 td ftp fwo za) ∧ (m_X6_next_h022 td ftp fwo za) < 6) ∧ ((m_X6_next_h021 td ftp fwo za) = 1 → 100000 ≤ 100000 + (m_X6_next_h022 td ftp fwo za))) () := nx_facts hza htd
                      exact W.vret hx hb hr (fun t ht hW => ⟨⟨(), rfl, hpost, by rw [ht]; exact hP9, va_K.moved hW.alike hK, hD9⟩, hS.F ht⟩) hS.2.2 dX6_next_403
                  · skip
                    have c_76N : a2 < td := nI_le0 (a := td) (b := a2) (by omega) (by omega) c_76
                    refine lv_aload_n hx hb dX6_next_241 rfl (lv_at hl 2 rfl) ?_
                    refine va_get (D := G.1) (ci := 6) (v := .ref tp) (C := RX6) (T := TX6) (N := 42) hx hb hts hiX6 hown hK hP 0 rfl rfl 6 (by decide +kernel) kf22 (fun _ h9 => h9) rfl dX6_next_242 ?_
                    refine lv_aload_n hx hb dX6_next_245 rfl (lv_at hl 2 rfl) ?_
                    refine va_get (D := G.1) (ci := 6) (v := .int (nI a2)) (C := RX6) (T := TX6) (N := 42) hx hb hts hiX6 hown hK hP 0 rfl rfl 19 (by decide +kernel) kf111 (fun _ h9 => h9) rfl dX6_next_246 ?_
                    refine va_iald (D := G.1) hx hb hK hP 1 0 rfl rfl (i := (nI a2)) (vp_in_nI (by omega) (by omega)) dX6_next_249 ?_
                    refine lv_topi (fun v_86 ev_86 => ?_)
                    have ev_86 : v_86 = ftp a2 := ev_86.trans (by rw [nI_clamp (by omega)])
                    subst ev_86
                    refine lv_bipush (v := 48) hx hb dX6_next_250 (by decide +kernel) ?_
                    refine lv_bipush (v := 57) hx hb dX6_next_252 (by decide +kernel) ?_
                    have hz9 : gPD G A [] H := ⟨hP.sub [] rfl, hD.sub [] (by decide +kernel) rfl⟩
                    have hPc := hz9.1
                    have hDc := hz9.2
                    have hFc := gFree hPc hD hS hA [] rfl
                    refine va_calli (va_runS (As := [.int (ftp a2), .int 48, .int 57]) (rest := []) ⟨hx, hb, hml, hown, hts⟩ (c_X6_in l G (ftp a2) 48 57 H.size) (va_cwS 3 hts gX6_next_X6_in rfl rfl rfl (by decide +kernel) ⟨Nat.le_of_ble_eq_true rfl, Nat.le_of_ble_eq_true rfl⟩) ⟨gPre_blind, fun U hU hW => gPre_of hU hW hK hPc hDc⟩ rfl rfl hl.1 rfl (lv_room (Nat.le_of_ble_eq_true rfl)) dX6_next_254 ⟨Nat.le_of_ble_eq_true rfl, Nat.le_of_ble_eq_true rfl⟩) hS (fun q _ h => hFc q h) hFc (fun r_87 u t H locs ht hvm w_88 hB hz1 hk1 hS => ?_)
                    obtain ⟨hP1, hK1, hD1⟩ := hB
                    rw [ht] at hP1
                    have hz9 : gPD G (va_A _ _) [] H := ⟨hP1, hD1⟩
                    have hP1 := hz9.1
                    have hD1 := hz9.2
                    have w_88 : r_87 = bz (decide (48 ≤ (ftp a2) ∧ (ftp a2) ≤ 57)) := w_88
                    have hz9 : gPD G A [zo6 h0 (nI pb) kd mo st (nI jg) ro tp (nI td) cd sr (nI tx) (nI ru) him ir ih ss sq ce lw (nI a2) (nI (g_X6_next_0 td ftp za)) 0 z22v wo he s25 s26 s27 sk na kp s31 s32 s33 s34 gb go fa ga s39 s40 vo, zi G tp 160 ftp, zi G wo 96 fwo] H := gJoin hP hD hk1 hFc hP1 hD1 [] [0, 1, 2] rfl rfl rfl (by decide +kernel) (by decide +kernel)
                    have hP := hz9.1
                    have hD := hz9.2
                    subst w_88
                    refine lv_if_eq (tgt := 309) hx hb dX6_next_257 (by decide +kernel) (fun c_89 => ?_) (fun c_89 => ?_)
                    · skip
                      have n_91 : ¬ (48 ≤ (ftp a2) ∧ (ftp a2) ≤ 57) := of_decide_eq_false (bz_eq rfl c_89)
                      have hF230 : (g_X6_next_230 td ftp za) = (a2, n2, z22v) := R230.symm.trans ((congrArg (fun z9 => p_X6_next_230 ftp (z9) a2 n2 z22v) (show td - a2 = td - (a2 + 1) + 1 by omega)).trans (by show p_X6_next_230 ftp (td - (a2 + 1) + 1) a2 n2 z22v = _; rw [p_X6_next_230, if_neg n_91]))
                      have hE230_0 : a2 = ((g_X6_next_230 td ftp za).1) := by rw [hF230]
                      have hE230_1 : n2 = ((g_X6_next_230 td ftp za).2.1) := by rw [hF230]
                      have hE230_2 : z22v = ((g_X6_next_230 td ftp za).2.2) := by rw [hF230]
                      clear hF230 R230
                      subst hE230_0
                      subst hE230_1
                      subst hE230_2
                      refine lv_aload_n hx hb dX6_next_309 rfl (lv_at hl 2 rfl) ?_
                      refine lv_iload_n hx hb dX6_next_310 rfl (lv_at hl 0 rfl) ?_
                      refine lv_iconst (v := 4) hx hb dX6_next_311 (by decide +kernel) ?_
                      refine lv_icmp_le (tgt := 319) hx hb dX6_next_312 (by decide +kernel) (fun c_92 => ?_) (fun c_92 => ?_)
                      · skip
                        have c_92N : ((g_X6_next_230 td ftp za).2.1) ≤ 4 := nI_le1 (a := ((g_X6_next_230 td ftp za).2.1)) (b := 4) (by omega) (by omega) c_92
                        refine lv_iconst (v := 1) hx hb dX6_next_319 (by decide +kernel) ?_
                        refine va_put (D := G.1) (ci := 6) (v := .int 1) (ty := .int) (C := RX6) (T := TX6) (N := 42) hx hb hts hiX6 tyX6 tyX6_ok nmX6 hown hK hP hD hS 0 rfl rfl 21 (by decide +kernel) kf117 (fun _ h9 => h9) rfl (by decide +kernel) rfl rfl (Nat.le_of_ble_eq_true rfl) dX6_next_320 (fun H locs hP hD hS => ?_)
                        have hz9 : gPD G A [zo6 h0 (nI pb) kd mo st (nI jg) ro tp (nI td) cd sr (nI tx) (nI ru) him ir ih ss sq ce lw (nI ((g_X6_next_230 td ftp za).1)) (nI (g_X6_next_0 td ftp za)) 1 ((g_X6_next_230 td ftp za).2.2) wo he s25 s26 s27 sk na kp s31 s32 s33 s34 gb go fa ga s39 s40 vo, zi G tp 160 ftp, zi G wo 96 fwo] H := ⟨hP, hD⟩
                        have hP := hz9.1
                        have hD := hz9.2
                        refine lv_goto (tgt := 403) hx hb dX6_next_323 (by decide +kernel) ?_
                        have q_93 : m_X6_next_h019 td ftp za = (g_X6_next_230 td ftp za).1 := by unfold m_X6_next_h019; rw [if_neg c_2, if_neg n_8, if_pos p_12]
                        have q_94 : m_X6_next_h020 td ftp za = nI (g_X6_next_0 td ftp za) := by unfold m_X6_next_h020; rw [if_neg c_2, if_neg n_8]
                        have q_95 : m_X6_next_h021 td ftp fwo za = 1 := by unfold m_X6_next_h021; rw [if_neg c_2, if_neg n_8, if_pos p_12, if_pos c_92]
                        have q_96 : m_X6_next_h022 td ftp fwo za = ((g_X6_next_230 td ftp za).2.2) := by unfold m_X6_next_h022; rw [if_neg c_2, if_neg n_8, if_pos p_12]
                        have hz9 : gPD G A [zo6 h0 (nI pb) kd mo st (nI jg) ro tp (nI td) cd sr (nI tx) (nI ru) him ir ih ss sq ce lw (nI (m_X6_next_h019 td ftp za)) (m_X6_next_h020 td ftp za) (m_X6_next_h021 td ftp fwo za) (m_X6_next_h022 td ftp fwo za) wo he s25 s26 s27 sk na kp s31 s32 s33 s34 gb go fa ga s39 s40 vo, zi G tp 160 ftp, zi G wo 96 fwo] H := ⟨by rw [q_93, q_94, q_95, q_96]; exact hP.sub [0, 1, 2] rfl, by rw [q_93, q_94, q_95, q_96]; exact hD.sub [0, 1, 2] (by decide +kernel) rfl⟩
                        have hP9 := hz9.1
                        have hD9 := hz9.2
                        have hpost : (fun (u : Unit) => match u with | _ => za ≤ (m_X6_next_h019 td ftp za) ∧ (m_X6_next_h019 td ftp za) ≤ td ∧ (¬ (m_X6_next_h021 td ftp fwo za) = 0 → za < (m_X6_next_h019 td ftp za)) ∧ ((m_X6_next_h021 td ftp fwo za) = 2 → 0 ≤ (m_X6_next_h022 td ftp fwo za) ∧ (m_X6_next_h022 td ftp fwo za) < 6) ∧ ((m_X6_next_h021 td ftp fwo za) = 1 → 100000 ≤ 100000 + (m_X6_next_h022 td ftp fwo za))) () := nx_facts hza htd
                        exact W.vret hx hb hr (fun t ht hW => ⟨⟨(), rfl, hpost, by rw [ht]; exact hP9, va_K.moved hW.alike hK, hD9⟩, hS.F ht⟩) hS.2.2 dX6_next_403
                      · skip
                        have c_92N : 4 < ((g_X6_next_230 td ftp za).2.1) := nI_le0 (a := ((g_X6_next_230 td ftp za).2.1)) (b := 4) (by omega) (by omega) c_92
                        refine lv_iconst (v := -1) hx hb dX6_next_315 (by decide +kernel) ?_
                        refine lv_goto (tgt := 320) hx hb dX6_next_316 (by decide +kernel) ?_
                        refine va_put (D := G.1) (ci := 6) (v := .int (-1)) (ty := .int) (C := RX6) (T := TX6) (N := 42) hx hb hts hiX6 tyX6 tyX6_ok nmX6 hown hK hP hD hS 0 rfl rfl 21 (by decide +kernel) kf117 (fun _ h9 => h9) rfl (by decide +kernel) rfl rfl (Nat.le_of_ble_eq_true rfl) dX6_next_320 (fun H locs hP hD hS => ?_)
                        have hz9 : gPD G A [zo6 h0 (nI pb) kd mo st (nI jg) ro tp (nI td) cd sr (nI tx) (nI ru) him ir ih ss sq ce lw (nI ((g_X6_next_230 td ftp za).1)) (nI (g_X6_next_0 td ftp za)) (-1) ((g_X6_next_230 td ftp za).2.2) wo he s25 s26 s27 sk na kp s31 s32 s33 s34 gb go fa ga s39 s40 vo, zi G tp 160 ftp, zi G wo 96 fwo] H := ⟨hP, hD⟩
                        have hP := hz9.1
                        have hD := hz9.2
                        refine lv_goto (tgt := 403) hx hb dX6_next_323 (by decide +kernel) ?_
                        have q_97 : m_X6_next_h019 td ftp za = (g_X6_next_230 td ftp za).1 := by unfold m_X6_next_h019; rw [if_neg c_2, if_neg n_8, if_pos p_12]
                        have q_98 : m_X6_next_h020 td ftp za = nI (g_X6_next_0 td ftp za) := by unfold m_X6_next_h020; rw [if_neg c_2, if_neg n_8]
                        have q_99 : m_X6_next_h021 td ftp fwo za = -1 := by unfold m_X6_next_h021; rw [if_neg c_2, if_neg n_8, if_pos p_12, if_neg c_92]
                        have q_100 : m_X6_next_h022 td ftp fwo za = ((g_X6_next_230 td ftp za).2.2) := by unfold m_X6_next_h022; rw [if_neg c_2, if_neg n_8, if_pos p_12]
                        have hz9 : gPD G A [zo6 h0 (nI pb) kd mo st (nI jg) ro tp (nI td) cd sr (nI tx) (nI ru) him ir ih ss sq ce lw (nI (m_X6_next_h019 td ftp za)) (m_X6_next_h020 td ftp za) (m_X6_next_h021 td ftp fwo za) (m_X6_next_h022 td ftp fwo za) wo he s25 s26 s27 sk na kp s31 s32 s33 s34 gb go fa ga s39 s40 vo, zi G tp 160 ftp, zi G wo 96 fwo] H := ⟨by rw [q_97, q_98, q_99, q_100]; exact hP.sub [0, 1, 2] rfl, by rw [q_97, q_98, q_99, q_100]; exact hD.sub [0, 1, 2] (by decide +kernel) rfl⟩
                        have hP9 := hz9.1
                        have hD9 := hz9.2
                        have hpost : (fun (u : Unit) => match u with | _ => za ≤ (m_X6_next_h019 td ftp za) ∧ (m_X6_next_h019 td ftp za) ≤ td ∧ (¬ (m_X6_next_h021 td ftp fwo za) = 0 → za < (m_X6_next_h019 td ftp za)) ∧ ((m_X6_next_h021 td ftp fwo za) = 2 → 0 ≤ (m_X6_next_h022 td ftp fwo za) ∧ (m_X6_next_h022 td ftp fwo za) < 6) ∧ ((m_X6_next_h021 td ftp fwo za) = 1 → 100000 ≤ 100000 + (m_X6_next_h022 td ftp fwo za))) () := nx_facts hza htd
                        exact W.vret hx hb hr (fun t ht hW => ⟨⟨(), rfl, hpost, by rw [ht]; exact hP9, va_K.moved hW.alike hK, hD9⟩, hS.F ht⟩) hS.2.2 dX6_next_403
                    · skip
                      have p_90 : 48 ≤ (ftp a2) ∧ (ftp a2) ≤ 57 := of_decide_eq_true (bz_ne rfl c_89)
                      refine lv_aload_n hx hb dX6_next_260 rfl (lv_at hl 2 rfl) ?_
                      refine lv_iload_n hx hb dX6_next_261 rfl (lv_at hl 0 rfl) ?_
                      refine lv_iconst (v := 4) hx hb dX6_next_262 (by decide +kernel) ?_
                      refine lv_icmp_ge (tgt := 289) hx hb dX6_next_263 (by decide +kernel) (fun c_101 => ?_) (fun c_101 => ?_)
                      · skip
                        have c_101N : 4 ≤ n2 := nI_le1 (a := 4) (b := n2) (by omega) (by omega) c_101
                        refine lv_iconst (v := 0) hx hb dX6_next_289 (by decide +kernel) ?_
                        refine va_put (D := G.1) (ci := 6) (v := .int 0) (ty := .int) (C := RX6) (T := TX6) (N := 42) hx hb hts hiX6 tyX6 tyX6_ok nmX6 hown hK hP hD hS 0 rfl rfl 22 (by decide +kernel) kf120 (fun _ h9 => h9) rfl (by decide +kernel) rfl rfl (Nat.le_of_ble_eq_true rfl) dX6_next_290 (fun H locs hP hD hS => ?_)
                        have hz9 : gPD G A [zo6 h0 (nI pb) kd mo st (nI jg) ro tp (nI td) cd sr (nI tx) (nI ru) him ir ih ss sq ce lw (nI a2) (nI (g_X6_next_0 td ftp za)) 0 0 wo he s25 s26 s27 sk na kp s31 s32 s33 s34 gb go fa ga s39 s40 vo, zi G tp 160 ftp, zi G wo 96 fwo] H := ⟨hP, hD⟩
                        have hP := hz9.1
                        have hD := hz9.2
                        refine lv_iinc (v := nI (n2 + 1)) (lv' := [zI 2 (nI (n2 + 1)), zI 1 (ftp (g_X6_next_0 td ftp za)), zR 0 h0]) hx hb dX6_next_293 hl (k := 0) rfl (nI_add n2 1) (by decide +kernel) rfl (fun ls hl => ?_)
                        refine lv_aload_n hx hb dX6_next_296 rfl (lv_at hl 2 rfl) ?_
                        refine lv_dup hx hb dX6_next_297 rfl ?_
                        refine va_get (D := G.1) (ci := 6) (v := .int (nI a2)) (C := RX6) (T := TX6) (N := 42) hx hb hts hiX6 hown hK hP 0 rfl rfl 19 (by decide +kernel) kf111 (fun _ h9 => h9) rfl dX6_next_298 ?_
                        refine lv_iconst (v := 1) hx hb dX6_next_301 (by decide +kernel) ?_
                        refine lv_iadd hx hb dX6_next_302 ?_
                        refine lv_topi (fun v_102 ev_102 => ?_)
                        have ev_102 : v_102 = nI (a2 + 1) := ev_102.trans (nI_add a2 1)
                        subst ev_102
                        refine va_put (D := G.1) (ci := 6) (v := .int (nI (a2 + 1))) (ty := .int) (C := RX6) (T := TX6) (N := 42) hx hb hts hiX6 tyX6 tyX6_ok nmX6 hown hK hP hD hS 0 rfl rfl 19 (by decide +kernel) kf111 (fun _ h9 => h9) rfl (by decide +kernel) rfl rfl (Nat.le_of_ble_eq_true rfl) dX6_next_303 (fun H locs hP hD hS => ?_)
                        have hz9 : gPD G A [zo6 h0 (nI pb) kd mo st (nI jg) ro tp (nI td) cd sr (nI tx) (nI ru) him ir ih ss sq ce lw (nI (a2 + 1)) (nI (g_X6_next_0 td ftp za)) 0 0 wo he s25 s26 s27 sk na kp s31 s32 s33 s34 gb go fa ga s39 s40 vo, zi G tp 160 ftp, zi G wo 96 fwo] H := ⟨hP, hD⟩
                        have hP := hz9.1
                        have hD := hz9.2
                        refine lv_goto (tgt := 230) hx hb dX6_next_306 (by decide +kernel) ?_
                        exact ih9_230 (a2 + 1) (n2 + 1) 0 (by omega) (Eq.trans (Eq.symm ((congrArg (fun z9 => p_X6_next_230 ftp (z9) a2 n2 z22v) (show td - a2 = td - (a2 + 1) + 1 by omega)).trans (by show p_X6_next_230 ftp (td - (a2 + 1) + 1) a2 n2 z22v = _; rw [p_X6_next_230, if_pos p_90, if_pos c_101]))) R230) (by omega) (by omega) _ _ (hP.sub [0, 1, 2] rfl) (hD.sub [0, 1, 2] (by decide +kernel) rfl) hS ls (lv_sub hl [0, 1, 2] rfl)
                      · skip
                        have c_101N : n2 < 4 := nI_le0 (a := 4) (b := n2) (by omega) (by omega) c_101
                        refine lv_bipush (v := 10) hx hb dX6_next_266 (by decide +kernel) ?_
                        refine lv_aload_n hx hb dX6_next_268 rfl (lv_at hl 2 rfl) ?_
                        refine va_get (D := G.1) (ci := 6) (v := .int z22v) (C := RX6) (T := TX6) (N := 42) hx hb hts hiX6 hown hK hP 0 rfl rfl 22 (by decide +kernel) kf120 (fun _ h9 => h9) rfl dX6_next_269 ?_
                        refine lv_imul hx hb dX6_next_272 ?_
                        refine lv_aload_n hx hb dX6_next_273 rfl (lv_at hl 2 rfl) ?_
                        refine va_get (D := G.1) (ci := 6) (v := .ref tp) (C := RX6) (T := TX6) (N := 42) hx hb hts hiX6 hown hK hP 0 rfl rfl 6 (by decide +kernel) kf22 (fun _ h9 => h9) rfl dX6_next_274 ?_
                        refine lv_aload_n hx hb dX6_next_277 rfl (lv_at hl 2 rfl) ?_
                        refine va_get (D := G.1) (ci := 6) (v := .int (nI a2)) (C := RX6) (T := TX6) (N := 42) hx hb hts hiX6 hown hK hP 0 rfl rfl 19 (by decide +kernel) kf111 (fun _ h9 => h9) rfl dX6_next_278 ?_
                        refine va_iald (D := G.1) hx hb hK hP 1 0 rfl rfl (i := (nI a2)) (vp_in_nI (by omega) (by omega)) dX6_next_281 ?_
                        refine lv_topi (fun v_103 ev_103 => ?_)
                        have ev_103 : v_103 = ftp a2 := ev_103.trans (by rw [nI_clamp (by omega)])
                        subst ev_103
                        refine lv_iadd hx hb dX6_next_282 ?_
                        refine lv_bipush (v := 48) hx hb dX6_next_283 (by decide +kernel) ?_
                        refine lv_isub hx hb dX6_next_285 ?_
                        refine lv_goto (tgt := 290) hx hb dX6_next_286 (by decide +kernel) ?_
                        refine va_put (D := G.1) (ci := 6) (v := .int (((10 * z22v) + (ftp a2)) - 48)) (ty := .int) (C := RX6) (T := TX6) (N := 42) hx hb hts hiX6 tyX6 tyX6_ok nmX6 hown hK hP hD hS 0 rfl rfl 22 (by decide +kernel) kf120 (fun _ h9 => h9) rfl (by decide +kernel) rfl rfl (Nat.le_of_ble_eq_true rfl) dX6_next_290 (fun H locs hP hD hS => ?_)
                        have hz9 : gPD G A [zo6 h0 (nI pb) kd mo st (nI jg) ro tp (nI td) cd sr (nI tx) (nI ru) him ir ih ss sq ce lw (nI a2) (nI (g_X6_next_0 td ftp za)) 0 (((10 * z22v) + (ftp a2)) - 48) wo he s25 s26 s27 sk na kp s31 s32 s33 s34 gb go fa ga s39 s40 vo, zi G tp 160 ftp, zi G wo 96 fwo] H := ⟨hP, hD⟩
                        have hP := hz9.1
                        have hD := hz9.2
                        refine lv_iinc (v := nI (n2 + 1)) (lv' := [zI 2 (nI (n2 + 1)), zI 1 (ftp (g_X6_next_0 td ftp za)), zR 0 h0]) hx hb dX6_next_293 hl (k := 0) rfl (nI_add n2 1) (by decide +kernel) rfl (fun ls hl => ?_)
                        refine lv_aload_n hx hb dX6_next_296 rfl (lv_at hl 2 rfl) ?_
                        refine lv_dup hx hb dX6_next_297 rfl ?_
                        refine va_get (D := G.1) (ci := 6) (v := .int (nI a2)) (C := RX6) (T := TX6) (N := 42) hx hb hts hiX6 hown hK hP 0 rfl rfl 19 (by decide +kernel) kf111 (fun _ h9 => h9) rfl dX6_next_298 ?_
                        refine lv_iconst (v := 1) hx hb dX6_next_301 (by decide +kernel) ?_
                        refine lv_iadd hx hb dX6_next_302 ?_
                        refine lv_topi (fun v_104 ev_104 => ?_)
                        have ev_104 : v_104 = nI (a2 + 1) := ev_104.trans (nI_add a2 1)
                        subst ev_104
                        refine va_put (D := G.1) (ci := 6) (v := .int (nI (a2 + 1))) (ty := .int) (C := RX6) (T := TX6) (N := 42) hx hb hts hiX6 tyX6 tyX6_ok nmX6 hown hK hP hD hS 0 rfl rfl 19 (by decide +kernel) kf111 (fun _ h9 => h9) rfl (by decide +kernel) rfl rfl (Nat.le_of_ble_eq_true rfl) dX6_next_303 (fun H locs hP hD hS => ?_)
                        have hz9 : gPD G A [zo6 h0 (nI pb) kd mo st (nI jg) ro tp (nI td) cd sr (nI tx) (nI ru) him ir ih ss sq ce lw (nI (a2 + 1)) (nI (g_X6_next_0 td ftp za)) 0 (((10 * z22v) + (ftp a2)) - 48) wo he s25 s26 s27 sk na kp s31 s32 s33 s34 gb go fa ga s39 s40 vo, zi G tp 160 ftp, zi G wo 96 fwo] H := ⟨hP, hD⟩
                        have hP := hz9.1
                        have hD := hz9.2
                        refine lv_goto (tgt := 230) hx hb dX6_next_306 (by decide +kernel) ?_
                        exact ih9_230 (a2 + 1) (n2 + 1) (((10 * z22v) + (ftp a2)) - 48) (by omega) (Eq.trans (Eq.symm ((congrArg (fun z9 => p_X6_next_230 ftp (z9) a2 n2 z22v) (show td - a2 = td - (a2 + 1) + 1 by omega)).trans (by show p_X6_next_230 ftp (td - (a2 + 1) + 1) a2 n2 z22v = _; rw [p_X6_next_230, if_pos p_90, if_neg c_101]))) R230) (by omega) (by omega) _ _ (hP.sub [0, 1, 2] rfl) (hD.sub [0, 1, 2] (by decide +kernel) rfl) hS ls (lv_sub hl [0, 1, 2] rfl)
              exact loop_230 (td - (g_X6_next_0 td ftp za) + 1) (g_X6_next_0 td ftp za) 0 0 (by omega) (rfl) (Nat.zero_le _) (by omega) _ _ (hP.sub [0, 1, 2] rfl) (hD.sub [0, 1, 2] (by decide +kernel) rfl) hS ls (lv_sub hl [0, 1, 2] rfl)
          · skip
            have p_7 : 97 ≤ (ftp (g_X6_next_0 td ftp za)) ∧ (ftp (g_X6_next_0 td ftp za)) ≤ 122 := of_decide_eq_true (bz_ne rfl c_6)
            have loop_103 : ∀ (n9 : Nat) (a1 : Nat), (a1 ≤ td) → (p_X6_next_103 ftp (td - a1) a1  = (g_X6_next_103 td ftp za)) → (td - a1) < n9 → ∀ (H : Heap) (locs : List Loc), va_P G.1 vwCl [zo6 h0 (nI pb) kd mo st (nI jg) ro tp (nI td) cd sr (nI tx) (nI ru) him ir ih ss sq ce lw (nI a1) (nI (g_X6_next_0 td ftp za)) 0 0 wo he s25 s26 s27 sk na kp s31 s32 s33 s34 gb go fa ga s39 s40 vo, zi G tp 160 ftp, zi G wo 96 fwo] H → va_D A [zo6 h0 (nI pb) kd mo st (nI jg) ro tp (nI td) cd sr (nI tx) (nI ru) him ir ih ss sq ce lw (nI a1) (nI (g_X6_next_0 td ftp za)) 0 0 wo he s25 s26 s27 sk na kp s31 s32 s33 s34 gb go fa ga s39 s40 vo, zi G tp 160 ftp, zi G wo 96 fwo] → va_S A s.heap H locs → ∀ ls : Array Slot, lv_has ls 3 [zI 1 (ftp (g_X6_next_0 td ftp za)), zR 0 h0] → W p l e (headSpec wsX6_next ({ frames := 1, cells := 0, slots := 0, locals := 25 })).room s m ([.ref h0] : List Value).toArray below meth c H locs 0 0 (MQ below (q_X6_next_b G h0 kd mo st ro tp cd sr ir ih ss sq ce lw wo he sk na kp gb go fa ga vo pb jg td tx ru him s20 s21 s22 s25 s26 s27 s31 s32 s33 s34 s39 s40 ftp fwo za A) ([.ref h0] : List Value).toArray s 0 0 A) (F0 m 103 ls []) := by
              intro n9
              induction n9 with
              | zero => intro a1 ha1 R103 hm9_103; exact absurd hm9_103 (Nat.not_lt_zero _)
              | succ n9 ih9_103 =>
                intro a1 ha1 R103 hm9_103 H locs hP hD hS ls hl
                refine lv_aload_n hx hb dX6_next_103 rfl (lv_at hl 1 rfl) ?_
                refine va_get (D := G.1) (ci := 6) (v := .int (nI a1)) (C := RX6) (T := TX6) (N := 42) hx hb hts hiX6 hown hK hP 0 rfl rfl 19 (by decide +kernel) kf111 (fun _ h9 => h9) rfl dX6_next_104 ?_
                refine lv_aload_n hx hb dX6_next_107 rfl (lv_at hl 1 rfl) ?_
                refine va_get (D := G.1) (ci := 6) (v := .int (nI td)) (C := RX6) (T := TX6) (N := 42) hx hb hts hiX6 hown hK hP 0 rfl rfl 7 (by decide +kernel) kf80 (fun _ h9 => h9) rfl dX6_next_108 ?_
                refine lv_icmp_ge (tgt := 146) hx hb dX6_next_111 (by decide +kernel) (fun c_105 => ?_) (fun c_105 => ?_)
                · skip
                  have c_105N : td ≤ a1 := nI_le1 (a := td) (b := a1) (by omega) (by omega) c_105
                  have hF103 : (g_X6_next_103 td ftp za) = a1 := by rw [← R103, show td - a1 = 0 by omega]; rfl
                  have hE103_0 : a1 = (g_X6_next_103 td ftp za) := by rw [hF103]
                  clear hF103 R103
                  subst hE103_0
                  refine lv_aload_n hx hb dX6_next_146 rfl (lv_at hl 1 rfl) ?_
                  refine lv_aload_n hx hb dX6_next_147 rfl (lv_at hl 1 rfl) ?_
                  refine va_get (D := G.1) (ci := 6) (v := .int (nI (g_X6_next_0 td ftp za))) (C := RX6) (T := TX6) (N := 42) hx hb hts hiX6 hown hK hP 0 rfl rfl 20 (by decide +kernel) kf114 (fun _ h9 => h9) rfl dX6_next_148 ?_
                  refine lv_aload_n hx hb dX6_next_151 rfl (lv_at hl 1 rfl) ?_
                  refine va_get (D := G.1) (ci := 6) (v := .int (nI (g_X6_next_103 td ftp za))) (C := RX6) (T := TX6) (N := 42) hx hb hts hiX6 hown hK hP 0 rfl rfl 19 (by decide +kernel) kf111 (fun _ h9 => h9) rfl dX6_next_152 ?_
                  have hz9 : gPD G A [zo6 h0 (nI pb) kd mo st (nI jg) ro tp (nI td) cd sr (nI tx) (nI ru) him ir ih ss sq ce lw (nI (g_X6_next_103 td ftp za)) (nI (g_X6_next_0 td ftp za)) 0 0 wo he s25 s26 s27 sk na kp s31 s32 s33 s34 gb go fa ga s39 s40 vo, zi G tp 160 ftp, zi G wo 96 fwo] H := ⟨hP.sub [0, 1, 2] rfl, hD.sub [0, 1, 2] (by decide +kernel) rfl⟩
                  have hPc := hz9.1
                  have hDc := hz9.2
                  have hFc := gFree hPc hD hS hA [0, 1, 2] rfl
                  refine va_calli (va_runV (As := [.int (nI (g_X6_next_0 td ftp za)), .int (nI (g_X6_next_103 td ftp za))]) (rest := []) ⟨hx, hb, hml, hown, hts⟩ (c_X6_wordFrom_b l G h0 kd mo st ro tp cd sr ir ih ss sq ce lw wo he sk na kp gb go fa ga vo pb jg td tx ru him (nI (g_X6_next_103 td ftp za)) (nI (g_X6_next_0 td ftp za)) 0 0 s25 s26 s27 s31 s32 s33 s34 s39 s40 ftp fwo (g_X6_next_0 td ftp za) (g_X6_next_103 td ftp za) H.size (⟨(n1_le (ftp := ftp) (td - g_X6_next_0 td ftp za) (g_X6_next_0 td ftp za)).1, by omega⟩)) (cwV 2 hts gX6_next_X6_wordFrom rfl rfl rfl (by decide +kernel) ⟨Nat.le_of_ble_eq_true rfl, Nat.le_of_ble_eq_true rfl⟩) ⟨gPre_blind, va_recv hK hPc (ci := 6) (q0 := 0) rfl rfl, fun U hU hW => gPre_of hU hW hK hPc hDc⟩ rfl rfl hl.1 rfl (lv_room (Nat.le_of_ble_eq_true rfl)) dX6_next_155 ⟨Nat.le_of_ble_eq_true rfl, Nat.le_of_ble_eq_true rfl⟩) hS (fun q _ h => hFc q h) hFc (fun r_106 u t H locs ht hvm w_107 hB hz1 hk1 hS => ?_)
                  obtain ⟨hP1, hK1, hD1⟩ := hB
                  rw [ht] at hP1
                  have hz9 : gPD G (va_A _ _) [zo6 h0 (nI pb) kd mo st (nI jg) ro tp (nI td) cd sr (nI tx) (nI ru) him ir ih ss sq ce lw (nI (g_X6_next_103 td ftp za)) (nI (g_X6_next_0 td ftp za)) 0 0 wo he s25 s26 s27 sk na kp s31 s32 s33 s34 gb go fa ga s39 s40 vo, zi G tp 160 ftp, zi G wo 96 fwo] H := ⟨hP1, hD1⟩
                  have hP1 := hz9.1
                  have hD1 := hz9.2
                  have w_107 : r_106 = m_X6_wordFrom ftp fwo (g_X6_next_0 td ftp za) (g_X6_next_103 td ftp za) := w_107
                  have hz9 : gPD G A [zo6 h0 (nI pb) kd mo st (nI jg) ro tp (nI td) cd sr (nI tx) (nI ru) him ir ih ss sq ce lw (nI (g_X6_next_103 td ftp za)) (nI (g_X6_next_0 td ftp za)) 0 0 wo he s25 s26 s27 sk na kp s31 s32 s33 s34 gb go fa ga s39 s40 vo, zi G tp 160 ftp, zi G wo 96 fwo] H := gJoin hP hD hk1 hFc hP1 hD1 [0, 1, 2] [] rfl rfl rfl (by decide +kernel) (by decide +kernel)
                  have hP := hz9.1
                  have hD := hz9.2
                  subst w_107
                  refine lv_istore_n (lv' := [zI 2 (m_X6_wordFrom ftp fwo (g_X6_next_0 td ftp za) (g_X6_next_103 td ftp za)), zI 1 (ftp (g_X6_next_0 td ftp za)), zR 0 h0]) hx hb dX6_next_158 rfl hl (by decide +kernel) rfl (fun ls hl => ?_)
                  refine lv_aload_n hx hb dX6_next_159 rfl (lv_at hl 2 rfl) ?_
                  refine lv_iload_n hx hb dX6_next_160 rfl (lv_at hl 0 rfl) ?_
                  refine lv_iconst (v := 3) hx hb dX6_next_161 (by decide +kernel) ?_
                  refine lv_icmp_ge (tgt := 169) hx hb dX6_next_162 (by decide +kernel) (fun c_108 => ?_) (fun c_108 => ?_)
                  · skip
                    refine lv_iload_n hx hb dX6_next_169 rfl (lv_at hl 0 rfl) ?_
                    refine lv_bipush (v := 9) hx hb dX6_next_170 (by decide +kernel) ?_
                    refine lv_icmp_ge (tgt := 179) hx hb dX6_next_172 (by decide +kernel) (fun c_109 => ?_) (fun c_109 => ?_)
                    · skip
                      refine lv_iload_n hx hb dX6_next_179 rfl (lv_at hl 0 rfl) ?_
                      refine lv_bipush (v := 12) hx hb dX6_next_180 (by decide +kernel) ?_
                      refine lv_icmp_ne (tgt := 189) hx hb dX6_next_182 (by decide +kernel) (fun c_110 => ?_) (fun c_110 => ?_)
                      · skip
                        refine lv_iconst (v := 4) hx hb dX6_next_189 (by decide +kernel) ?_
                        refine lv_iload_n hx hb dX6_next_190 rfl (lv_at hl 0 rfl) ?_
                        refine lv_iadd hx hb dX6_next_191 ?_
                        refine lv_bipush (v := 9) hx hb dX6_next_192 (by decide +kernel) ?_
                        refine lv_isub hx hb dX6_next_194 ?_
                        refine va_put (D := G.1) (ci := 6) (v := .int ((4 + (m_X6_wordFrom ftp fwo (g_X6_next_0 td ftp za) (g_X6_next_103 td ftp za))) - 9)) (ty := .int) (C := RX6) (T := TX6) (N := 42) hx hb hts hiX6 tyX6 tyX6_ok nmX6 hown hK hP hD hS 0 rfl rfl 21 (by decide +kernel) kf117 (fun _ h9 => h9) rfl (by decide +kernel) rfl rfl (Nat.le_of_ble_eq_true rfl) dX6_next_195 (fun H locs hP hD hS => ?_)
                        have hz9 : gPD G A [zo6 h0 (nI pb) kd mo st (nI jg) ro tp (nI td) cd sr (nI tx) (nI ru) him ir ih ss sq ce lw (nI (g_X6_next_103 td ftp za)) (nI (g_X6_next_0 td ftp za)) ((4 + (m_X6_wordFrom ftp fwo (g_X6_next_0 td ftp za) (g_X6_next_103 td ftp za))) - 9) 0 wo he s25 s26 s27 sk na kp s31 s32 s33 s34 gb go fa ga s39 s40 vo, zi G tp 160 ftp, zi G wo 96 fwo] H := ⟨hP, hD⟩
                        have hP := hz9.1
                        have hD := hz9.2
                        refine lv_aload_n hx hb dX6_next_198 rfl (lv_at hl 2 rfl) ?_
                        refine lv_iload_n hx hb dX6_next_199 rfl (lv_at hl 0 rfl) ?_
                        refine lv_iconst (v := 3) hx hb dX6_next_200 (by decide +kernel) ?_
                        refine lv_icmp_ge (tgt := 208) hx hb dX6_next_201 (by decide +kernel) (fun c_111 => ?_) (fun c_111 => ?_)
                        rotate_left
                        · exact absurd (c_108) c_111
                        refine lv_iload_n hx hb dX6_next_208 rfl (lv_at hl 0 rfl) ?_
                        refine lv_iconst (v := 3) hx hb dX6_next_209 (by decide +kernel) ?_
                        refine lv_isub hx hb dX6_next_210 ?_
                        refine va_put (D := G.1) (ci := 6) (v := .int ((m_X6_wordFrom ftp fwo (g_X6_next_0 td ftp za) (g_X6_next_103 td ftp za)) - 3)) (ty := .int) (C := RX6) (T := TX6) (N := 42) hx hb hts hiX6 tyX6 tyX6_ok nmX6 hown hK hP hD hS 0 rfl rfl 22 (by decide +kernel) kf120 (fun _ h9 => h9) rfl (by decide +kernel) rfl rfl (Nat.le_of_ble_eq_true rfl) dX6_next_211 (fun H locs hP hD hS => ?_)
                        have hz9 : gPD G A [zo6 h0 (nI pb) kd mo st (nI jg) ro tp (nI td) cd sr (nI tx) (nI ru) him ir ih ss sq ce lw (nI (g_X6_next_103 td ftp za)) (nI (g_X6_next_0 td ftp za)) ((4 + (m_X6_wordFrom ftp fwo (g_X6_next_0 td ftp za) (g_X6_next_103 td ftp za))) - 9) ((m_X6_wordFrom ftp fwo (g_X6_next_0 td ftp za) (g_X6_next_103 td ftp za)) - 3) wo he s25 s26 s27 sk na kp s31 s32 s33 s34 gb go fa ga s39 s40 vo, zi G tp 160 ftp, zi G wo 96 fwo] H := ⟨hP, hD⟩
                        have hP := hz9.1
                        have hD := hz9.2
                        refine lv_goto (tgt := 403) hx hb dX6_next_214 (by decide +kernel) ?_
                        have q_112 : m_X6_next_h019 td ftp za = g_X6_next_103 td ftp za := by unfold m_X6_next_h019; rw [if_neg c_2, if_pos p_7]
                        have q_113 : m_X6_next_h020 td ftp za = (nI (g_X6_next_0 td ftp za)) := by unfold m_X6_next_h020; rw [if_neg c_2, if_pos p_7]
                        have q_114 : m_X6_next_h021 td ftp fwo za = (4 + (m_X6_wordFrom ftp fwo (g_X6_next_0 td ftp za) (g_X6_next_103 td ftp za))) - 9 := by unfold m_X6_next_h021; rw [if_neg c_2, if_pos p_7, if_pos c_108, if_pos c_109, if_neg c_110]
                        have q_115 : m_X6_next_h022 td ftp fwo za = (m_X6_wordFrom ftp fwo (g_X6_next_0 td ftp za) (g_X6_next_103 td ftp za)) - 3 := by unfold m_X6_next_h022; rw [if_neg c_2, if_pos p_7, if_pos c_108]
                        have hz9 : gPD G A [zo6 h0 (nI pb) kd mo st (nI jg) ro tp (nI td) cd sr (nI tx) (nI ru) him ir ih ss sq ce lw (nI (m_X6_next_h019 td ftp za)) (m_X6_next_h020 td ftp za) (m_X6_next_h021 td ftp fwo za) (m_X6_next_h022 td ftp fwo za) wo he s25 s26 s27 sk na kp s31 s32 s33 s34 gb go fa ga s39 s40 vo, zi G tp 160 ftp, zi G wo 96 fwo] H := ⟨by rw [q_112, q_113, q_114, q_115]; exact hP.sub [0, 1, 2] rfl, by rw [q_112, q_113, q_114, q_115]; exact hD.sub [0, 1, 2] (by decide +kernel) rfl⟩
                        have hP9 := hz9.1
                        have hD9 := hz9.2
                        have hpost : (fun (u : Unit) => match u with | _ => za ≤ (m_X6_next_h019 td ftp za) ∧ (m_X6_next_h019 td ftp za) ≤ td ∧ (¬ (m_X6_next_h021 td ftp fwo za) = 0 → za < (m_X6_next_h019 td ftp za)) ∧ ((m_X6_next_h021 td ftp fwo za) = 2 → 0 ≤ (m_X6_next_h022 td ftp fwo za) ∧ (m_X6_next_h022 td ftp fwo za) < 6) ∧ ((m_X6_next_h021 td ftp fwo za) = 1 → 100000 ≤ 100000 + (m_X6_next_h022 td ftp fwo za))) () := nx_facts hza htd
                        exact W.vret hx hb hr (fun t ht hW => ⟨⟨(), rfl, hpost, by rw [ht]; exact hP9, va_K.moved hW.alike hK, hD9⟩, hS.F ht⟩) hS.2.2 dX6_next_403
                      · skip
                        refine lv_iconst (v := -1) hx hb dX6_next_185 (by decide +kernel) ?_
                        refine lv_goto (tgt := 195) hx hb dX6_next_186 (by decide +kernel) ?_
                        refine va_put (D := G.1) (ci := 6) (v := .int (-1)) (ty := .int) (C := RX6) (T := TX6) (N := 42) hx hb hts hiX6 tyX6 tyX6_ok nmX6 hown hK hP hD hS 0 rfl rfl 21 (by decide +kernel) kf117 (fun _ h9 => h9) rfl (by decide +kernel) rfl rfl (Nat.le_of_ble_eq_true rfl) dX6_next_195 (fun H locs hP hD hS => ?_)
                        have hz9 : gPD G A [zo6 h0 (nI pb) kd mo st (nI jg) ro tp (nI td) cd sr (nI tx) (nI ru) him ir ih ss sq ce lw (nI (g_X6_next_103 td ftp za)) (nI (g_X6_next_0 td ftp za)) (-1) 0 wo he s25 s26 s27 sk na kp s31 s32 s33 s34 gb go fa ga s39 s40 vo, zi G tp 160 ftp, zi G wo 96 fwo] H := ⟨hP, hD⟩
                        have hP := hz9.1
                        have hD := hz9.2
                        refine lv_aload_n hx hb dX6_next_198 rfl (lv_at hl 2 rfl) ?_
                        refine lv_iload_n hx hb dX6_next_199 rfl (lv_at hl 0 rfl) ?_
                        refine lv_iconst (v := 3) hx hb dX6_next_200 (by decide +kernel) ?_
                        refine lv_icmp_ge (tgt := 208) hx hb dX6_next_201 (by decide +kernel) (fun c_116 => ?_) (fun c_116 => ?_)
                        rotate_left
                        · exact absurd (c_108) c_116
                        refine lv_iload_n hx hb dX6_next_208 rfl (lv_at hl 0 rfl) ?_
                        refine lv_iconst (v := 3) hx hb dX6_next_209 (by decide +kernel) ?_
                        refine lv_isub hx hb dX6_next_210 ?_
                        refine va_put (D := G.1) (ci := 6) (v := .int ((m_X6_wordFrom ftp fwo (g_X6_next_0 td ftp za) (g_X6_next_103 td ftp za)) - 3)) (ty := .int) (C := RX6) (T := TX6) (N := 42) hx hb hts hiX6 tyX6 tyX6_ok nmX6 hown hK hP hD hS 0 rfl rfl 22 (by decide +kernel) kf120 (fun _ h9 => h9) rfl (by decide +kernel) rfl rfl (Nat.le_of_ble_eq_true rfl) dX6_next_211 (fun H locs hP hD hS => ?_)
                        have hz9 : gPD G A [zo6 h0 (nI pb) kd mo st (nI jg) ro tp (nI td) cd sr (nI tx) (nI ru) him ir ih ss sq ce lw (nI (g_X6_next_103 td ftp za)) (nI (g_X6_next_0 td ftp za)) (-1) ((m_X6_wordFrom ftp fwo (g_X6_next_0 td ftp za) (g_X6_next_103 td ftp za)) - 3) wo he s25 s26 s27 sk na kp s31 s32 s33 s34 gb go fa ga s39 s40 vo, zi G tp 160 ftp, zi G wo 96 fwo] H := ⟨hP, hD⟩
                        have hP := hz9.1
                        have hD := hz9.2
                        refine lv_goto (tgt := 403) hx hb dX6_next_214 (by decide +kernel) ?_
                        have q_117 : m_X6_next_h019 td ftp za = g_X6_next_103 td ftp za := by unfold m_X6_next_h019; rw [if_neg c_2, if_pos p_7]
                        have q_118 : m_X6_next_h020 td ftp za = (nI (g_X6_next_0 td ftp za)) := by unfold m_X6_next_h020; rw [if_neg c_2, if_pos p_7]
                        have q_119 : m_X6_next_h021 td ftp fwo za = -1 := by unfold m_X6_next_h021; rw [if_neg c_2, if_pos p_7, if_pos c_108, if_pos c_109, if_pos c_110]
                        have q_120 : m_X6_next_h022 td ftp fwo za = (m_X6_wordFrom ftp fwo (g_X6_next_0 td ftp za) (g_X6_next_103 td ftp za)) - 3 := by unfold m_X6_next_h022; rw [if_neg c_2, if_pos p_7, if_pos c_108]
                        have hz9 : gPD G A [zo6 h0 (nI pb) kd mo st (nI jg) ro tp (nI td) cd sr (nI tx) (nI ru) him ir ih ss sq ce lw (nI (m_X6_next_h019 td ftp za)) (m_X6_next_h020 td ftp za) (m_X6_next_h021 td ftp fwo za) (m_X6_next_h022 td ftp fwo za) wo he s25 s26 s27 sk na kp s31 s32 s33 s34 gb go fa ga s39 s40 vo, zi G tp 160 ftp, zi G wo 96 fwo] H := ⟨by rw [q_117, q_118, q_119, q_120]; exact hP.sub [0, 1, 2] rfl, by rw [q_117, q_118, q_119, q_120]; exact hD.sub [0, 1, 2] (by decide +kernel) rfl⟩
                        have hP9 := hz9.1
                        have hD9 := hz9.2
                        have hpost : (fun (u : Unit) => match u with | _ => za ≤ (m_X6_next_h019 td ftp za) ∧ (m_X6_next_h019 td ftp za) ≤ td ∧ (¬ (m_X6_next_h021 td ftp fwo za) = 0 → za < (m_X6_next_h019 td ftp za)) ∧ ((m_X6_next_h021 td ftp fwo za) = 2 → 0 ≤ (m_X6_next_h022 td ftp fwo za) ∧ (m_X6_next_h022 td ftp fwo za) < 6) ∧ ((m_X6_next_h021 td ftp fwo za) = 1 → 100000 ≤ 100000 + (m_X6_next_h022 td ftp fwo za))) () := nx_facts hza htd
                        exact W.vret hx hb hr (fun t ht hW => ⟨⟨(), rfl, hpost, by rw [ht]; exact hP9, va_K.moved hW.alike hK, hD9⟩, hS.F ht⟩) hS.2.2 dX6_next_403
                    · skip
                      refine lv_iconst (v := 2) hx hb dX6_next_175 (by decide +kernel) ?_
                      refine lv_goto (tgt := 195) hx hb dX6_next_176 (by decide +kernel) ?_
                      refine va_put (D := G.1) (ci := 6) (v := .int 2) (ty := .int) (C := RX6) (T := TX6) (N := 42) hx hb hts hiX6 tyX6 tyX6_ok nmX6 hown hK hP hD hS 0 rfl rfl 21 (by decide +kernel) kf117 (fun _ h9 => h9) rfl (by decide +kernel) rfl rfl (Nat.le_of_ble_eq_true rfl) dX6_next_195 (fun H locs hP hD hS => ?_)
                      have hz9 : gPD G A [zo6 h0 (nI pb) kd mo st (nI jg) ro tp (nI td) cd sr (nI tx) (nI ru) him ir ih ss sq ce lw (nI (g_X6_next_103 td ftp za)) (nI (g_X6_next_0 td ftp za)) 2 0 wo he s25 s26 s27 sk na kp s31 s32 s33 s34 gb go fa ga s39 s40 vo, zi G tp 160 ftp, zi G wo 96 fwo] H := ⟨hP, hD⟩
                      have hP := hz9.1
                      have hD := hz9.2
                      refine lv_aload_n hx hb dX6_next_198 rfl (lv_at hl 2 rfl) ?_
                      refine lv_iload_n hx hb dX6_next_199 rfl (lv_at hl 0 rfl) ?_
                      refine lv_iconst (v := 3) hx hb dX6_next_200 (by decide +kernel) ?_
                      refine lv_icmp_ge (tgt := 208) hx hb dX6_next_201 (by decide +kernel) (fun c_121 => ?_) (fun c_121 => ?_)
                      rotate_left
                      · exact absurd (c_108) c_121
                      refine lv_iload_n hx hb dX6_next_208 rfl (lv_at hl 0 rfl) ?_
                      refine lv_iconst (v := 3) hx hb dX6_next_209 (by decide +kernel) ?_
                      refine lv_isub hx hb dX6_next_210 ?_
                      refine va_put (D := G.1) (ci := 6) (v := .int ((m_X6_wordFrom ftp fwo (g_X6_next_0 td ftp za) (g_X6_next_103 td ftp za)) - 3)) (ty := .int) (C := RX6) (T := TX6) (N := 42) hx hb hts hiX6 tyX6 tyX6_ok nmX6 hown hK hP hD hS 0 rfl rfl 22 (by decide +kernel) kf120 (fun _ h9 => h9) rfl (by decide +kernel) rfl rfl (Nat.le_of_ble_eq_true rfl) dX6_next_211 (fun H locs hP hD hS => ?_)
                      have hz9 : gPD G A [zo6 h0 (nI pb) kd mo st (nI jg) ro tp (nI td) cd sr (nI tx) (nI ru) him ir ih ss sq ce lw (nI (g_X6_next_103 td ftp za)) (nI (g_X6_next_0 td ftp za)) 2 ((m_X6_wordFrom ftp fwo (g_X6_next_0 td ftp za) (g_X6_next_103 td ftp za)) - 3) wo he s25 s26 s27 sk na kp s31 s32 s33 s34 gb go fa ga s39 s40 vo, zi G tp 160 ftp, zi G wo 96 fwo] H := ⟨hP, hD⟩
                      have hP := hz9.1
                      have hD := hz9.2
                      refine lv_goto (tgt := 403) hx hb dX6_next_214 (by decide +kernel) ?_
                      have q_122 : m_X6_next_h019 td ftp za = g_X6_next_103 td ftp za := by unfold m_X6_next_h019; rw [if_neg c_2, if_pos p_7]
                      have q_123 : m_X6_next_h020 td ftp za = (nI (g_X6_next_0 td ftp za)) := by unfold m_X6_next_h020; rw [if_neg c_2, if_pos p_7]
                      have q_124 : m_X6_next_h021 td ftp fwo za = 2 := by unfold m_X6_next_h021; rw [if_neg c_2, if_pos p_7, if_pos c_108, if_neg c_109]
                      have q_125 : m_X6_next_h022 td ftp fwo za = (m_X6_wordFrom ftp fwo (g_X6_next_0 td ftp za) (g_X6_next_103 td ftp za)) - 3 := by unfold m_X6_next_h022; rw [if_neg c_2, if_pos p_7, if_pos c_108]
                      have hz9 : gPD G A [zo6 h0 (nI pb) kd mo st (nI jg) ro tp (nI td) cd sr (nI tx) (nI ru) him ir ih ss sq ce lw (nI (m_X6_next_h019 td ftp za)) (m_X6_next_h020 td ftp za) (m_X6_next_h021 td ftp fwo za) (m_X6_next_h022 td ftp fwo za) wo he s25 s26 s27 sk na kp s31 s32 s33 s34 gb go fa ga s39 s40 vo, zi G tp 160 ftp, zi G wo 96 fwo] H := ⟨by rw [q_122, q_123, q_124, q_125]; exact hP.sub [0, 1, 2] rfl, by rw [q_122, q_123, q_124, q_125]; exact hD.sub [0, 1, 2] (by decide +kernel) rfl⟩
                      have hP9 := hz9.1
                      have hD9 := hz9.2
                      have hpost : (fun (u : Unit) => match u with | _ => za ≤ (m_X6_next_h019 td ftp za) ∧ (m_X6_next_h019 td ftp za) ≤ td ∧ (¬ (m_X6_next_h021 td ftp fwo za) = 0 → za < (m_X6_next_h019 td ftp za)) ∧ ((m_X6_next_h021 td ftp fwo za) = 2 → 0 ≤ (m_X6_next_h022 td ftp fwo za) ∧ (m_X6_next_h022 td ftp fwo za) < 6) ∧ ((m_X6_next_h021 td ftp fwo za) = 1 → 100000 ≤ 100000 + (m_X6_next_h022 td ftp fwo za))) () := nx_facts hza htd
                      exact W.vret hx hb hr (fun t ht hW => ⟨⟨(), rfl, hpost, by rw [ht]; exact hP9, va_K.moved hW.alike hK, hD9⟩, hS.F ht⟩) hS.2.2 dX6_next_403
                  · skip
                    refine lv_iconst (v := 3) hx hb dX6_next_165 (by decide +kernel) ?_
                    refine lv_goto (tgt := 195) hx hb dX6_next_166 (by decide +kernel) ?_
                    refine va_put (D := G.1) (ci := 6) (v := .int 3) (ty := .int) (C := RX6) (T := TX6) (N := 42) hx hb hts hiX6 tyX6 tyX6_ok nmX6 hown hK hP hD hS 0 rfl rfl 21 (by decide +kernel) kf117 (fun _ h9 => h9) rfl (by decide +kernel) rfl rfl (Nat.le_of_ble_eq_true rfl) dX6_next_195 (fun H locs hP hD hS => ?_)
                    have hz9 : gPD G A [zo6 h0 (nI pb) kd mo st (nI jg) ro tp (nI td) cd sr (nI tx) (nI ru) him ir ih ss sq ce lw (nI (g_X6_next_103 td ftp za)) (nI (g_X6_next_0 td ftp za)) 3 0 wo he s25 s26 s27 sk na kp s31 s32 s33 s34 gb go fa ga s39 s40 vo, zi G tp 160 ftp, zi G wo 96 fwo] H := ⟨hP, hD⟩
                    have hP := hz9.1
                    have hD := hz9.2
                    refine lv_aload_n hx hb dX6_next_198 rfl (lv_at hl 2 rfl) ?_
                    refine lv_iload_n hx hb dX6_next_199 rfl (lv_at hl 0 rfl) ?_
                    refine lv_iconst (v := 3) hx hb dX6_next_200 (by decide +kernel) ?_
                    refine lv_icmp_ge (tgt := 208) hx hb dX6_next_201 (by decide +kernel) (fun c_126 => ?_) (fun c_126 => ?_)
                    · exact absurd c_126 (c_108)
                    refine lv_iload_n hx hb dX6_next_204 rfl (lv_at hl 0 rfl) ?_
                    refine lv_goto (tgt := 211) hx hb dX6_next_205 (by decide +kernel) ?_
                    refine va_put (D := G.1) (ci := 6) (v := .int (m_X6_wordFrom ftp fwo (g_X6_next_0 td ftp za) (g_X6_next_103 td ftp za))) (ty := .int) (C := RX6) (T := TX6) (N := 42) hx hb hts hiX6 tyX6 tyX6_ok nmX6 hown hK hP hD hS 0 rfl rfl 22 (by decide +kernel) kf120 (fun _ h9 => h9) rfl (by decide +kernel) rfl rfl (Nat.le_of_ble_eq_true rfl) dX6_next_211 (fun H locs hP hD hS => ?_)
                    have hz9 : gPD G A [zo6 h0 (nI pb) kd mo st (nI jg) ro tp (nI td) cd sr (nI tx) (nI ru) him ir ih ss sq ce lw (nI (g_X6_next_103 td ftp za)) (nI (g_X6_next_0 td ftp za)) 3 (m_X6_wordFrom ftp fwo (g_X6_next_0 td ftp za) (g_X6_next_103 td ftp za)) wo he s25 s26 s27 sk na kp s31 s32 s33 s34 gb go fa ga s39 s40 vo, zi G tp 160 ftp, zi G wo 96 fwo] H := ⟨hP, hD⟩
                    have hP := hz9.1
                    have hD := hz9.2
                    refine lv_goto (tgt := 403) hx hb dX6_next_214 (by decide +kernel) ?_
                    have q_127 : m_X6_next_h019 td ftp za = g_X6_next_103 td ftp za := by unfold m_X6_next_h019; rw [if_neg c_2, if_pos p_7]
                    have q_128 : m_X6_next_h020 td ftp za = (nI (g_X6_next_0 td ftp za)) := by unfold m_X6_next_h020; rw [if_neg c_2, if_pos p_7]
                    have q_129 : m_X6_next_h021 td ftp fwo za = 3 := by unfold m_X6_next_h021; rw [if_neg c_2, if_pos p_7, if_neg c_108]
                    have q_130 : m_X6_next_h022 td ftp fwo za = m_X6_wordFrom ftp fwo (g_X6_next_0 td ftp za) (g_X6_next_103 td ftp za) := by unfold m_X6_next_h022; rw [if_neg c_2, if_pos p_7, if_neg c_108]
                    have hz9 : gPD G A [zo6 h0 (nI pb) kd mo st (nI jg) ro tp (nI td) cd sr (nI tx) (nI ru) him ir ih ss sq ce lw (nI (m_X6_next_h019 td ftp za)) (m_X6_next_h020 td ftp za) (m_X6_next_h021 td ftp fwo za) (m_X6_next_h022 td ftp fwo za) wo he s25 s26 s27 sk na kp s31 s32 s33 s34 gb go fa ga s39 s40 vo, zi G tp 160 ftp, zi G wo 96 fwo] H := ⟨by rw [q_127, q_128, q_129, q_130]; exact hP.sub [0, 1, 2] rfl, by rw [q_127, q_128, q_129, q_130]; exact hD.sub [0, 1, 2] (by decide +kernel) rfl⟩
                    have hP9 := hz9.1
                    have hD9 := hz9.2
                    have hpost : (fun (u : Unit) => match u with | _ => za ≤ (m_X6_next_h019 td ftp za) ∧ (m_X6_next_h019 td ftp za) ≤ td ∧ (¬ (m_X6_next_h021 td ftp fwo za) = 0 → za < (m_X6_next_h019 td ftp za)) ∧ ((m_X6_next_h021 td ftp fwo za) = 2 → 0 ≤ (m_X6_next_h022 td ftp fwo za) ∧ (m_X6_next_h022 td ftp fwo za) < 6) ∧ ((m_X6_next_h021 td ftp fwo za) = 1 → 100000 ≤ 100000 + (m_X6_next_h022 td ftp fwo za))) () := nx_facts hza htd
                    exact W.vret hx hb hr (fun t ht hW => ⟨⟨(), rfl, hpost, by rw [ht]; exact hP9, va_K.moved hW.alike hK, hD9⟩, hS.F ht⟩) hS.2.2 dX6_next_403
                · skip
                  have c_105N : a1 < td := nI_le0 (a := td) (b := a1) (by omega) (by omega) c_105
                  refine lv_aload_n hx hb dX6_next_114 rfl (lv_at hl 1 rfl) ?_
                  refine va_get (D := G.1) (ci := 6) (v := .ref tp) (C := RX6) (T := TX6) (N := 42) hx hb hts hiX6 hown hK hP 0 rfl rfl 6 (by decide +kernel) kf22 (fun _ h9 => h9) rfl dX6_next_115 ?_
                  refine lv_aload_n hx hb dX6_next_118 rfl (lv_at hl 1 rfl) ?_
                  refine va_get (D := G.1) (ci := 6) (v := .int (nI a1)) (C := RX6) (T := TX6) (N := 42) hx hb hts hiX6 hown hK hP 0 rfl rfl 19 (by decide +kernel) kf111 (fun _ h9 => h9) rfl dX6_next_119 ?_
                  refine va_iald (D := G.1) hx hb hK hP 1 0 rfl rfl (i := (nI a1)) (vp_in_nI (by omega) (by omega)) dX6_next_122 ?_
                  refine lv_topi (fun v_131 ev_131 => ?_)
                  have ev_131 : v_131 = ftp a1 := ev_131.trans (by rw [nI_clamp (by omega)])
                  subst ev_131
                  refine lv_bipush (v := 97) hx hb dX6_next_123 (by decide +kernel) ?_
                  refine lv_bipush (v := 122) hx hb dX6_next_125 (by decide +kernel) ?_
                  have hz9 : gPD G A [] H := ⟨hP.sub [] rfl, hD.sub [] (by decide +kernel) rfl⟩
                  have hPc := hz9.1
                  have hDc := hz9.2
                  have hFc := gFree hPc hD hS hA [] rfl
                  refine va_calli (va_runS (As := [.int (ftp a1), .int 97, .int 122]) (rest := []) ⟨hx, hb, hml, hown, hts⟩ (c_X6_in l G (ftp a1) 97 122 H.size) (va_cwS 3 hts gX6_next_X6_in rfl rfl rfl (by decide +kernel) ⟨Nat.le_of_ble_eq_true rfl, Nat.le_of_ble_eq_true rfl⟩) ⟨gPre_blind, fun U hU hW => gPre_of hU hW hK hPc hDc⟩ rfl rfl hl.1 rfl (lv_room (Nat.le_of_ble_eq_true rfl)) dX6_next_127 ⟨Nat.le_of_ble_eq_true rfl, Nat.le_of_ble_eq_true rfl⟩) hS (fun q _ h => hFc q h) hFc (fun r_132 u t H locs ht hvm w_133 hB hz1 hk1 hS => ?_)
                  obtain ⟨hP1, hK1, hD1⟩ := hB
                  rw [ht] at hP1
                  have hz9 : gPD G (va_A _ _) [] H := ⟨hP1, hD1⟩
                  have hP1 := hz9.1
                  have hD1 := hz9.2
                  have w_133 : r_132 = bz (decide (97 ≤ (ftp a1) ∧ (ftp a1) ≤ 122)) := w_133
                  have hz9 : gPD G A [zo6 h0 (nI pb) kd mo st (nI jg) ro tp (nI td) cd sr (nI tx) (nI ru) him ir ih ss sq ce lw (nI a1) (nI (g_X6_next_0 td ftp za)) 0 0 wo he s25 s26 s27 sk na kp s31 s32 s33 s34 gb go fa ga s39 s40 vo, zi G tp 160 ftp, zi G wo 96 fwo] H := gJoin hP hD hk1 hFc hP1 hD1 [] [0, 1, 2] rfl rfl rfl (by decide +kernel) (by decide +kernel)
                  have hP := hz9.1
                  have hD := hz9.2
                  subst w_133
                  refine lv_if_eq (tgt := 146) hx hb dX6_next_130 (by decide +kernel) (fun c_134 => ?_) (fun c_134 => ?_)
                  · skip
                    have n_136 : ¬ (97 ≤ (ftp a1) ∧ (ftp a1) ≤ 122) := of_decide_eq_false (bz_eq rfl c_134)
                    have hF103 : (g_X6_next_103 td ftp za) = a1 := R103.symm.trans ((congrArg (fun z9 => p_X6_next_103 ftp (z9) a1 ) (show td - a1 = td - (a1 + 1) + 1 by omega)).trans (by show p_X6_next_103 ftp (td - (a1 + 1) + 1) a1  = _; rw [p_X6_next_103, if_neg n_136]))
                    have hE103_0 : a1 = (g_X6_next_103 td ftp za) := by rw [hF103]
                    clear hF103 R103
                    subst hE103_0
                    refine lv_aload_n hx hb dX6_next_146 rfl (lv_at hl 1 rfl) ?_
                    refine lv_aload_n hx hb dX6_next_147 rfl (lv_at hl 1 rfl) ?_
                    refine va_get (D := G.1) (ci := 6) (v := .int (nI (g_X6_next_0 td ftp za))) (C := RX6) (T := TX6) (N := 42) hx hb hts hiX6 hown hK hP 0 rfl rfl 20 (by decide +kernel) kf114 (fun _ h9 => h9) rfl dX6_next_148 ?_
                    refine lv_aload_n hx hb dX6_next_151 rfl (lv_at hl 1 rfl) ?_
                    refine va_get (D := G.1) (ci := 6) (v := .int (nI (g_X6_next_103 td ftp za))) (C := RX6) (T := TX6) (N := 42) hx hb hts hiX6 hown hK hP 0 rfl rfl 19 (by decide +kernel) kf111 (fun _ h9 => h9) rfl dX6_next_152 ?_
                    have hz9 : gPD G A [zo6 h0 (nI pb) kd mo st (nI jg) ro tp (nI td) cd sr (nI tx) (nI ru) him ir ih ss sq ce lw (nI (g_X6_next_103 td ftp za)) (nI (g_X6_next_0 td ftp za)) 0 0 wo he s25 s26 s27 sk na kp s31 s32 s33 s34 gb go fa ga s39 s40 vo, zi G tp 160 ftp, zi G wo 96 fwo] H := ⟨hP.sub [0, 1, 2] rfl, hD.sub [0, 1, 2] (by decide +kernel) rfl⟩
                    have hPc := hz9.1
                    have hDc := hz9.2
                    have hFc := gFree hPc hD hS hA [0, 1, 2] rfl
                    refine va_calli (va_runV (As := [.int (nI (g_X6_next_0 td ftp za)), .int (nI (g_X6_next_103 td ftp za))]) (rest := []) ⟨hx, hb, hml, hown, hts⟩ (c_X6_wordFrom_b l G h0 kd mo st ro tp cd sr ir ih ss sq ce lw wo he sk na kp gb go fa ga vo pb jg td tx ru him (nI (g_X6_next_103 td ftp za)) (nI (g_X6_next_0 td ftp za)) 0 0 s25 s26 s27 s31 s32 s33 s34 s39 s40 ftp fwo (g_X6_next_0 td ftp za) (g_X6_next_103 td ftp za) H.size (⟨(n1_le (ftp := ftp) (td - g_X6_next_0 td ftp za) (g_X6_next_0 td ftp za)).1, by omega⟩)) (cwV 2 hts gX6_next_X6_wordFrom rfl rfl rfl (by decide +kernel) ⟨Nat.le_of_ble_eq_true rfl, Nat.le_of_ble_eq_true rfl⟩) ⟨gPre_blind, va_recv hK hPc (ci := 6) (q0 := 0) rfl rfl, fun U hU hW => gPre_of hU hW hK hPc hDc⟩ rfl rfl hl.1 rfl (lv_room (Nat.le_of_ble_eq_true rfl)) dX6_next_155 ⟨Nat.le_of_ble_eq_true rfl, Nat.le_of_ble_eq_true rfl⟩) hS (fun q _ h => hFc q h) hFc (fun r_137 u t H locs ht hvm w_138 hB hz1 hk1 hS => ?_)
                    obtain ⟨hP1, hK1, hD1⟩ := hB
                    rw [ht] at hP1
                    have hz9 : gPD G (va_A _ _) [zo6 h0 (nI pb) kd mo st (nI jg) ro tp (nI td) cd sr (nI tx) (nI ru) him ir ih ss sq ce lw (nI (g_X6_next_103 td ftp za)) (nI (g_X6_next_0 td ftp za)) 0 0 wo he s25 s26 s27 sk na kp s31 s32 s33 s34 gb go fa ga s39 s40 vo, zi G tp 160 ftp, zi G wo 96 fwo] H := ⟨hP1, hD1⟩
                    have hP1 := hz9.1
                    have hD1 := hz9.2
                    have w_138 : r_137 = m_X6_wordFrom ftp fwo (g_X6_next_0 td ftp za) (g_X6_next_103 td ftp za) := w_138
                    have hz9 : gPD G A [zo6 h0 (nI pb) kd mo st (nI jg) ro tp (nI td) cd sr (nI tx) (nI ru) him ir ih ss sq ce lw (nI (g_X6_next_103 td ftp za)) (nI (g_X6_next_0 td ftp za)) 0 0 wo he s25 s26 s27 sk na kp s31 s32 s33 s34 gb go fa ga s39 s40 vo, zi G tp 160 ftp, zi G wo 96 fwo] H := gJoin hP hD hk1 hFc hP1 hD1 [0, 1, 2] [] rfl rfl rfl (by decide +kernel) (by decide +kernel)
                    have hP := hz9.1
                    have hD := hz9.2
                    subst w_138
                    refine lv_istore_n (lv' := [zI 2 (m_X6_wordFrom ftp fwo (g_X6_next_0 td ftp za) (g_X6_next_103 td ftp za)), zI 1 (ftp (g_X6_next_0 td ftp za)), zR 0 h0]) hx hb dX6_next_158 rfl hl (by decide +kernel) rfl (fun ls hl => ?_)
                    refine lv_aload_n hx hb dX6_next_159 rfl (lv_at hl 2 rfl) ?_
                    refine lv_iload_n hx hb dX6_next_160 rfl (lv_at hl 0 rfl) ?_
                    refine lv_iconst (v := 3) hx hb dX6_next_161 (by decide +kernel) ?_
                    refine lv_icmp_ge (tgt := 169) hx hb dX6_next_162 (by decide +kernel) (fun c_139 => ?_) (fun c_139 => ?_)
                    · skip
                      refine lv_iload_n hx hb dX6_next_169 rfl (lv_at hl 0 rfl) ?_
                      refine lv_bipush (v := 9) hx hb dX6_next_170 (by decide +kernel) ?_
                      refine lv_icmp_ge (tgt := 179) hx hb dX6_next_172 (by decide +kernel) (fun c_140 => ?_) (fun c_140 => ?_)
                      · skip
                        refine lv_iload_n hx hb dX6_next_179 rfl (lv_at hl 0 rfl) ?_
                        refine lv_bipush (v := 12) hx hb dX6_next_180 (by decide +kernel) ?_
                        refine lv_icmp_ne (tgt := 189) hx hb dX6_next_182 (by decide +kernel) (fun c_141 => ?_) (fun c_141 => ?_)
                        · skip
                          refine lv_iconst (v := 4) hx hb dX6_next_189 (by decide +kernel) ?_
                          refine lv_iload_n hx hb dX6_next_190 rfl (lv_at hl 0 rfl) ?_
                          refine lv_iadd hx hb dX6_next_191 ?_
                          refine lv_bipush (v := 9) hx hb dX6_next_192 (by decide +kernel) ?_
                          refine lv_isub hx hb dX6_next_194 ?_
                          refine va_put (D := G.1) (ci := 6) (v := .int ((4 + (m_X6_wordFrom ftp fwo (g_X6_next_0 td ftp za) (g_X6_next_103 td ftp za))) - 9)) (ty := .int) (C := RX6) (T := TX6) (N := 42) hx hb hts hiX6 tyX6 tyX6_ok nmX6 hown hK hP hD hS 0 rfl rfl 21 (by decide +kernel) kf117 (fun _ h9 => h9) rfl (by decide +kernel) rfl rfl (Nat.le_of_ble_eq_true rfl) dX6_next_195 (fun H locs hP hD hS => ?_)
                          have hz9 : gPD G A [zo6 h0 (nI pb) kd mo st (nI jg) ro tp (nI td) cd sr (nI tx) (nI ru) him ir ih ss sq ce lw (nI (g_X6_next_103 td ftp za)) (nI (g_X6_next_0 td ftp za)) ((4 + (m_X6_wordFrom ftp fwo (g_X6_next_0 td ftp za) (g_X6_next_103 td ftp za))) - 9) 0 wo he s25 s26 s27 sk na kp s31 s32 s33 s34 gb go fa ga s39 s40 vo, zi G tp 160 ftp, zi G wo 96 fwo] H := ⟨hP, hD⟩
                          have hP := hz9.1
                          have hD := hz9.2
                          refine lv_aload_n hx hb dX6_next_198 rfl (lv_at hl 2 rfl) ?_
                          refine lv_iload_n hx hb dX6_next_199 rfl (lv_at hl 0 rfl) ?_
                          refine lv_iconst (v := 3) hx hb dX6_next_200 (by decide +kernel) ?_
                          refine lv_icmp_ge (tgt := 208) hx hb dX6_next_201 (by decide +kernel) (fun c_142 => ?_) (fun c_142 => ?_)
                          rotate_left
                          · exact absurd (c_139) c_142
                          refine lv_iload_n hx hb dX6_next_208 rfl (lv_at hl 0 rfl) ?_
                          refine lv_iconst (v := 3) hx hb dX6_next_209 (by decide +kernel) ?_
                          refine lv_isub hx hb dX6_next_210 ?_
                          refine va_put (D := G.1) (ci := 6) (v := .int ((m_X6_wordFrom ftp fwo (g_X6_next_0 td ftp za) (g_X6_next_103 td ftp za)) - 3)) (ty := .int) (C := RX6) (T := TX6) (N := 42) hx hb hts hiX6 tyX6 tyX6_ok nmX6 hown hK hP hD hS 0 rfl rfl 22 (by decide +kernel) kf120 (fun _ h9 => h9) rfl (by decide +kernel) rfl rfl (Nat.le_of_ble_eq_true rfl) dX6_next_211 (fun H locs hP hD hS => ?_)
                          have hz9 : gPD G A [zo6 h0 (nI pb) kd mo st (nI jg) ro tp (nI td) cd sr (nI tx) (nI ru) him ir ih ss sq ce lw (nI (g_X6_next_103 td ftp za)) (nI (g_X6_next_0 td ftp za)) ((4 + (m_X6_wordFrom ftp fwo (g_X6_next_0 td ftp za) (g_X6_next_103 td ftp za))) - 9) ((m_X6_wordFrom ftp fwo (g_X6_next_0 td ftp za) (g_X6_next_103 td ftp za)) - 3) wo he s25 s26 s27 sk na kp s31 s32 s33 s34 gb go fa ga s39 s40 vo, zi G tp 160 ftp, zi G wo 96 fwo] H := ⟨hP, hD⟩
                          have hP := hz9.1
                          have hD := hz9.2
                          refine lv_goto (tgt := 403) hx hb dX6_next_214 (by decide +kernel) ?_
                          have q_143 : m_X6_next_h019 td ftp za = g_X6_next_103 td ftp za := by unfold m_X6_next_h019; rw [if_neg c_2, if_pos p_7]
                          have q_144 : m_X6_next_h020 td ftp za = (nI (g_X6_next_0 td ftp za)) := by unfold m_X6_next_h020; rw [if_neg c_2, if_pos p_7]
                          have q_145 : m_X6_next_h021 td ftp fwo za = (4 + (m_X6_wordFrom ftp fwo (g_X6_next_0 td ftp za) (g_X6_next_103 td ftp za))) - 9 := by unfold m_X6_next_h021; rw [if_neg c_2, if_pos p_7, if_pos c_139, if_pos c_140, if_neg c_141]
                          have q_146 : m_X6_next_h022 td ftp fwo za = (m_X6_wordFrom ftp fwo (g_X6_next_0 td ftp za) (g_X6_next_103 td ftp za)) - 3 := by unfold m_X6_next_h022; rw [if_neg c_2, if_pos p_7, if_pos c_139]
                          have hz9 : gPD G A [zo6 h0 (nI pb) kd mo st (nI jg) ro tp (nI td) cd sr (nI tx) (nI ru) him ir ih ss sq ce lw (nI (m_X6_next_h019 td ftp za)) (m_X6_next_h020 td ftp za) (m_X6_next_h021 td ftp fwo za) (m_X6_next_h022 td ftp fwo za) wo he s25 s26 s27 sk na kp s31 s32 s33 s34 gb go fa ga s39 s40 vo, zi G tp 160 ftp, zi G wo 96 fwo] H := ⟨by rw [q_143, q_144, q_145, q_146]; exact hP.sub [0, 1, 2] rfl, by rw [q_143, q_144, q_145, q_146]; exact hD.sub [0, 1, 2] (by decide +kernel) rfl⟩
                          have hP9 := hz9.1
                          have hD9 := hz9.2
                          have hpost : (fun (u : Unit) => match u with | _ => za ≤ (m_X6_next_h019 td ftp za) ∧ (m_X6_next_h019 td ftp za) ≤ td ∧ (¬ (m_X6_next_h021 td ftp fwo za) = 0 → za < (m_X6_next_h019 td ftp za)) ∧ ((m_X6_next_h021 td ftp fwo za) = 2 → 0 ≤ (m_X6_next_h022 td ftp fwo za) ∧ (m_X6_next_h022 td ftp fwo za) < 6) ∧ ((m_X6_next_h021 td ftp fwo za) = 1 → 100000 ≤ 100000 + (m_X6_next_h022 td ftp fwo za))) () := nx_facts hza htd
                          exact W.vret hx hb hr (fun t ht hW => ⟨⟨(), rfl, hpost, by rw [ht]; exact hP9, va_K.moved hW.alike hK, hD9⟩, hS.F ht⟩) hS.2.2 dX6_next_403
                        · skip
                          refine lv_iconst (v := -1) hx hb dX6_next_185 (by decide +kernel) ?_
                          refine lv_goto (tgt := 195) hx hb dX6_next_186 (by decide +kernel) ?_
                          refine va_put (D := G.1) (ci := 6) (v := .int (-1)) (ty := .int) (C := RX6) (T := TX6) (N := 42) hx hb hts hiX6 tyX6 tyX6_ok nmX6 hown hK hP hD hS 0 rfl rfl 21 (by decide +kernel) kf117 (fun _ h9 => h9) rfl (by decide +kernel) rfl rfl (Nat.le_of_ble_eq_true rfl) dX6_next_195 (fun H locs hP hD hS => ?_)
                          have hz9 : gPD G A [zo6 h0 (nI pb) kd mo st (nI jg) ro tp (nI td) cd sr (nI tx) (nI ru) him ir ih ss sq ce lw (nI (g_X6_next_103 td ftp za)) (nI (g_X6_next_0 td ftp za)) (-1) 0 wo he s25 s26 s27 sk na kp s31 s32 s33 s34 gb go fa ga s39 s40 vo, zi G tp 160 ftp, zi G wo 96 fwo] H := ⟨hP, hD⟩
                          have hP := hz9.1
                          have hD := hz9.2
                          refine lv_aload_n hx hb dX6_next_198 rfl (lv_at hl 2 rfl) ?_
                          refine lv_iload_n hx hb dX6_next_199 rfl (lv_at hl 0 rfl) ?_
                          refine lv_iconst (v := 3) hx hb dX6_next_200 (by decide +kernel) ?_
                          refine lv_icmp_ge (tgt := 208) hx hb dX6_next_201 (by decide +kernel) (fun c_147 => ?_) (fun c_147 => ?_)
                          rotate_left
                          · exact absurd (c_139) c_147
                          refine lv_iload_n hx hb dX6_next_208 rfl (lv_at hl 0 rfl) ?_
                          refine lv_iconst (v := 3) hx hb dX6_next_209 (by decide +kernel) ?_
                          refine lv_isub hx hb dX6_next_210 ?_
                          refine va_put (D := G.1) (ci := 6) (v := .int ((m_X6_wordFrom ftp fwo (g_X6_next_0 td ftp za) (g_X6_next_103 td ftp za)) - 3)) (ty := .int) (C := RX6) (T := TX6) (N := 42) hx hb hts hiX6 tyX6 tyX6_ok nmX6 hown hK hP hD hS 0 rfl rfl 22 (by decide +kernel) kf120 (fun _ h9 => h9) rfl (by decide +kernel) rfl rfl (Nat.le_of_ble_eq_true rfl) dX6_next_211 (fun H locs hP hD hS => ?_)
                          have hz9 : gPD G A [zo6 h0 (nI pb) kd mo st (nI jg) ro tp (nI td) cd sr (nI tx) (nI ru) him ir ih ss sq ce lw (nI (g_X6_next_103 td ftp za)) (nI (g_X6_next_0 td ftp za)) (-1) ((m_X6_wordFrom ftp fwo (g_X6_next_0 td ftp za) (g_X6_next_103 td ftp za)) - 3) wo he s25 s26 s27 sk na kp s31 s32 s33 s34 gb go fa ga s39 s40 vo, zi G tp 160 ftp, zi G wo 96 fwo] H := ⟨hP, hD⟩
                          have hP := hz9.1
                          have hD := hz9.2
                          refine lv_goto (tgt := 403) hx hb dX6_next_214 (by decide +kernel) ?_
                          have q_148 : m_X6_next_h019 td ftp za = g_X6_next_103 td ftp za := by unfold m_X6_next_h019; rw [if_neg c_2, if_pos p_7]
                          have q_149 : m_X6_next_h020 td ftp za = (nI (g_X6_next_0 td ftp za)) := by unfold m_X6_next_h020; rw [if_neg c_2, if_pos p_7]
                          have q_150 : m_X6_next_h021 td ftp fwo za = -1 := by unfold m_X6_next_h021; rw [if_neg c_2, if_pos p_7, if_pos c_139, if_pos c_140, if_pos c_141]
                          have q_151 : m_X6_next_h022 td ftp fwo za = (m_X6_wordFrom ftp fwo (g_X6_next_0 td ftp za) (g_X6_next_103 td ftp za)) - 3 := by unfold m_X6_next_h022; rw [if_neg c_2, if_pos p_7, if_pos c_139]
                          have hz9 : gPD G A [zo6 h0 (nI pb) kd mo st (nI jg) ro tp (nI td) cd sr (nI tx) (nI ru) him ir ih ss sq ce lw (nI (m_X6_next_h019 td ftp za)) (m_X6_next_h020 td ftp za) (m_X6_next_h021 td ftp fwo za) (m_X6_next_h022 td ftp fwo za) wo he s25 s26 s27 sk na kp s31 s32 s33 s34 gb go fa ga s39 s40 vo, zi G tp 160 ftp, zi G wo 96 fwo] H := ⟨by rw [q_148, q_149, q_150, q_151]; exact hP.sub [0, 1, 2] rfl, by rw [q_148, q_149, q_150, q_151]; exact hD.sub [0, 1, 2] (by decide +kernel) rfl⟩
                          have hP9 := hz9.1
                          have hD9 := hz9.2
                          have hpost : (fun (u : Unit) => match u with | _ => za ≤ (m_X6_next_h019 td ftp za) ∧ (m_X6_next_h019 td ftp za) ≤ td ∧ (¬ (m_X6_next_h021 td ftp fwo za) = 0 → za < (m_X6_next_h019 td ftp za)) ∧ ((m_X6_next_h021 td ftp fwo za) = 2 → 0 ≤ (m_X6_next_h022 td ftp fwo za) ∧ (m_X6_next_h022 td ftp fwo za) < 6) ∧ ((m_X6_next_h021 td ftp fwo za) = 1 → 100000 ≤ 100000 + (m_X6_next_h022 td ftp fwo za))) () := nx_facts hza htd
                          exact W.vret hx hb hr (fun t ht hW => ⟨⟨(), rfl, hpost, by rw [ht]; exact hP9, va_K.moved hW.alike hK, hD9⟩, hS.F ht⟩) hS.2.2 dX6_next_403
                      · skip
                        refine lv_iconst (v := 2) hx hb dX6_next_175 (by decide +kernel) ?_
                        refine lv_goto (tgt := 195) hx hb dX6_next_176 (by decide +kernel) ?_
                        refine va_put (D := G.1) (ci := 6) (v := .int 2) (ty := .int) (C := RX6) (T := TX6) (N := 42) hx hb hts hiX6 tyX6 tyX6_ok nmX6 hown hK hP hD hS 0 rfl rfl 21 (by decide +kernel) kf117 (fun _ h9 => h9) rfl (by decide +kernel) rfl rfl (Nat.le_of_ble_eq_true rfl) dX6_next_195 (fun H locs hP hD hS => ?_)
                        have hz9 : gPD G A [zo6 h0 (nI pb) kd mo st (nI jg) ro tp (nI td) cd sr (nI tx) (nI ru) him ir ih ss sq ce lw (nI (g_X6_next_103 td ftp za)) (nI (g_X6_next_0 td ftp za)) 2 0 wo he s25 s26 s27 sk na kp s31 s32 s33 s34 gb go fa ga s39 s40 vo, zi G tp 160 ftp, zi G wo 96 fwo] H := ⟨hP, hD⟩
                        have hP := hz9.1
                        have hD := hz9.2
                        refine lv_aload_n hx hb dX6_next_198 rfl (lv_at hl 2 rfl) ?_
                        refine lv_iload_n hx hb dX6_next_199 rfl (lv_at hl 0 rfl) ?_
                        refine lv_iconst (v := 3) hx hb dX6_next_200 (by decide +kernel) ?_
                        refine lv_icmp_ge (tgt := 208) hx hb dX6_next_201 (by decide +kernel) (fun c_152 => ?_) (fun c_152 => ?_)
                        rotate_left
                        · exact absurd (c_139) c_152
                        refine lv_iload_n hx hb dX6_next_208 rfl (lv_at hl 0 rfl) ?_
                        refine lv_iconst (v := 3) hx hb dX6_next_209 (by decide +kernel) ?_
                        refine lv_isub hx hb dX6_next_210 ?_
                        refine va_put (D := G.1) (ci := 6) (v := .int ((m_X6_wordFrom ftp fwo (g_X6_next_0 td ftp za) (g_X6_next_103 td ftp za)) - 3)) (ty := .int) (C := RX6) (T := TX6) (N := 42) hx hb hts hiX6 tyX6 tyX6_ok nmX6 hown hK hP hD hS 0 rfl rfl 22 (by decide +kernel) kf120 (fun _ h9 => h9) rfl (by decide +kernel) rfl rfl (Nat.le_of_ble_eq_true rfl) dX6_next_211 (fun H locs hP hD hS => ?_)
                        have hz9 : gPD G A [zo6 h0 (nI pb) kd mo st (nI jg) ro tp (nI td) cd sr (nI tx) (nI ru) him ir ih ss sq ce lw (nI (g_X6_next_103 td ftp za)) (nI (g_X6_next_0 td ftp za)) 2 ((m_X6_wordFrom ftp fwo (g_X6_next_0 td ftp za) (g_X6_next_103 td ftp za)) - 3) wo he s25 s26 s27 sk na kp s31 s32 s33 s34 gb go fa ga s39 s40 vo, zi G tp 160 ftp, zi G wo 96 fwo] H := ⟨hP, hD⟩
                        have hP := hz9.1
                        have hD := hz9.2
                        refine lv_goto (tgt := 403) hx hb dX6_next_214 (by decide +kernel) ?_
                        have q_153 : m_X6_next_h019 td ftp za = g_X6_next_103 td ftp za := by unfold m_X6_next_h019; rw [if_neg c_2, if_pos p_7]
                        have q_154 : m_X6_next_h020 td ftp za = (nI (g_X6_next_0 td ftp za)) := by unfold m_X6_next_h020; rw [if_neg c_2, if_pos p_7]
                        have q_155 : m_X6_next_h021 td ftp fwo za = 2 := by unfold m_X6_next_h021; rw [if_neg c_2, if_pos p_7, if_pos c_139, if_neg c_140]
                        have q_156 : m_X6_next_h022 td ftp fwo za = (m_X6_wordFrom ftp fwo (g_X6_next_0 td ftp za) (g_X6_next_103 td ftp za)) - 3 := by unfold m_X6_next_h022; rw [if_neg c_2, if_pos p_7, if_pos c_139]
                        have hz9 : gPD G A [zo6 h0 (nI pb) kd mo st (nI jg) ro tp (nI td) cd sr (nI tx) (nI ru) him ir ih ss sq ce lw (nI (m_X6_next_h019 td ftp za)) (m_X6_next_h020 td ftp za) (m_X6_next_h021 td ftp fwo za) (m_X6_next_h022 td ftp fwo za) wo he s25 s26 s27 sk na kp s31 s32 s33 s34 gb go fa ga s39 s40 vo, zi G tp 160 ftp, zi G wo 96 fwo] H := ⟨by rw [q_153, q_154, q_155, q_156]; exact hP.sub [0, 1, 2] rfl, by rw [q_153, q_154, q_155, q_156]; exact hD.sub [0, 1, 2] (by decide +kernel) rfl⟩
                        have hP9 := hz9.1
                        have hD9 := hz9.2
                        have hpost : (fun (u : Unit) => match u with | _ => za ≤ (m_X6_next_h019 td ftp za) ∧ (m_X6_next_h019 td ftp za) ≤ td ∧ (¬ (m_X6_next_h021 td ftp fwo za) = 0 → za < (m_X6_next_h019 td ftp za)) ∧ ((m_X6_next_h021 td ftp fwo za) = 2 → 0 ≤ (m_X6_next_h022 td ftp fwo za) ∧ (m_X6_next_h022 td ftp fwo za) < 6) ∧ ((m_X6_next_h021 td ftp fwo za) = 1 → 100000 ≤ 100000 + (m_X6_next_h022 td ftp fwo za))) () := nx_facts hza htd
                        exact W.vret hx hb hr (fun t ht hW => ⟨⟨(), rfl, hpost, by rw [ht]; exact hP9, va_K.moved hW.alike hK, hD9⟩, hS.F ht⟩) hS.2.2 dX6_next_403
                    · skip
                      refine lv_iconst (v := 3) hx hb dX6_next_165 (by decide +kernel) ?_
                      refine lv_goto (tgt := 195) hx hb dX6_next_166 (by decide +kernel) ?_
                      refine va_put (D := G.1) (ci := 6) (v := .int 3) (ty := .int) (C := RX6) (T := TX6) (N := 42) hx hb hts hiX6 tyX6 tyX6_ok nmX6 hown hK hP hD hS 0 rfl rfl 21 (by decide +kernel) kf117 (fun _ h9 => h9) rfl (by decide +kernel) rfl rfl (Nat.le_of_ble_eq_true rfl) dX6_next_195 (fun H locs hP hD hS => ?_)
                      have hz9 : gPD G A [zo6 h0 (nI pb) kd mo st (nI jg) ro tp (nI td) cd sr (nI tx) (nI ru) him ir ih ss sq ce lw (nI (g_X6_next_103 td ftp za)) (nI (g_X6_next_0 td ftp za)) 3 0 wo he s25 s26 s27 sk na kp s31 s32 s33 s34 gb go fa ga s39 s40 vo, zi G tp 160 ftp, zi G wo 96 fwo] H := ⟨hP, hD⟩
                      have hP := hz9.1
                      have hD := hz9.2
                      refine lv_aload_n hx hb dX6_next_198 rfl (lv_at hl 2 rfl) ?_
                      refine lv_iload_n hx hb dX6_next_199 rfl (lv_at hl 0 rfl) ?_
                      refine lv_iconst (v := 3) hx hb dX6_next_200 (by decide +kernel) ?_
                      refine lv_icmp_ge (tgt := 208) hx hb dX6_next_201 (by decide +kernel) (fun c_157 => ?_) (fun c_157 => ?_)
                      · exact absurd c_157 (c_139)
                      refine lv_iload_n hx hb dX6_next_204 rfl (lv_at hl 0 rfl) ?_
                      refine lv_goto (tgt := 211) hx hb dX6_next_205 (by decide +kernel) ?_
                      refine va_put (D := G.1) (ci := 6) (v := .int (m_X6_wordFrom ftp fwo (g_X6_next_0 td ftp za) (g_X6_next_103 td ftp za))) (ty := .int) (C := RX6) (T := TX6) (N := 42) hx hb hts hiX6 tyX6 tyX6_ok nmX6 hown hK hP hD hS 0 rfl rfl 22 (by decide +kernel) kf120 (fun _ h9 => h9) rfl (by decide +kernel) rfl rfl (Nat.le_of_ble_eq_true rfl) dX6_next_211 (fun H locs hP hD hS => ?_)
                      have hz9 : gPD G A [zo6 h0 (nI pb) kd mo st (nI jg) ro tp (nI td) cd sr (nI tx) (nI ru) him ir ih ss sq ce lw (nI (g_X6_next_103 td ftp za)) (nI (g_X6_next_0 td ftp za)) 3 (m_X6_wordFrom ftp fwo (g_X6_next_0 td ftp za) (g_X6_next_103 td ftp za)) wo he s25 s26 s27 sk na kp s31 s32 s33 s34 gb go fa ga s39 s40 vo, zi G tp 160 ftp, zi G wo 96 fwo] H := ⟨hP, hD⟩
                      have hP := hz9.1
                      have hD := hz9.2
                      refine lv_goto (tgt := 403) hx hb dX6_next_214 (by decide +kernel) ?_
                      have q_158 : m_X6_next_h019 td ftp za = g_X6_next_103 td ftp za := by unfold m_X6_next_h019; rw [if_neg c_2, if_pos p_7]
                      have q_159 : m_X6_next_h020 td ftp za = (nI (g_X6_next_0 td ftp za)) := by unfold m_X6_next_h020; rw [if_neg c_2, if_pos p_7]
                      have q_160 : m_X6_next_h021 td ftp fwo za = 3 := by unfold m_X6_next_h021; rw [if_neg c_2, if_pos p_7, if_neg c_139]
                      have q_161 : m_X6_next_h022 td ftp fwo za = m_X6_wordFrom ftp fwo (g_X6_next_0 td ftp za) (g_X6_next_103 td ftp za) := by unfold m_X6_next_h022; rw [if_neg c_2, if_pos p_7, if_neg c_139]
                      have hz9 : gPD G A [zo6 h0 (nI pb) kd mo st (nI jg) ro tp (nI td) cd sr (nI tx) (nI ru) him ir ih ss sq ce lw (nI (m_X6_next_h019 td ftp za)) (m_X6_next_h020 td ftp za) (m_X6_next_h021 td ftp fwo za) (m_X6_next_h022 td ftp fwo za) wo he s25 s26 s27 sk na kp s31 s32 s33 s34 gb go fa ga s39 s40 vo, zi G tp 160 ftp, zi G wo 96 fwo] H := ⟨by rw [q_158, q_159, q_160, q_161]; exact hP.sub [0, 1, 2] rfl, by rw [q_158, q_159, q_160, q_161]; exact hD.sub [0, 1, 2] (by decide +kernel) rfl⟩
                      have hP9 := hz9.1
                      have hD9 := hz9.2
                      have hpost : (fun (u : Unit) => match u with | _ => za ≤ (m_X6_next_h019 td ftp za) ∧ (m_X6_next_h019 td ftp za) ≤ td ∧ (¬ (m_X6_next_h021 td ftp fwo za) = 0 → za < (m_X6_next_h019 td ftp za)) ∧ ((m_X6_next_h021 td ftp fwo za) = 2 → 0 ≤ (m_X6_next_h022 td ftp fwo za) ∧ (m_X6_next_h022 td ftp fwo za) < 6) ∧ ((m_X6_next_h021 td ftp fwo za) = 1 → 100000 ≤ 100000 + (m_X6_next_h022 td ftp fwo za))) () := nx_facts hza htd
                      exact W.vret hx hb hr (fun t ht hW => ⟨⟨(), rfl, hpost, by rw [ht]; exact hP9, va_K.moved hW.alike hK, hD9⟩, hS.F ht⟩) hS.2.2 dX6_next_403
                  · skip
                    have p_135 : 97 ≤ (ftp a1) ∧ (ftp a1) ≤ 122 := of_decide_eq_true (bz_ne rfl c_134)
                    refine lv_aload_n hx hb dX6_next_133 rfl (lv_at hl 1 rfl) ?_
                    refine lv_dup hx hb dX6_next_134 rfl ?_
                    refine va_get (D := G.1) (ci := 6) (v := .int (nI a1)) (C := RX6) (T := TX6) (N := 42) hx hb hts hiX6 hown hK hP 0 rfl rfl 19 (by decide +kernel) kf111 (fun _ h9 => h9) rfl dX6_next_135 ?_
                    refine lv_iconst (v := 1) hx hb dX6_next_138 (by decide +kernel) ?_
                    refine lv_iadd hx hb dX6_next_139 ?_
                    refine lv_topi (fun v_162 ev_162 => ?_)
                    have ev_162 : v_162 = nI (a1 + 1) := ev_162.trans (nI_add a1 1)
                    subst ev_162
                    refine va_put (D := G.1) (ci := 6) (v := .int (nI (a1 + 1))) (ty := .int) (C := RX6) (T := TX6) (N := 42) hx hb hts hiX6 tyX6 tyX6_ok nmX6 hown hK hP hD hS 0 rfl rfl 19 (by decide +kernel) kf111 (fun _ h9 => h9) rfl (by decide +kernel) rfl rfl (Nat.le_of_ble_eq_true rfl) dX6_next_140 (fun H locs hP hD hS => ?_)
                    have hz9 : gPD G A [zo6 h0 (nI pb) kd mo st (nI jg) ro tp (nI td) cd sr (nI tx) (nI ru) him ir ih ss sq ce lw (nI (a1 + 1)) (nI (g_X6_next_0 td ftp za)) 0 0 wo he s25 s26 s27 sk na kp s31 s32 s33 s34 gb go fa ga s39 s40 vo, zi G tp 160 ftp, zi G wo 96 fwo] H := ⟨hP, hD⟩
                    have hP := hz9.1
                    have hD := hz9.2
                    refine lv_goto (tgt := 103) hx hb dX6_next_143 (by decide +kernel) ?_
                    exact ih9_103 (a1 + 1) (by omega) (Eq.trans (Eq.symm ((congrArg (fun z9 => p_X6_next_103 ftp (z9) a1 ) (show td - a1 = td - (a1 + 1) + 1 by omega)).trans (by show p_X6_next_103 ftp (td - (a1 + 1) + 1) a1  = _; rw [p_X6_next_103, if_pos p_135]))) R103) (by omega) _ _ (hP.sub [0, 1, 2] rfl) (hD.sub [0, 1, 2] (by decide +kernel) rfl) hS ls (lv_sub hl [0, 1] rfl)
            exact loop_103 (td - (g_X6_next_0 td ftp za) + 1) (g_X6_next_0 td ftp za) (by omega) (rfl) (by omega) _ _ (hP.sub [0, 1, 2] rfl) (hD.sub [0, 1, 2] (by decide +kernel) rfl) hS ls (lv_sub hl [0, 1] rfl)
        · skip
          have c_2N : (g_X6_next_0 td ftp za) = td := nI_eq1 (a := (g_X6_next_0 td ftp za)) (b := td) (by omega) (by omega) c_2
          have q_163 : m_X6_next_h019 td ftp za = g_X6_next_0 td ftp za := by unfold m_X6_next_h019; rw [if_pos c_2]
          have q_164 : m_X6_next_h020 td ftp za = nI (g_X6_next_0 td ftp za) := by unfold m_X6_next_h020; rw [if_pos c_2]
          have q_165 : m_X6_next_h021 td ftp fwo za = 0 := by unfold m_X6_next_h021; rw [if_pos c_2]
          have q_166 : m_X6_next_h022 td ftp fwo za = 0 := by unfold m_X6_next_h022; rw [if_pos c_2]
          have hz9 : gPD G A [zo6 h0 (nI pb) kd mo st (nI jg) ro tp (nI td) cd sr (nI tx) (nI ru) him ir ih ss sq ce lw (nI (m_X6_next_h019 td ftp za)) (m_X6_next_h020 td ftp za) (m_X6_next_h021 td ftp fwo za) (m_X6_next_h022 td ftp fwo za) wo he s25 s26 s27 sk na kp s31 s32 s33 s34 gb go fa ga s39 s40 vo, zi G tp 160 ftp, zi G wo 96 fwo] H := ⟨by rw [q_163, q_164, q_165, q_166]; exact hP.sub [0, 1, 2] rfl, by rw [q_163, q_164, q_165, q_166]; exact hD.sub [0, 1, 2] (by decide +kernel) rfl⟩
          have hP9 := hz9.1
          have hD9 := hz9.2
          have hpost : (fun (u : Unit) => match u with | _ => za ≤ (m_X6_next_h019 td ftp za) ∧ (m_X6_next_h019 td ftp za) ≤ td ∧ (¬ (m_X6_next_h021 td ftp fwo za) = 0 → za < (m_X6_next_h019 td ftp za)) ∧ ((m_X6_next_h021 td ftp fwo za) = 2 → 0 ≤ (m_X6_next_h022 td ftp fwo za) ∧ (m_X6_next_h022 td ftp fwo za) < 6) ∧ ((m_X6_next_h021 td ftp fwo za) = 1 → 100000 ≤ 100000 + (m_X6_next_h022 td ftp fwo za))) () := nx_facts hza htd
          exact W.vret hx hb hr (fun t ht hW => ⟨⟨(), rfl, hpost, by rw [ht]; exact hP9, va_K.moved hW.alike hK, hD9⟩, hS.F ht⟩) hS.2.2 dX6_next_81
      · skip
        have c_1N : a0 < td := nI_le0 (a := td) (b := a0) (by omega) (by omega) c_1
        refine lv_aload_n hx hb dX6_next_11 rfl (lv_at hl 0 rfl) ?_
        refine va_get (D := G.1) (ci := 6) (v := .ref tp) (C := RX6) (T := TX6) (N := 42) hx hb hts hiX6 hown hK hP 0 rfl rfl 6 (by decide +kernel) kf22 (fun _ h9 => h9) rfl dX6_next_12 ?_
        refine lv_aload_n hx hb dX6_next_15 rfl (lv_at hl 0 rfl) ?_
        refine va_get (D := G.1) (ci := 6) (v := .int (nI a0)) (C := RX6) (T := TX6) (N := 42) hx hb hts hiX6 hown hK hP 0 rfl rfl 19 (by decide +kernel) kf111 (fun _ h9 => h9) rfl dX6_next_16 ?_
        refine va_iald (D := G.1) hx hb hK hP 1 0 rfl rfl (i := (nI a0)) (vp_in_nI (by omega) (by omega)) dX6_next_19 ?_
        refine lv_topi (fun v_167 ev_167 => ?_)
        have ev_167 : v_167 = ftp a0 := ev_167.trans (by rw [nI_clamp (by omega)])
        subst ev_167
        refine lv_bipush (v := 32) hx hb dX6_next_20 (by decide +kernel) ?_
        refine lv_icmp_eq (tgt := 39) hx hb dX6_next_22 (by decide +kernel) (fun c_168 => ?_) (fun c_168 => ?_)
        · skip
          refine lv_aload_n hx hb dX6_next_39 rfl (lv_at hl 0 rfl) ?_
          refine lv_dup hx hb dX6_next_40 rfl ?_
          refine va_get (D := G.1) (ci := 6) (v := .int (nI a0)) (C := RX6) (T := TX6) (N := 42) hx hb hts hiX6 hown hK hP 0 rfl rfl 19 (by decide +kernel) kf111 (fun _ h9 => h9) rfl dX6_next_41 ?_
          refine lv_iconst (v := 1) hx hb dX6_next_44 (by decide +kernel) ?_
          refine lv_iadd hx hb dX6_next_45 ?_
          refine lv_topi (fun v_169 ev_169 => ?_)
          have ev_169 : v_169 = nI (a0 + 1) := ev_169.trans (nI_add a0 1)
          subst ev_169
          refine va_put (D := G.1) (ci := 6) (v := .int (nI (a0 + 1))) (ty := .int) (C := RX6) (T := TX6) (N := 42) hx hb hts hiX6 tyX6 tyX6_ok nmX6 hown hK hP hD hS 0 rfl rfl 19 (by decide +kernel) kf111 (fun _ h9 => h9) rfl (by decide +kernel) rfl rfl (Nat.le_of_ble_eq_true rfl) dX6_next_46 (fun H locs hP hD hS => ?_)
          have hz9 : gPD G A [zo6 h0 (nI pb) kd mo st (nI jg) ro tp (nI td) cd sr (nI tx) (nI ru) him ir ih ss sq ce lw (nI (a0 + 1)) s20 s21 s22 wo he s25 s26 s27 sk na kp s31 s32 s33 s34 gb go fa ga s39 s40 vo, zi G tp 160 ftp, zi G wo 96 fwo] H := ⟨hP, hD⟩
          have hP := hz9.1
          have hD := hz9.2
          refine lv_goto (tgt := 0) hx hb dX6_next_49 (by decide +kernel) ?_
          exact ih9_0 (a0 + 1) (by omega) (Eq.trans (Eq.symm ((congrArg (fun z9 => p_X6_next_0 ftp (z9) a0 ) (show td - a0 = td - (a0 + 1) + 1 by omega)).trans (by show p_X6_next_0 ftp (td - (a0 + 1) + 1) a0  = _; rw [p_X6_next_0, if_pos c_168]))) R0) (by omega) _ _ (hP.sub [0, 1, 2] rfl) (hD.sub [0, 1, 2] (by decide +kernel) rfl) hS ls (lv_sub hl [0] rfl)
        · skip
          refine lv_aload_n hx hb dX6_next_25 rfl (lv_at hl 0 rfl) ?_
          refine va_get (D := G.1) (ci := 6) (v := .ref tp) (C := RX6) (T := TX6) (N := 42) hx hb hts hiX6 hown hK hP 0 rfl rfl 6 (by decide +kernel) kf22 (fun _ h9 => h9) rfl dX6_next_26 ?_
          refine lv_aload_n hx hb dX6_next_29 rfl (lv_at hl 0 rfl) ?_
          refine va_get (D := G.1) (ci := 6) (v := .int (nI a0)) (C := RX6) (T := TX6) (N := 42) hx hb hts hiX6 hown hK hP 0 rfl rfl 19 (by decide +kernel) kf111 (fun _ h9 => h9) rfl dX6_next_30 ?_
          refine va_iald (D := G.1) hx hb hK hP 1 0 rfl rfl (i := (nI a0)) (vp_in_nI (by omega) (by omega)) dX6_next_33 ?_
          refine lv_topi (fun v_170 ev_170 => ?_)
          have ev_170 : v_170 = ftp a0 := ev_170.trans (by rw [nI_clamp (by omega)])
          subst ev_170
          refine lv_bipush (v := 10) hx hb dX6_next_34 (by decide +kernel) ?_
          refine lv_icmp_ne (tgt := 52) hx hb dX6_next_36 (by decide +kernel) (fun c_171 => ?_) (fun c_171 => ?_)
          · skip
            have hF0 : (g_X6_next_0 td ftp za) = a0 := R0.symm.trans ((congrArg (fun z9 => p_X6_next_0 ftp (z9) a0 ) (show td - a0 = td - (a0 + 1) + 1 by omega)).trans (by show p_X6_next_0 ftp (td - (a0 + 1) + 1) a0  = _; rw [p_X6_next_0, if_neg c_168, if_neg c_171]))
            have hE0_0 : a0 = (g_X6_next_0 td ftp za) := by rw [hF0]
            clear hF0 R0
            subst hE0_0
            refine lv_aload_n hx hb dX6_next_52 rfl (lv_at hl 0 rfl) ?_
            refine lv_aload_n hx hb dX6_next_53 rfl (lv_at hl 0 rfl) ?_
            refine va_get (D := G.1) (ci := 6) (v := .int (nI (g_X6_next_0 td ftp za))) (C := RX6) (T := TX6) (N := 42) hx hb hts hiX6 hown hK hP 0 rfl rfl 19 (by decide +kernel) kf111 (fun _ h9 => h9) rfl dX6_next_54 ?_
            refine va_put (D := G.1) (ci := 6) (v := .int (nI (g_X6_next_0 td ftp za))) (ty := .int) (C := RX6) (T := TX6) (N := 42) hx hb hts hiX6 tyX6 tyX6_ok nmX6 hown hK hP hD hS 0 rfl rfl 20 (by decide +kernel) kf114 (fun _ h9 => h9) rfl (by decide +kernel) rfl rfl (Nat.le_of_ble_eq_true rfl) dX6_next_57 (fun H locs hP hD hS => ?_)
            have hz9 : gPD G A [zo6 h0 (nI pb) kd mo st (nI jg) ro tp (nI td) cd sr (nI tx) (nI ru) him ir ih ss sq ce lw (nI (g_X6_next_0 td ftp za)) (nI (g_X6_next_0 td ftp za)) s21 s22 wo he s25 s26 s27 sk na kp s31 s32 s33 s34 gb go fa ga s39 s40 vo, zi G tp 160 ftp, zi G wo 96 fwo] H := ⟨hP, hD⟩
            have hP := hz9.1
            have hD := hz9.2
            refine lv_aload_n hx hb dX6_next_60 rfl (lv_at hl 0 rfl) ?_
            refine lv_iconst (v := 0) hx hb dX6_next_61 (by decide +kernel) ?_
            refine va_put (D := G.1) (ci := 6) (v := .int 0) (ty := .int) (C := RX6) (T := TX6) (N := 42) hx hb hts hiX6 tyX6 tyX6_ok nmX6 hown hK hP hD hS 0 rfl rfl 21 (by decide +kernel) kf117 (fun _ h9 => h9) rfl (by decide +kernel) rfl rfl (Nat.le_of_ble_eq_true rfl) dX6_next_62 (fun H locs hP hD hS => ?_)
            have hz9 : gPD G A [zo6 h0 (nI pb) kd mo st (nI jg) ro tp (nI td) cd sr (nI tx) (nI ru) him ir ih ss sq ce lw (nI (g_X6_next_0 td ftp za)) (nI (g_X6_next_0 td ftp za)) 0 s22 wo he s25 s26 s27 sk na kp s31 s32 s33 s34 gb go fa ga s39 s40 vo, zi G tp 160 ftp, zi G wo 96 fwo] H := ⟨hP, hD⟩
            have hP := hz9.1
            have hD := hz9.2
            refine lv_aload_n hx hb dX6_next_65 rfl (lv_at hl 0 rfl) ?_
            refine lv_iconst (v := 0) hx hb dX6_next_66 (by decide +kernel) ?_
            refine va_put (D := G.1) (ci := 6) (v := .int 0) (ty := .int) (C := RX6) (T := TX6) (N := 42) hx hb hts hiX6 tyX6 tyX6_ok nmX6 hown hK hP hD hS 0 rfl rfl 22 (by decide +kernel) kf120 (fun _ h9 => h9) rfl (by decide +kernel) rfl rfl (Nat.le_of_ble_eq_true rfl) dX6_next_67 (fun H locs hP hD hS => ?_)
            have hz9 : gPD G A [zo6 h0 (nI pb) kd mo st (nI jg) ro tp (nI td) cd sr (nI tx) (nI ru) him ir ih ss sq ce lw (nI (g_X6_next_0 td ftp za)) (nI (g_X6_next_0 td ftp za)) 0 0 wo he s25 s26 s27 sk na kp s31 s32 s33 s34 gb go fa ga s39 s40 vo, zi G tp 160 ftp, zi G wo 96 fwo] H := ⟨hP, hD⟩
            have hP := hz9.1
            have hD := hz9.2
            refine lv_aload_n hx hb dX6_next_70 rfl (lv_at hl 0 rfl) ?_
            refine va_get (D := G.1) (ci := 6) (v := .int (nI (g_X6_next_0 td ftp za))) (C := RX6) (T := TX6) (N := 42) hx hb hts hiX6 hown hK hP 0 rfl rfl 19 (by decide +kernel) kf111 (fun _ h9 => h9) rfl dX6_next_71 ?_
            refine lv_aload_n hx hb dX6_next_74 rfl (lv_at hl 0 rfl) ?_
            refine va_get (D := G.1) (ci := 6) (v := .int (nI td)) (C := RX6) (T := TX6) (N := 42) hx hb hts hiX6 hown hK hP 0 rfl rfl 7 (by decide +kernel) kf80 (fun _ h9 => h9) rfl dX6_next_75 ?_
            refine lv_icmp_ne (tgt := 82) hx hb dX6_next_78 (by decide +kernel) (fun c_172 => ?_) (fun c_172 => ?_)
            · skip
              have c_172N : ¬ (g_X6_next_0 td ftp za) = td := nI_eq0 (a := (g_X6_next_0 td ftp za)) (b := td) (by omega) (by omega) c_172
              refine lv_aload_n hx hb dX6_next_82 rfl (lv_at hl 0 rfl) ?_
              refine va_get (D := G.1) (ci := 6) (v := .ref tp) (C := RX6) (T := TX6) (N := 42) hx hb hts hiX6 hown hK hP 0 rfl rfl 6 (by decide +kernel) kf22 (fun _ h9 => h9) rfl dX6_next_83 ?_
              refine lv_aload_n hx hb dX6_next_86 rfl (lv_at hl 0 rfl) ?_
              refine va_get (D := G.1) (ci := 6) (v := .int (nI (g_X6_next_0 td ftp za))) (C := RX6) (T := TX6) (N := 42) hx hb hts hiX6 hown hK hP 0 rfl rfl 19 (by decide +kernel) kf111 (fun _ h9 => h9) rfl dX6_next_87 ?_
              refine va_iald (D := G.1) hx hb hK hP 1 0 rfl rfl (i := (nI (g_X6_next_0 td ftp za))) (vp_in_nI (by omega) (by omega)) dX6_next_90 ?_
              refine lv_topi (fun v_173 ev_173 => ?_)
              have ev_173 : v_173 = ftp (g_X6_next_0 td ftp za) := ev_173.trans (by rw [nI_clamp (by omega)])
              subst ev_173
              refine lv_istore_n (lv' := [zI 1 (ftp (g_X6_next_0 td ftp za)), zR 0 h0]) hx hb dX6_next_91 rfl hl (by decide +kernel) rfl (fun ls hl => ?_)
              refine lv_iload_n hx hb dX6_next_92 rfl (lv_at hl 0 rfl) ?_
              refine lv_bipush (v := 97) hx hb dX6_next_93 (by decide +kernel) ?_
              refine lv_bipush (v := 122) hx hb dX6_next_95 (by decide +kernel) ?_
              have hz9 : gPD G A [] H := ⟨hP.sub [] rfl, hD.sub [] (by decide +kernel) rfl⟩
              have hPc := hz9.1
              have hDc := hz9.2
              have hFc := gFree hPc hD hS hA [] rfl
              refine va_calli (va_runS (As := [.int (ftp (g_X6_next_0 td ftp za)), .int 97, .int 122]) (rest := []) ⟨hx, hb, hml, hown, hts⟩ (c_X6_in l G (ftp (g_X6_next_0 td ftp za)) 97 122 H.size) (va_cwS 3 hts gX6_next_X6_in rfl rfl rfl (by decide +kernel) ⟨Nat.le_of_ble_eq_true rfl, Nat.le_of_ble_eq_true rfl⟩) ⟨gPre_blind, fun U hU hW => gPre_of hU hW hK hPc hDc⟩ rfl rfl hl.1 rfl (lv_room (Nat.le_of_ble_eq_true rfl)) dX6_next_97 ⟨Nat.le_of_ble_eq_true rfl, Nat.le_of_ble_eq_true rfl⟩) hS (fun q _ h => hFc q h) hFc (fun r_174 u t H locs ht hvm w_175 hB hz1 hk1 hS => ?_)
              obtain ⟨hP1, hK1, hD1⟩ := hB
              rw [ht] at hP1
              have hz9 : gPD G (va_A _ _) [] H := ⟨hP1, hD1⟩
              have hP1 := hz9.1
              have hD1 := hz9.2
              have w_175 : r_174 = bz (decide (97 ≤ (ftp (g_X6_next_0 td ftp za)) ∧ (ftp (g_X6_next_0 td ftp za)) ≤ 122)) := w_175
              have hz9 : gPD G A [zo6 h0 (nI pb) kd mo st (nI jg) ro tp (nI td) cd sr (nI tx) (nI ru) him ir ih ss sq ce lw (nI (g_X6_next_0 td ftp za)) (nI (g_X6_next_0 td ftp za)) 0 0 wo he s25 s26 s27 sk na kp s31 s32 s33 s34 gb go fa ga s39 s40 vo, zi G tp 160 ftp, zi G wo 96 fwo] H := gJoin hP hD hk1 hFc hP1 hD1 [] [0, 1, 2] rfl rfl rfl (by decide +kernel) (by decide +kernel)
              have hP := hz9.1
              have hD := hz9.2
              subst w_175
              refine lv_if_eq (tgt := 217) hx hb dX6_next_100 (by decide +kernel) (fun c_176 => ?_) (fun c_176 => ?_)
              · skip
                have n_178 : ¬ (97 ≤ (ftp (g_X6_next_0 td ftp za)) ∧ (ftp (g_X6_next_0 td ftp za)) ≤ 122) := of_decide_eq_false (bz_eq rfl c_176)
                refine lv_iload_n hx hb dX6_next_217 rfl (lv_at hl 0 rfl) ?_
                refine lv_bipush (v := 48) hx hb dX6_next_218 (by decide +kernel) ?_
                refine lv_bipush (v := 57) hx hb dX6_next_220 (by decide +kernel) ?_
                have hz9 : gPD G A [] H := ⟨hP.sub [] rfl, hD.sub [] (by decide +kernel) rfl⟩
                have hPc := hz9.1
                have hDc := hz9.2
                have hFc := gFree hPc hD hS hA [] rfl
                refine va_calli (va_runS (As := [.int (ftp (g_X6_next_0 td ftp za)), .int 48, .int 57]) (rest := []) ⟨hx, hb, hml, hown, hts⟩ (c_X6_in l G (ftp (g_X6_next_0 td ftp za)) 48 57 H.size) (va_cwS 3 hts gX6_next_X6_in rfl rfl rfl (by decide +kernel) ⟨Nat.le_of_ble_eq_true rfl, Nat.le_of_ble_eq_true rfl⟩) ⟨gPre_blind, fun U hU hW => gPre_of hU hW hK hPc hDc⟩ rfl rfl hl.1 rfl (lv_room (Nat.le_of_ble_eq_true rfl)) dX6_next_222 ⟨Nat.le_of_ble_eq_true rfl, Nat.le_of_ble_eq_true rfl⟩) hS (fun q _ h => hFc q h) hFc (fun r_179 u t H locs ht hvm w_180 hB hz1 hk1 hS => ?_)
                obtain ⟨hP1, hK1, hD1⟩ := hB
                rw [ht] at hP1
                have hz9 : gPD G (va_A _ _) [] H := ⟨hP1, hD1⟩
                have hP1 := hz9.1
                have hD1 := hz9.2
                have w_180 : r_179 = bz (decide (48 ≤ (ftp (g_X6_next_0 td ftp za)) ∧ (ftp (g_X6_next_0 td ftp za)) ≤ 57)) := w_180
                have hz9 : gPD G A [zo6 h0 (nI pb) kd mo st (nI jg) ro tp (nI td) cd sr (nI tx) (nI ru) him ir ih ss sq ce lw (nI (g_X6_next_0 td ftp za)) (nI (g_X6_next_0 td ftp za)) 0 0 wo he s25 s26 s27 sk na kp s31 s32 s33 s34 gb go fa ga s39 s40 vo, zi G tp 160 ftp, zi G wo 96 fwo] H := gJoin hP hD hk1 hFc hP1 hD1 [] [0, 1, 2] rfl rfl rfl (by decide +kernel) (by decide +kernel)
                have hP := hz9.1
                have hD := hz9.2
                subst w_180
                refine lv_if_eq (tgt := 326) hx hb dX6_next_225 (by decide +kernel) (fun c_181 => ?_) (fun c_181 => ?_)
                · skip
                  have n_183 : ¬ (48 ≤ (ftp (g_X6_next_0 td ftp za)) ∧ (ftp (g_X6_next_0 td ftp za)) ≤ 57) := of_decide_eq_false (bz_eq rfl c_181)
                  refine lv_iload_n hx hb dX6_next_326 rfl (lv_at hl 0 rfl) ?_
                  refine lv_bipush (v := 40) hx hb dX6_next_327 (by decide +kernel) ?_
                  refine lv_icmp_eq (tgt := 374) hx hb dX6_next_329 (by decide +kernel) (fun c_184 => ?_) (fun c_184 => ?_)
                  · skip
                    refine lv_iconst (v := 1) hx hb dX6_next_374 (by decide +kernel) ?_
                    refine lv_goto (tgt := 379) hx hb dX6_next_375 (by decide +kernel) ?_
                    refine lv_istore_n (lv' := [zI 2 1, zI 1 (ftp (g_X6_next_0 td ftp za)), zR 0 h0]) hx hb dX6_next_379 rfl hl (by decide +kernel) rfl (fun ls hl => ?_)
                    refine lv_aload_n hx hb dX6_next_380 rfl (lv_at hl 2 rfl) ?_
                    refine lv_iload_n hx hb dX6_next_381 rfl (lv_at hl 0 rfl) ?_
                    refine lv_if_eq (tgt := 389) hx hb dX6_next_382 (by decide +kernel) (fun c_185 => ?_) (fun c_185 => ?_)
                    · exact absurd c_185 (by decide +kernel)
                    refine lv_iload_n hx hb dX6_next_385 rfl (lv_at hl 1 rfl) ?_
                    refine lv_goto (tgt := 390) hx hb dX6_next_386 (by decide +kernel) ?_
                    refine va_put (D := G.1) (ci := 6) (v := .int (ftp (g_X6_next_0 td ftp za))) (ty := .int) (C := RX6) (T := TX6) (N := 42) hx hb hts hiX6 tyX6 tyX6_ok nmX6 hown hK hP hD hS 0 rfl rfl 21 (by decide +kernel) kf117 (fun _ h9 => h9) rfl (by decide +kernel) rfl rfl (Nat.le_of_ble_eq_true rfl) dX6_next_390 (fun H locs hP hD hS => ?_)
                    have hz9 : gPD G A [zo6 h0 (nI pb) kd mo st (nI jg) ro tp (nI td) cd sr (nI tx) (nI ru) him ir ih ss sq ce lw (nI (g_X6_next_0 td ftp za)) (nI (g_X6_next_0 td ftp za)) (ftp (g_X6_next_0 td ftp za)) 0 wo he s25 s26 s27 sk na kp s31 s32 s33 s34 gb go fa ga s39 s40 vo, zi G tp 160 ftp, zi G wo 96 fwo] H := ⟨hP, hD⟩
                    have hP := hz9.1
                    have hD := hz9.2
                    refine lv_aload_n hx hb dX6_next_393 rfl (lv_at hl 2 rfl) ?_
                    refine lv_dup hx hb dX6_next_394 rfl ?_
                    refine va_get (D := G.1) (ci := 6) (v := .int (nI (g_X6_next_0 td ftp za))) (C := RX6) (T := TX6) (N := 42) hx hb hts hiX6 hown hK hP 0 rfl rfl 19 (by decide +kernel) kf111 (fun _ h9 => h9) rfl dX6_next_395 ?_
                    refine lv_iconst (v := 1) hx hb dX6_next_398 (by decide +kernel) ?_
                    refine lv_iadd hx hb dX6_next_399 ?_
                    refine lv_topi (fun v_186 ev_186 => ?_)
                    have ev_186 : v_186 = nI ((g_X6_next_0 td ftp za) + 1) := ev_186.trans (nI_add (g_X6_next_0 td ftp za) 1)
                    subst ev_186
                    refine va_put (D := G.1) (ci := 6) (v := .int (nI ((g_X6_next_0 td ftp za) + 1))) (ty := .int) (C := RX6) (T := TX6) (N := 42) hx hb hts hiX6 tyX6 tyX6_ok nmX6 hown hK hP hD hS 0 rfl rfl 19 (by decide +kernel) kf111 (fun _ h9 => h9) rfl (by decide +kernel) rfl rfl (Nat.le_of_ble_eq_true rfl) dX6_next_400 (fun H locs hP hD hS => ?_)
                    have hz9 : gPD G A [zo6 h0 (nI pb) kd mo st (nI jg) ro tp (nI td) cd sr (nI tx) (nI ru) him ir ih ss sq ce lw (nI ((g_X6_next_0 td ftp za) + 1)) (nI (g_X6_next_0 td ftp za)) (ftp (g_X6_next_0 td ftp za)) 0 wo he s25 s26 s27 sk na kp s31 s32 s33 s34 gb go fa ga s39 s40 vo, zi G tp 160 ftp, zi G wo 96 fwo] H := ⟨hP, hD⟩
                    have hP := hz9.1
                    have hD := hz9.2
                    have q_187 : m_X6_next_h019 td ftp za = (g_X6_next_0 td ftp za) + 1 := by unfold m_X6_next_h019; rw [if_neg c_172, if_neg n_178, if_neg n_183]
                    have q_188 : m_X6_next_h020 td ftp za = nI (g_X6_next_0 td ftp za) := by unfold m_X6_next_h020; rw [if_neg c_172, if_neg n_178]
                    have q_189 : m_X6_next_h021 td ftp fwo za = ftp (g_X6_next_0 td ftp za) := by unfold m_X6_next_h021; rw [if_neg c_172, if_neg n_178, if_neg n_183, if_pos c_184]
                    have q_190 : m_X6_next_h022 td ftp fwo za = 0 := by unfold m_X6_next_h022; rw [if_neg c_172, if_neg n_178, if_neg n_183]
                    have hz9 : gPD G A [zo6 h0 (nI pb) kd mo st (nI jg) ro tp (nI td) cd sr (nI tx) (nI ru) him ir ih ss sq ce lw (nI (m_X6_next_h019 td ftp za)) (m_X6_next_h020 td ftp za) (m_X6_next_h021 td ftp fwo za) (m_X6_next_h022 td ftp fwo za) wo he s25 s26 s27 sk na kp s31 s32 s33 s34 gb go fa ga s39 s40 vo, zi G tp 160 ftp, zi G wo 96 fwo] H := ⟨by rw [q_187, q_188, q_189, q_190]; exact hP.sub [0, 1, 2] rfl, by rw [q_187, q_188, q_189, q_190]; exact hD.sub [0, 1, 2] (by decide +kernel) rfl⟩
                    have hP9 := hz9.1
                    have hD9 := hz9.2
                    have hpost : (fun (u : Unit) => match u with | _ => za ≤ (m_X6_next_h019 td ftp za) ∧ (m_X6_next_h019 td ftp za) ≤ td ∧ (¬ (m_X6_next_h021 td ftp fwo za) = 0 → za < (m_X6_next_h019 td ftp za)) ∧ ((m_X6_next_h021 td ftp fwo za) = 2 → 0 ≤ (m_X6_next_h022 td ftp fwo za) ∧ (m_X6_next_h022 td ftp fwo za) < 6) ∧ ((m_X6_next_h021 td ftp fwo za) = 1 → 100000 ≤ 100000 + (m_X6_next_h022 td ftp fwo za))) () := nx_facts hza htd
                    exact W.vret hx hb hr (fun t ht hW => ⟨⟨(), rfl, hpost, by rw [ht]; exact hP9, va_K.moved hW.alike hK, hD9⟩, hS.F ht⟩) hS.2.2 dX6_next_403
                  · skip
                    refine lv_iload_n hx hb dX6_next_332 rfl (lv_at hl 0 rfl) ?_
                    refine lv_bipush (v := 41) hx hb dX6_next_333 (by decide +kernel) ?_
                    refine lv_icmp_eq (tgt := 374) hx hb dX6_next_335 (by decide +kernel) (fun c_191 => ?_) (fun c_191 => ?_)
                    · skip
                      refine lv_iconst (v := 1) hx hb dX6_next_374 (by decide +kernel) ?_
                      refine lv_goto (tgt := 379) hx hb dX6_next_375 (by decide +kernel) ?_
                      refine lv_istore_n (lv' := [zI 2 1, zI 1 (ftp (g_X6_next_0 td ftp za)), zR 0 h0]) hx hb dX6_next_379 rfl hl (by decide +kernel) rfl (fun ls hl => ?_)
                      refine lv_aload_n hx hb dX6_next_380 rfl (lv_at hl 2 rfl) ?_
                      refine lv_iload_n hx hb dX6_next_381 rfl (lv_at hl 0 rfl) ?_
                      refine lv_if_eq (tgt := 389) hx hb dX6_next_382 (by decide +kernel) (fun c_192 => ?_) (fun c_192 => ?_)
                      · exact absurd c_192 (by decide +kernel)
                      refine lv_iload_n hx hb dX6_next_385 rfl (lv_at hl 1 rfl) ?_
                      refine lv_goto (tgt := 390) hx hb dX6_next_386 (by decide +kernel) ?_
                      refine va_put (D := G.1) (ci := 6) (v := .int (ftp (g_X6_next_0 td ftp za))) (ty := .int) (C := RX6) (T := TX6) (N := 42) hx hb hts hiX6 tyX6 tyX6_ok nmX6 hown hK hP hD hS 0 rfl rfl 21 (by decide +kernel) kf117 (fun _ h9 => h9) rfl (by decide +kernel) rfl rfl (Nat.le_of_ble_eq_true rfl) dX6_next_390 (fun H locs hP hD hS => ?_)
                      have hz9 : gPD G A [zo6 h0 (nI pb) kd mo st (nI jg) ro tp (nI td) cd sr (nI tx) (nI ru) him ir ih ss sq ce lw (nI (g_X6_next_0 td ftp za)) (nI (g_X6_next_0 td ftp za)) (ftp (g_X6_next_0 td ftp za)) 0 wo he s25 s26 s27 sk na kp s31 s32 s33 s34 gb go fa ga s39 s40 vo, zi G tp 160 ftp, zi G wo 96 fwo] H := ⟨hP, hD⟩
                      have hP := hz9.1
                      have hD := hz9.2
                      refine lv_aload_n hx hb dX6_next_393 rfl (lv_at hl 2 rfl) ?_
                      refine lv_dup hx hb dX6_next_394 rfl ?_
                      refine va_get (D := G.1) (ci := 6) (v := .int (nI (g_X6_next_0 td ftp za))) (C := RX6) (T := TX6) (N := 42) hx hb hts hiX6 hown hK hP 0 rfl rfl 19 (by decide +kernel) kf111 (fun _ h9 => h9) rfl dX6_next_395 ?_
                      refine lv_iconst (v := 1) hx hb dX6_next_398 (by decide +kernel) ?_
                      refine lv_iadd hx hb dX6_next_399 ?_
                      refine lv_topi (fun v_193 ev_193 => ?_)
                      have ev_193 : v_193 = nI ((g_X6_next_0 td ftp za) + 1) := ev_193.trans (nI_add (g_X6_next_0 td ftp za) 1)
                      subst ev_193
                      refine va_put (D := G.1) (ci := 6) (v := .int (nI ((g_X6_next_0 td ftp za) + 1))) (ty := .int) (C := RX6) (T := TX6) (N := 42) hx hb hts hiX6 tyX6 tyX6_ok nmX6 hown hK hP hD hS 0 rfl rfl 19 (by decide +kernel) kf111 (fun _ h9 => h9) rfl (by decide +kernel) rfl rfl (Nat.le_of_ble_eq_true rfl) dX6_next_400 (fun H locs hP hD hS => ?_)
                      have hz9 : gPD G A [zo6 h0 (nI pb) kd mo st (nI jg) ro tp (nI td) cd sr (nI tx) (nI ru) him ir ih ss sq ce lw (nI ((g_X6_next_0 td ftp za) + 1)) (nI (g_X6_next_0 td ftp za)) (ftp (g_X6_next_0 td ftp za)) 0 wo he s25 s26 s27 sk na kp s31 s32 s33 s34 gb go fa ga s39 s40 vo, zi G tp 160 ftp, zi G wo 96 fwo] H := ⟨hP, hD⟩
                      have hP := hz9.1
                      have hD := hz9.2
                      have q_194 : m_X6_next_h019 td ftp za = (g_X6_next_0 td ftp za) + 1 := by unfold m_X6_next_h019; rw [if_neg c_172, if_neg n_178, if_neg n_183]
                      have q_195 : m_X6_next_h020 td ftp za = nI (g_X6_next_0 td ftp za) := by unfold m_X6_next_h020; rw [if_neg c_172, if_neg n_178]
                      have q_196 : m_X6_next_h021 td ftp fwo za = ftp (g_X6_next_0 td ftp za) := by unfold m_X6_next_h021; rw [if_neg c_172, if_neg n_178, if_neg n_183, if_neg c_184, if_pos c_191]
                      have q_197 : m_X6_next_h022 td ftp fwo za = 0 := by unfold m_X6_next_h022; rw [if_neg c_172, if_neg n_178, if_neg n_183]
                      have hz9 : gPD G A [zo6 h0 (nI pb) kd mo st (nI jg) ro tp (nI td) cd sr (nI tx) (nI ru) him ir ih ss sq ce lw (nI (m_X6_next_h019 td ftp za)) (m_X6_next_h020 td ftp za) (m_X6_next_h021 td ftp fwo za) (m_X6_next_h022 td ftp fwo za) wo he s25 s26 s27 sk na kp s31 s32 s33 s34 gb go fa ga s39 s40 vo, zi G tp 160 ftp, zi G wo 96 fwo] H := ⟨by rw [q_194, q_195, q_196, q_197]; exact hP.sub [0, 1, 2] rfl, by rw [q_194, q_195, q_196, q_197]; exact hD.sub [0, 1, 2] (by decide +kernel) rfl⟩
                      have hP9 := hz9.1
                      have hD9 := hz9.2
                      have hpost : (fun (u : Unit) => match u with | _ => za ≤ (m_X6_next_h019 td ftp za) ∧ (m_X6_next_h019 td ftp za) ≤ td ∧ (¬ (m_X6_next_h021 td ftp fwo za) = 0 → za < (m_X6_next_h019 td ftp za)) ∧ ((m_X6_next_h021 td ftp fwo za) = 2 → 0 ≤ (m_X6_next_h022 td ftp fwo za) ∧ (m_X6_next_h022 td ftp fwo za) < 6) ∧ ((m_X6_next_h021 td ftp fwo za) = 1 → 100000 ≤ 100000 + (m_X6_next_h022 td ftp fwo za))) () := nx_facts hza htd
                      exact W.vret hx hb hr (fun t ht hW => ⟨⟨(), rfl, hpost, by rw [ht]; exact hP9, va_K.moved hW.alike hK, hD9⟩, hS.F ht⟩) hS.2.2 dX6_next_403
                    · skip
                      refine lv_iload_n hx hb dX6_next_338 rfl (lv_at hl 0 rfl) ?_
                      refine lv_bipush (v := 59) hx hb dX6_next_339 (by decide +kernel) ?_
                      refine lv_icmp_eq (tgt := 374) hx hb dX6_next_341 (by decide +kernel) (fun c_198 => ?_) (fun c_198 => ?_)
                      · skip
                        refine lv_iconst (v := 1) hx hb dX6_next_374 (by decide +kernel) ?_
                        refine lv_goto (tgt := 379) hx hb dX6_next_375 (by decide +kernel) ?_
                        refine lv_istore_n (lv' := [zI 2 1, zI 1 (ftp (g_X6_next_0 td ftp za)), zR 0 h0]) hx hb dX6_next_379 rfl hl (by decide +kernel) rfl (fun ls hl => ?_)
                        refine lv_aload_n hx hb dX6_next_380 rfl (lv_at hl 2 rfl) ?_
                        refine lv_iload_n hx hb dX6_next_381 rfl (lv_at hl 0 rfl) ?_
                        refine lv_if_eq (tgt := 389) hx hb dX6_next_382 (by decide +kernel) (fun c_199 => ?_) (fun c_199 => ?_)
                        · exact absurd c_199 (by decide +kernel)
                        refine lv_iload_n hx hb dX6_next_385 rfl (lv_at hl 1 rfl) ?_
                        refine lv_goto (tgt := 390) hx hb dX6_next_386 (by decide +kernel) ?_
                        refine va_put (D := G.1) (ci := 6) (v := .int (ftp (g_X6_next_0 td ftp za))) (ty := .int) (C := RX6) (T := TX6) (N := 42) hx hb hts hiX6 tyX6 tyX6_ok nmX6 hown hK hP hD hS 0 rfl rfl 21 (by decide +kernel) kf117 (fun _ h9 => h9) rfl (by decide +kernel) rfl rfl (Nat.le_of_ble_eq_true rfl) dX6_next_390 (fun H locs hP hD hS => ?_)
                        have hz9 : gPD G A [zo6 h0 (nI pb) kd mo st (nI jg) ro tp (nI td) cd sr (nI tx) (nI ru) him ir ih ss sq ce lw (nI (g_X6_next_0 td ftp za)) (nI (g_X6_next_0 td ftp za)) (ftp (g_X6_next_0 td ftp za)) 0 wo he s25 s26 s27 sk na kp s31 s32 s33 s34 gb go fa ga s39 s40 vo, zi G tp 160 ftp, zi G wo 96 fwo] H := ⟨hP, hD⟩
                        have hP := hz9.1
                        have hD := hz9.2
                        refine lv_aload_n hx hb dX6_next_393 rfl (lv_at hl 2 rfl) ?_
                        refine lv_dup hx hb dX6_next_394 rfl ?_
                        refine va_get (D := G.1) (ci := 6) (v := .int (nI (g_X6_next_0 td ftp za))) (C := RX6) (T := TX6) (N := 42) hx hb hts hiX6 hown hK hP 0 rfl rfl 19 (by decide +kernel) kf111 (fun _ h9 => h9) rfl dX6_next_395 ?_
                        refine lv_iconst (v := 1) hx hb dX6_next_398 (by decide +kernel) ?_
                        refine lv_iadd hx hb dX6_next_399 ?_
                        refine lv_topi (fun v_200 ev_200 => ?_)
                        have ev_200 : v_200 = nI ((g_X6_next_0 td ftp za) + 1) := ev_200.trans (nI_add (g_X6_next_0 td ftp za) 1)
                        subst ev_200
                        refine va_put (D := G.1) (ci := 6) (v := .int (nI ((g_X6_next_0 td ftp za) + 1))) (ty := .int) (C := RX6) (T := TX6) (N := 42) hx hb hts hiX6 tyX6 tyX6_ok nmX6 hown hK hP hD hS 0 rfl rfl 19 (by decide +kernel) kf111 (fun _ h9 => h9) rfl (by decide +kernel) rfl rfl (Nat.le_of_ble_eq_true rfl) dX6_next_400 (fun H locs hP hD hS => ?_)
                        have hz9 : gPD G A [zo6 h0 (nI pb) kd mo st (nI jg) ro tp (nI td) cd sr (nI tx) (nI ru) him ir ih ss sq ce lw (nI ((g_X6_next_0 td ftp za) + 1)) (nI (g_X6_next_0 td ftp za)) (ftp (g_X6_next_0 td ftp za)) 0 wo he s25 s26 s27 sk na kp s31 s32 s33 s34 gb go fa ga s39 s40 vo, zi G tp 160 ftp, zi G wo 96 fwo] H := ⟨hP, hD⟩
                        have hP := hz9.1
                        have hD := hz9.2
                        have q_201 : m_X6_next_h019 td ftp za = (g_X6_next_0 td ftp za) + 1 := by unfold m_X6_next_h019; rw [if_neg c_172, if_neg n_178, if_neg n_183]
                        have q_202 : m_X6_next_h020 td ftp za = nI (g_X6_next_0 td ftp za) := by unfold m_X6_next_h020; rw [if_neg c_172, if_neg n_178]
                        have q_203 : m_X6_next_h021 td ftp fwo za = ftp (g_X6_next_0 td ftp za) := by unfold m_X6_next_h021; rw [if_neg c_172, if_neg n_178, if_neg n_183, if_neg c_184, if_neg c_191, if_pos c_198]
                        have q_204 : m_X6_next_h022 td ftp fwo za = 0 := by unfold m_X6_next_h022; rw [if_neg c_172, if_neg n_178, if_neg n_183]
                        have hz9 : gPD G A [zo6 h0 (nI pb) kd mo st (nI jg) ro tp (nI td) cd sr (nI tx) (nI ru) him ir ih ss sq ce lw (nI (m_X6_next_h019 td ftp za)) (m_X6_next_h020 td ftp za) (m_X6_next_h021 td ftp fwo za) (m_X6_next_h022 td ftp fwo za) wo he s25 s26 s27 sk na kp s31 s32 s33 s34 gb go fa ga s39 s40 vo, zi G tp 160 ftp, zi G wo 96 fwo] H := ⟨by rw [q_201, q_202, q_203, q_204]; exact hP.sub [0, 1, 2] rfl, by rw [q_201, q_202, q_203, q_204]; exact hD.sub [0, 1, 2] (by decide +kernel) rfl⟩
                        have hP9 := hz9.1
                        have hD9 := hz9.2
                        have hpost : (fun (u : Unit) => match u with | _ => za ≤ (m_X6_next_h019 td ftp za) ∧ (m_X6_next_h019 td ftp za) ≤ td ∧ (¬ (m_X6_next_h021 td ftp fwo za) = 0 → za < (m_X6_next_h019 td ftp za)) ∧ ((m_X6_next_h021 td ftp fwo za) = 2 → 0 ≤ (m_X6_next_h022 td ftp fwo za) ∧ (m_X6_next_h022 td ftp fwo za) < 6) ∧ ((m_X6_next_h021 td ftp fwo za) = 1 → 100000 ≤ 100000 + (m_X6_next_h022 td ftp fwo za))) () := nx_facts hza htd
                        exact W.vret hx hb hr (fun t ht hW => ⟨⟨(), rfl, hpost, by rw [ht]; exact hP9, va_K.moved hW.alike hK, hD9⟩, hS.F ht⟩) hS.2.2 dX6_next_403
                      · skip
                        refine lv_iload_n hx hb dX6_next_344 rfl (lv_at hl 0 rfl) ?_
                        refine lv_bipush (v := 43) hx hb dX6_next_345 (by decide +kernel) ?_
                        refine lv_icmp_eq (tgt := 374) hx hb dX6_next_347 (by decide +kernel) (fun c_205 => ?_) (fun c_205 => ?_)
                        · skip
                          refine lv_iconst (v := 1) hx hb dX6_next_374 (by decide +kernel) ?_
                          refine lv_goto (tgt := 379) hx hb dX6_next_375 (by decide +kernel) ?_
                          refine lv_istore_n (lv' := [zI 2 1, zI 1 (ftp (g_X6_next_0 td ftp za)), zR 0 h0]) hx hb dX6_next_379 rfl hl (by decide +kernel) rfl (fun ls hl => ?_)
                          refine lv_aload_n hx hb dX6_next_380 rfl (lv_at hl 2 rfl) ?_
                          refine lv_iload_n hx hb dX6_next_381 rfl (lv_at hl 0 rfl) ?_
                          refine lv_if_eq (tgt := 389) hx hb dX6_next_382 (by decide +kernel) (fun c_206 => ?_) (fun c_206 => ?_)
                          · exact absurd c_206 (by decide +kernel)
                          refine lv_iload_n hx hb dX6_next_385 rfl (lv_at hl 1 rfl) ?_
                          refine lv_goto (tgt := 390) hx hb dX6_next_386 (by decide +kernel) ?_
                          refine va_put (D := G.1) (ci := 6) (v := .int (ftp (g_X6_next_0 td ftp za))) (ty := .int) (C := RX6) (T := TX6) (N := 42) hx hb hts hiX6 tyX6 tyX6_ok nmX6 hown hK hP hD hS 0 rfl rfl 21 (by decide +kernel) kf117 (fun _ h9 => h9) rfl (by decide +kernel) rfl rfl (Nat.le_of_ble_eq_true rfl) dX6_next_390 (fun H locs hP hD hS => ?_)
                          have hz9 : gPD G A [zo6 h0 (nI pb) kd mo st (nI jg) ro tp (nI td) cd sr (nI tx) (nI ru) him ir ih ss sq ce lw (nI (g_X6_next_0 td ftp za)) (nI (g_X6_next_0 td ftp za)) (ftp (g_X6_next_0 td ftp za)) 0 wo he s25 s26 s27 sk na kp s31 s32 s33 s34 gb go fa ga s39 s40 vo, zi G tp 160 ftp, zi G wo 96 fwo] H := ⟨hP, hD⟩
                          have hP := hz9.1
                          have hD := hz9.2
                          refine lv_aload_n hx hb dX6_next_393 rfl (lv_at hl 2 rfl) ?_
                          refine lv_dup hx hb dX6_next_394 rfl ?_
                          refine va_get (D := G.1) (ci := 6) (v := .int (nI (g_X6_next_0 td ftp za))) (C := RX6) (T := TX6) (N := 42) hx hb hts hiX6 hown hK hP 0 rfl rfl 19 (by decide +kernel) kf111 (fun _ h9 => h9) rfl dX6_next_395 ?_
                          refine lv_iconst (v := 1) hx hb dX6_next_398 (by decide +kernel) ?_
                          refine lv_iadd hx hb dX6_next_399 ?_
                          refine lv_topi (fun v_207 ev_207 => ?_)
                          have ev_207 : v_207 = nI ((g_X6_next_0 td ftp za) + 1) := ev_207.trans (nI_add (g_X6_next_0 td ftp za) 1)
                          subst ev_207
                          refine va_put (D := G.1) (ci := 6) (v := .int (nI ((g_X6_next_0 td ftp za) + 1))) (ty := .int) (C := RX6) (T := TX6) (N := 42) hx hb hts hiX6 tyX6 tyX6_ok nmX6 hown hK hP hD hS 0 rfl rfl 19 (by decide +kernel) kf111 (fun _ h9 => h9) rfl (by decide +kernel) rfl rfl (Nat.le_of_ble_eq_true rfl) dX6_next_400 (fun H locs hP hD hS => ?_)
                          have hz9 : gPD G A [zo6 h0 (nI pb) kd mo st (nI jg) ro tp (nI td) cd sr (nI tx) (nI ru) him ir ih ss sq ce lw (nI ((g_X6_next_0 td ftp za) + 1)) (nI (g_X6_next_0 td ftp za)) (ftp (g_X6_next_0 td ftp za)) 0 wo he s25 s26 s27 sk na kp s31 s32 s33 s34 gb go fa ga s39 s40 vo, zi G tp 160 ftp, zi G wo 96 fwo] H := ⟨hP, hD⟩
                          have hP := hz9.1
                          have hD := hz9.2
                          have q_208 : m_X6_next_h019 td ftp za = (g_X6_next_0 td ftp za) + 1 := by unfold m_X6_next_h019; rw [if_neg c_172, if_neg n_178, if_neg n_183]
                          have q_209 : m_X6_next_h020 td ftp za = nI (g_X6_next_0 td ftp za) := by unfold m_X6_next_h020; rw [if_neg c_172, if_neg n_178]
                          have q_210 : m_X6_next_h021 td ftp fwo za = ftp (g_X6_next_0 td ftp za) := by unfold m_X6_next_h021; rw [if_neg c_172, if_neg n_178, if_neg n_183, if_neg c_184, if_neg c_191, if_neg c_198, if_pos c_205]
                          have q_211 : m_X6_next_h022 td ftp fwo za = 0 := by unfold m_X6_next_h022; rw [if_neg c_172, if_neg n_178, if_neg n_183]
                          have hz9 : gPD G A [zo6 h0 (nI pb) kd mo st (nI jg) ro tp (nI td) cd sr (nI tx) (nI ru) him ir ih ss sq ce lw (nI (m_X6_next_h019 td ftp za)) (m_X6_next_h020 td ftp za) (m_X6_next_h021 td ftp fwo za) (m_X6_next_h022 td ftp fwo za) wo he s25 s26 s27 sk na kp s31 s32 s33 s34 gb go fa ga s39 s40 vo, zi G tp 160 ftp, zi G wo 96 fwo] H := ⟨by rw [q_208, q_209, q_210, q_211]; exact hP.sub [0, 1, 2] rfl, by rw [q_208, q_209, q_210, q_211]; exact hD.sub [0, 1, 2] (by decide +kernel) rfl⟩
                          have hP9 := hz9.1
                          have hD9 := hz9.2
                          have hpost : (fun (u : Unit) => match u with | _ => za ≤ (m_X6_next_h019 td ftp za) ∧ (m_X6_next_h019 td ftp za) ≤ td ∧ (¬ (m_X6_next_h021 td ftp fwo za) = 0 → za < (m_X6_next_h019 td ftp za)) ∧ ((m_X6_next_h021 td ftp fwo za) = 2 → 0 ≤ (m_X6_next_h022 td ftp fwo za) ∧ (m_X6_next_h022 td ftp fwo za) < 6) ∧ ((m_X6_next_h021 td ftp fwo za) = 1 → 100000 ≤ 100000 + (m_X6_next_h022 td ftp fwo za))) () := nx_facts hza htd
                          exact W.vret hx hb hr (fun t ht hW => ⟨⟨(), rfl, hpost, by rw [ht]; exact hP9, va_K.moved hW.alike hK, hD9⟩, hS.F ht⟩) hS.2.2 dX6_next_403
                        · skip
                          refine lv_iload_n hx hb dX6_next_350 rfl (lv_at hl 0 rfl) ?_
                          refine lv_bipush (v := 45) hx hb dX6_next_351 (by decide +kernel) ?_
                          refine lv_icmp_eq (tgt := 374) hx hb dX6_next_353 (by decide +kernel) (fun c_212 => ?_) (fun c_212 => ?_)
                          · skip
                            refine lv_iconst (v := 1) hx hb dX6_next_374 (by decide +kernel) ?_
                            refine lv_goto (tgt := 379) hx hb dX6_next_375 (by decide +kernel) ?_
                            refine lv_istore_n (lv' := [zI 2 1, zI 1 (ftp (g_X6_next_0 td ftp za)), zR 0 h0]) hx hb dX6_next_379 rfl hl (by decide +kernel) rfl (fun ls hl => ?_)
                            refine lv_aload_n hx hb dX6_next_380 rfl (lv_at hl 2 rfl) ?_
                            refine lv_iload_n hx hb dX6_next_381 rfl (lv_at hl 0 rfl) ?_
                            refine lv_if_eq (tgt := 389) hx hb dX6_next_382 (by decide +kernel) (fun c_213 => ?_) (fun c_213 => ?_)
                            · exact absurd c_213 (by decide +kernel)
                            refine lv_iload_n hx hb dX6_next_385 rfl (lv_at hl 1 rfl) ?_
                            refine lv_goto (tgt := 390) hx hb dX6_next_386 (by decide +kernel) ?_
                            refine va_put (D := G.1) (ci := 6) (v := .int (ftp (g_X6_next_0 td ftp za))) (ty := .int) (C := RX6) (T := TX6) (N := 42) hx hb hts hiX6 tyX6 tyX6_ok nmX6 hown hK hP hD hS 0 rfl rfl 21 (by decide +kernel) kf117 (fun _ h9 => h9) rfl (by decide +kernel) rfl rfl (Nat.le_of_ble_eq_true rfl) dX6_next_390 (fun H locs hP hD hS => ?_)
                            have hz9 : gPD G A [zo6 h0 (nI pb) kd mo st (nI jg) ro tp (nI td) cd sr (nI tx) (nI ru) him ir ih ss sq ce lw (nI (g_X6_next_0 td ftp za)) (nI (g_X6_next_0 td ftp za)) (ftp (g_X6_next_0 td ftp za)) 0 wo he s25 s26 s27 sk na kp s31 s32 s33 s34 gb go fa ga s39 s40 vo, zi G tp 160 ftp, zi G wo 96 fwo] H := ⟨hP, hD⟩
                            have hP := hz9.1
                            have hD := hz9.2
                            refine lv_aload_n hx hb dX6_next_393 rfl (lv_at hl 2 rfl) ?_
                            refine lv_dup hx hb dX6_next_394 rfl ?_
                            refine va_get (D := G.1) (ci := 6) (v := .int (nI (g_X6_next_0 td ftp za))) (C := RX6) (T := TX6) (N := 42) hx hb hts hiX6 hown hK hP 0 rfl rfl 19 (by decide +kernel) kf111 (fun _ h9 => h9) rfl dX6_next_395 ?_
                            refine lv_iconst (v := 1) hx hb dX6_next_398 (by decide +kernel) ?_
                            refine lv_iadd hx hb dX6_next_399 ?_
                            refine lv_topi (fun v_214 ev_214 => ?_)
                            have ev_214 : v_214 = nI ((g_X6_next_0 td ftp za) + 1) := ev_214.trans (nI_add (g_X6_next_0 td ftp za) 1)
                            subst ev_214
                            refine va_put (D := G.1) (ci := 6) (v := .int (nI ((g_X6_next_0 td ftp za) + 1))) (ty := .int) (C := RX6) (T := TX6) (N := 42) hx hb hts hiX6 tyX6 tyX6_ok nmX6 hown hK hP hD hS 0 rfl rfl 19 (by decide +kernel) kf111 (fun _ h9 => h9) rfl (by decide +kernel) rfl rfl (Nat.le_of_ble_eq_true rfl) dX6_next_400 (fun H locs hP hD hS => ?_)
                            have hz9 : gPD G A [zo6 h0 (nI pb) kd mo st (nI jg) ro tp (nI td) cd sr (nI tx) (nI ru) him ir ih ss sq ce lw (nI ((g_X6_next_0 td ftp za) + 1)) (nI (g_X6_next_0 td ftp za)) (ftp (g_X6_next_0 td ftp za)) 0 wo he s25 s26 s27 sk na kp s31 s32 s33 s34 gb go fa ga s39 s40 vo, zi G tp 160 ftp, zi G wo 96 fwo] H := ⟨hP, hD⟩
                            have hP := hz9.1
                            have hD := hz9.2
                            have q_215 : m_X6_next_h019 td ftp za = (g_X6_next_0 td ftp za) + 1 := by unfold m_X6_next_h019; rw [if_neg c_172, if_neg n_178, if_neg n_183]
                            have q_216 : m_X6_next_h020 td ftp za = nI (g_X6_next_0 td ftp za) := by unfold m_X6_next_h020; rw [if_neg c_172, if_neg n_178]
                            have q_217 : m_X6_next_h021 td ftp fwo za = ftp (g_X6_next_0 td ftp za) := by unfold m_X6_next_h021; rw [if_neg c_172, if_neg n_178, if_neg n_183, if_neg c_184, if_neg c_191, if_neg c_198, if_neg c_205, if_pos c_212]
                            have q_218 : m_X6_next_h022 td ftp fwo za = 0 := by unfold m_X6_next_h022; rw [if_neg c_172, if_neg n_178, if_neg n_183]
                            have hz9 : gPD G A [zo6 h0 (nI pb) kd mo st (nI jg) ro tp (nI td) cd sr (nI tx) (nI ru) him ir ih ss sq ce lw (nI (m_X6_next_h019 td ftp za)) (m_X6_next_h020 td ftp za) (m_X6_next_h021 td ftp fwo za) (m_X6_next_h022 td ftp fwo za) wo he s25 s26 s27 sk na kp s31 s32 s33 s34 gb go fa ga s39 s40 vo, zi G tp 160 ftp, zi G wo 96 fwo] H := ⟨by rw [q_215, q_216, q_217, q_218]; exact hP.sub [0, 1, 2] rfl, by rw [q_215, q_216, q_217, q_218]; exact hD.sub [0, 1, 2] (by decide +kernel) rfl⟩
                            have hP9 := hz9.1
                            have hD9 := hz9.2
                            have hpost : (fun (u : Unit) => match u with | _ => za ≤ (m_X6_next_h019 td ftp za) ∧ (m_X6_next_h019 td ftp za) ≤ td ∧ (¬ (m_X6_next_h021 td ftp fwo za) = 0 → za < (m_X6_next_h019 td ftp za)) ∧ ((m_X6_next_h021 td ftp fwo za) = 2 → 0 ≤ (m_X6_next_h022 td ftp fwo za) ∧ (m_X6_next_h022 td ftp fwo za) < 6) ∧ ((m_X6_next_h021 td ftp fwo za) = 1 → 100000 ≤ 100000 + (m_X6_next_h022 td ftp fwo za))) () := nx_facts hza htd
                            exact W.vret hx hb hr (fun t ht hW => ⟨⟨(), rfl, hpost, by rw [ht]; exact hP9, va_K.moved hW.alike hK, hD9⟩, hS.F ht⟩) hS.2.2 dX6_next_403
                          · skip
                            refine lv_iload_n hx hb dX6_next_356 rfl (lv_at hl 0 rfl) ?_
                            refine lv_bipush (v := 42) hx hb dX6_next_357 (by decide +kernel) ?_
                            refine lv_icmp_eq (tgt := 374) hx hb dX6_next_359 (by decide +kernel) (fun c_219 => ?_) (fun c_219 => ?_)
                            · skip
                              refine lv_iconst (v := 1) hx hb dX6_next_374 (by decide +kernel) ?_
                              refine lv_goto (tgt := 379) hx hb dX6_next_375 (by decide +kernel) ?_
                              refine lv_istore_n (lv' := [zI 2 1, zI 1 (ftp (g_X6_next_0 td ftp za)), zR 0 h0]) hx hb dX6_next_379 rfl hl (by decide +kernel) rfl (fun ls hl => ?_)
                              refine lv_aload_n hx hb dX6_next_380 rfl (lv_at hl 2 rfl) ?_
                              refine lv_iload_n hx hb dX6_next_381 rfl (lv_at hl 0 rfl) ?_
                              refine lv_if_eq (tgt := 389) hx hb dX6_next_382 (by decide +kernel) (fun c_220 => ?_) (fun c_220 => ?_)
                              · exact absurd c_220 (by decide +kernel)
                              refine lv_iload_n hx hb dX6_next_385 rfl (lv_at hl 1 rfl) ?_
                              refine lv_goto (tgt := 390) hx hb dX6_next_386 (by decide +kernel) ?_
                              refine va_put (D := G.1) (ci := 6) (v := .int (ftp (g_X6_next_0 td ftp za))) (ty := .int) (C := RX6) (T := TX6) (N := 42) hx hb hts hiX6 tyX6 tyX6_ok nmX6 hown hK hP hD hS 0 rfl rfl 21 (by decide +kernel) kf117 (fun _ h9 => h9) rfl (by decide +kernel) rfl rfl (Nat.le_of_ble_eq_true rfl) dX6_next_390 (fun H locs hP hD hS => ?_)
                              have hz9 : gPD G A [zo6 h0 (nI pb) kd mo st (nI jg) ro tp (nI td) cd sr (nI tx) (nI ru) him ir ih ss sq ce lw (nI (g_X6_next_0 td ftp za)) (nI (g_X6_next_0 td ftp za)) (ftp (g_X6_next_0 td ftp za)) 0 wo he s25 s26 s27 sk na kp s31 s32 s33 s34 gb go fa ga s39 s40 vo, zi G tp 160 ftp, zi G wo 96 fwo] H := ⟨hP, hD⟩
                              have hP := hz9.1
                              have hD := hz9.2
                              refine lv_aload_n hx hb dX6_next_393 rfl (lv_at hl 2 rfl) ?_
                              refine lv_dup hx hb dX6_next_394 rfl ?_
                              refine va_get (D := G.1) (ci := 6) (v := .int (nI (g_X6_next_0 td ftp za))) (C := RX6) (T := TX6) (N := 42) hx hb hts hiX6 hown hK hP 0 rfl rfl 19 (by decide +kernel) kf111 (fun _ h9 => h9) rfl dX6_next_395 ?_
                              refine lv_iconst (v := 1) hx hb dX6_next_398 (by decide +kernel) ?_
                              refine lv_iadd hx hb dX6_next_399 ?_
                              refine lv_topi (fun v_221 ev_221 => ?_)
                              have ev_221 : v_221 = nI ((g_X6_next_0 td ftp za) + 1) := ev_221.trans (nI_add (g_X6_next_0 td ftp za) 1)
                              subst ev_221
                              refine va_put (D := G.1) (ci := 6) (v := .int (nI ((g_X6_next_0 td ftp za) + 1))) (ty := .int) (C := RX6) (T := TX6) (N := 42) hx hb hts hiX6 tyX6 tyX6_ok nmX6 hown hK hP hD hS 0 rfl rfl 19 (by decide +kernel) kf111 (fun _ h9 => h9) rfl (by decide +kernel) rfl rfl (Nat.le_of_ble_eq_true rfl) dX6_next_400 (fun H locs hP hD hS => ?_)
                              have hz9 : gPD G A [zo6 h0 (nI pb) kd mo st (nI jg) ro tp (nI td) cd sr (nI tx) (nI ru) him ir ih ss sq ce lw (nI ((g_X6_next_0 td ftp za) + 1)) (nI (g_X6_next_0 td ftp za)) (ftp (g_X6_next_0 td ftp za)) 0 wo he s25 s26 s27 sk na kp s31 s32 s33 s34 gb go fa ga s39 s40 vo, zi G tp 160 ftp, zi G wo 96 fwo] H := ⟨hP, hD⟩
                              have hP := hz9.1
                              have hD := hz9.2
                              have q_222 : m_X6_next_h019 td ftp za = (g_X6_next_0 td ftp za) + 1 := by unfold m_X6_next_h019; rw [if_neg c_172, if_neg n_178, if_neg n_183]
                              have q_223 : m_X6_next_h020 td ftp za = nI (g_X6_next_0 td ftp za) := by unfold m_X6_next_h020; rw [if_neg c_172, if_neg n_178]
                              have q_224 : m_X6_next_h021 td ftp fwo za = ftp (g_X6_next_0 td ftp za) := by unfold m_X6_next_h021; rw [if_neg c_172, if_neg n_178, if_neg n_183, if_neg c_184, if_neg c_191, if_neg c_198, if_neg c_205, if_neg c_212, if_pos c_219]
                              have q_225 : m_X6_next_h022 td ftp fwo za = 0 := by unfold m_X6_next_h022; rw [if_neg c_172, if_neg n_178, if_neg n_183]
                              have hz9 : gPD G A [zo6 h0 (nI pb) kd mo st (nI jg) ro tp (nI td) cd sr (nI tx) (nI ru) him ir ih ss sq ce lw (nI (m_X6_next_h019 td ftp za)) (m_X6_next_h020 td ftp za) (m_X6_next_h021 td ftp fwo za) (m_X6_next_h022 td ftp fwo za) wo he s25 s26 s27 sk na kp s31 s32 s33 s34 gb go fa ga s39 s40 vo, zi G tp 160 ftp, zi G wo 96 fwo] H := ⟨by rw [q_222, q_223, q_224, q_225]; exact hP.sub [0, 1, 2] rfl, by rw [q_222, q_223, q_224, q_225]; exact hD.sub [0, 1, 2] (by decide +kernel) rfl⟩
                              have hP9 := hz9.1
                              have hD9 := hz9.2
                              have hpost : (fun (u : Unit) => match u with | _ => za ≤ (m_X6_next_h019 td ftp za) ∧ (m_X6_next_h019 td ftp za) ≤ td ∧ (¬ (m_X6_next_h021 td ftp fwo za) = 0 → za < (m_X6_next_h019 td ftp za)) ∧ ((m_X6_next_h021 td ftp fwo za) = 2 → 0 ≤ (m_X6_next_h022 td ftp fwo za) ∧ (m_X6_next_h022 td ftp fwo za) < 6) ∧ ((m_X6_next_h021 td ftp fwo za) = 1 → 100000 ≤ 100000 + (m_X6_next_h022 td ftp fwo za))) () := nx_facts hza htd
                              exact W.vret hx hb hr (fun t ht hW => ⟨⟨(), rfl, hpost, by rw [ht]; exact hP9, va_K.moved hW.alike hK, hD9⟩, hS.F ht⟩) hS.2.2 dX6_next_403
                            · skip
                              refine lv_iload_n hx hb dX6_next_362 rfl (lv_at hl 0 rfl) ?_
                              refine lv_bipush (v := 60) hx hb dX6_next_363 (by decide +kernel) ?_
                              refine lv_icmp_eq (tgt := 374) hx hb dX6_next_365 (by decide +kernel) (fun c_226 => ?_) (fun c_226 => ?_)
                              · skip
                                refine lv_iconst (v := 1) hx hb dX6_next_374 (by decide +kernel) ?_
                                refine lv_goto (tgt := 379) hx hb dX6_next_375 (by decide +kernel) ?_
                                refine lv_istore_n (lv' := [zI 2 1, zI 1 (ftp (g_X6_next_0 td ftp za)), zR 0 h0]) hx hb dX6_next_379 rfl hl (by decide +kernel) rfl (fun ls hl => ?_)
                                refine lv_aload_n hx hb dX6_next_380 rfl (lv_at hl 2 rfl) ?_
                                refine lv_iload_n hx hb dX6_next_381 rfl (lv_at hl 0 rfl) ?_
                                refine lv_if_eq (tgt := 389) hx hb dX6_next_382 (by decide +kernel) (fun c_227 => ?_) (fun c_227 => ?_)
                                · exact absurd c_227 (by decide +kernel)
                                refine lv_iload_n hx hb dX6_next_385 rfl (lv_at hl 1 rfl) ?_
                                refine lv_goto (tgt := 390) hx hb dX6_next_386 (by decide +kernel) ?_
                                refine va_put (D := G.1) (ci := 6) (v := .int (ftp (g_X6_next_0 td ftp za))) (ty := .int) (C := RX6) (T := TX6) (N := 42) hx hb hts hiX6 tyX6 tyX6_ok nmX6 hown hK hP hD hS 0 rfl rfl 21 (by decide +kernel) kf117 (fun _ h9 => h9) rfl (by decide +kernel) rfl rfl (Nat.le_of_ble_eq_true rfl) dX6_next_390 (fun H locs hP hD hS => ?_)
                                have hz9 : gPD G A [zo6 h0 (nI pb) kd mo st (nI jg) ro tp (nI td) cd sr (nI tx) (nI ru) him ir ih ss sq ce lw (nI (g_X6_next_0 td ftp za)) (nI (g_X6_next_0 td ftp za)) (ftp (g_X6_next_0 td ftp za)) 0 wo he s25 s26 s27 sk na kp s31 s32 s33 s34 gb go fa ga s39 s40 vo, zi G tp 160 ftp, zi G wo 96 fwo] H := ⟨hP, hD⟩
                                have hP := hz9.1
                                have hD := hz9.2
                                refine lv_aload_n hx hb dX6_next_393 rfl (lv_at hl 2 rfl) ?_
                                refine lv_dup hx hb dX6_next_394 rfl ?_
                                refine va_get (D := G.1) (ci := 6) (v := .int (nI (g_X6_next_0 td ftp za))) (C := RX6) (T := TX6) (N := 42) hx hb hts hiX6 hown hK hP 0 rfl rfl 19 (by decide +kernel) kf111 (fun _ h9 => h9) rfl dX6_next_395 ?_
                                refine lv_iconst (v := 1) hx hb dX6_next_398 (by decide +kernel) ?_
                                refine lv_iadd hx hb dX6_next_399 ?_
                                refine lv_topi (fun v_228 ev_228 => ?_)
                                have ev_228 : v_228 = nI ((g_X6_next_0 td ftp za) + 1) := ev_228.trans (nI_add (g_X6_next_0 td ftp za) 1)
                                subst ev_228
                                refine va_put (D := G.1) (ci := 6) (v := .int (nI ((g_X6_next_0 td ftp za) + 1))) (ty := .int) (C := RX6) (T := TX6) (N := 42) hx hb hts hiX6 tyX6 tyX6_ok nmX6 hown hK hP hD hS 0 rfl rfl 19 (by decide +kernel) kf111 (fun _ h9 => h9) rfl (by decide +kernel) rfl rfl (Nat.le_of_ble_eq_true rfl) dX6_next_400 (fun H locs hP hD hS => ?_)
                                have hz9 : gPD G A [zo6 h0 (nI pb) kd mo st (nI jg) ro tp (nI td) cd sr (nI tx) (nI ru) him ir ih ss sq ce lw (nI ((g_X6_next_0 td ftp za) + 1)) (nI (g_X6_next_0 td ftp za)) (ftp (g_X6_next_0 td ftp za)) 0 wo he s25 s26 s27 sk na kp s31 s32 s33 s34 gb go fa ga s39 s40 vo, zi G tp 160 ftp, zi G wo 96 fwo] H := ⟨hP, hD⟩
                                have hP := hz9.1
                                have hD := hz9.2
                                have q_229 : m_X6_next_h019 td ftp za = (g_X6_next_0 td ftp za) + 1 := by unfold m_X6_next_h019; rw [if_neg c_172, if_neg n_178, if_neg n_183]
                                have q_230 : m_X6_next_h020 td ftp za = nI (g_X6_next_0 td ftp za) := by unfold m_X6_next_h020; rw [if_neg c_172, if_neg n_178]
                                have q_231 : m_X6_next_h021 td ftp fwo za = ftp (g_X6_next_0 td ftp za) := by unfold m_X6_next_h021; rw [if_neg c_172, if_neg n_178, if_neg n_183, if_neg c_184, if_neg c_191, if_neg c_198, if_neg c_205, if_neg c_212, if_neg c_219, if_pos c_226]
                                have q_232 : m_X6_next_h022 td ftp fwo za = 0 := by unfold m_X6_next_h022; rw [if_neg c_172, if_neg n_178, if_neg n_183]
                                have hz9 : gPD G A [zo6 h0 (nI pb) kd mo st (nI jg) ro tp (nI td) cd sr (nI tx) (nI ru) him ir ih ss sq ce lw (nI (m_X6_next_h019 td ftp za)) (m_X6_next_h020 td ftp za) (m_X6_next_h021 td ftp fwo za) (m_X6_next_h022 td ftp fwo za) wo he s25 s26 s27 sk na kp s31 s32 s33 s34 gb go fa ga s39 s40 vo, zi G tp 160 ftp, zi G wo 96 fwo] H := ⟨by rw [q_229, q_230, q_231, q_232]; exact hP.sub [0, 1, 2] rfl, by rw [q_229, q_230, q_231, q_232]; exact hD.sub [0, 1, 2] (by decide +kernel) rfl⟩
                                have hP9 := hz9.1
                                have hD9 := hz9.2
                                have hpost : (fun (u : Unit) => match u with | _ => za ≤ (m_X6_next_h019 td ftp za) ∧ (m_X6_next_h019 td ftp za) ≤ td ∧ (¬ (m_X6_next_h021 td ftp fwo za) = 0 → za < (m_X6_next_h019 td ftp za)) ∧ ((m_X6_next_h021 td ftp fwo za) = 2 → 0 ≤ (m_X6_next_h022 td ftp fwo za) ∧ (m_X6_next_h022 td ftp fwo za) < 6) ∧ ((m_X6_next_h021 td ftp fwo za) = 1 → 100000 ≤ 100000 + (m_X6_next_h022 td ftp fwo za))) () := nx_facts hza htd
                                exact W.vret hx hb hr (fun t ht hW => ⟨⟨(), rfl, hpost, by rw [ht]; exact hP9, va_K.moved hW.alike hK, hD9⟩, hS.F ht⟩) hS.2.2 dX6_next_403
                              · skip
                                refine lv_iload_n hx hb dX6_next_368 rfl (lv_at hl 0 rfl) ?_
                                refine lv_bipush (v := 61) hx hb dX6_next_369 (by decide +kernel) ?_
                                refine lv_icmp_ne (tgt := 378) hx hb dX6_next_371 (by decide +kernel) (fun c_233 => ?_) (fun c_233 => ?_)
                                · skip
                                  refine lv_iconst (v := 0) hx hb dX6_next_378 (by decide +kernel) ?_
                                  refine lv_istore_n (lv' := [zI 2 0, zI 1 (ftp (g_X6_next_0 td ftp za)), zR 0 h0]) hx hb dX6_next_379 rfl hl (by decide +kernel) rfl (fun ls hl => ?_)
                                  refine lv_aload_n hx hb dX6_next_380 rfl (lv_at hl 2 rfl) ?_
                                  refine lv_iload_n hx hb dX6_next_381 rfl (lv_at hl 0 rfl) ?_
                                  refine lv_if_eq (tgt := 389) hx hb dX6_next_382 (by decide +kernel) (fun c_234 => ?_) (fun c_234 => ?_)
                                  rotate_left
                                  · exact absurd (by decide +kernel) c_234
                                  refine lv_iconst (v := -1) hx hb dX6_next_389 (by decide +kernel) ?_
                                  refine va_put (D := G.1) (ci := 6) (v := .int (-1)) (ty := .int) (C := RX6) (T := TX6) (N := 42) hx hb hts hiX6 tyX6 tyX6_ok nmX6 hown hK hP hD hS 0 rfl rfl 21 (by decide +kernel) kf117 (fun _ h9 => h9) rfl (by decide +kernel) rfl rfl (Nat.le_of_ble_eq_true rfl) dX6_next_390 (fun H locs hP hD hS => ?_)
                                  have hz9 : gPD G A [zo6 h0 (nI pb) kd mo st (nI jg) ro tp (nI td) cd sr (nI tx) (nI ru) him ir ih ss sq ce lw (nI (g_X6_next_0 td ftp za)) (nI (g_X6_next_0 td ftp za)) (-1) 0 wo he s25 s26 s27 sk na kp s31 s32 s33 s34 gb go fa ga s39 s40 vo, zi G tp 160 ftp, zi G wo 96 fwo] H := ⟨hP, hD⟩
                                  have hP := hz9.1
                                  have hD := hz9.2
                                  refine lv_aload_n hx hb dX6_next_393 rfl (lv_at hl 2 rfl) ?_
                                  refine lv_dup hx hb dX6_next_394 rfl ?_
                                  refine va_get (D := G.1) (ci := 6) (v := .int (nI (g_X6_next_0 td ftp za))) (C := RX6) (T := TX6) (N := 42) hx hb hts hiX6 hown hK hP 0 rfl rfl 19 (by decide +kernel) kf111 (fun _ h9 => h9) rfl dX6_next_395 ?_
                                  refine lv_iconst (v := 1) hx hb dX6_next_398 (by decide +kernel) ?_
                                  refine lv_iadd hx hb dX6_next_399 ?_
                                  refine lv_topi (fun v_235 ev_235 => ?_)
                                  have ev_235 : v_235 = nI ((g_X6_next_0 td ftp za) + 1) := ev_235.trans (nI_add (g_X6_next_0 td ftp za) 1)
                                  subst ev_235
                                  refine va_put (D := G.1) (ci := 6) (v := .int (nI ((g_X6_next_0 td ftp za) + 1))) (ty := .int) (C := RX6) (T := TX6) (N := 42) hx hb hts hiX6 tyX6 tyX6_ok nmX6 hown hK hP hD hS 0 rfl rfl 19 (by decide +kernel) kf111 (fun _ h9 => h9) rfl (by decide +kernel) rfl rfl (Nat.le_of_ble_eq_true rfl) dX6_next_400 (fun H locs hP hD hS => ?_)
                                  have hz9 : gPD G A [zo6 h0 (nI pb) kd mo st (nI jg) ro tp (nI td) cd sr (nI tx) (nI ru) him ir ih ss sq ce lw (nI ((g_X6_next_0 td ftp za) + 1)) (nI (g_X6_next_0 td ftp za)) (-1) 0 wo he s25 s26 s27 sk na kp s31 s32 s33 s34 gb go fa ga s39 s40 vo, zi G tp 160 ftp, zi G wo 96 fwo] H := ⟨hP, hD⟩
                                  have hP := hz9.1
                                  have hD := hz9.2
                                  have q_236 : m_X6_next_h019 td ftp za = (g_X6_next_0 td ftp za) + 1 := by unfold m_X6_next_h019; rw [if_neg c_172, if_neg n_178, if_neg n_183]
                                  have q_237 : m_X6_next_h020 td ftp za = nI (g_X6_next_0 td ftp za) := by unfold m_X6_next_h020; rw [if_neg c_172, if_neg n_178]
                                  have q_238 : m_X6_next_h021 td ftp fwo za = -1 := by unfold m_X6_next_h021; rw [if_neg c_172, if_neg n_178, if_neg n_183, if_neg c_184, if_neg c_191, if_neg c_198, if_neg c_205, if_neg c_212, if_neg c_219, if_neg c_226, if_neg c_233]
                                  have q_239 : m_X6_next_h022 td ftp fwo za = 0 := by unfold m_X6_next_h022; rw [if_neg c_172, if_neg n_178, if_neg n_183]
                                  have hz9 : gPD G A [zo6 h0 (nI pb) kd mo st (nI jg) ro tp (nI td) cd sr (nI tx) (nI ru) him ir ih ss sq ce lw (nI (m_X6_next_h019 td ftp za)) (m_X6_next_h020 td ftp za) (m_X6_next_h021 td ftp fwo za) (m_X6_next_h022 td ftp fwo za) wo he s25 s26 s27 sk na kp s31 s32 s33 s34 gb go fa ga s39 s40 vo, zi G tp 160 ftp, zi G wo 96 fwo] H := ⟨by rw [q_236, q_237, q_238, q_239]; exact hP.sub [0, 1, 2] rfl, by rw [q_236, q_237, q_238, q_239]; exact hD.sub [0, 1, 2] (by decide +kernel) rfl⟩
                                  have hP9 := hz9.1
                                  have hD9 := hz9.2
                                  have hpost : (fun (u : Unit) => match u with | _ => za ≤ (m_X6_next_h019 td ftp za) ∧ (m_X6_next_h019 td ftp za) ≤ td ∧ (¬ (m_X6_next_h021 td ftp fwo za) = 0 → za < (m_X6_next_h019 td ftp za)) ∧ ((m_X6_next_h021 td ftp fwo za) = 2 → 0 ≤ (m_X6_next_h022 td ftp fwo za) ∧ (m_X6_next_h022 td ftp fwo za) < 6) ∧ ((m_X6_next_h021 td ftp fwo za) = 1 → 100000 ≤ 100000 + (m_X6_next_h022 td ftp fwo za))) () := nx_facts hza htd
                                  exact W.vret hx hb hr (fun t ht hW => ⟨⟨(), rfl, hpost, by rw [ht]; exact hP9, va_K.moved hW.alike hK, hD9⟩, hS.F ht⟩) hS.2.2 dX6_next_403
                                · skip
                                  refine lv_iconst (v := 1) hx hb dX6_next_374 (by decide +kernel) ?_
                                  refine lv_goto (tgt := 379) hx hb dX6_next_375 (by decide +kernel) ?_
                                  refine lv_istore_n (lv' := [zI 2 1, zI 1 (ftp (g_X6_next_0 td ftp za)), zR 0 h0]) hx hb dX6_next_379 rfl hl (by decide +kernel) rfl (fun ls hl => ?_)
                                  refine lv_aload_n hx hb dX6_next_380 rfl (lv_at hl 2 rfl) ?_
                                  refine lv_iload_n hx hb dX6_next_381 rfl (lv_at hl 0 rfl) ?_
                                  refine lv_if_eq (tgt := 389) hx hb dX6_next_382 (by decide +kernel) (fun c_240 => ?_) (fun c_240 => ?_)
                                  · exact absurd c_240 (by decide +kernel)
                                  refine lv_iload_n hx hb dX6_next_385 rfl (lv_at hl 1 rfl) ?_
                                  refine lv_goto (tgt := 390) hx hb dX6_next_386 (by decide +kernel) ?_
                                  refine va_put (D := G.1) (ci := 6) (v := .int (ftp (g_X6_next_0 td ftp za))) (ty := .int) (C := RX6) (T := TX6) (N := 42) hx hb hts hiX6 tyX6 tyX6_ok nmX6 hown hK hP hD hS 0 rfl rfl 21 (by decide +kernel) kf117 (fun _ h9 => h9) rfl (by decide +kernel) rfl rfl (Nat.le_of_ble_eq_true rfl) dX6_next_390 (fun H locs hP hD hS => ?_)
                                  have hz9 : gPD G A [zo6 h0 (nI pb) kd mo st (nI jg) ro tp (nI td) cd sr (nI tx) (nI ru) him ir ih ss sq ce lw (nI (g_X6_next_0 td ftp za)) (nI (g_X6_next_0 td ftp za)) (ftp (g_X6_next_0 td ftp za)) 0 wo he s25 s26 s27 sk na kp s31 s32 s33 s34 gb go fa ga s39 s40 vo, zi G tp 160 ftp, zi G wo 96 fwo] H := ⟨hP, hD⟩
                                  have hP := hz9.1
                                  have hD := hz9.2
                                  refine lv_aload_n hx hb dX6_next_393 rfl (lv_at hl 2 rfl) ?_
                                  refine lv_dup hx hb dX6_next_394 rfl ?_
                                  refine va_get (D := G.1) (ci := 6) (v := .int (nI (g_X6_next_0 td ftp za))) (C := RX6) (T := TX6) (N := 42) hx hb hts hiX6 hown hK hP 0 rfl rfl 19 (by decide +kernel) kf111 (fun _ h9 => h9) rfl dX6_next_395 ?_
                                  refine lv_iconst (v := 1) hx hb dX6_next_398 (by decide +kernel) ?_
                                  refine lv_iadd hx hb dX6_next_399 ?_
                                  refine lv_topi (fun v_241 ev_241 => ?_)
                                  have ev_241 : v_241 = nI ((g_X6_next_0 td ftp za) + 1) := ev_241.trans (nI_add (g_X6_next_0 td ftp za) 1)
                                  subst ev_241
                                  refine va_put (D := G.1) (ci := 6) (v := .int (nI ((g_X6_next_0 td ftp za) + 1))) (ty := .int) (C := RX6) (T := TX6) (N := 42) hx hb hts hiX6 tyX6 tyX6_ok nmX6 hown hK hP hD hS 0 rfl rfl 19 (by decide +kernel) kf111 (fun _ h9 => h9) rfl (by decide +kernel) rfl rfl (Nat.le_of_ble_eq_true rfl) dX6_next_400 (fun H locs hP hD hS => ?_)
                                  have hz9 : gPD G A [zo6 h0 (nI pb) kd mo st (nI jg) ro tp (nI td) cd sr (nI tx) (nI ru) him ir ih ss sq ce lw (nI ((g_X6_next_0 td ftp za) + 1)) (nI (g_X6_next_0 td ftp za)) (ftp (g_X6_next_0 td ftp za)) 0 wo he s25 s26 s27 sk na kp s31 s32 s33 s34 gb go fa ga s39 s40 vo, zi G tp 160 ftp, zi G wo 96 fwo] H := ⟨hP, hD⟩
                                  have hP := hz9.1
                                  have hD := hz9.2
                                  have q_242 : m_X6_next_h019 td ftp za = (g_X6_next_0 td ftp za) + 1 := by unfold m_X6_next_h019; rw [if_neg c_172, if_neg n_178, if_neg n_183]
                                  have q_243 : m_X6_next_h020 td ftp za = nI (g_X6_next_0 td ftp za) := by unfold m_X6_next_h020; rw [if_neg c_172, if_neg n_178]
                                  have q_244 : m_X6_next_h021 td ftp fwo za = ftp (g_X6_next_0 td ftp za) := by unfold m_X6_next_h021; rw [if_neg c_172, if_neg n_178, if_neg n_183, if_neg c_184, if_neg c_191, if_neg c_198, if_neg c_205, if_neg c_212, if_neg c_219, if_neg c_226, if_pos c_233]
                                  have q_245 : m_X6_next_h022 td ftp fwo za = 0 := by unfold m_X6_next_h022; rw [if_neg c_172, if_neg n_178, if_neg n_183]
                                  have hz9 : gPD G A [zo6 h0 (nI pb) kd mo st (nI jg) ro tp (nI td) cd sr (nI tx) (nI ru) him ir ih ss sq ce lw (nI (m_X6_next_h019 td ftp za)) (m_X6_next_h020 td ftp za) (m_X6_next_h021 td ftp fwo za) (m_X6_next_h022 td ftp fwo za) wo he s25 s26 s27 sk na kp s31 s32 s33 s34 gb go fa ga s39 s40 vo, zi G tp 160 ftp, zi G wo 96 fwo] H := ⟨by rw [q_242, q_243, q_244, q_245]; exact hP.sub [0, 1, 2] rfl, by rw [q_242, q_243, q_244, q_245]; exact hD.sub [0, 1, 2] (by decide +kernel) rfl⟩
                                  have hP9 := hz9.1
                                  have hD9 := hz9.2
                                  have hpost : (fun (u : Unit) => match u with | _ => za ≤ (m_X6_next_h019 td ftp za) ∧ (m_X6_next_h019 td ftp za) ≤ td ∧ (¬ (m_X6_next_h021 td ftp fwo za) = 0 → za < (m_X6_next_h019 td ftp za)) ∧ ((m_X6_next_h021 td ftp fwo za) = 2 → 0 ≤ (m_X6_next_h022 td ftp fwo za) ∧ (m_X6_next_h022 td ftp fwo za) < 6) ∧ ((m_X6_next_h021 td ftp fwo za) = 1 → 100000 ≤ 100000 + (m_X6_next_h022 td ftp fwo za))) () := nx_facts hza htd
                                  exact W.vret hx hb hr (fun t ht hW => ⟨⟨(), rfl, hpost, by rw [ht]; exact hP9, va_K.moved hW.alike hK, hD9⟩, hS.F ht⟩) hS.2.2 dX6_next_403
                · skip
                  have p_182 : 48 ≤ (ftp (g_X6_next_0 td ftp za)) ∧ (ftp (g_X6_next_0 td ftp za)) ≤ 57 := of_decide_eq_true (bz_ne rfl c_181)
                  refine lv_iconst (v := 0) hx hb dX6_next_228 (by decide +kernel) ?_
                  refine lv_istore_n (lv' := [zI 2 0, zI 1 (ftp (g_X6_next_0 td ftp za)), zR 0 h0]) hx hb dX6_next_229 rfl hl (by decide +kernel) rfl (fun ls hl => ?_)
                  have loop_230 : ∀ (n9 : Nat) (a2 : Nat) (n2 : Nat) (z22v : Int32), (a2 ≤ td) → (p_X6_next_230 ftp (td - a2) a2 n2 z22v = (g_X6_next_230 td ftp za)) → (n2 ≤ a2) → (td - a2) < n9 → ∀ (H : Heap) (locs : List Loc), va_P G.1 vwCl [zo6 h0 (nI pb) kd mo st (nI jg) ro tp (nI td) cd sr (nI tx) (nI ru) him ir ih ss sq ce lw (nI a2) (nI (g_X6_next_0 td ftp za)) 0 z22v wo he s25 s26 s27 sk na kp s31 s32 s33 s34 gb go fa ga s39 s40 vo, zi G tp 160 ftp, zi G wo 96 fwo] H → va_D A [zo6 h0 (nI pb) kd mo st (nI jg) ro tp (nI td) cd sr (nI tx) (nI ru) him ir ih ss sq ce lw (nI a2) (nI (g_X6_next_0 td ftp za)) 0 z22v wo he s25 s26 s27 sk na kp s31 s32 s33 s34 gb go fa ga s39 s40 vo, zi G tp 160 ftp, zi G wo 96 fwo] → va_S A s.heap H locs → ∀ ls : Array Slot, lv_has ls 3 [zI 2 (nI n2), zI 1 (ftp (g_X6_next_0 td ftp za)), zR 0 h0] → W p l e (headSpec wsX6_next ({ frames := 1, cells := 0, slots := 0, locals := 25 })).room s m ([.ref h0] : List Value).toArray below meth c H locs 0 0 (MQ below (q_X6_next_b G h0 kd mo st ro tp cd sr ir ih ss sq ce lw wo he sk na kp gb go fa ga vo pb jg td tx ru him s20 s21 s22 s25 s26 s27 s31 s32 s33 s34 s39 s40 ftp fwo za A) ([.ref h0] : List Value).toArray s 0 0 A) (F0 m 230 ls []) := by
                    intro n9
                    induction n9 with
                    | zero => intro a2 n2 z22v ha2 R230 hn2 hm9_230; exact absurd hm9_230 (Nat.not_lt_zero _)
                    | succ n9 ih9_230 =>
                      intro a2 n2 z22v ha2 R230 hn2 hm9_230 H locs hP hD hS ls hl
                      refine lv_aload_n hx hb dX6_next_230 rfl (lv_at hl 2 rfl) ?_
                      refine va_get (D := G.1) (ci := 6) (v := .int (nI a2)) (C := RX6) (T := TX6) (N := 42) hx hb hts hiX6 hown hK hP 0 rfl rfl 19 (by decide +kernel) kf111 (fun _ h9 => h9) rfl dX6_next_231 ?_
                      refine lv_aload_n hx hb dX6_next_234 rfl (lv_at hl 2 rfl) ?_
                      refine va_get (D := G.1) (ci := 6) (v := .int (nI td)) (C := RX6) (T := TX6) (N := 42) hx hb hts hiX6 hown hK hP 0 rfl rfl 7 (by decide +kernel) kf80 (fun _ h9 => h9) rfl dX6_next_235 ?_
                      refine lv_icmp_ge (tgt := 309) hx hb dX6_next_238 (by decide +kernel) (fun c_246 => ?_) (fun c_246 => ?_)
                      · skip
                        have c_246N : td ≤ a2 := nI_le1 (a := td) (b := a2) (by omega) (by omega) c_246
                        have hF230 : (g_X6_next_230 td ftp za) = (a2, n2, z22v) := by rw [← R230, show td - a2 = 0 by omega]; rfl
                        have hE230_0 : a2 = ((g_X6_next_230 td ftp za).1) := by rw [hF230]
                        have hE230_1 : n2 = ((g_X6_next_230 td ftp za).2.1) := by rw [hF230]
                        have hE230_2 : z22v = ((g_X6_next_230 td ftp za).2.2) := by rw [hF230]
                        clear hF230 R230
                        subst hE230_0
                        subst hE230_1
                        subst hE230_2
                        refine lv_aload_n hx hb dX6_next_309 rfl (lv_at hl 2 rfl) ?_
                        refine lv_iload_n hx hb dX6_next_310 rfl (lv_at hl 0 rfl) ?_
                        refine lv_iconst (v := 4) hx hb dX6_next_311 (by decide +kernel) ?_
                        refine lv_icmp_le (tgt := 319) hx hb dX6_next_312 (by decide +kernel) (fun c_247 => ?_) (fun c_247 => ?_)
                        · skip
                          have c_247N : ((g_X6_next_230 td ftp za).2.1) ≤ 4 := nI_le1 (a := ((g_X6_next_230 td ftp za).2.1)) (b := 4) (by omega) (by omega) c_247
                          refine lv_iconst (v := 1) hx hb dX6_next_319 (by decide +kernel) ?_
                          refine va_put (D := G.1) (ci := 6) (v := .int 1) (ty := .int) (C := RX6) (T := TX6) (N := 42) hx hb hts hiX6 tyX6 tyX6_ok nmX6 hown hK hP hD hS 0 rfl rfl 21 (by decide +kernel) kf117 (fun _ h9 => h9) rfl (by decide +kernel) rfl rfl (Nat.le_of_ble_eq_true rfl) dX6_next_320 (fun H locs hP hD hS => ?_)
                          have hz9 : gPD G A [zo6 h0 (nI pb) kd mo st (nI jg) ro tp (nI td) cd sr (nI tx) (nI ru) him ir ih ss sq ce lw (nI ((g_X6_next_230 td ftp za).1)) (nI (g_X6_next_0 td ftp za)) 1 ((g_X6_next_230 td ftp za).2.2) wo he s25 s26 s27 sk na kp s31 s32 s33 s34 gb go fa ga s39 s40 vo, zi G tp 160 ftp, zi G wo 96 fwo] H := ⟨hP, hD⟩
                          have hP := hz9.1
                          have hD := hz9.2
                          refine lv_goto (tgt := 403) hx hb dX6_next_323 (by decide +kernel) ?_
                          have q_248 : m_X6_next_h019 td ftp za = (g_X6_next_230 td ftp za).1 := by unfold m_X6_next_h019; rw [if_neg c_172, if_neg n_178, if_pos p_182]
                          have q_249 : m_X6_next_h020 td ftp za = nI (g_X6_next_0 td ftp za) := by unfold m_X6_next_h020; rw [if_neg c_172, if_neg n_178]
                          have q_250 : m_X6_next_h021 td ftp fwo za = 1 := by unfold m_X6_next_h021; rw [if_neg c_172, if_neg n_178, if_pos p_182, if_pos c_247]
                          have q_251 : m_X6_next_h022 td ftp fwo za = ((g_X6_next_230 td ftp za).2.2) := by unfold m_X6_next_h022; rw [if_neg c_172, if_neg n_178, if_pos p_182]
                          have hz9 : gPD G A [zo6 h0 (nI pb) kd mo st (nI jg) ro tp (nI td) cd sr (nI tx) (nI ru) him ir ih ss sq ce lw (nI (m_X6_next_h019 td ftp za)) (m_X6_next_h020 td ftp za) (m_X6_next_h021 td ftp fwo za) (m_X6_next_h022 td ftp fwo za) wo he s25 s26 s27 sk na kp s31 s32 s33 s34 gb go fa ga s39 s40 vo, zi G tp 160 ftp, zi G wo 96 fwo] H := ⟨by rw [q_248, q_249, q_250, q_251]; exact hP.sub [0, 1, 2] rfl, by rw [q_248, q_249, q_250, q_251]; exact hD.sub [0, 1, 2] (by decide +kernel) rfl⟩
                          have hP9 := hz9.1
                          have hD9 := hz9.2
                          have hpost : (fun (u : Unit) => match u with | _ => za ≤ (m_X6_next_h019 td ftp za) ∧ (m_X6_next_h019 td ftp za) ≤ td ∧ (¬ (m_X6_next_h021 td ftp fwo za) = 0 → za < (m_X6_next_h019 td ftp za)) ∧ ((m_X6_next_h021 td ftp fwo za) = 2 → 0 ≤ (m_X6_next_h022 td ftp fwo za) ∧ (m_X6_next_h022 td ftp fwo za) < 6) ∧ ((m_X6_next_h021 td ftp fwo za) = 1 → 100000 ≤ 100000 + (m_X6_next_h022 td ftp fwo za))) () := nx_facts hza htd
                          exact W.vret hx hb hr (fun t ht hW => ⟨⟨(), rfl, hpost, by rw [ht]; exact hP9, va_K.moved hW.alike hK, hD9⟩, hS.F ht⟩) hS.2.2 dX6_next_403
                        · skip
                          have c_247N : 4 < ((g_X6_next_230 td ftp za).2.1) := nI_le0 (a := ((g_X6_next_230 td ftp za).2.1)) (b := 4) (by omega) (by omega) c_247
                          refine lv_iconst (v := -1) hx hb dX6_next_315 (by decide +kernel) ?_
                          refine lv_goto (tgt := 320) hx hb dX6_next_316 (by decide +kernel) ?_
                          refine va_put (D := G.1) (ci := 6) (v := .int (-1)) (ty := .int) (C := RX6) (T := TX6) (N := 42) hx hb hts hiX6 tyX6 tyX6_ok nmX6 hown hK hP hD hS 0 rfl rfl 21 (by decide +kernel) kf117 (fun _ h9 => h9) rfl (by decide +kernel) rfl rfl (Nat.le_of_ble_eq_true rfl) dX6_next_320 (fun H locs hP hD hS => ?_)
                          have hz9 : gPD G A [zo6 h0 (nI pb) kd mo st (nI jg) ro tp (nI td) cd sr (nI tx) (nI ru) him ir ih ss sq ce lw (nI ((g_X6_next_230 td ftp za).1)) (nI (g_X6_next_0 td ftp za)) (-1) ((g_X6_next_230 td ftp za).2.2) wo he s25 s26 s27 sk na kp s31 s32 s33 s34 gb go fa ga s39 s40 vo, zi G tp 160 ftp, zi G wo 96 fwo] H := ⟨hP, hD⟩
                          have hP := hz9.1
                          have hD := hz9.2
                          refine lv_goto (tgt := 403) hx hb dX6_next_323 (by decide +kernel) ?_
                          have q_252 : m_X6_next_h019 td ftp za = (g_X6_next_230 td ftp za).1 := by unfold m_X6_next_h019; rw [if_neg c_172, if_neg n_178, if_pos p_182]
                          have q_253 : m_X6_next_h020 td ftp za = nI (g_X6_next_0 td ftp za) := by unfold m_X6_next_h020; rw [if_neg c_172, if_neg n_178]
                          have q_254 : m_X6_next_h021 td ftp fwo za = -1 := by unfold m_X6_next_h021; rw [if_neg c_172, if_neg n_178, if_pos p_182, if_neg c_247]
                          have q_255 : m_X6_next_h022 td ftp fwo za = ((g_X6_next_230 td ftp za).2.2) := by unfold m_X6_next_h022; rw [if_neg c_172, if_neg n_178, if_pos p_182]
                          have hz9 : gPD G A [zo6 h0 (nI pb) kd mo st (nI jg) ro tp (nI td) cd sr (nI tx) (nI ru) him ir ih ss sq ce lw (nI (m_X6_next_h019 td ftp za)) (m_X6_next_h020 td ftp za) (m_X6_next_h021 td ftp fwo za) (m_X6_next_h022 td ftp fwo za) wo he s25 s26 s27 sk na kp s31 s32 s33 s34 gb go fa ga s39 s40 vo, zi G tp 160 ftp, zi G wo 96 fwo] H := ⟨by rw [q_252, q_253, q_254, q_255]; exact hP.sub [0, 1, 2] rfl, by rw [q_252, q_253, q_254, q_255]; exact hD.sub [0, 1, 2] (by decide +kernel) rfl⟩
                          have hP9 := hz9.1
                          have hD9 := hz9.2
                          have hpost : (fun (u : Unit) => match u with | _ => za ≤ (m_X6_next_h019 td ftp za) ∧ (m_X6_next_h019 td ftp za) ≤ td ∧ (¬ (m_X6_next_h021 td ftp fwo za) = 0 → za < (m_X6_next_h019 td ftp za)) ∧ ((m_X6_next_h021 td ftp fwo za) = 2 → 0 ≤ (m_X6_next_h022 td ftp fwo za) ∧ (m_X6_next_h022 td ftp fwo za) < 6) ∧ ((m_X6_next_h021 td ftp fwo za) = 1 → 100000 ≤ 100000 + (m_X6_next_h022 td ftp fwo za))) () := nx_facts hza htd
                          exact W.vret hx hb hr (fun t ht hW => ⟨⟨(), rfl, hpost, by rw [ht]; exact hP9, va_K.moved hW.alike hK, hD9⟩, hS.F ht⟩) hS.2.2 dX6_next_403
                      · skip
                        have c_246N : a2 < td := nI_le0 (a := td) (b := a2) (by omega) (by omega) c_246
                        refine lv_aload_n hx hb dX6_next_241 rfl (lv_at hl 2 rfl) ?_
                        refine va_get (D := G.1) (ci := 6) (v := .ref tp) (C := RX6) (T := TX6) (N := 42) hx hb hts hiX6 hown hK hP 0 rfl rfl 6 (by decide +kernel) kf22 (fun _ h9 => h9) rfl dX6_next_242 ?_
                        refine lv_aload_n hx hb dX6_next_245 rfl (lv_at hl 2 rfl) ?_
                        refine va_get (D := G.1) (ci := 6) (v := .int (nI a2)) (C := RX6) (T := TX6) (N := 42) hx hb hts hiX6 hown hK hP 0 rfl rfl 19 (by decide +kernel) kf111 (fun _ h9 => h9) rfl dX6_next_246 ?_
                        refine va_iald (D := G.1) hx hb hK hP 1 0 rfl rfl (i := (nI a2)) (vp_in_nI (by omega) (by omega)) dX6_next_249 ?_
                        refine lv_topi (fun v_256 ev_256 => ?_)
                        have ev_256 : v_256 = ftp a2 := ev_256.trans (by rw [nI_clamp (by omega)])
                        subst ev_256
                        refine lv_bipush (v := 48) hx hb dX6_next_250 (by decide +kernel) ?_
                        refine lv_bipush (v := 57) hx hb dX6_next_252 (by decide +kernel) ?_
                        have hz9 : gPD G A [] H := ⟨hP.sub [] rfl, hD.sub [] (by decide +kernel) rfl⟩
                        have hPc := hz9.1
                        have hDc := hz9.2
                        have hFc := gFree hPc hD hS hA [] rfl
                        refine va_calli (va_runS (As := [.int (ftp a2), .int 48, .int 57]) (rest := []) ⟨hx, hb, hml, hown, hts⟩ (c_X6_in l G (ftp a2) 48 57 H.size) (va_cwS 3 hts gX6_next_X6_in rfl rfl rfl (by decide +kernel) ⟨Nat.le_of_ble_eq_true rfl, Nat.le_of_ble_eq_true rfl⟩) ⟨gPre_blind, fun U hU hW => gPre_of hU hW hK hPc hDc⟩ rfl rfl hl.1 rfl (lv_room (Nat.le_of_ble_eq_true rfl)) dX6_next_254 ⟨Nat.le_of_ble_eq_true rfl, Nat.le_of_ble_eq_true rfl⟩) hS (fun q _ h => hFc q h) hFc (fun r_257 u t H locs ht hvm w_258 hB hz1 hk1 hS => ?_)
                        obtain ⟨hP1, hK1, hD1⟩ := hB
                        rw [ht] at hP1
                        have hz9 : gPD G (va_A _ _) [] H := ⟨hP1, hD1⟩
                        have hP1 := hz9.1
                        have hD1 := hz9.2
                        have w_258 : r_257 = bz (decide (48 ≤ (ftp a2) ∧ (ftp a2) ≤ 57)) := w_258
                        have hz9 : gPD G A [zo6 h0 (nI pb) kd mo st (nI jg) ro tp (nI td) cd sr (nI tx) (nI ru) him ir ih ss sq ce lw (nI a2) (nI (g_X6_next_0 td ftp za)) 0 z22v wo he s25 s26 s27 sk na kp s31 s32 s33 s34 gb go fa ga s39 s40 vo, zi G tp 160 ftp, zi G wo 96 fwo] H := gJoin hP hD hk1 hFc hP1 hD1 [] [0, 1, 2] rfl rfl rfl (by decide +kernel) (by decide +kernel)
                        have hP := hz9.1
                        have hD := hz9.2
                        subst w_258
                        refine lv_if_eq (tgt := 309) hx hb dX6_next_257 (by decide +kernel) (fun c_259 => ?_) (fun c_259 => ?_)
                        · skip
                          have n_261 : ¬ (48 ≤ (ftp a2) ∧ (ftp a2) ≤ 57) := of_decide_eq_false (bz_eq rfl c_259)
                          have hF230 : (g_X6_next_230 td ftp za) = (a2, n2, z22v) := R230.symm.trans ((congrArg (fun z9 => p_X6_next_230 ftp (z9) a2 n2 z22v) (show td - a2 = td - (a2 + 1) + 1 by omega)).trans (by show p_X6_next_230 ftp (td - (a2 + 1) + 1) a2 n2 z22v = _; rw [p_X6_next_230, if_neg n_261]))
                          have hE230_0 : a2 = ((g_X6_next_230 td ftp za).1) := by rw [hF230]
                          have hE230_1 : n2 = ((g_X6_next_230 td ftp za).2.1) := by rw [hF230]
                          have hE230_2 : z22v = ((g_X6_next_230 td ftp za).2.2) := by rw [hF230]
                          clear hF230 R230
                          subst hE230_0
                          subst hE230_1
                          subst hE230_2
                          refine lv_aload_n hx hb dX6_next_309 rfl (lv_at hl 2 rfl) ?_
                          refine lv_iload_n hx hb dX6_next_310 rfl (lv_at hl 0 rfl) ?_
                          refine lv_iconst (v := 4) hx hb dX6_next_311 (by decide +kernel) ?_
                          refine lv_icmp_le (tgt := 319) hx hb dX6_next_312 (by decide +kernel) (fun c_262 => ?_) (fun c_262 => ?_)
                          · skip
                            have c_262N : ((g_X6_next_230 td ftp za).2.1) ≤ 4 := nI_le1 (a := ((g_X6_next_230 td ftp za).2.1)) (b := 4) (by omega) (by omega) c_262
                            refine lv_iconst (v := 1) hx hb dX6_next_319 (by decide +kernel) ?_
                            refine va_put (D := G.1) (ci := 6) (v := .int 1) (ty := .int) (C := RX6) (T := TX6) (N := 42) hx hb hts hiX6 tyX6 tyX6_ok nmX6 hown hK hP hD hS 0 rfl rfl 21 (by decide +kernel) kf117 (fun _ h9 => h9) rfl (by decide +kernel) rfl rfl (Nat.le_of_ble_eq_true rfl) dX6_next_320 (fun H locs hP hD hS => ?_)
                            have hz9 : gPD G A [zo6 h0 (nI pb) kd mo st (nI jg) ro tp (nI td) cd sr (nI tx) (nI ru) him ir ih ss sq ce lw (nI ((g_X6_next_230 td ftp za).1)) (nI (g_X6_next_0 td ftp za)) 1 ((g_X6_next_230 td ftp za).2.2) wo he s25 s26 s27 sk na kp s31 s32 s33 s34 gb go fa ga s39 s40 vo, zi G tp 160 ftp, zi G wo 96 fwo] H := ⟨hP, hD⟩
                            have hP := hz9.1
                            have hD := hz9.2
                            refine lv_goto (tgt := 403) hx hb dX6_next_323 (by decide +kernel) ?_
                            have q_263 : m_X6_next_h019 td ftp za = (g_X6_next_230 td ftp za).1 := by unfold m_X6_next_h019; rw [if_neg c_172, if_neg n_178, if_pos p_182]
                            have q_264 : m_X6_next_h020 td ftp za = nI (g_X6_next_0 td ftp za) := by unfold m_X6_next_h020; rw [if_neg c_172, if_neg n_178]
                            have q_265 : m_X6_next_h021 td ftp fwo za = 1 := by unfold m_X6_next_h021; rw [if_neg c_172, if_neg n_178, if_pos p_182, if_pos c_262]
                            have q_266 : m_X6_next_h022 td ftp fwo za = ((g_X6_next_230 td ftp za).2.2) := by unfold m_X6_next_h022; rw [if_neg c_172, if_neg n_178, if_pos p_182]
                            have hz9 : gPD G A [zo6 h0 (nI pb) kd mo st (nI jg) ro tp (nI td) cd sr (nI tx) (nI ru) him ir ih ss sq ce lw (nI (m_X6_next_h019 td ftp za)) (m_X6_next_h020 td ftp za) (m_X6_next_h021 td ftp fwo za) (m_X6_next_h022 td ftp fwo za) wo he s25 s26 s27 sk na kp s31 s32 s33 s34 gb go fa ga s39 s40 vo, zi G tp 160 ftp, zi G wo 96 fwo] H := ⟨by rw [q_263, q_264, q_265, q_266]; exact hP.sub [0, 1, 2] rfl, by rw [q_263, q_264, q_265, q_266]; exact hD.sub [0, 1, 2] (by decide +kernel) rfl⟩
                            have hP9 := hz9.1
                            have hD9 := hz9.2
                            have hpost : (fun (u : Unit) => match u with | _ => za ≤ (m_X6_next_h019 td ftp za) ∧ (m_X6_next_h019 td ftp za) ≤ td ∧ (¬ (m_X6_next_h021 td ftp fwo za) = 0 → za < (m_X6_next_h019 td ftp za)) ∧ ((m_X6_next_h021 td ftp fwo za) = 2 → 0 ≤ (m_X6_next_h022 td ftp fwo za) ∧ (m_X6_next_h022 td ftp fwo za) < 6) ∧ ((m_X6_next_h021 td ftp fwo za) = 1 → 100000 ≤ 100000 + (m_X6_next_h022 td ftp fwo za))) () := nx_facts hza htd
                            exact W.vret hx hb hr (fun t ht hW => ⟨⟨(), rfl, hpost, by rw [ht]; exact hP9, va_K.moved hW.alike hK, hD9⟩, hS.F ht⟩) hS.2.2 dX6_next_403
                          · skip
                            have c_262N : 4 < ((g_X6_next_230 td ftp za).2.1) := nI_le0 (a := ((g_X6_next_230 td ftp za).2.1)) (b := 4) (by omega) (by omega) c_262
                            refine lv_iconst (v := -1) hx hb dX6_next_315 (by decide +kernel) ?_
                            refine lv_goto (tgt := 320) hx hb dX6_next_316 (by decide +kernel) ?_
                            refine va_put (D := G.1) (ci := 6) (v := .int (-1)) (ty := .int) (C := RX6) (T := TX6) (N := 42) hx hb hts hiX6 tyX6 tyX6_ok nmX6 hown hK hP hD hS 0 rfl rfl 21 (by decide +kernel) kf117 (fun _ h9 => h9) rfl (by decide +kernel) rfl rfl (Nat.le_of_ble_eq_true rfl) dX6_next_320 (fun H locs hP hD hS => ?_)
                            have hz9 : gPD G A [zo6 h0 (nI pb) kd mo st (nI jg) ro tp (nI td) cd sr (nI tx) (nI ru) him ir ih ss sq ce lw (nI ((g_X6_next_230 td ftp za).1)) (nI (g_X6_next_0 td ftp za)) (-1) ((g_X6_next_230 td ftp za).2.2) wo he s25 s26 s27 sk na kp s31 s32 s33 s34 gb go fa ga s39 s40 vo, zi G tp 160 ftp, zi G wo 96 fwo] H := ⟨hP, hD⟩
                            have hP := hz9.1
                            have hD := hz9.2
                            refine lv_goto (tgt := 403) hx hb dX6_next_323 (by decide +kernel) ?_
                            have q_267 : m_X6_next_h019 td ftp za = (g_X6_next_230 td ftp za).1 := by unfold m_X6_next_h019; rw [if_neg c_172, if_neg n_178, if_pos p_182]
                            have q_268 : m_X6_next_h020 td ftp za = nI (g_X6_next_0 td ftp za) := by unfold m_X6_next_h020; rw [if_neg c_172, if_neg n_178]
                            have q_269 : m_X6_next_h021 td ftp fwo za = -1 := by unfold m_X6_next_h021; rw [if_neg c_172, if_neg n_178, if_pos p_182, if_neg c_262]
                            have q_270 : m_X6_next_h022 td ftp fwo za = ((g_X6_next_230 td ftp za).2.2) := by unfold m_X6_next_h022; rw [if_neg c_172, if_neg n_178, if_pos p_182]
                            have hz9 : gPD G A [zo6 h0 (nI pb) kd mo st (nI jg) ro tp (nI td) cd sr (nI tx) (nI ru) him ir ih ss sq ce lw (nI (m_X6_next_h019 td ftp za)) (m_X6_next_h020 td ftp za) (m_X6_next_h021 td ftp fwo za) (m_X6_next_h022 td ftp fwo za) wo he s25 s26 s27 sk na kp s31 s32 s33 s34 gb go fa ga s39 s40 vo, zi G tp 160 ftp, zi G wo 96 fwo] H := ⟨by rw [q_267, q_268, q_269, q_270]; exact hP.sub [0, 1, 2] rfl, by rw [q_267, q_268, q_269, q_270]; exact hD.sub [0, 1, 2] (by decide +kernel) rfl⟩
                            have hP9 := hz9.1
                            have hD9 := hz9.2
                            have hpost : (fun (u : Unit) => match u with | _ => za ≤ (m_X6_next_h019 td ftp za) ∧ (m_X6_next_h019 td ftp za) ≤ td ∧ (¬ (m_X6_next_h021 td ftp fwo za) = 0 → za < (m_X6_next_h019 td ftp za)) ∧ ((m_X6_next_h021 td ftp fwo za) = 2 → 0 ≤ (m_X6_next_h022 td ftp fwo za) ∧ (m_X6_next_h022 td ftp fwo za) < 6) ∧ ((m_X6_next_h021 td ftp fwo za) = 1 → 100000 ≤ 100000 + (m_X6_next_h022 td ftp fwo za))) () := nx_facts hza htd
                            exact W.vret hx hb hr (fun t ht hW => ⟨⟨(), rfl, hpost, by rw [ht]; exact hP9, va_K.moved hW.alike hK, hD9⟩, hS.F ht⟩) hS.2.2 dX6_next_403
                        · skip
                          have p_260 : 48 ≤ (ftp a2) ∧ (ftp a2) ≤ 57 := of_decide_eq_true (bz_ne rfl c_259)
                          refine lv_aload_n hx hb dX6_next_260 rfl (lv_at hl 2 rfl) ?_
                          refine lv_iload_n hx hb dX6_next_261 rfl (lv_at hl 0 rfl) ?_
                          refine lv_iconst (v := 4) hx hb dX6_next_262 (by decide +kernel) ?_
                          refine lv_icmp_ge (tgt := 289) hx hb dX6_next_263 (by decide +kernel) (fun c_271 => ?_) (fun c_271 => ?_)
                          · skip
                            have c_271N : 4 ≤ n2 := nI_le1 (a := 4) (b := n2) (by omega) (by omega) c_271
                            refine lv_iconst (v := 0) hx hb dX6_next_289 (by decide +kernel) ?_
                            refine va_put (D := G.1) (ci := 6) (v := .int 0) (ty := .int) (C := RX6) (T := TX6) (N := 42) hx hb hts hiX6 tyX6 tyX6_ok nmX6 hown hK hP hD hS 0 rfl rfl 22 (by decide +kernel) kf120 (fun _ h9 => h9) rfl (by decide +kernel) rfl rfl (Nat.le_of_ble_eq_true rfl) dX6_next_290 (fun H locs hP hD hS => ?_)
                            have hz9 : gPD G A [zo6 h0 (nI pb) kd mo st (nI jg) ro tp (nI td) cd sr (nI tx) (nI ru) him ir ih ss sq ce lw (nI a2) (nI (g_X6_next_0 td ftp za)) 0 0 wo he s25 s26 s27 sk na kp s31 s32 s33 s34 gb go fa ga s39 s40 vo, zi G tp 160 ftp, zi G wo 96 fwo] H := ⟨hP, hD⟩
                            have hP := hz9.1
                            have hD := hz9.2
                            refine lv_iinc (v := nI (n2 + 1)) (lv' := [zI 2 (nI (n2 + 1)), zI 1 (ftp (g_X6_next_0 td ftp za)), zR 0 h0]) hx hb dX6_next_293 hl (k := 0) rfl (nI_add n2 1) (by decide +kernel) rfl (fun ls hl => ?_)
                            refine lv_aload_n hx hb dX6_next_296 rfl (lv_at hl 2 rfl) ?_
                            refine lv_dup hx hb dX6_next_297 rfl ?_
                            refine va_get (D := G.1) (ci := 6) (v := .int (nI a2)) (C := RX6) (T := TX6) (N := 42) hx hb hts hiX6 hown hK hP 0 rfl rfl 19 (by decide +kernel) kf111 (fun _ h9 => h9) rfl dX6_next_298 ?_
                            refine lv_iconst (v := 1) hx hb dX6_next_301 (by decide +kernel) ?_
                            refine lv_iadd hx hb dX6_next_302 ?_
                            refine lv_topi (fun v_272 ev_272 => ?_)
                            have ev_272 : v_272 = nI (a2 + 1) := ev_272.trans (nI_add a2 1)
                            subst ev_272
                            refine va_put (D := G.1) (ci := 6) (v := .int (nI (a2 + 1))) (ty := .int) (C := RX6) (T := TX6) (N := 42) hx hb hts hiX6 tyX6 tyX6_ok nmX6 hown hK hP hD hS 0 rfl rfl 19 (by decide +kernel) kf111 (fun _ h9 => h9) rfl (by decide +kernel) rfl rfl (Nat.le_of_ble_eq_true rfl) dX6_next_303 (fun H locs hP hD hS => ?_)
                            have hz9 : gPD G A [zo6 h0 (nI pb) kd mo st (nI jg) ro tp (nI td) cd sr (nI tx) (nI ru) him ir ih ss sq ce lw (nI (a2 + 1)) (nI (g_X6_next_0 td ftp za)) 0 0 wo he s25 s26 s27 sk na kp s31 s32 s33 s34 gb go fa ga s39 s40 vo, zi G tp 160 ftp, zi G wo 96 fwo] H := ⟨hP, hD⟩
                            have hP := hz9.1
                            have hD := hz9.2
                            refine lv_goto (tgt := 230) hx hb dX6_next_306 (by decide +kernel) ?_
                            exact ih9_230 (a2 + 1) (n2 + 1) 0 (by omega) (Eq.trans (Eq.symm ((congrArg (fun z9 => p_X6_next_230 ftp (z9) a2 n2 z22v) (show td - a2 = td - (a2 + 1) + 1 by omega)).trans (by show p_X6_next_230 ftp (td - (a2 + 1) + 1) a2 n2 z22v = _; rw [p_X6_next_230, if_pos p_260, if_pos c_271]))) R230) (by omega) (by omega) _ _ (hP.sub [0, 1, 2] rfl) (hD.sub [0, 1, 2] (by decide +kernel) rfl) hS ls (lv_sub hl [0, 1, 2] rfl)
                          · skip
                            have c_271N : n2 < 4 := nI_le0 (a := 4) (b := n2) (by omega) (by omega) c_271
                            refine lv_bipush (v := 10) hx hb dX6_next_266 (by decide +kernel) ?_
                            refine lv_aload_n hx hb dX6_next_268 rfl (lv_at hl 2 rfl) ?_
                            refine va_get (D := G.1) (ci := 6) (v := .int z22v) (C := RX6) (T := TX6) (N := 42) hx hb hts hiX6 hown hK hP 0 rfl rfl 22 (by decide +kernel) kf120 (fun _ h9 => h9) rfl dX6_next_269 ?_
                            refine lv_imul hx hb dX6_next_272 ?_
                            refine lv_aload_n hx hb dX6_next_273 rfl (lv_at hl 2 rfl) ?_
                            refine va_get (D := G.1) (ci := 6) (v := .ref tp) (C := RX6) (T := TX6) (N := 42) hx hb hts hiX6 hown hK hP 0 rfl rfl 6 (by decide +kernel) kf22 (fun _ h9 => h9) rfl dX6_next_274 ?_
                            refine lv_aload_n hx hb dX6_next_277 rfl (lv_at hl 2 rfl) ?_
                            refine va_get (D := G.1) (ci := 6) (v := .int (nI a2)) (C := RX6) (T := TX6) (N := 42) hx hb hts hiX6 hown hK hP 0 rfl rfl 19 (by decide +kernel) kf111 (fun _ h9 => h9) rfl dX6_next_278 ?_
                            refine va_iald (D := G.1) hx hb hK hP 1 0 rfl rfl (i := (nI a2)) (vp_in_nI (by omega) (by omega)) dX6_next_281 ?_
                            refine lv_topi (fun v_273 ev_273 => ?_)
                            have ev_273 : v_273 = ftp a2 := ev_273.trans (by rw [nI_clamp (by omega)])
                            subst ev_273
                            refine lv_iadd hx hb dX6_next_282 ?_
                            refine lv_bipush (v := 48) hx hb dX6_next_283 (by decide +kernel) ?_
                            refine lv_isub hx hb dX6_next_285 ?_
                            refine lv_goto (tgt := 290) hx hb dX6_next_286 (by decide +kernel) ?_
                            refine va_put (D := G.1) (ci := 6) (v := .int (((10 * z22v) + (ftp a2)) - 48)) (ty := .int) (C := RX6) (T := TX6) (N := 42) hx hb hts hiX6 tyX6 tyX6_ok nmX6 hown hK hP hD hS 0 rfl rfl 22 (by decide +kernel) kf120 (fun _ h9 => h9) rfl (by decide +kernel) rfl rfl (Nat.le_of_ble_eq_true rfl) dX6_next_290 (fun H locs hP hD hS => ?_)
                            have hz9 : gPD G A [zo6 h0 (nI pb) kd mo st (nI jg) ro tp (nI td) cd sr (nI tx) (nI ru) him ir ih ss sq ce lw (nI a2) (nI (g_X6_next_0 td ftp za)) 0 (((10 * z22v) + (ftp a2)) - 48) wo he s25 s26 s27 sk na kp s31 s32 s33 s34 gb go fa ga s39 s40 vo, zi G tp 160 ftp, zi G wo 96 fwo] H := ⟨hP, hD⟩
                            have hP := hz9.1
                            have hD := hz9.2
                            refine lv_iinc (v := nI (n2 + 1)) (lv' := [zI 2 (nI (n2 + 1)), zI 1 (ftp (g_X6_next_0 td ftp za)), zR 0 h0]) hx hb dX6_next_293 hl (k := 0) rfl (nI_add n2 1) (by decide +kernel) rfl (fun ls hl => ?_)
                            refine lv_aload_n hx hb dX6_next_296 rfl (lv_at hl 2 rfl) ?_
                            refine lv_dup hx hb dX6_next_297 rfl ?_
                            refine va_get (D := G.1) (ci := 6) (v := .int (nI a2)) (C := RX6) (T := TX6) (N := 42) hx hb hts hiX6 hown hK hP 0 rfl rfl 19 (by decide +kernel) kf111 (fun _ h9 => h9) rfl dX6_next_298 ?_
                            refine lv_iconst (v := 1) hx hb dX6_next_301 (by decide +kernel) ?_
                            refine lv_iadd hx hb dX6_next_302 ?_
                            refine lv_topi (fun v_274 ev_274 => ?_)
                            have ev_274 : v_274 = nI (a2 + 1) := ev_274.trans (nI_add a2 1)
                            subst ev_274
                            refine va_put (D := G.1) (ci := 6) (v := .int (nI (a2 + 1))) (ty := .int) (C := RX6) (T := TX6) (N := 42) hx hb hts hiX6 tyX6 tyX6_ok nmX6 hown hK hP hD hS 0 rfl rfl 19 (by decide +kernel) kf111 (fun _ h9 => h9) rfl (by decide +kernel) rfl rfl (Nat.le_of_ble_eq_true rfl) dX6_next_303 (fun H locs hP hD hS => ?_)
                            have hz9 : gPD G A [zo6 h0 (nI pb) kd mo st (nI jg) ro tp (nI td) cd sr (nI tx) (nI ru) him ir ih ss sq ce lw (nI (a2 + 1)) (nI (g_X6_next_0 td ftp za)) 0 (((10 * z22v) + (ftp a2)) - 48) wo he s25 s26 s27 sk na kp s31 s32 s33 s34 gb go fa ga s39 s40 vo, zi G tp 160 ftp, zi G wo 96 fwo] H := ⟨hP, hD⟩
                            have hP := hz9.1
                            have hD := hz9.2
                            refine lv_goto (tgt := 230) hx hb dX6_next_306 (by decide +kernel) ?_
                            exact ih9_230 (a2 + 1) (n2 + 1) (((10 * z22v) + (ftp a2)) - 48) (by omega) (Eq.trans (Eq.symm ((congrArg (fun z9 => p_X6_next_230 ftp (z9) a2 n2 z22v) (show td - a2 = td - (a2 + 1) + 1 by omega)).trans (by show p_X6_next_230 ftp (td - (a2 + 1) + 1) a2 n2 z22v = _; rw [p_X6_next_230, if_pos p_260, if_neg c_271]))) R230) (by omega) (by omega) _ _ (hP.sub [0, 1, 2] rfl) (hD.sub [0, 1, 2] (by decide +kernel) rfl) hS ls (lv_sub hl [0, 1, 2] rfl)
                  exact loop_230 (td - (g_X6_next_0 td ftp za) + 1) (g_X6_next_0 td ftp za) 0 0 (by omega) (rfl) (Nat.zero_le _) (by omega) _ _ (hP.sub [0, 1, 2] rfl) (hD.sub [0, 1, 2] (by decide +kernel) rfl) hS ls (lv_sub hl [0, 1, 2] rfl)
              · skip
                have p_177 : 97 ≤ (ftp (g_X6_next_0 td ftp za)) ∧ (ftp (g_X6_next_0 td ftp za)) ≤ 122 := of_decide_eq_true (bz_ne rfl c_176)
                have loop_103 : ∀ (n9 : Nat) (a1 : Nat), (a1 ≤ td) → (p_X6_next_103 ftp (td - a1) a1  = (g_X6_next_103 td ftp za)) → (td - a1) < n9 → ∀ (H : Heap) (locs : List Loc), va_P G.1 vwCl [zo6 h0 (nI pb) kd mo st (nI jg) ro tp (nI td) cd sr (nI tx) (nI ru) him ir ih ss sq ce lw (nI a1) (nI (g_X6_next_0 td ftp za)) 0 0 wo he s25 s26 s27 sk na kp s31 s32 s33 s34 gb go fa ga s39 s40 vo, zi G tp 160 ftp, zi G wo 96 fwo] H → va_D A [zo6 h0 (nI pb) kd mo st (nI jg) ro tp (nI td) cd sr (nI tx) (nI ru) him ir ih ss sq ce lw (nI a1) (nI (g_X6_next_0 td ftp za)) 0 0 wo he s25 s26 s27 sk na kp s31 s32 s33 s34 gb go fa ga s39 s40 vo, zi G tp 160 ftp, zi G wo 96 fwo] → va_S A s.heap H locs → ∀ ls : Array Slot, lv_has ls 3 [zI 1 (ftp (g_X6_next_0 td ftp za)), zR 0 h0] → W p l e (headSpec wsX6_next ({ frames := 1, cells := 0, slots := 0, locals := 25 })).room s m ([.ref h0] : List Value).toArray below meth c H locs 0 0 (MQ below (q_X6_next_b G h0 kd mo st ro tp cd sr ir ih ss sq ce lw wo he sk na kp gb go fa ga vo pb jg td tx ru him s20 s21 s22 s25 s26 s27 s31 s32 s33 s34 s39 s40 ftp fwo za A) ([.ref h0] : List Value).toArray s 0 0 A) (F0 m 103 ls []) := by
                  intro n9
                  induction n9 with
                  | zero => intro a1 ha1 R103 hm9_103; exact absurd hm9_103 (Nat.not_lt_zero _)
                  | succ n9 ih9_103 =>
                    intro a1 ha1 R103 hm9_103 H locs hP hD hS ls hl
                    refine lv_aload_n hx hb dX6_next_103 rfl (lv_at hl 1 rfl) ?_
                    refine va_get (D := G.1) (ci := 6) (v := .int (nI a1)) (C := RX6) (T := TX6) (N := 42) hx hb hts hiX6 hown hK hP 0 rfl rfl 19 (by decide +kernel) kf111 (fun _ h9 => h9) rfl dX6_next_104 ?_
                    refine lv_aload_n hx hb dX6_next_107 rfl (lv_at hl 1 rfl) ?_
                    refine va_get (D := G.1) (ci := 6) (v := .int (nI td)) (C := RX6) (T := TX6) (N := 42) hx hb hts hiX6 hown hK hP 0 rfl rfl 7 (by decide +kernel) kf80 (fun _ h9 => h9) rfl dX6_next_108 ?_
                    refine lv_icmp_ge (tgt := 146) hx hb dX6_next_111 (by decide +kernel) (fun c_275 => ?_) (fun c_275 => ?_)
                    · skip
                      have c_275N : td ≤ a1 := nI_le1 (a := td) (b := a1) (by omega) (by omega) c_275
                      have hF103 : (g_X6_next_103 td ftp za) = a1 := by rw [← R103, show td - a1 = 0 by omega]; rfl
                      have hE103_0 : a1 = (g_X6_next_103 td ftp za) := by rw [hF103]
                      clear hF103 R103
                      subst hE103_0
                      refine lv_aload_n hx hb dX6_next_146 rfl (lv_at hl 1 rfl) ?_
                      refine lv_aload_n hx hb dX6_next_147 rfl (lv_at hl 1 rfl) ?_
                      refine va_get (D := G.1) (ci := 6) (v := .int (nI (g_X6_next_0 td ftp za))) (C := RX6) (T := TX6) (N := 42) hx hb hts hiX6 hown hK hP 0 rfl rfl 20 (by decide +kernel) kf114 (fun _ h9 => h9) rfl dX6_next_148 ?_
                      refine lv_aload_n hx hb dX6_next_151 rfl (lv_at hl 1 rfl) ?_
                      refine va_get (D := G.1) (ci := 6) (v := .int (nI (g_X6_next_103 td ftp za))) (C := RX6) (T := TX6) (N := 42) hx hb hts hiX6 hown hK hP 0 rfl rfl 19 (by decide +kernel) kf111 (fun _ h9 => h9) rfl dX6_next_152 ?_
                      have hz9 : gPD G A [zo6 h0 (nI pb) kd mo st (nI jg) ro tp (nI td) cd sr (nI tx) (nI ru) him ir ih ss sq ce lw (nI (g_X6_next_103 td ftp za)) (nI (g_X6_next_0 td ftp za)) 0 0 wo he s25 s26 s27 sk na kp s31 s32 s33 s34 gb go fa ga s39 s40 vo, zi G tp 160 ftp, zi G wo 96 fwo] H := ⟨hP.sub [0, 1, 2] rfl, hD.sub [0, 1, 2] (by decide +kernel) rfl⟩
                      have hPc := hz9.1
                      have hDc := hz9.2
                      have hFc := gFree hPc hD hS hA [0, 1, 2] rfl
                      refine va_calli (va_runV (As := [.int (nI (g_X6_next_0 td ftp za)), .int (nI (g_X6_next_103 td ftp za))]) (rest := []) ⟨hx, hb, hml, hown, hts⟩ (c_X6_wordFrom_b l G h0 kd mo st ro tp cd sr ir ih ss sq ce lw wo he sk na kp gb go fa ga vo pb jg td tx ru him (nI (g_X6_next_103 td ftp za)) (nI (g_X6_next_0 td ftp za)) 0 0 s25 s26 s27 s31 s32 s33 s34 s39 s40 ftp fwo (g_X6_next_0 td ftp za) (g_X6_next_103 td ftp za) H.size (⟨(n1_le (ftp := ftp) (td - g_X6_next_0 td ftp za) (g_X6_next_0 td ftp za)).1, by omega⟩)) (cwV 2 hts gX6_next_X6_wordFrom rfl rfl rfl (by decide +kernel) ⟨Nat.le_of_ble_eq_true rfl, Nat.le_of_ble_eq_true rfl⟩) ⟨gPre_blind, va_recv hK hPc (ci := 6) (q0 := 0) rfl rfl, fun U hU hW => gPre_of hU hW hK hPc hDc⟩ rfl rfl hl.1 rfl (lv_room (Nat.le_of_ble_eq_true rfl)) dX6_next_155 ⟨Nat.le_of_ble_eq_true rfl, Nat.le_of_ble_eq_true rfl⟩) hS (fun q _ h => hFc q h) hFc (fun r_276 u t H locs ht hvm w_277 hB hz1 hk1 hS => ?_)
                      obtain ⟨hP1, hK1, hD1⟩ := hB
                      rw [ht] at hP1
                      have hz9 : gPD G (va_A _ _) [zo6 h0 (nI pb) kd mo st (nI jg) ro tp (nI td) cd sr (nI tx) (nI ru) him ir ih ss sq ce lw (nI (g_X6_next_103 td ftp za)) (nI (g_X6_next_0 td ftp za)) 0 0 wo he s25 s26 s27 sk na kp s31 s32 s33 s34 gb go fa ga s39 s40 vo, zi G tp 160 ftp, zi G wo 96 fwo] H := ⟨hP1, hD1⟩
                      have hP1 := hz9.1
                      have hD1 := hz9.2
                      have w_277 : r_276 = m_X6_wordFrom ftp fwo (g_X6_next_0 td ftp za) (g_X6_next_103 td ftp za) := w_277
                      have hz9 : gPD G A [zo6 h0 (nI pb) kd mo st (nI jg) ro tp (nI td) cd sr (nI tx) (nI ru) him ir ih ss sq ce lw (nI (g_X6_next_103 td ftp za)) (nI (g_X6_next_0 td ftp za)) 0 0 wo he s25 s26 s27 sk na kp s31 s32 s33 s34 gb go fa ga s39 s40 vo, zi G tp 160 ftp, zi G wo 96 fwo] H := gJoin hP hD hk1 hFc hP1 hD1 [0, 1, 2] [] rfl rfl rfl (by decide +kernel) (by decide +kernel)
                      have hP := hz9.1
                      have hD := hz9.2
                      subst w_277
                      refine lv_istore_n (lv' := [zI 2 (m_X6_wordFrom ftp fwo (g_X6_next_0 td ftp za) (g_X6_next_103 td ftp za)), zI 1 (ftp (g_X6_next_0 td ftp za)), zR 0 h0]) hx hb dX6_next_158 rfl hl (by decide +kernel) rfl (fun ls hl => ?_)
                      refine lv_aload_n hx hb dX6_next_159 rfl (lv_at hl 2 rfl) ?_
                      refine lv_iload_n hx hb dX6_next_160 rfl (lv_at hl 0 rfl) ?_
                      refine lv_iconst (v := 3) hx hb dX6_next_161 (by decide +kernel) ?_
                      refine lv_icmp_ge (tgt := 169) hx hb dX6_next_162 (by decide +kernel) (fun c_278 => ?_) (fun c_278 => ?_)
                      · skip
                        refine lv_iload_n hx hb dX6_next_169 rfl (lv_at hl 0 rfl) ?_
                        refine lv_bipush (v := 9) hx hb dX6_next_170 (by decide +kernel) ?_
                        refine lv_icmp_ge (tgt := 179) hx hb dX6_next_172 (by decide +kernel) (fun c_279 => ?_) (fun c_279 => ?_)
                        · skip
                          refine lv_iload_n hx hb dX6_next_179 rfl (lv_at hl 0 rfl) ?_
                          refine lv_bipush (v := 12) hx hb dX6_next_180 (by decide +kernel) ?_
                          refine lv_icmp_ne (tgt := 189) hx hb dX6_next_182 (by decide +kernel) (fun c_280 => ?_) (fun c_280 => ?_)
                          · skip
                            refine lv_iconst (v := 4) hx hb dX6_next_189 (by decide +kernel) ?_
                            refine lv_iload_n hx hb dX6_next_190 rfl (lv_at hl 0 rfl) ?_
                            refine lv_iadd hx hb dX6_next_191 ?_
                            refine lv_bipush (v := 9) hx hb dX6_next_192 (by decide +kernel) ?_
                            refine lv_isub hx hb dX6_next_194 ?_
                            refine va_put (D := G.1) (ci := 6) (v := .int ((4 + (m_X6_wordFrom ftp fwo (g_X6_next_0 td ftp za) (g_X6_next_103 td ftp za))) - 9)) (ty := .int) (C := RX6) (T := TX6) (N := 42) hx hb hts hiX6 tyX6 tyX6_ok nmX6 hown hK hP hD hS 0 rfl rfl 21 (by decide +kernel) kf117 (fun _ h9 => h9) rfl (by decide +kernel) rfl rfl (Nat.le_of_ble_eq_true rfl) dX6_next_195 (fun H locs hP hD hS => ?_)
                            have hz9 : gPD G A [zo6 h0 (nI pb) kd mo st (nI jg) ro tp (nI td) cd sr (nI tx) (nI ru) him ir ih ss sq ce lw (nI (g_X6_next_103 td ftp za)) (nI (g_X6_next_0 td ftp za)) ((4 + (m_X6_wordFrom ftp fwo (g_X6_next_0 td ftp za) (g_X6_next_103 td ftp za))) - 9) 0 wo he s25 s26 s27 sk na kp s31 s32 s33 s34 gb go fa ga s39 s40 vo, zi G tp 160 ftp, zi G wo 96 fwo] H := ⟨hP, hD⟩
                            have hP := hz9.1
                            have hD := hz9.2
                            refine lv_aload_n hx hb dX6_next_198 rfl (lv_at hl 2 rfl) ?_
                            refine lv_iload_n hx hb dX6_next_199 rfl (lv_at hl 0 rfl) ?_
                            refine lv_iconst (v := 3) hx hb dX6_next_200 (by decide +kernel) ?_
                            refine lv_icmp_ge (tgt := 208) hx hb dX6_next_201 (by decide +kernel) (fun c_281 => ?_) (fun c_281 => ?_)
                            rotate_left
                            · exact absurd (c_278) c_281
                            refine lv_iload_n hx hb dX6_next_208 rfl (lv_at hl 0 rfl) ?_
                            refine lv_iconst (v := 3) hx hb dX6_next_209 (by decide +kernel) ?_
                            refine lv_isub hx hb dX6_next_210 ?_
                            refine va_put (D := G.1) (ci := 6) (v := .int ((m_X6_wordFrom ftp fwo (g_X6_next_0 td ftp za) (g_X6_next_103 td ftp za)) - 3)) (ty := .int) (C := RX6) (T := TX6) (N := 42) hx hb hts hiX6 tyX6 tyX6_ok nmX6 hown hK hP hD hS 0 rfl rfl 22 (by decide +kernel) kf120 (fun _ h9 => h9) rfl (by decide +kernel) rfl rfl (Nat.le_of_ble_eq_true rfl) dX6_next_211 (fun H locs hP hD hS => ?_)
                            have hz9 : gPD G A [zo6 h0 (nI pb) kd mo st (nI jg) ro tp (nI td) cd sr (nI tx) (nI ru) him ir ih ss sq ce lw (nI (g_X6_next_103 td ftp za)) (nI (g_X6_next_0 td ftp za)) ((4 + (m_X6_wordFrom ftp fwo (g_X6_next_0 td ftp za) (g_X6_next_103 td ftp za))) - 9) ((m_X6_wordFrom ftp fwo (g_X6_next_0 td ftp za) (g_X6_next_103 td ftp za)) - 3) wo he s25 s26 s27 sk na kp s31 s32 s33 s34 gb go fa ga s39 s40 vo, zi G tp 160 ftp, zi G wo 96 fwo] H := ⟨hP, hD⟩
                            have hP := hz9.1
                            have hD := hz9.2
                            refine lv_goto (tgt := 403) hx hb dX6_next_214 (by decide +kernel) ?_
                            have q_282 : m_X6_next_h019 td ftp za = g_X6_next_103 td ftp za := by unfold m_X6_next_h019; rw [if_neg c_172, if_pos p_177]
                            have q_283 : m_X6_next_h020 td ftp za = (nI (g_X6_next_0 td ftp za)) := by unfold m_X6_next_h020; rw [if_neg c_172, if_pos p_177]
                            have q_284 : m_X6_next_h021 td ftp fwo za = (4 + (m_X6_wordFrom ftp fwo (g_X6_next_0 td ftp za) (g_X6_next_103 td ftp za))) - 9 := by unfold m_X6_next_h021; rw [if_neg c_172, if_pos p_177, if_pos c_278, if_pos c_279, if_neg c_280]
                            have q_285 : m_X6_next_h022 td ftp fwo za = (m_X6_wordFrom ftp fwo (g_X6_next_0 td ftp za) (g_X6_next_103 td ftp za)) - 3 := by unfold m_X6_next_h022; rw [if_neg c_172, if_pos p_177, if_pos c_278]
                            have hz9 : gPD G A [zo6 h0 (nI pb) kd mo st (nI jg) ro tp (nI td) cd sr (nI tx) (nI ru) him ir ih ss sq ce lw (nI (m_X6_next_h019 td ftp za)) (m_X6_next_h020 td ftp za) (m_X6_next_h021 td ftp fwo za) (m_X6_next_h022 td ftp fwo za) wo he s25 s26 s27 sk na kp s31 s32 s33 s34 gb go fa ga s39 s40 vo, zi G tp 160 ftp, zi G wo 96 fwo] H := ⟨by rw [q_282, q_283, q_284, q_285]; exact hP.sub [0, 1, 2] rfl, by rw [q_282, q_283, q_284, q_285]; exact hD.sub [0, 1, 2] (by decide +kernel) rfl⟩
                            have hP9 := hz9.1
                            have hD9 := hz9.2
                            have hpost : (fun (u : Unit) => match u with | _ => za ≤ (m_X6_next_h019 td ftp za) ∧ (m_X6_next_h019 td ftp za) ≤ td ∧ (¬ (m_X6_next_h021 td ftp fwo za) = 0 → za < (m_X6_next_h019 td ftp za)) ∧ ((m_X6_next_h021 td ftp fwo za) = 2 → 0 ≤ (m_X6_next_h022 td ftp fwo za) ∧ (m_X6_next_h022 td ftp fwo za) < 6) ∧ ((m_X6_next_h021 td ftp fwo za) = 1 → 100000 ≤ 100000 + (m_X6_next_h022 td ftp fwo za))) () := nx_facts hza htd
                            exact W.vret hx hb hr (fun t ht hW => ⟨⟨(), rfl, hpost, by rw [ht]; exact hP9, va_K.moved hW.alike hK, hD9⟩, hS.F ht⟩) hS.2.2 dX6_next_403
                          · skip
                            refine lv_iconst (v := -1) hx hb dX6_next_185 (by decide +kernel) ?_
                            refine lv_goto (tgt := 195) hx hb dX6_next_186 (by decide +kernel) ?_
                            refine va_put (D := G.1) (ci := 6) (v := .int (-1)) (ty := .int) (C := RX6) (T := TX6) (N := 42) hx hb hts hiX6 tyX6 tyX6_ok nmX6 hown hK hP hD hS 0 rfl rfl 21 (by decide +kernel) kf117 (fun _ h9 => h9) rfl (by decide +kernel) rfl rfl (Nat.le_of_ble_eq_true rfl) dX6_next_195 (fun H locs hP hD hS => ?_)
                            have hz9 : gPD G A [zo6 h0 (nI pb) kd mo st (nI jg) ro tp (nI td) cd sr (nI tx) (nI ru) him ir ih ss sq ce lw (nI (g_X6_next_103 td ftp za)) (nI (g_X6_next_0 td ftp za)) (-1) 0 wo he s25 s26 s27 sk na kp s31 s32 s33 s34 gb go fa ga s39 s40 vo, zi G tp 160 ftp, zi G wo 96 fwo] H := ⟨hP, hD⟩
                            have hP := hz9.1
                            have hD := hz9.2
                            refine lv_aload_n hx hb dX6_next_198 rfl (lv_at hl 2 rfl) ?_
                            refine lv_iload_n hx hb dX6_next_199 rfl (lv_at hl 0 rfl) ?_
                            refine lv_iconst (v := 3) hx hb dX6_next_200 (by decide +kernel) ?_
                            refine lv_icmp_ge (tgt := 208) hx hb dX6_next_201 (by decide +kernel) (fun c_286 => ?_) (fun c_286 => ?_)
                            rotate_left
                            · exact absurd (c_278) c_286
                            refine lv_iload_n hx hb dX6_next_208 rfl (lv_at hl 0 rfl) ?_
                            refine lv_iconst (v := 3) hx hb dX6_next_209 (by decide +kernel) ?_
                            refine lv_isub hx hb dX6_next_210 ?_
                            refine va_put (D := G.1) (ci := 6) (v := .int ((m_X6_wordFrom ftp fwo (g_X6_next_0 td ftp za) (g_X6_next_103 td ftp za)) - 3)) (ty := .int) (C := RX6) (T := TX6) (N := 42) hx hb hts hiX6 tyX6 tyX6_ok nmX6 hown hK hP hD hS 0 rfl rfl 22 (by decide +kernel) kf120 (fun _ h9 => h9) rfl (by decide +kernel) rfl rfl (Nat.le_of_ble_eq_true rfl) dX6_next_211 (fun H locs hP hD hS => ?_)
                            have hz9 : gPD G A [zo6 h0 (nI pb) kd mo st (nI jg) ro tp (nI td) cd sr (nI tx) (nI ru) him ir ih ss sq ce lw (nI (g_X6_next_103 td ftp za)) (nI (g_X6_next_0 td ftp za)) (-1) ((m_X6_wordFrom ftp fwo (g_X6_next_0 td ftp za) (g_X6_next_103 td ftp za)) - 3) wo he s25 s26 s27 sk na kp s31 s32 s33 s34 gb go fa ga s39 s40 vo, zi G tp 160 ftp, zi G wo 96 fwo] H := ⟨hP, hD⟩
                            have hP := hz9.1
                            have hD := hz9.2
                            refine lv_goto (tgt := 403) hx hb dX6_next_214 (by decide +kernel) ?_
                            have q_287 : m_X6_next_h019 td ftp za = g_X6_next_103 td ftp za := by unfold m_X6_next_h019; rw [if_neg c_172, if_pos p_177]
                            have q_288 : m_X6_next_h020 td ftp za = (nI (g_X6_next_0 td ftp za)) := by unfold m_X6_next_h020; rw [if_neg c_172, if_pos p_177]
                            have q_289 : m_X6_next_h021 td ftp fwo za = -1 := by unfold m_X6_next_h021; rw [if_neg c_172, if_pos p_177, if_pos c_278, if_pos c_279, if_pos c_280]
                            have q_290 : m_X6_next_h022 td ftp fwo za = (m_X6_wordFrom ftp fwo (g_X6_next_0 td ftp za) (g_X6_next_103 td ftp za)) - 3 := by unfold m_X6_next_h022; rw [if_neg c_172, if_pos p_177, if_pos c_278]
                            have hz9 : gPD G A [zo6 h0 (nI pb) kd mo st (nI jg) ro tp (nI td) cd sr (nI tx) (nI ru) him ir ih ss sq ce lw (nI (m_X6_next_h019 td ftp za)) (m_X6_next_h020 td ftp za) (m_X6_next_h021 td ftp fwo za) (m_X6_next_h022 td ftp fwo za) wo he s25 s26 s27 sk na kp s31 s32 s33 s34 gb go fa ga s39 s40 vo, zi G tp 160 ftp, zi G wo 96 fwo] H := ⟨by rw [q_287, q_288, q_289, q_290]; exact hP.sub [0, 1, 2] rfl, by rw [q_287, q_288, q_289, q_290]; exact hD.sub [0, 1, 2] (by decide +kernel) rfl⟩
                            have hP9 := hz9.1
                            have hD9 := hz9.2
                            have hpost : (fun (u : Unit) => match u with | _ => za ≤ (m_X6_next_h019 td ftp za) ∧ (m_X6_next_h019 td ftp za) ≤ td ∧ (¬ (m_X6_next_h021 td ftp fwo za) = 0 → za < (m_X6_next_h019 td ftp za)) ∧ ((m_X6_next_h021 td ftp fwo za) = 2 → 0 ≤ (m_X6_next_h022 td ftp fwo za) ∧ (m_X6_next_h022 td ftp fwo za) < 6) ∧ ((m_X6_next_h021 td ftp fwo za) = 1 → 100000 ≤ 100000 + (m_X6_next_h022 td ftp fwo za))) () := nx_facts hza htd
                            exact W.vret hx hb hr (fun t ht hW => ⟨⟨(), rfl, hpost, by rw [ht]; exact hP9, va_K.moved hW.alike hK, hD9⟩, hS.F ht⟩) hS.2.2 dX6_next_403
                        · skip
                          refine lv_iconst (v := 2) hx hb dX6_next_175 (by decide +kernel) ?_
                          refine lv_goto (tgt := 195) hx hb dX6_next_176 (by decide +kernel) ?_
                          refine va_put (D := G.1) (ci := 6) (v := .int 2) (ty := .int) (C := RX6) (T := TX6) (N := 42) hx hb hts hiX6 tyX6 tyX6_ok nmX6 hown hK hP hD hS 0 rfl rfl 21 (by decide +kernel) kf117 (fun _ h9 => h9) rfl (by decide +kernel) rfl rfl (Nat.le_of_ble_eq_true rfl) dX6_next_195 (fun H locs hP hD hS => ?_)
                          have hz9 : gPD G A [zo6 h0 (nI pb) kd mo st (nI jg) ro tp (nI td) cd sr (nI tx) (nI ru) him ir ih ss sq ce lw (nI (g_X6_next_103 td ftp za)) (nI (g_X6_next_0 td ftp za)) 2 0 wo he s25 s26 s27 sk na kp s31 s32 s33 s34 gb go fa ga s39 s40 vo, zi G tp 160 ftp, zi G wo 96 fwo] H := ⟨hP, hD⟩
                          have hP := hz9.1
                          have hD := hz9.2
                          refine lv_aload_n hx hb dX6_next_198 rfl (lv_at hl 2 rfl) ?_
                          refine lv_iload_n hx hb dX6_next_199 rfl (lv_at hl 0 rfl) ?_
                          refine lv_iconst (v := 3) hx hb dX6_next_200 (by decide +kernel) ?_
                          refine lv_icmp_ge (tgt := 208) hx hb dX6_next_201 (by decide +kernel) (fun c_291 => ?_) (fun c_291 => ?_)
                          rotate_left
                          · exact absurd (c_278) c_291
                          refine lv_iload_n hx hb dX6_next_208 rfl (lv_at hl 0 rfl) ?_
                          refine lv_iconst (v := 3) hx hb dX6_next_209 (by decide +kernel) ?_
                          refine lv_isub hx hb dX6_next_210 ?_
                          refine va_put (D := G.1) (ci := 6) (v := .int ((m_X6_wordFrom ftp fwo (g_X6_next_0 td ftp za) (g_X6_next_103 td ftp za)) - 3)) (ty := .int) (C := RX6) (T := TX6) (N := 42) hx hb hts hiX6 tyX6 tyX6_ok nmX6 hown hK hP hD hS 0 rfl rfl 22 (by decide +kernel) kf120 (fun _ h9 => h9) rfl (by decide +kernel) rfl rfl (Nat.le_of_ble_eq_true rfl) dX6_next_211 (fun H locs hP hD hS => ?_)
                          have hz9 : gPD G A [zo6 h0 (nI pb) kd mo st (nI jg) ro tp (nI td) cd sr (nI tx) (nI ru) him ir ih ss sq ce lw (nI (g_X6_next_103 td ftp za)) (nI (g_X6_next_0 td ftp za)) 2 ((m_X6_wordFrom ftp fwo (g_X6_next_0 td ftp za) (g_X6_next_103 td ftp za)) - 3) wo he s25 s26 s27 sk na kp s31 s32 s33 s34 gb go fa ga s39 s40 vo, zi G tp 160 ftp, zi G wo 96 fwo] H := ⟨hP, hD⟩
                          have hP := hz9.1
                          have hD := hz9.2
                          refine lv_goto (tgt := 403) hx hb dX6_next_214 (by decide +kernel) ?_
                          have q_292 : m_X6_next_h019 td ftp za = g_X6_next_103 td ftp za := by unfold m_X6_next_h019; rw [if_neg c_172, if_pos p_177]
                          have q_293 : m_X6_next_h020 td ftp za = (nI (g_X6_next_0 td ftp za)) := by unfold m_X6_next_h020; rw [if_neg c_172, if_pos p_177]
                          have q_294 : m_X6_next_h021 td ftp fwo za = 2 := by unfold m_X6_next_h021; rw [if_neg c_172, if_pos p_177, if_pos c_278, if_neg c_279]
                          have q_295 : m_X6_next_h022 td ftp fwo za = (m_X6_wordFrom ftp fwo (g_X6_next_0 td ftp za) (g_X6_next_103 td ftp za)) - 3 := by unfold m_X6_next_h022; rw [if_neg c_172, if_pos p_177, if_pos c_278]
                          have hz9 : gPD G A [zo6 h0 (nI pb) kd mo st (nI jg) ro tp (nI td) cd sr (nI tx) (nI ru) him ir ih ss sq ce lw (nI (m_X6_next_h019 td ftp za)) (m_X6_next_h020 td ftp za) (m_X6_next_h021 td ftp fwo za) (m_X6_next_h022 td ftp fwo za) wo he s25 s26 s27 sk na kp s31 s32 s33 s34 gb go fa ga s39 s40 vo, zi G tp 160 ftp, zi G wo 96 fwo] H := ⟨by rw [q_292, q_293, q_294, q_295]; exact hP.sub [0, 1, 2] rfl, by rw [q_292, q_293, q_294, q_295]; exact hD.sub [0, 1, 2] (by decide +kernel) rfl⟩
                          have hP9 := hz9.1
                          have hD9 := hz9.2
                          have hpost : (fun (u : Unit) => match u with | _ => za ≤ (m_X6_next_h019 td ftp za) ∧ (m_X6_next_h019 td ftp za) ≤ td ∧ (¬ (m_X6_next_h021 td ftp fwo za) = 0 → za < (m_X6_next_h019 td ftp za)) ∧ ((m_X6_next_h021 td ftp fwo za) = 2 → 0 ≤ (m_X6_next_h022 td ftp fwo za) ∧ (m_X6_next_h022 td ftp fwo za) < 6) ∧ ((m_X6_next_h021 td ftp fwo za) = 1 → 100000 ≤ 100000 + (m_X6_next_h022 td ftp fwo za))) () := nx_facts hza htd
                          exact W.vret hx hb hr (fun t ht hW => ⟨⟨(), rfl, hpost, by rw [ht]; exact hP9, va_K.moved hW.alike hK, hD9⟩, hS.F ht⟩) hS.2.2 dX6_next_403
                      · skip
                        refine lv_iconst (v := 3) hx hb dX6_next_165 (by decide +kernel) ?_
                        refine lv_goto (tgt := 195) hx hb dX6_next_166 (by decide +kernel) ?_
                        refine va_put (D := G.1) (ci := 6) (v := .int 3) (ty := .int) (C := RX6) (T := TX6) (N := 42) hx hb hts hiX6 tyX6 tyX6_ok nmX6 hown hK hP hD hS 0 rfl rfl 21 (by decide +kernel) kf117 (fun _ h9 => h9) rfl (by decide +kernel) rfl rfl (Nat.le_of_ble_eq_true rfl) dX6_next_195 (fun H locs hP hD hS => ?_)
                        have hz9 : gPD G A [zo6 h0 (nI pb) kd mo st (nI jg) ro tp (nI td) cd sr (nI tx) (nI ru) him ir ih ss sq ce lw (nI (g_X6_next_103 td ftp za)) (nI (g_X6_next_0 td ftp za)) 3 0 wo he s25 s26 s27 sk na kp s31 s32 s33 s34 gb go fa ga s39 s40 vo, zi G tp 160 ftp, zi G wo 96 fwo] H := ⟨hP, hD⟩
                        have hP := hz9.1
                        have hD := hz9.2
                        refine lv_aload_n hx hb dX6_next_198 rfl (lv_at hl 2 rfl) ?_
                        refine lv_iload_n hx hb dX6_next_199 rfl (lv_at hl 0 rfl) ?_
                        refine lv_iconst (v := 3) hx hb dX6_next_200 (by decide +kernel) ?_
                        refine lv_icmp_ge (tgt := 208) hx hb dX6_next_201 (by decide +kernel) (fun c_296 => ?_) (fun c_296 => ?_)
                        · exact absurd c_296 (c_278)
                        refine lv_iload_n hx hb dX6_next_204 rfl (lv_at hl 0 rfl) ?_
                        refine lv_goto (tgt := 211) hx hb dX6_next_205 (by decide +kernel) ?_
                        refine va_put (D := G.1) (ci := 6) (v := .int (m_X6_wordFrom ftp fwo (g_X6_next_0 td ftp za) (g_X6_next_103 td ftp za))) (ty := .int) (C := RX6) (T := TX6) (N := 42) hx hb hts hiX6 tyX6 tyX6_ok nmX6 hown hK hP hD hS 0 rfl rfl 22 (by decide +kernel) kf120 (fun _ h9 => h9) rfl (by decide +kernel) rfl rfl (Nat.le_of_ble_eq_true rfl) dX6_next_211 (fun H locs hP hD hS => ?_)
                        have hz9 : gPD G A [zo6 h0 (nI pb) kd mo st (nI jg) ro tp (nI td) cd sr (nI tx) (nI ru) him ir ih ss sq ce lw (nI (g_X6_next_103 td ftp za)) (nI (g_X6_next_0 td ftp za)) 3 (m_X6_wordFrom ftp fwo (g_X6_next_0 td ftp za) (g_X6_next_103 td ftp za)) wo he s25 s26 s27 sk na kp s31 s32 s33 s34 gb go fa ga s39 s40 vo, zi G tp 160 ftp, zi G wo 96 fwo] H := ⟨hP, hD⟩
                        have hP := hz9.1
                        have hD := hz9.2
                        refine lv_goto (tgt := 403) hx hb dX6_next_214 (by decide +kernel) ?_
                        have q_297 : m_X6_next_h019 td ftp za = g_X6_next_103 td ftp za := by unfold m_X6_next_h019; rw [if_neg c_172, if_pos p_177]
                        have q_298 : m_X6_next_h020 td ftp za = (nI (g_X6_next_0 td ftp za)) := by unfold m_X6_next_h020; rw [if_neg c_172, if_pos p_177]
                        have q_299 : m_X6_next_h021 td ftp fwo za = 3 := by unfold m_X6_next_h021; rw [if_neg c_172, if_pos p_177, if_neg c_278]
                        have q_300 : m_X6_next_h022 td ftp fwo za = m_X6_wordFrom ftp fwo (g_X6_next_0 td ftp za) (g_X6_next_103 td ftp za) := by unfold m_X6_next_h022; rw [if_neg c_172, if_pos p_177, if_neg c_278]
                        have hz9 : gPD G A [zo6 h0 (nI pb) kd mo st (nI jg) ro tp (nI td) cd sr (nI tx) (nI ru) him ir ih ss sq ce lw (nI (m_X6_next_h019 td ftp za)) (m_X6_next_h020 td ftp za) (m_X6_next_h021 td ftp fwo za) (m_X6_next_h022 td ftp fwo za) wo he s25 s26 s27 sk na kp s31 s32 s33 s34 gb go fa ga s39 s40 vo, zi G tp 160 ftp, zi G wo 96 fwo] H := ⟨by rw [q_297, q_298, q_299, q_300]; exact hP.sub [0, 1, 2] rfl, by rw [q_297, q_298, q_299, q_300]; exact hD.sub [0, 1, 2] (by decide +kernel) rfl⟩
                        have hP9 := hz9.1
                        have hD9 := hz9.2
                        have hpost : (fun (u : Unit) => match u with | _ => za ≤ (m_X6_next_h019 td ftp za) ∧ (m_X6_next_h019 td ftp za) ≤ td ∧ (¬ (m_X6_next_h021 td ftp fwo za) = 0 → za < (m_X6_next_h019 td ftp za)) ∧ ((m_X6_next_h021 td ftp fwo za) = 2 → 0 ≤ (m_X6_next_h022 td ftp fwo za) ∧ (m_X6_next_h022 td ftp fwo za) < 6) ∧ ((m_X6_next_h021 td ftp fwo za) = 1 → 100000 ≤ 100000 + (m_X6_next_h022 td ftp fwo za))) () := nx_facts hza htd
                        exact W.vret hx hb hr (fun t ht hW => ⟨⟨(), rfl, hpost, by rw [ht]; exact hP9, va_K.moved hW.alike hK, hD9⟩, hS.F ht⟩) hS.2.2 dX6_next_403
                    · skip
                      have c_275N : a1 < td := nI_le0 (a := td) (b := a1) (by omega) (by omega) c_275
                      refine lv_aload_n hx hb dX6_next_114 rfl (lv_at hl 1 rfl) ?_
                      refine va_get (D := G.1) (ci := 6) (v := .ref tp) (C := RX6) (T := TX6) (N := 42) hx hb hts hiX6 hown hK hP 0 rfl rfl 6 (by decide +kernel) kf22 (fun _ h9 => h9) rfl dX6_next_115 ?_
                      refine lv_aload_n hx hb dX6_next_118 rfl (lv_at hl 1 rfl) ?_
                      refine va_get (D := G.1) (ci := 6) (v := .int (nI a1)) (C := RX6) (T := TX6) (N := 42) hx hb hts hiX6 hown hK hP 0 rfl rfl 19 (by decide +kernel) kf111 (fun _ h9 => h9) rfl dX6_next_119 ?_
                      refine va_iald (D := G.1) hx hb hK hP 1 0 rfl rfl (i := (nI a1)) (vp_in_nI (by omega) (by omega)) dX6_next_122 ?_
                      refine lv_topi (fun v_301 ev_301 => ?_)
                      have ev_301 : v_301 = ftp a1 := ev_301.trans (by rw [nI_clamp (by omega)])
                      subst ev_301
                      refine lv_bipush (v := 97) hx hb dX6_next_123 (by decide +kernel) ?_
                      refine lv_bipush (v := 122) hx hb dX6_next_125 (by decide +kernel) ?_
                      have hz9 : gPD G A [] H := ⟨hP.sub [] rfl, hD.sub [] (by decide +kernel) rfl⟩
                      have hPc := hz9.1
                      have hDc := hz9.2
                      have hFc := gFree hPc hD hS hA [] rfl
                      refine va_calli (va_runS (As := [.int (ftp a1), .int 97, .int 122]) (rest := []) ⟨hx, hb, hml, hown, hts⟩ (c_X6_in l G (ftp a1) 97 122 H.size) (va_cwS 3 hts gX6_next_X6_in rfl rfl rfl (by decide +kernel) ⟨Nat.le_of_ble_eq_true rfl, Nat.le_of_ble_eq_true rfl⟩) ⟨gPre_blind, fun U hU hW => gPre_of hU hW hK hPc hDc⟩ rfl rfl hl.1 rfl (lv_room (Nat.le_of_ble_eq_true rfl)) dX6_next_127 ⟨Nat.le_of_ble_eq_true rfl, Nat.le_of_ble_eq_true rfl⟩) hS (fun q _ h => hFc q h) hFc (fun r_302 u t H locs ht hvm w_303 hB hz1 hk1 hS => ?_)
                      obtain ⟨hP1, hK1, hD1⟩ := hB
                      rw [ht] at hP1
                      have hz9 : gPD G (va_A _ _) [] H := ⟨hP1, hD1⟩
                      have hP1 := hz9.1
                      have hD1 := hz9.2
                      have w_303 : r_302 = bz (decide (97 ≤ (ftp a1) ∧ (ftp a1) ≤ 122)) := w_303
                      have hz9 : gPD G A [zo6 h0 (nI pb) kd mo st (nI jg) ro tp (nI td) cd sr (nI tx) (nI ru) him ir ih ss sq ce lw (nI a1) (nI (g_X6_next_0 td ftp za)) 0 0 wo he s25 s26 s27 sk na kp s31 s32 s33 s34 gb go fa ga s39 s40 vo, zi G tp 160 ftp, zi G wo 96 fwo] H := gJoin hP hD hk1 hFc hP1 hD1 [] [0, 1, 2] rfl rfl rfl (by decide +kernel) (by decide +kernel)
                      have hP := hz9.1
                      have hD := hz9.2
                      subst w_303
                      refine lv_if_eq (tgt := 146) hx hb dX6_next_130 (by decide +kernel) (fun c_304 => ?_) (fun c_304 => ?_)
                      · skip
                        have n_306 : ¬ (97 ≤ (ftp a1) ∧ (ftp a1) ≤ 122) := of_decide_eq_false (bz_eq rfl c_304)
                        have hF103 : (g_X6_next_103 td ftp za) = a1 := R103.symm.trans ((congrArg (fun z9 => p_X6_next_103 ftp (z9) a1 ) (show td - a1 = td - (a1 + 1) + 1 by omega)).trans (by show p_X6_next_103 ftp (td - (a1 + 1) + 1) a1  = _; rw [p_X6_next_103, if_neg n_306]))
                        have hE103_0 : a1 = (g_X6_next_103 td ftp za) := by rw [hF103]
                        clear hF103 R103
                        subst hE103_0
                        refine lv_aload_n hx hb dX6_next_146 rfl (lv_at hl 1 rfl) ?_
                        refine lv_aload_n hx hb dX6_next_147 rfl (lv_at hl 1 rfl) ?_
                        refine va_get (D := G.1) (ci := 6) (v := .int (nI (g_X6_next_0 td ftp za))) (C := RX6) (T := TX6) (N := 42) hx hb hts hiX6 hown hK hP 0 rfl rfl 20 (by decide +kernel) kf114 (fun _ h9 => h9) rfl dX6_next_148 ?_
                        refine lv_aload_n hx hb dX6_next_151 rfl (lv_at hl 1 rfl) ?_
                        refine va_get (D := G.1) (ci := 6) (v := .int (nI (g_X6_next_103 td ftp za))) (C := RX6) (T := TX6) (N := 42) hx hb hts hiX6 hown hK hP 0 rfl rfl 19 (by decide +kernel) kf111 (fun _ h9 => h9) rfl dX6_next_152 ?_
                        have hz9 : gPD G A [zo6 h0 (nI pb) kd mo st (nI jg) ro tp (nI td) cd sr (nI tx) (nI ru) him ir ih ss sq ce lw (nI (g_X6_next_103 td ftp za)) (nI (g_X6_next_0 td ftp za)) 0 0 wo he s25 s26 s27 sk na kp s31 s32 s33 s34 gb go fa ga s39 s40 vo, zi G tp 160 ftp, zi G wo 96 fwo] H := ⟨hP.sub [0, 1, 2] rfl, hD.sub [0, 1, 2] (by decide +kernel) rfl⟩
                        have hPc := hz9.1
                        have hDc := hz9.2
                        have hFc := gFree hPc hD hS hA [0, 1, 2] rfl
                        refine va_calli (va_runV (As := [.int (nI (g_X6_next_0 td ftp za)), .int (nI (g_X6_next_103 td ftp za))]) (rest := []) ⟨hx, hb, hml, hown, hts⟩ (c_X6_wordFrom_b l G h0 kd mo st ro tp cd sr ir ih ss sq ce lw wo he sk na kp gb go fa ga vo pb jg td tx ru him (nI (g_X6_next_103 td ftp za)) (nI (g_X6_next_0 td ftp za)) 0 0 s25 s26 s27 s31 s32 s33 s34 s39 s40 ftp fwo (g_X6_next_0 td ftp za) (g_X6_next_103 td ftp za) H.size (⟨(n1_le (ftp := ftp) (td - g_X6_next_0 td ftp za) (g_X6_next_0 td ftp za)).1, by omega⟩)) (cwV 2 hts gX6_next_X6_wordFrom rfl rfl rfl (by decide +kernel) ⟨Nat.le_of_ble_eq_true rfl, Nat.le_of_ble_eq_true rfl⟩) ⟨gPre_blind, va_recv hK hPc (ci := 6) (q0 := 0) rfl rfl, fun U hU hW => gPre_of hU hW hK hPc hDc⟩ rfl rfl hl.1 rfl (lv_room (Nat.le_of_ble_eq_true rfl)) dX6_next_155 ⟨Nat.le_of_ble_eq_true rfl, Nat.le_of_ble_eq_true rfl⟩) hS (fun q _ h => hFc q h) hFc (fun r_307 u t H locs ht hvm w_308 hB hz1 hk1 hS => ?_)
                        obtain ⟨hP1, hK1, hD1⟩ := hB
                        rw [ht] at hP1
                        have hz9 : gPD G (va_A _ _) [zo6 h0 (nI pb) kd mo st (nI jg) ro tp (nI td) cd sr (nI tx) (nI ru) him ir ih ss sq ce lw (nI (g_X6_next_103 td ftp za)) (nI (g_X6_next_0 td ftp za)) 0 0 wo he s25 s26 s27 sk na kp s31 s32 s33 s34 gb go fa ga s39 s40 vo, zi G tp 160 ftp, zi G wo 96 fwo] H := ⟨hP1, hD1⟩
                        have hP1 := hz9.1
                        have hD1 := hz9.2
                        have w_308 : r_307 = m_X6_wordFrom ftp fwo (g_X6_next_0 td ftp za) (g_X6_next_103 td ftp za) := w_308
                        have hz9 : gPD G A [zo6 h0 (nI pb) kd mo st (nI jg) ro tp (nI td) cd sr (nI tx) (nI ru) him ir ih ss sq ce lw (nI (g_X6_next_103 td ftp za)) (nI (g_X6_next_0 td ftp za)) 0 0 wo he s25 s26 s27 sk na kp s31 s32 s33 s34 gb go fa ga s39 s40 vo, zi G tp 160 ftp, zi G wo 96 fwo] H := gJoin hP hD hk1 hFc hP1 hD1 [0, 1, 2] [] rfl rfl rfl (by decide +kernel) (by decide +kernel)
                        have hP := hz9.1
                        have hD := hz9.2
                        subst w_308
                        refine lv_istore_n (lv' := [zI 2 (m_X6_wordFrom ftp fwo (g_X6_next_0 td ftp za) (g_X6_next_103 td ftp za)), zI 1 (ftp (g_X6_next_0 td ftp za)), zR 0 h0]) hx hb dX6_next_158 rfl hl (by decide +kernel) rfl (fun ls hl => ?_)
                        refine lv_aload_n hx hb dX6_next_159 rfl (lv_at hl 2 rfl) ?_
                        refine lv_iload_n hx hb dX6_next_160 rfl (lv_at hl 0 rfl) ?_
                        refine lv_iconst (v := 3) hx hb dX6_next_161 (by decide +kernel) ?_
                        refine lv_icmp_ge (tgt := 169) hx hb dX6_next_162 (by decide +kernel) (fun c_309 => ?_) (fun c_309 => ?_)
                        · skip
                          refine lv_iload_n hx hb dX6_next_169 rfl (lv_at hl 0 rfl) ?_
                          refine lv_bipush (v := 9) hx hb dX6_next_170 (by decide +kernel) ?_
                          refine lv_icmp_ge (tgt := 179) hx hb dX6_next_172 (by decide +kernel) (fun c_310 => ?_) (fun c_310 => ?_)
                          · skip
                            refine lv_iload_n hx hb dX6_next_179 rfl (lv_at hl 0 rfl) ?_
                            refine lv_bipush (v := 12) hx hb dX6_next_180 (by decide +kernel) ?_
                            refine lv_icmp_ne (tgt := 189) hx hb dX6_next_182 (by decide +kernel) (fun c_311 => ?_) (fun c_311 => ?_)
                            · skip
                              refine lv_iconst (v := 4) hx hb dX6_next_189 (by decide +kernel) ?_
                              refine lv_iload_n hx hb dX6_next_190 rfl (lv_at hl 0 rfl) ?_
                              refine lv_iadd hx hb dX6_next_191 ?_
                              refine lv_bipush (v := 9) hx hb dX6_next_192 (by decide +kernel) ?_
                              refine lv_isub hx hb dX6_next_194 ?_
                              refine va_put (D := G.1) (ci := 6) (v := .int ((4 + (m_X6_wordFrom ftp fwo (g_X6_next_0 td ftp za) (g_X6_next_103 td ftp za))) - 9)) (ty := .int) (C := RX6) (T := TX6) (N := 42) hx hb hts hiX6 tyX6 tyX6_ok nmX6 hown hK hP hD hS 0 rfl rfl 21 (by decide +kernel) kf117 (fun _ h9 => h9) rfl (by decide +kernel) rfl rfl (Nat.le_of_ble_eq_true rfl) dX6_next_195 (fun H locs hP hD hS => ?_)
                              have hz9 : gPD G A [zo6 h0 (nI pb) kd mo st (nI jg) ro tp (nI td) cd sr (nI tx) (nI ru) him ir ih ss sq ce lw (nI (g_X6_next_103 td ftp za)) (nI (g_X6_next_0 td ftp za)) ((4 + (m_X6_wordFrom ftp fwo (g_X6_next_0 td ftp za) (g_X6_next_103 td ftp za))) - 9) 0 wo he s25 s26 s27 sk na kp s31 s32 s33 s34 gb go fa ga s39 s40 vo, zi G tp 160 ftp, zi G wo 96 fwo] H := ⟨hP, hD⟩
                              have hP := hz9.1
                              have hD := hz9.2
                              refine lv_aload_n hx hb dX6_next_198 rfl (lv_at hl 2 rfl) ?_
                              refine lv_iload_n hx hb dX6_next_199 rfl (lv_at hl 0 rfl) ?_
                              refine lv_iconst (v := 3) hx hb dX6_next_200 (by decide +kernel) ?_
                              refine lv_icmp_ge (tgt := 208) hx hb dX6_next_201 (by decide +kernel) (fun c_312 => ?_) (fun c_312 => ?_)
                              rotate_left
                              · exact absurd (c_309) c_312
                              refine lv_iload_n hx hb dX6_next_208 rfl (lv_at hl 0 rfl) ?_
                              refine lv_iconst (v := 3) hx hb dX6_next_209 (by decide +kernel) ?_
                              refine lv_isub hx hb dX6_next_210 ?_
                              refine va_put (D := G.1) (ci := 6) (v := .int ((m_X6_wordFrom ftp fwo (g_X6_next_0 td ftp za) (g_X6_next_103 td ftp za)) - 3)) (ty := .int) (C := RX6) (T := TX6) (N := 42) hx hb hts hiX6 tyX6 tyX6_ok nmX6 hown hK hP hD hS 0 rfl rfl 22 (by decide +kernel) kf120 (fun _ h9 => h9) rfl (by decide +kernel) rfl rfl (Nat.le_of_ble_eq_true rfl) dX6_next_211 (fun H locs hP hD hS => ?_)
                              have hz9 : gPD G A [zo6 h0 (nI pb) kd mo st (nI jg) ro tp (nI td) cd sr (nI tx) (nI ru) him ir ih ss sq ce lw (nI (g_X6_next_103 td ftp za)) (nI (g_X6_next_0 td ftp za)) ((4 + (m_X6_wordFrom ftp fwo (g_X6_next_0 td ftp za) (g_X6_next_103 td ftp za))) - 9) ((m_X6_wordFrom ftp fwo (g_X6_next_0 td ftp za) (g_X6_next_103 td ftp za)) - 3) wo he s25 s26 s27 sk na kp s31 s32 s33 s34 gb go fa ga s39 s40 vo, zi G tp 160 ftp, zi G wo 96 fwo] H := ⟨hP, hD⟩
                              have hP := hz9.1
                              have hD := hz9.2
                              refine lv_goto (tgt := 403) hx hb dX6_next_214 (by decide +kernel) ?_
                              have q_313 : m_X6_next_h019 td ftp za = g_X6_next_103 td ftp za := by unfold m_X6_next_h019; rw [if_neg c_172, if_pos p_177]
                              have q_314 : m_X6_next_h020 td ftp za = (nI (g_X6_next_0 td ftp za)) := by unfold m_X6_next_h020; rw [if_neg c_172, if_pos p_177]
                              have q_315 : m_X6_next_h021 td ftp fwo za = (4 + (m_X6_wordFrom ftp fwo (g_X6_next_0 td ftp za) (g_X6_next_103 td ftp za))) - 9 := by unfold m_X6_next_h021; rw [if_neg c_172, if_pos p_177, if_pos c_309, if_pos c_310, if_neg c_311]
                              have q_316 : m_X6_next_h022 td ftp fwo za = (m_X6_wordFrom ftp fwo (g_X6_next_0 td ftp za) (g_X6_next_103 td ftp za)) - 3 := by unfold m_X6_next_h022; rw [if_neg c_172, if_pos p_177, if_pos c_309]
                              have hz9 : gPD G A [zo6 h0 (nI pb) kd mo st (nI jg) ro tp (nI td) cd sr (nI tx) (nI ru) him ir ih ss sq ce lw (nI (m_X6_next_h019 td ftp za)) (m_X6_next_h020 td ftp za) (m_X6_next_h021 td ftp fwo za) (m_X6_next_h022 td ftp fwo za) wo he s25 s26 s27 sk na kp s31 s32 s33 s34 gb go fa ga s39 s40 vo, zi G tp 160 ftp, zi G wo 96 fwo] H := ⟨by rw [q_313, q_314, q_315, q_316]; exact hP.sub [0, 1, 2] rfl, by rw [q_313, q_314, q_315, q_316]; exact hD.sub [0, 1, 2] (by decide +kernel) rfl⟩
                              have hP9 := hz9.1
                              have hD9 := hz9.2
                              have hpost : (fun (u : Unit) => match u with | _ => za ≤ (m_X6_next_h019 td ftp za) ∧ (m_X6_next_h019 td ftp za) ≤ td ∧ (¬ (m_X6_next_h021 td ftp fwo za) = 0 → za < (m_X6_next_h019 td ftp za)) ∧ ((m_X6_next_h021 td ftp fwo za) = 2 → 0 ≤ (m_X6_next_h022 td ftp fwo za) ∧ (m_X6_next_h022 td ftp fwo za) < 6) ∧ ((m_X6_next_h021 td ftp fwo za) = 1 → 100000 ≤ 100000 + (m_X6_next_h022 td ftp fwo za))) () := nx_facts hza htd
                              exact W.vret hx hb hr (fun t ht hW => ⟨⟨(), rfl, hpost, by rw [ht]; exact hP9, va_K.moved hW.alike hK, hD9⟩, hS.F ht⟩) hS.2.2 dX6_next_403
                            · skip
                              refine lv_iconst (v := -1) hx hb dX6_next_185 (by decide +kernel) ?_
                              refine lv_goto (tgt := 195) hx hb dX6_next_186 (by decide +kernel) ?_
                              refine va_put (D := G.1) (ci := 6) (v := .int (-1)) (ty := .int) (C := RX6) (T := TX6) (N := 42) hx hb hts hiX6 tyX6 tyX6_ok nmX6 hown hK hP hD hS 0 rfl rfl 21 (by decide +kernel) kf117 (fun _ h9 => h9) rfl (by decide +kernel) rfl rfl (Nat.le_of_ble_eq_true rfl) dX6_next_195 (fun H locs hP hD hS => ?_)
                              have hz9 : gPD G A [zo6 h0 (nI pb) kd mo st (nI jg) ro tp (nI td) cd sr (nI tx) (nI ru) him ir ih ss sq ce lw (nI (g_X6_next_103 td ftp za)) (nI (g_X6_next_0 td ftp za)) (-1) 0 wo he s25 s26 s27 sk na kp s31 s32 s33 s34 gb go fa ga s39 s40 vo, zi G tp 160 ftp, zi G wo 96 fwo] H := ⟨hP, hD⟩
                              have hP := hz9.1
                              have hD := hz9.2
                              refine lv_aload_n hx hb dX6_next_198 rfl (lv_at hl 2 rfl) ?_
                              refine lv_iload_n hx hb dX6_next_199 rfl (lv_at hl 0 rfl) ?_
                              refine lv_iconst (v := 3) hx hb dX6_next_200 (by decide +kernel) ?_
                              refine lv_icmp_ge (tgt := 208) hx hb dX6_next_201 (by decide +kernel) (fun c_317 => ?_) (fun c_317 => ?_)
                              rotate_left
                              · exact absurd (c_309) c_317
                              refine lv_iload_n hx hb dX6_next_208 rfl (lv_at hl 0 rfl) ?_
                              refine lv_iconst (v := 3) hx hb dX6_next_209 (by decide +kernel) ?_
                              refine lv_isub hx hb dX6_next_210 ?_
                              refine va_put (D := G.1) (ci := 6) (v := .int ((m_X6_wordFrom ftp fwo (g_X6_next_0 td ftp za) (g_X6_next_103 td ftp za)) - 3)) (ty := .int) (C := RX6) (T := TX6) (N := 42) hx hb hts hiX6 tyX6 tyX6_ok nmX6 hown hK hP hD hS 0 rfl rfl 22 (by decide +kernel) kf120 (fun _ h9 => h9) rfl (by decide +kernel) rfl rfl (Nat.le_of_ble_eq_true rfl) dX6_next_211 (fun H locs hP hD hS => ?_)
                              have hz9 : gPD G A [zo6 h0 (nI pb) kd mo st (nI jg) ro tp (nI td) cd sr (nI tx) (nI ru) him ir ih ss sq ce lw (nI (g_X6_next_103 td ftp za)) (nI (g_X6_next_0 td ftp za)) (-1) ((m_X6_wordFrom ftp fwo (g_X6_next_0 td ftp za) (g_X6_next_103 td ftp za)) - 3) wo he s25 s26 s27 sk na kp s31 s32 s33 s34 gb go fa ga s39 s40 vo, zi G tp 160 ftp, zi G wo 96 fwo] H := ⟨hP, hD⟩
                              have hP := hz9.1
                              have hD := hz9.2
                              refine lv_goto (tgt := 403) hx hb dX6_next_214 (by decide +kernel) ?_
                              have q_318 : m_X6_next_h019 td ftp za = g_X6_next_103 td ftp za := by unfold m_X6_next_h019; rw [if_neg c_172, if_pos p_177]
                              have q_319 : m_X6_next_h020 td ftp za = (nI (g_X6_next_0 td ftp za)) := by unfold m_X6_next_h020; rw [if_neg c_172, if_pos p_177]
                              have q_320 : m_X6_next_h021 td ftp fwo za = -1 := by unfold m_X6_next_h021; rw [if_neg c_172, if_pos p_177, if_pos c_309, if_pos c_310, if_pos c_311]
                              have q_321 : m_X6_next_h022 td ftp fwo za = (m_X6_wordFrom ftp fwo (g_X6_next_0 td ftp za) (g_X6_next_103 td ftp za)) - 3 := by unfold m_X6_next_h022; rw [if_neg c_172, if_pos p_177, if_pos c_309]
                              have hz9 : gPD G A [zo6 h0 (nI pb) kd mo st (nI jg) ro tp (nI td) cd sr (nI tx) (nI ru) him ir ih ss sq ce lw (nI (m_X6_next_h019 td ftp za)) (m_X6_next_h020 td ftp za) (m_X6_next_h021 td ftp fwo za) (m_X6_next_h022 td ftp fwo za) wo he s25 s26 s27 sk na kp s31 s32 s33 s34 gb go fa ga s39 s40 vo, zi G tp 160 ftp, zi G wo 96 fwo] H := ⟨by rw [q_318, q_319, q_320, q_321]; exact hP.sub [0, 1, 2] rfl, by rw [q_318, q_319, q_320, q_321]; exact hD.sub [0, 1, 2] (by decide +kernel) rfl⟩
                              have hP9 := hz9.1
                              have hD9 := hz9.2
                              have hpost : (fun (u : Unit) => match u with | _ => za ≤ (m_X6_next_h019 td ftp za) ∧ (m_X6_next_h019 td ftp za) ≤ td ∧ (¬ (m_X6_next_h021 td ftp fwo za) = 0 → za < (m_X6_next_h019 td ftp za)) ∧ ((m_X6_next_h021 td ftp fwo za) = 2 → 0 ≤ (m_X6_next_h022 td ftp fwo za) ∧ (m_X6_next_h022 td ftp fwo za) < 6) ∧ ((m_X6_next_h021 td ftp fwo za) = 1 → 100000 ≤ 100000 + (m_X6_next_h022 td ftp fwo za))) () := nx_facts hza htd
                              exact W.vret hx hb hr (fun t ht hW => ⟨⟨(), rfl, hpost, by rw [ht]; exact hP9, va_K.moved hW.alike hK, hD9⟩, hS.F ht⟩) hS.2.2 dX6_next_403
                          · skip
                            refine lv_iconst (v := 2) hx hb dX6_next_175 (by decide +kernel) ?_
                            refine lv_goto (tgt := 195) hx hb dX6_next_176 (by decide +kernel) ?_
                            refine va_put (D := G.1) (ci := 6) (v := .int 2) (ty := .int) (C := RX6) (T := TX6) (N := 42) hx hb hts hiX6 tyX6 tyX6_ok nmX6 hown hK hP hD hS 0 rfl rfl 21 (by decide +kernel) kf117 (fun _ h9 => h9) rfl (by decide +kernel) rfl rfl (Nat.le_of_ble_eq_true rfl) dX6_next_195 (fun H locs hP hD hS => ?_)
                            have hz9 : gPD G A [zo6 h0 (nI pb) kd mo st (nI jg) ro tp (nI td) cd sr (nI tx) (nI ru) him ir ih ss sq ce lw (nI (g_X6_next_103 td ftp za)) (nI (g_X6_next_0 td ftp za)) 2 0 wo he s25 s26 s27 sk na kp s31 s32 s33 s34 gb go fa ga s39 s40 vo, zi G tp 160 ftp, zi G wo 96 fwo] H := ⟨hP, hD⟩
                            have hP := hz9.1
                            have hD := hz9.2
                            refine lv_aload_n hx hb dX6_next_198 rfl (lv_at hl 2 rfl) ?_
                            refine lv_iload_n hx hb dX6_next_199 rfl (lv_at hl 0 rfl) ?_
                            refine lv_iconst (v := 3) hx hb dX6_next_200 (by decide +kernel) ?_
                            refine lv_icmp_ge (tgt := 208) hx hb dX6_next_201 (by decide +kernel) (fun c_322 => ?_) (fun c_322 => ?_)
                            rotate_left
                            · exact absurd (c_309) c_322
                            refine lv_iload_n hx hb dX6_next_208 rfl (lv_at hl 0 rfl) ?_
                            refine lv_iconst (v := 3) hx hb dX6_next_209 (by decide +kernel) ?_
                            refine lv_isub hx hb dX6_next_210 ?_
                            refine va_put (D := G.1) (ci := 6) (v := .int ((m_X6_wordFrom ftp fwo (g_X6_next_0 td ftp za) (g_X6_next_103 td ftp za)) - 3)) (ty := .int) (C := RX6) (T := TX6) (N := 42) hx hb hts hiX6 tyX6 tyX6_ok nmX6 hown hK hP hD hS 0 rfl rfl 22 (by decide +kernel) kf120 (fun _ h9 => h9) rfl (by decide +kernel) rfl rfl (Nat.le_of_ble_eq_true rfl) dX6_next_211 (fun H locs hP hD hS => ?_)
                            have hz9 : gPD G A [zo6 h0 (nI pb) kd mo st (nI jg) ro tp (nI td) cd sr (nI tx) (nI ru) him ir ih ss sq ce lw (nI (g_X6_next_103 td ftp za)) (nI (g_X6_next_0 td ftp za)) 2 ((m_X6_wordFrom ftp fwo (g_X6_next_0 td ftp za) (g_X6_next_103 td ftp za)) - 3) wo he s25 s26 s27 sk na kp s31 s32 s33 s34 gb go fa ga s39 s40 vo, zi G tp 160 ftp, zi G wo 96 fwo] H := ⟨hP, hD⟩
                            have hP := hz9.1
                            have hD := hz9.2
                            refine lv_goto (tgt := 403) hx hb dX6_next_214 (by decide +kernel) ?_
                            have q_323 : m_X6_next_h019 td ftp za = g_X6_next_103 td ftp za := by unfold m_X6_next_h019; rw [if_neg c_172, if_pos p_177]
                            have q_324 : m_X6_next_h020 td ftp za = (nI (g_X6_next_0 td ftp za)) := by unfold m_X6_next_h020; rw [if_neg c_172, if_pos p_177]
                            have q_325 : m_X6_next_h021 td ftp fwo za = 2 := by unfold m_X6_next_h021; rw [if_neg c_172, if_pos p_177, if_pos c_309, if_neg c_310]
                            have q_326 : m_X6_next_h022 td ftp fwo za = (m_X6_wordFrom ftp fwo (g_X6_next_0 td ftp za) (g_X6_next_103 td ftp za)) - 3 := by unfold m_X6_next_h022; rw [if_neg c_172, if_pos p_177, if_pos c_309]
                            have hz9 : gPD G A [zo6 h0 (nI pb) kd mo st (nI jg) ro tp (nI td) cd sr (nI tx) (nI ru) him ir ih ss sq ce lw (nI (m_X6_next_h019 td ftp za)) (m_X6_next_h020 td ftp za) (m_X6_next_h021 td ftp fwo za) (m_X6_next_h022 td ftp fwo za) wo he s25 s26 s27 sk na kp s31 s32 s33 s34 gb go fa ga s39 s40 vo, zi G tp 160 ftp, zi G wo 96 fwo] H := ⟨by rw [q_323, q_324, q_325, q_326]; exact hP.sub [0, 1, 2] rfl, by rw [q_323, q_324, q_325, q_326]; exact hD.sub [0, 1, 2] (by decide +kernel) rfl⟩
                            have hP9 := hz9.1
                            have hD9 := hz9.2
                            have hpost : (fun (u : Unit) => match u with | _ => za ≤ (m_X6_next_h019 td ftp za) ∧ (m_X6_next_h019 td ftp za) ≤ td ∧ (¬ (m_X6_next_h021 td ftp fwo za) = 0 → za < (m_X6_next_h019 td ftp za)) ∧ ((m_X6_next_h021 td ftp fwo za) = 2 → 0 ≤ (m_X6_next_h022 td ftp fwo za) ∧ (m_X6_next_h022 td ftp fwo za) < 6) ∧ ((m_X6_next_h021 td ftp fwo za) = 1 → 100000 ≤ 100000 + (m_X6_next_h022 td ftp fwo za))) () := nx_facts hza htd
                            exact W.vret hx hb hr (fun t ht hW => ⟨⟨(), rfl, hpost, by rw [ht]; exact hP9, va_K.moved hW.alike hK, hD9⟩, hS.F ht⟩) hS.2.2 dX6_next_403
                        · skip
                          refine lv_iconst (v := 3) hx hb dX6_next_165 (by decide +kernel) ?_
                          refine lv_goto (tgt := 195) hx hb dX6_next_166 (by decide +kernel) ?_
                          refine va_put (D := G.1) (ci := 6) (v := .int 3) (ty := .int) (C := RX6) (T := TX6) (N := 42) hx hb hts hiX6 tyX6 tyX6_ok nmX6 hown hK hP hD hS 0 rfl rfl 21 (by decide +kernel) kf117 (fun _ h9 => h9) rfl (by decide +kernel) rfl rfl (Nat.le_of_ble_eq_true rfl) dX6_next_195 (fun H locs hP hD hS => ?_)
                          have hz9 : gPD G A [zo6 h0 (nI pb) kd mo st (nI jg) ro tp (nI td) cd sr (nI tx) (nI ru) him ir ih ss sq ce lw (nI (g_X6_next_103 td ftp za)) (nI (g_X6_next_0 td ftp za)) 3 0 wo he s25 s26 s27 sk na kp s31 s32 s33 s34 gb go fa ga s39 s40 vo, zi G tp 160 ftp, zi G wo 96 fwo] H := ⟨hP, hD⟩
                          have hP := hz9.1
                          have hD := hz9.2
                          refine lv_aload_n hx hb dX6_next_198 rfl (lv_at hl 2 rfl) ?_
                          refine lv_iload_n hx hb dX6_next_199 rfl (lv_at hl 0 rfl) ?_
                          refine lv_iconst (v := 3) hx hb dX6_next_200 (by decide +kernel) ?_
                          refine lv_icmp_ge (tgt := 208) hx hb dX6_next_201 (by decide +kernel) (fun c_327 => ?_) (fun c_327 => ?_)
                          · exact absurd c_327 (c_309)
                          refine lv_iload_n hx hb dX6_next_204 rfl (lv_at hl 0 rfl) ?_
                          refine lv_goto (tgt := 211) hx hb dX6_next_205 (by decide +kernel) ?_
                          refine va_put (D := G.1) (ci := 6) (v := .int (m_X6_wordFrom ftp fwo (g_X6_next_0 td ftp za) (g_X6_next_103 td ftp za))) (ty := .int) (C := RX6) (T := TX6) (N := 42) hx hb hts hiX6 tyX6 tyX6_ok nmX6 hown hK hP hD hS 0 rfl rfl 22 (by decide +kernel) kf120 (fun _ h9 => h9) rfl (by decide +kernel) rfl rfl (Nat.le_of_ble_eq_true rfl) dX6_next_211 (fun H locs hP hD hS => ?_)
                          have hz9 : gPD G A [zo6 h0 (nI pb) kd mo st (nI jg) ro tp (nI td) cd sr (nI tx) (nI ru) him ir ih ss sq ce lw (nI (g_X6_next_103 td ftp za)) (nI (g_X6_next_0 td ftp za)) 3 (m_X6_wordFrom ftp fwo (g_X6_next_0 td ftp za) (g_X6_next_103 td ftp za)) wo he s25 s26 s27 sk na kp s31 s32 s33 s34 gb go fa ga s39 s40 vo, zi G tp 160 ftp, zi G wo 96 fwo] H := ⟨hP, hD⟩
                          have hP := hz9.1
                          have hD := hz9.2
                          refine lv_goto (tgt := 403) hx hb dX6_next_214 (by decide +kernel) ?_
                          have q_328 : m_X6_next_h019 td ftp za = g_X6_next_103 td ftp za := by unfold m_X6_next_h019; rw [if_neg c_172, if_pos p_177]
                          have q_329 : m_X6_next_h020 td ftp za = (nI (g_X6_next_0 td ftp za)) := by unfold m_X6_next_h020; rw [if_neg c_172, if_pos p_177]
                          have q_330 : m_X6_next_h021 td ftp fwo za = 3 := by unfold m_X6_next_h021; rw [if_neg c_172, if_pos p_177, if_neg c_309]
                          have q_331 : m_X6_next_h022 td ftp fwo za = m_X6_wordFrom ftp fwo (g_X6_next_0 td ftp za) (g_X6_next_103 td ftp za) := by unfold m_X6_next_h022; rw [if_neg c_172, if_pos p_177, if_neg c_309]
                          have hz9 : gPD G A [zo6 h0 (nI pb) kd mo st (nI jg) ro tp (nI td) cd sr (nI tx) (nI ru) him ir ih ss sq ce lw (nI (m_X6_next_h019 td ftp za)) (m_X6_next_h020 td ftp za) (m_X6_next_h021 td ftp fwo za) (m_X6_next_h022 td ftp fwo za) wo he s25 s26 s27 sk na kp s31 s32 s33 s34 gb go fa ga s39 s40 vo, zi G tp 160 ftp, zi G wo 96 fwo] H := ⟨by rw [q_328, q_329, q_330, q_331]; exact hP.sub [0, 1, 2] rfl, by rw [q_328, q_329, q_330, q_331]; exact hD.sub [0, 1, 2] (by decide +kernel) rfl⟩
                          have hP9 := hz9.1
                          have hD9 := hz9.2
                          have hpost : (fun (u : Unit) => match u with | _ => za ≤ (m_X6_next_h019 td ftp za) ∧ (m_X6_next_h019 td ftp za) ≤ td ∧ (¬ (m_X6_next_h021 td ftp fwo za) = 0 → za < (m_X6_next_h019 td ftp za)) ∧ ((m_X6_next_h021 td ftp fwo za) = 2 → 0 ≤ (m_X6_next_h022 td ftp fwo za) ∧ (m_X6_next_h022 td ftp fwo za) < 6) ∧ ((m_X6_next_h021 td ftp fwo za) = 1 → 100000 ≤ 100000 + (m_X6_next_h022 td ftp fwo za))) () := nx_facts hza htd
                          exact W.vret hx hb hr (fun t ht hW => ⟨⟨(), rfl, hpost, by rw [ht]; exact hP9, va_K.moved hW.alike hK, hD9⟩, hS.F ht⟩) hS.2.2 dX6_next_403
                      · skip
                        have p_305 : 97 ≤ (ftp a1) ∧ (ftp a1) ≤ 122 := of_decide_eq_true (bz_ne rfl c_304)
                        refine lv_aload_n hx hb dX6_next_133 rfl (lv_at hl 1 rfl) ?_
                        refine lv_dup hx hb dX6_next_134 rfl ?_
                        refine va_get (D := G.1) (ci := 6) (v := .int (nI a1)) (C := RX6) (T := TX6) (N := 42) hx hb hts hiX6 hown hK hP 0 rfl rfl 19 (by decide +kernel) kf111 (fun _ h9 => h9) rfl dX6_next_135 ?_
                        refine lv_iconst (v := 1) hx hb dX6_next_138 (by decide +kernel) ?_
                        refine lv_iadd hx hb dX6_next_139 ?_
                        refine lv_topi (fun v_332 ev_332 => ?_)
                        have ev_332 : v_332 = nI (a1 + 1) := ev_332.trans (nI_add a1 1)
                        subst ev_332
                        refine va_put (D := G.1) (ci := 6) (v := .int (nI (a1 + 1))) (ty := .int) (C := RX6) (T := TX6) (N := 42) hx hb hts hiX6 tyX6 tyX6_ok nmX6 hown hK hP hD hS 0 rfl rfl 19 (by decide +kernel) kf111 (fun _ h9 => h9) rfl (by decide +kernel) rfl rfl (Nat.le_of_ble_eq_true rfl) dX6_next_140 (fun H locs hP hD hS => ?_)
                        have hz9 : gPD G A [zo6 h0 (nI pb) kd mo st (nI jg) ro tp (nI td) cd sr (nI tx) (nI ru) him ir ih ss sq ce lw (nI (a1 + 1)) (nI (g_X6_next_0 td ftp za)) 0 0 wo he s25 s26 s27 sk na kp s31 s32 s33 s34 gb go fa ga s39 s40 vo, zi G tp 160 ftp, zi G wo 96 fwo] H := ⟨hP, hD⟩
                        have hP := hz9.1
                        have hD := hz9.2
                        refine lv_goto (tgt := 103) hx hb dX6_next_143 (by decide +kernel) ?_
                        exact ih9_103 (a1 + 1) (by omega) (Eq.trans (Eq.symm ((congrArg (fun z9 => p_X6_next_103 ftp (z9) a1 ) (show td - a1 = td - (a1 + 1) + 1 by omega)).trans (by show p_X6_next_103 ftp (td - (a1 + 1) + 1) a1  = _; rw [p_X6_next_103, if_pos p_305]))) R103) (by omega) _ _ (hP.sub [0, 1, 2] rfl) (hD.sub [0, 1, 2] (by decide +kernel) rfl) hS ls (lv_sub hl [0, 1] rfl)
                exact loop_103 (td - (g_X6_next_0 td ftp za) + 1) (g_X6_next_0 td ftp za) (by omega) (rfl) (by omega) _ _ (hP.sub [0, 1, 2] rfl) (hD.sub [0, 1, 2] (by decide +kernel) rfl) hS ls (lv_sub hl [0, 1] rfl)
            · skip
              have c_172N : (g_X6_next_0 td ftp za) = td := nI_eq1 (a := (g_X6_next_0 td ftp za)) (b := td) (by omega) (by omega) c_172
              have q_333 : m_X6_next_h019 td ftp za = g_X6_next_0 td ftp za := by unfold m_X6_next_h019; rw [if_pos c_172]
              have q_334 : m_X6_next_h020 td ftp za = nI (g_X6_next_0 td ftp za) := by unfold m_X6_next_h020; rw [if_pos c_172]
              have q_335 : m_X6_next_h021 td ftp fwo za = 0 := by unfold m_X6_next_h021; rw [if_pos c_172]
              have q_336 : m_X6_next_h022 td ftp fwo za = 0 := by unfold m_X6_next_h022; rw [if_pos c_172]
              have hz9 : gPD G A [zo6 h0 (nI pb) kd mo st (nI jg) ro tp (nI td) cd sr (nI tx) (nI ru) him ir ih ss sq ce lw (nI (m_X6_next_h019 td ftp za)) (m_X6_next_h020 td ftp za) (m_X6_next_h021 td ftp fwo za) (m_X6_next_h022 td ftp fwo za) wo he s25 s26 s27 sk na kp s31 s32 s33 s34 gb go fa ga s39 s40 vo, zi G tp 160 ftp, zi G wo 96 fwo] H := ⟨by rw [q_333, q_334, q_335, q_336]; exact hP.sub [0, 1, 2] rfl, by rw [q_333, q_334, q_335, q_336]; exact hD.sub [0, 1, 2] (by decide +kernel) rfl⟩
              have hP9 := hz9.1
              have hD9 := hz9.2
              have hpost : (fun (u : Unit) => match u with | _ => za ≤ (m_X6_next_h019 td ftp za) ∧ (m_X6_next_h019 td ftp za) ≤ td ∧ (¬ (m_X6_next_h021 td ftp fwo za) = 0 → za < (m_X6_next_h019 td ftp za)) ∧ ((m_X6_next_h021 td ftp fwo za) = 2 → 0 ≤ (m_X6_next_h022 td ftp fwo za) ∧ (m_X6_next_h022 td ftp fwo za) < 6) ∧ ((m_X6_next_h021 td ftp fwo za) = 1 → 100000 ≤ 100000 + (m_X6_next_h022 td ftp fwo za))) () := nx_facts hza htd
              exact W.vret hx hb hr (fun t ht hW => ⟨⟨(), rfl, hpost, by rw [ht]; exact hP9, va_K.moved hW.alike hK, hD9⟩, hS.F ht⟩) hS.2.2 dX6_next_81
          · skip
            refine lv_aload_n hx hb dX6_next_39 rfl (lv_at hl 0 rfl) ?_
            refine lv_dup hx hb dX6_next_40 rfl ?_
            refine va_get (D := G.1) (ci := 6) (v := .int (nI a0)) (C := RX6) (T := TX6) (N := 42) hx hb hts hiX6 hown hK hP 0 rfl rfl 19 (by decide +kernel) kf111 (fun _ h9 => h9) rfl dX6_next_41 ?_
            refine lv_iconst (v := 1) hx hb dX6_next_44 (by decide +kernel) ?_
            refine lv_iadd hx hb dX6_next_45 ?_
            refine lv_topi (fun v_337 ev_337 => ?_)
            have ev_337 : v_337 = nI (a0 + 1) := ev_337.trans (nI_add a0 1)
            subst ev_337
            refine va_put (D := G.1) (ci := 6) (v := .int (nI (a0 + 1))) (ty := .int) (C := RX6) (T := TX6) (N := 42) hx hb hts hiX6 tyX6 tyX6_ok nmX6 hown hK hP hD hS 0 rfl rfl 19 (by decide +kernel) kf111 (fun _ h9 => h9) rfl (by decide +kernel) rfl rfl (Nat.le_of_ble_eq_true rfl) dX6_next_46 (fun H locs hP hD hS => ?_)
            have hz9 : gPD G A [zo6 h0 (nI pb) kd mo st (nI jg) ro tp (nI td) cd sr (nI tx) (nI ru) him ir ih ss sq ce lw (nI (a0 + 1)) s20 s21 s22 wo he s25 s26 s27 sk na kp s31 s32 s33 s34 gb go fa ga s39 s40 vo, zi G tp 160 ftp, zi G wo 96 fwo] H := ⟨hP, hD⟩
            have hP := hz9.1
            have hD := hz9.2
            refine lv_goto (tgt := 0) hx hb dX6_next_49 (by decide +kernel) ?_
            exact ih9_0 (a0 + 1) (by omega) (Eq.trans (Eq.symm ((congrArg (fun z9 => p_X6_next_0 ftp (z9) a0 ) (show td - a0 = td - (a0 + 1) + 1 by omega)).trans (by show p_X6_next_0 ftp (td - (a0 + 1) + 1) a0  = _; rw [p_X6_next_0, if_neg c_168, if_pos c_171]))) R0) (by omega) _ _ (hP.sub [0, 1, 2] rfl) (hD.sub [0, 1, 2] (by decide +kernel) rfl) hS ls (lv_sub hl [0] rfl)
  exact loop_0 (td - za + 1) za (by omega) (rfl) (by omega) _ _ (hP.sub [0, 1, 2] rfl) (hD.sub [0, 1, 2] (by decide +kernel) rfl) hS ls (lv_sub hl [0] rfl)
abbrev q_X6_signOf_b (G : gG) (h0 kd mo st ro tp cd sr ir ih ss sq ce lw wo he sk na kp gb go fa ga vo : Nat) (pb : Nat) (jg : Nat) (td : Nat) (tx : Nat) (ru : Nat) (him : Int32) (s19 : Int32) (s20 : Int32) (s21 : Int32) (s22 : Int32) (s25 : Int32) (s26 : Int32) (s27 : Int32) (s31 : Int32) (s32 : Int32) (s33 : Int32) (s34 : Int32) (s39 : Int32) (s40 : Int32) (A : Nat → Prop) : Array Value → State → Outcome → State → Prop := va_Qi (fun (r : Int32) (u : Unit) => match u with | _ => r = m_X6_signOf s21) (fun (u : Unit) t => match u with | _ => va_P G.1 vwCl [zo6 h0 (nI pb) kd mo st (nI jg) ro tp (nI td) cd sr (nI tx) (nI ru) him ir ih ss sq ce lw s19 s20 s21 s22 wo he s25 s26 s27 sk na kp s31 s32 s33 s34 gb go fa ga s39 s40 vo] t.heap ∧ gK G t ∧ va_D A [zo6 h0 (nI pb) kd mo st (nI jg) ro tp (nI td) cd sr (nI tx) (nI ru) him ir ih ss sq ce lw s19 s20 s21 s22 wo he s25 s26 s27 sk na kp s31 s32 s33 s34 gb go fa ga s39 s40 vo]) A
set_option maxHeartbeats 4000000 in
set_option maxRecDepth 100000 in
theorem c_X6_signOf_b (l : Launch) (G : gG) (h0 kd mo st ro tp cd sr ir ih ss sq ce lw wo he sk na kp gb go fa ga vo : Nat) (pb : Nat) (jg : Nat) (td : Nat) (tx : Nat) (ru : Nat) (him : Int32) (s19 : Int32) (s20 : Int32) (s21 : Int32) (s22 : Int32) (s25 : Int32) (s26 : Int32) (s27 : Int32) (s31 : Int32) (s32 : Int32) (s33 : Int32) (s34 : Int32) (s39 : Int32) (s40 : Int32) (sz : Nat) : Met l yX6_signOf wsX6_signOf ({ frames := 0, cells := 0, slots := 0, locals := 0 }) (gPre G [.ref h0] [zo6 h0 (nI pb) kd mo st (nI jg) ro tp (nI td) cd sr (nI tx) (nI ru) him ir ih ss sq ce lw s19 s20 s21 s22 wo he s25 s26 s27 sk na kp s31 s32 s33 s34 gb go fa ga s39 s40 vo] sz) (q_X6_signOf_b G h0 kd mo st ro tp cd sr ir ih ss sq ce lw wo he sk na kp gb go fa ga vo pb jg td tx ru him s19 s20 s21 s22 s25 s26 s27 s31 s32 s33 s34 s39 s40 (va_A [zo6 h0 (nI pb) kd mo st (nI jg) ro tp (nI td) cd sr (nI tx) (nI ru) him ir ih ss sq ce lw s19 s20 s21 s22 wo he s25 s26 s27 sk na kp s31 s32 s33 s34 gb go fa ga s39 s40 vo] sz)) 0 0 (va_A [zo6 h0 (nI pb) kd mo st (nI jg) ro tp (nI td) cd sr (nI tx) (nI ru) him ir ih ss sq ce lw s19 s20 s21 s22 wo he s25 s26 s27 sk na kp s31 s32 s33 s34 gb go fa ga s39 s40 vo] sz) := by
  refine Met.ofW (cc := cX6_signOf) (maxL := 1) (ret := (some .int)) (by decide +kernel) rfl ?_
  intro p e s m args below meth c s₁ B hml hv
  obtain ⟨rfl, hsz, hP, hK, hD0⟩ := hv
  have hx := B.exec
  have hb := B.bytes
  have hr := B.returns
  have hts := atoms_spec (ws := wsX6_signOf) B.pre
  have hown : s.vm.findClass RX6 = some m.cls := findClass_of_methodNamed B.named
  have hlocks := B.notSynchronized
  subst hsz
  have hD := hD0.self (sz := s.heap.size)
  generalize hAe : va_A [zo6 h0 (nI pb) kd mo st (nI jg) ro tp (nI td) cd sr (nI tx) (nI ru) him ir ih ss sq ce lw s19 s20 s21 s22 wo he s25 s26 s27 sk na kp s31 s32 s33 s34 gb go fa ga s39 s40 vo] s.heap.size = A at hD ⊢
  have hA : ∀ q : Nat, s.heap.size ≤ q → A q := fun q h => by rw [← hAe]; exact Or.inr h
  have hS : va_S A s.heap s.heap [] := va_S.rf
  have hz9 : gPD G A [zo6 h0 (nI pb) kd mo st (nI jg) ro tp (nI td) cd sr (nI tx) (nI ru) him ir ih ss sq ce lw s19 s20 s21 s22 wo he s25 s26 s27 sk na kp s31 s32 s33 s34 gb go fa ga s39 s40 vo] s.heap := ⟨hP, hD⟩
  have hP := hz9.1
  have hD := hz9.2
  have hl := lv_entry ([.ref h0]) (n := 1) (Nat.le_of_ble_eq_true rfl)
  rw [lg_entry_eq]
  generalize (lg_sl ([.ref h0]) ++ List.replicate (1 - (lg_sl ([.ref h0])).length) Slot.unset).toArray = ls at hl ⊢
  have hl : lv_has ls 1 [zR 0 h0] := hl
  have kf117 := hts (.fieldLink RX6 117 "PebbleInShoeModel" "token" "I") (by decide +kernel)
  have hiX6 := (by decide +kernel : ∀ w ∈ wsX60, w ∈ wsX6_signOf)
  refine lv_aload_n hx hb dX6_signOf_0 rfl (lv_at hl 0 rfl) ?_
  refine va_get (D := G.1) (ci := 6) (v := .int s21) (C := RX6) (T := TX6) (N := 42) hx hb hts hiX6 hown hK hP 0 rfl rfl 21 (by decide +kernel) kf117 (fun _ h9 => h9) rfl dX6_signOf_1 ?_
  refine lv_iconst (v := 4) hx hb dX6_signOf_4 (by decide +kernel) ?_
  refine lv_icmp_ne (tgt := 13) hx hb dX6_signOf_5 (by decide +kernel) (fun c_1 => ?_) (fun c_1 => ?_)
  · skip
    refine lv_aload_n hx hb dX6_signOf_13 rfl (lv_at hl 0 rfl) ?_
    refine va_get (D := G.1) (ci := 6) (v := .int s21) (C := RX6) (T := TX6) (N := 42) hx hb hts hiX6 hown hK hP 0 rfl rfl 21 (by decide +kernel) kf117 (fun _ h9 => h9) rfl dX6_signOf_14 ?_
    refine lv_iconst (v := 5) hx hb dX6_signOf_17 (by decide +kernel) ?_
    refine lv_icmp_ne (tgt := 26) hx hb dX6_signOf_18 (by decide +kernel) (fun c_2 => ?_) (fun c_2 => ?_)
    · skip
      refine lv_aload_n hx hb dX6_signOf_26 rfl (lv_at hl 0 rfl) ?_
      refine va_get (D := G.1) (ci := 6) (v := .int s21) (C := RX6) (T := TX6) (N := 42) hx hb hts hiX6 hown hK hP 0 rfl rfl 21 (by decide +kernel) kf117 (fun _ h9 => h9) rfl dX6_signOf_27 ?_
      refine lv_bipush (v := 60) hx hb dX6_signOf_30 (by decide +kernel) ?_
      refine lv_icmp_ne (tgt := 40) hx hb dX6_signOf_32 (by decide +kernel) (fun c_3 => ?_) (fun c_3 => ?_)
      · skip
        refine lv_aload_n hx hb dX6_signOf_40 rfl (lv_at hl 0 rfl) ?_
        refine va_get (D := G.1) (ci := 6) (v := .int s21) (C := RX6) (T := TX6) (N := 42) hx hb hts hiX6 hown hK hP 0 rfl rfl 21 (by decide +kernel) kf117 (fun _ h9 => h9) rfl dX6_signOf_41 ?_
        refine lv_bipush (v := 61) hx hb dX6_signOf_44 (by decide +kernel) ?_
        refine lv_icmp_ne (tgt := 54) hx hb dX6_signOf_46 (by decide +kernel) (fun c_4 => ?_) (fun c_4 => ?_)
        · skip
          refine lv_aload_n hx hb dX6_signOf_54 rfl (lv_at hl 0 rfl) ?_
          refine va_get (D := G.1) (ci := 6) (v := .int s21) (C := RX6) (T := TX6) (N := 42) hx hb hts hiX6 hown hK hP 0 rfl rfl 21 (by decide +kernel) kf117 (fun _ h9 => h9) rfl dX6_signOf_55 ?_
          refine lv_bipush (v := 43) hx hb dX6_signOf_58 (by decide +kernel) ?_
          refine lv_icmp_ne (tgt := 68) hx hb dX6_signOf_60 (by decide +kernel) (fun c_5 => ?_) (fun c_5 => ?_)
          · skip
            refine lv_aload_n hx hb dX6_signOf_68 rfl (lv_at hl 0 rfl) ?_
            refine va_get (D := G.1) (ci := 6) (v := .int s21) (C := RX6) (T := TX6) (N := 42) hx hb hts hiX6 hown hK hP 0 rfl rfl 21 (by decide +kernel) kf117 (fun _ h9 => h9) rfl dX6_signOf_69 ?_
            refine lv_bipush (v := 45) hx hb dX6_signOf_72 (by decide +kernel) ?_
            refine lv_icmp_ne (tgt := 82) hx hb dX6_signOf_74 (by decide +kernel) (fun c_6 => ?_) (fun c_6 => ?_)
            · skip
              refine lv_aload_n hx hb dX6_signOf_82 rfl (lv_at hl 0 rfl) ?_
              refine va_get (D := G.1) (ci := 6) (v := .int s21) (C := RX6) (T := TX6) (N := 42) hx hb hts hiX6 hown hK hP 0 rfl rfl 21 (by decide +kernel) kf117 (fun _ h9 => h9) rfl dX6_signOf_83 ?_
              refine lv_bipush (v := 42) hx hb dX6_signOf_86 (by decide +kernel) ?_
              refine lv_icmp_ne (tgt := 96) hx hb dX6_signOf_88 (by decide +kernel) (fun c_7 => ?_) (fun c_7 => ?_)
              · skip
                refine lv_iconst (v := -1) hx hb dX6_signOf_96 (by decide +kernel) ?_
                have hpost : (fun (r : Int32) (u : Unit) => match u with | _ => r = m_X6_signOf s21) (-1) () := (show m_X6_signOf s21 = (-1) from by unfold m_X6_signOf; rw [if_neg c_1, if_neg c_2, if_neg c_3, if_neg c_4, if_neg c_5, if_neg c_6, if_neg c_7]).symm
                exact W.iret (v := (-1)) hx hb hr (fun t ht hW => ⟨⟨(-1), (), rfl, hpost, by rw [ht]; exact hP.sub [0] rfl, va_K.moved hW.alike hK, hD.sub [0] (by decide +kernel) rfl⟩, hS.F ht⟩) hS.2.2 dX6_signOf_97
              · skip
                refine lv_bipush (v := 18) hx hb dX6_signOf_91 (by decide +kernel) ?_
                refine lv_goto (tgt := 97) hx hb dX6_signOf_93 (by decide +kernel) ?_
                have hpost : (fun (r : Int32) (u : Unit) => match u with | _ => r = m_X6_signOf s21) 18 () := (show m_X6_signOf s21 = 18 from by unfold m_X6_signOf; rw [if_neg c_1, if_neg c_2, if_neg c_3, if_neg c_4, if_neg c_5, if_neg c_6, if_pos c_7]).symm
                exact W.iret (v := 18) hx hb hr (fun t ht hW => ⟨⟨18, (), rfl, hpost, by rw [ht]; exact hP.sub [0] rfl, va_K.moved hW.alike hK, hD.sub [0] (by decide +kernel) rfl⟩, hS.F ht⟩) hS.2.2 dX6_signOf_97
            · skip
              refine lv_bipush (v := 17) hx hb dX6_signOf_77 (by decide +kernel) ?_
              refine lv_goto (tgt := 97) hx hb dX6_signOf_79 (by decide +kernel) ?_
              have hpost : (fun (r : Int32) (u : Unit) => match u with | _ => r = m_X6_signOf s21) 17 () := (show m_X6_signOf s21 = 17 from by unfold m_X6_signOf; rw [if_neg c_1, if_neg c_2, if_neg c_3, if_neg c_4, if_neg c_5, if_pos c_6]).symm
              exact W.iret (v := 17) hx hb hr (fun t ht hW => ⟨⟨17, (), rfl, hpost, by rw [ht]; exact hP.sub [0] rfl, va_K.moved hW.alike hK, hD.sub [0] (by decide +kernel) rfl⟩, hS.F ht⟩) hS.2.2 dX6_signOf_97
          · skip
            refine lv_bipush (v := 16) hx hb dX6_signOf_63 (by decide +kernel) ?_
            refine lv_goto (tgt := 97) hx hb dX6_signOf_65 (by decide +kernel) ?_
            have hpost : (fun (r : Int32) (u : Unit) => match u with | _ => r = m_X6_signOf s21) 16 () := (show m_X6_signOf s21 = 16 from by unfold m_X6_signOf; rw [if_neg c_1, if_neg c_2, if_neg c_3, if_neg c_4, if_pos c_5]).symm
            exact W.iret (v := 16) hx hb hr (fun t ht hW => ⟨⟨16, (), rfl, hpost, by rw [ht]; exact hP.sub [0] rfl, va_K.moved hW.alike hK, hD.sub [0] (by decide +kernel) rfl⟩, hS.F ht⟩) hS.2.2 dX6_signOf_97
        · skip
          refine lv_bipush (v := 15) hx hb dX6_signOf_49 (by decide +kernel) ?_
          refine lv_goto (tgt := 97) hx hb dX6_signOf_51 (by decide +kernel) ?_
          have hpost : (fun (r : Int32) (u : Unit) => match u with | _ => r = m_X6_signOf s21) 15 () := (show m_X6_signOf s21 = 15 from by unfold m_X6_signOf; rw [if_neg c_1, if_neg c_2, if_neg c_3, if_pos c_4]).symm
          exact W.iret (v := 15) hx hb hr (fun t ht hW => ⟨⟨15, (), rfl, hpost, by rw [ht]; exact hP.sub [0] rfl, va_K.moved hW.alike hK, hD.sub [0] (by decide +kernel) rfl⟩, hS.F ht⟩) hS.2.2 dX6_signOf_97
      · skip
        refine lv_bipush (v := 14) hx hb dX6_signOf_35 (by decide +kernel) ?_
        refine lv_goto (tgt := 97) hx hb dX6_signOf_37 (by decide +kernel) ?_
        have hpost : (fun (r : Int32) (u : Unit) => match u with | _ => r = m_X6_signOf s21) 14 () := (show m_X6_signOf s21 = 14 from by unfold m_X6_signOf; rw [if_neg c_1, if_neg c_2, if_pos c_3]).symm
        exact W.iret (v := 14) hx hb hr (fun t ht hW => ⟨⟨14, (), rfl, hpost, by rw [ht]; exact hP.sub [0] rfl, va_K.moved hW.alike hK, hD.sub [0] (by decide +kernel) rfl⟩, hS.F ht⟩) hS.2.2 dX6_signOf_97
    · skip
      refine lv_bipush (v := 12) hx hb dX6_signOf_21 (by decide +kernel) ?_
      refine lv_goto (tgt := 97) hx hb dX6_signOf_23 (by decide +kernel) ?_
      have hpost : (fun (r : Int32) (u : Unit) => match u with | _ => r = m_X6_signOf s21) 12 () := (show m_X6_signOf s21 = 12 from by unfold m_X6_signOf; rw [if_neg c_1, if_pos c_2]).symm
      exact W.iret (v := 12) hx hb hr (fun t ht hW => ⟨⟨12, (), rfl, hpost, by rw [ht]; exact hP.sub [0] rfl, va_K.moved hW.alike hK, hD.sub [0] (by decide +kernel) rfl⟩, hS.F ht⟩) hS.2.2 dX6_signOf_97
  · skip
    refine lv_bipush (v := 11) hx hb dX6_signOf_8 (by decide +kernel) ?_
    refine lv_goto (tgt := 97) hx hb dX6_signOf_10 (by decide +kernel) ?_
    have hpost : (fun (r : Int32) (u : Unit) => match u with | _ => r = m_X6_signOf s21) 11 () := (show m_X6_signOf s21 = 11 from by unfold m_X6_signOf; rw [if_pos c_1]).symm
    exact W.iret (v := 11) hx hb hr (fun t ht hW => ⟨⟨11, (), rfl, hpost, by rw [ht]; exact hP.sub [0] rfl, va_K.moved hW.alike hK, hD.sub [0] (by decide +kernel) rfl⟩, hS.F ht⟩) hS.2.2 dX6_signOf_97
/-! what the reference holds while it reads: the depth of the stack by the signs that are held -/
def isB (c : Int32) : Prop := c = 11 ∨ c = 12 ∨ c = 14 ∨ c = 15 ∨ c = 16 ∨ c = 17 ∨ c = 18
noncomputable def isBb (c : Int32) : Bool := c == 11 || c == 12 || c == 14 || c == 15 || c == 16 || c == 17 || c == 18
theorem isBb_t {c : Int32} (h : isB c) : isBb c = true := by rcases h with e | e | e | e | e | e | e <;> rw [e] <;> decide
def okH (c : Int32) : Prop := c = 0 ∨ c = 13 ∨ c = 19 ∨ isB c
noncomputable def bins (fhe : Nat → Int32) : Nat → Nat
  | 0 => 0
  | h + 1 => bins fhe h + (if isBb (fhe h) = true then 1 else 0)
theorem bins_eq {f g : Nat → Int32} : ∀ {h : Nat}, (∀ i, i < h → f i = g i) → bins f h = bins g h
  | 0, _ => rfl
  | h + 1, e => by rw [bins, bins, bins_eq (fun i hi => e i (by omega)), e h (by omega)]
theorem bins_le {f : Nat → Int32} : ∀ (h : Nat), bins f h ≤ h
  | 0 => Nat.le_refl _
  | h + 1 => by
    have a := bins_le (f := f) h
    rw [bins]
    by_cases c : isBb (f h) = true
    · rw [if_pos c]; omega
    · rw [if_neg c]; omega
noncomputable def dpS (c : Int32) (n : Nat) : Option Nat :=
  if 100000 ≤ c ∨ c < 11 then (if (c < 11 → 0 ≤ c ∧ c < 6) ∧ n < 200 then some (n + 1) else none)
  else if c = 13 ∨ c = 19 then (if 1 ≤ n then some n else none) else (if 2 ≤ n then some (n - 1) else none)
noncomputable def dp (f : Nat → Int32) (sp : Nat) : Nat → Option Nat
  | 0 => some 0
  | q + 1 => match dp f sp q with
    | none => none
    | some n => dpS (f (sp + q)) n
theorem dp_eq {f g : Nat → Int32} {sp : Nat} : ∀ {q : Nat}, (∀ i, i < q → f (sp + i) = g (sp + i)) → dp f sp q = dp g sp q
  | 0, _ => rfl
  | q + 1, e => by rw [dp, dp, dp_eq (fun i hi => e i (by omega)), e q (by omega)]
theorem dp_s {f : Nat → Int32} {sp q n : Nat} (h : dp f sp q = some n) : dp f sp (q + 1) = dpS (f (sp + q)) n := by rw [dp, h]
theorem dpS_ok {f : Nat → Int32} {k n n' rest : Nat} (h : dpS (f k) n = some n') (hr : vOK 200 f rest (k + 1) n') : vOK 200 f (rest + 1) k n := by
  rw [vOK]
  unfold dpS at h
  by_cases c1 : 100000 ≤ f k ∨ f k < 11
  · rw [if_pos c1] at h ⊢
    by_cases c2 : (f k < 11 → 0 ≤ f k ∧ f k < 6) ∧ n < 200
    · rw [if_pos c2] at h
      cases h
      exact ⟨c2, hr⟩
    · rw [if_neg c2] at h; cases h
  · rw [if_neg c1] at h ⊢
    by_cases c2 : f k = 13 ∨ f k = 19
    · rw [if_pos c2] at h ⊢
      by_cases c3 : 1 ≤ n
      · rw [if_pos c3] at h; cases h; exact ⟨c3, hr⟩
      · rw [if_neg c3] at h; cases h
    · rw [if_neg c2] at h ⊢
      by_cases c3 : 2 ≤ n
      · rw [if_pos c3] at h; cases h; exact ⟨c3, hr⟩
      · rw [if_neg c3] at h; cases h
theorem dp_ok {f : Nat → Int32} {sp : Nat} : ∀ {q n rest : Nat}, dp f sp q = some n → vOK 200 f rest (sp + q) n → vOK 200 f (q + rest) sp 0
  | 0, n, rest, h, hr => by
    cases h
    rw [Nat.zero_add]
    exact hr
  | q + 1, n, rest, h, hr => by
    cases e : dp f sp q with
    | none => rw [dp, e] at h; cases h
    | some m =>
      rw [dp_s e] at h
      have h2 := dp_ok (rest := rest + 1) e (dpS_ok h hr)
      rw [show q + 1 + rest = q + (rest + 1) by omega]
      exact h2
noncomputable def eF (fcd : Nat → Int32) (tx : Nat) : Nat → Int32 := fun i => fcd (200 * tx + i)
/-- codes from sp to ou, signs held: w more is wanted -/
def eI (fcd fhe : Nat → Int32) (tx sp ou hm w : Nat) : Prop := sp ≤ ou ∧ dp (eF fcd tx) sp (ou - sp) = some (bins fhe hm + 1 - w) ∧ ∀ i, i < hm → okH (fhe i)
theorem eI_code {fcd : Nat → Int32} {tx sp ou n n' : Nat} {c : Int32} (hs : sp ≤ ou) (h : dp (eF fcd tx) sp (ou - sp) = some n) (hc : dpS c n = some n') : dp (eF (upd fcd (200 * tx + ou) c) tx) sp (ou + 1 - sp) = some n' := by
  have e : ou + 1 - sp = (ou - sp) + 1 := by omega
  have h2 : dp (eF (upd fcd (200 * tx + ou) c) tx) sp (ou - sp) = some n := by
    rw [← h]
    refine dp_eq (fun i hi => ?_)
    show upd fcd (200 * tx + ou) c (200 * tx + (sp + i)) = fcd (200 * tx + (sp + i))
    exact upd_n9 (by omega)
  rw [e, dp_s h2]
  have h3 : eF (upd fcd (200 * tx + ou) c) tx (sp + (ou - sp)) = c := by
    show upd fcd (200 * tx + ou) c (200 * tx + (sp + (ou - sp))) = c
    exact upd_a9 (by omega)
  rw [h3]
  exact hc
theorem dpS_push {c : Int32} {n : Nat} (h : 100000 ≤ c ∨ (0 ≤ c ∧ c < 6)) (hn : n < 200) : dpS c n = some (n + 1) := by
  have c1 : 100000 ≤ c ∨ c < 11 := h.imp id (fun z => by
    have a : c.toInt < (6 : Int) := Int32.lt_iff_toInt_lt.mp z.2
    exact Int32.lt_iff_toInt_lt.mpr (by show c.toInt < (11 : Int); omega))
  unfold dpS
  rw [if_pos c1, if_pos]
  refine ⟨fun z => ?_, hn⟩
  rcases h with h | h
  · exact absurd z (Int32.not_lt.mpr (s11 h))
  · exact h
/-- a number or a name is put: nothing is wanted -/
theorem eI_put {fcd fhe : Nat → Int32} {tx sp ou hm : Nat} {c : Int32} (h : eI fcd fhe tx sp ou hm 1) (hc : 100000 ≤ c ∨ (0 ≤ c ∧ c < 6)) (hm2 : hm < 199) : eI (upd fcd (200 * tx + ou) c) fhe tx sp (ou + 1) hm 0 := by
  obtain ⟨h1, h2, h3⟩ := h
  have hb := bins_le (f := fhe) hm
  refine ⟨by omega, ?_, h3⟩
  rw [eI_code h1 h2 (dpS_push hc (by omega))]
  congr 1
/-- a sign is held -/
theorem eI_hold {fcd fhe : Nat → Int32} {tx sp ou hm w w' : Nat} {c : Int32} (h : eI fcd fhe tx sp ou hm w) (hc : okH c) (hw : bins fhe hm + 1 - w = bins fhe hm + (if isBb c = true then 1 else 0) + 1 - w') : eI fcd (upd fhe hm c) tx sp ou (hm + 1) w' := by
  obtain ⟨h1, h2, h3⟩ := h
  refine ⟨h1, ?_, fun i hi => ?_⟩
  · rw [h2, hw]
    congr 2
    rw [bins, bins_eq (f := upd fhe hm c) (g := fhe) (fun i hi => upd_n9 (by omega)), upd_a9 rfl]
  · by_cases e : i = hm
    · subst e; rw [upd_a9 rfl]; exact hc
    · rw [upd_n9 e]; exact h3 i (by omega)
theorem dpS_pop {c : Int32} {b : Nat} (h : okH c) (h0 : ¬ c = 0) : dpS c (b + (if isBb c = true then 1 else 0) + 1) = some (b + 1) := by
  have key : ∀ c : Int32, (c = 13 ∨ c = 19) → dpS c (b + 0 + 1) = some (b + 1) := by
    intro c hc
    unfold dpS
    rw [if_neg (by rcases hc with e | e <;> rw [e] <;> decide), if_pos hc, if_pos (by omega)]
  have key2 : ∀ c : Int32, isB c → dpS c (b + 1 + 1) = some (b + 1) := by
    intro c hc
    unfold dpS
    rw [if_neg (by rcases hc with e | e | e | e | e | e | e <;> rw [e] <;> decide), if_neg (by rcases hc with e | e | e | e | e | e | e <;> rw [e] <;> decide), if_pos (by omega)]
    rfl
  rcases h with e | e | e | hB
  · exact absurd e h0
  · have z : (if isBb c = true then 1 else 0) = 0 := by rw [e]; decide
    rw [z]
    exact key c (Or.inl e)
  · have z : (if isBb c = true then 1 else 0) = 0 := by rw [e]; decide
    rw [z]
    exact key c (Or.inr e)
  · have z : (if isBb c = true then 1 else 0) = 1 := if_pos (isBb_t hB)
    rw [z]
    exact key2 c hB
theorem rank_0 {c least : Int32} (hl : 1 ≤ least) (h : ¬ m_X6_rank c < least) : ¬ c = 0 := by
  intro e
  subst e
  refine h ?_
  have a : (1 : Int) ≤ least.toInt := Int32.le_iff_toInt_le.mp hl
  exact Int32.lt_iff_toInt_lt.mpr (by show (0 : Int) < least.toInt; omega)
theorem eI_pop {fcd fhe : Nat → Int32} {tx sp ou hm : Nat} (h : eI fcd fhe tx sp ou (hm + 1) 0) (h0 : ¬ fhe hm = 0) : eI (upd fcd (200 * tx + ou) (fhe hm)) fhe tx sp (ou + 1) hm 0 := by
  obtain ⟨h1, h2, h3⟩ := h
  refine ⟨by omega, ?_, fun i hi => h3 i (by omega)⟩
  have e : bins fhe (hm + 1) + 1 - 0 = bins fhe hm + (if isBb (fhe hm) = true then 1 else 0) + 1 := rfl
  rw [e] at h2
  exact eI_code h1 h2 (dpS_pop (h3 hm (by omega)) h0)
theorem uw_eI {tx sp hm : Nat} {fhe : Nat → Int32} {least : Int32} (hl : 1 ≤ least) : ∀ (q u : Nat) (cd : Nat → Int32) (z : Int32) (o : Nat), u + q = hm → eI cd fhe tx sp o (hm - u) 0 → eI (p_X6_unwinds_0 tx fhe least hm q u cd z o).2.1 fhe tx sp (p_X6_unwinds_0 tx fhe least hm q u cd z o).2.2.2 (hm - (p_X6_unwinds_0 tx fhe least hm q u cd z o).1) 0 ∧ ∀ i, (i < 200 * tx + o ∨ 200 * tx + 200 ≤ i) → o + q ≤ 200 → (p_X6_unwinds_0 tx fhe least hm q u cd z o).2.1 i = cd i
  | 0, u, cd, z, o, h, hI => ⟨hI, fun i _ _ => rfl⟩
  | q + 1, u, cd, z, o, h, hI => by
    rw [p_X6_unwinds_0]
    by_cases c1 : (m_X6_rank (fhe ((hm - u) - 1))) < least
    · rw [if_pos c1]; exact ⟨hI, fun i _ _ => rfl⟩
    · rw [if_neg c1]
      have h0 := rank_0 hl c1
      have hI2 : eI (upd cd (200 * tx + o) (fhe ((hm - u) - 1))) fhe tx sp (o + 1) (hm - (u + 1)) 0 := by
        rw [show hm - u = (hm - (u + 1)) + 1 by omega] at hI
        rw [show (hm - u) - 1 = hm - (u + 1) by omega] at h0 ⊢
        exact eI_pop hI h0
      have step : ∀ z', (eI (p_X6_unwinds_0 tx fhe least hm q (u + 1) (upd cd (200 * tx + o) (fhe ((hm - u) - 1))) z' (o + 1)).2.1 fhe tx sp (p_X6_unwinds_0 tx fhe least hm q (u + 1) (upd cd (200 * tx + o) (fhe ((hm - u) - 1))) z' (o + 1)).2.2.2 (hm - (p_X6_unwinds_0 tx fhe least hm q (u + 1) (upd cd (200 * tx + o) (fhe ((hm - u) - 1))) z' (o + 1)).1) 0 ∧ ∀ i, (i < 200 * tx + o ∨ 200 * tx + 200 ≤ i) → o + (q + 1) ≤ 200 → (p_X6_unwinds_0 tx fhe least hm q (u + 1) (upd cd (200 * tx + o) (fhe ((hm - u) - 1))) z' (o + 1)).2.1 i = cd i) := fun z' => by
        obtain ⟨a1, a2⟩ := uw_eI hl q (u + 1) (upd cd (200 * tx + o) (fhe ((hm - u) - 1))) z' (o + 1) (by omega) hI2
        refine ⟨a1, fun i hi ho => ?_⟩
        rw [a2 i (by omega) (by omega)]
        exact upd_n9 (by omega)
      by_cases c2 : (fhe ((hm - u) - 1)) = 13
      · rw [if_pos c2]; exact step _
      · rw [if_neg c2]
        by_cases c3 : (fhe ((hm - u) - 1)) = 19
        · rw [if_pos c3]; exact step _
        · rw [if_neg c3]; exact step _
theorem uw_use {tx sp hm ou : Nat} {s26 : Int32} {fcd fhe : Nat → Int32} {v0 : Int32} (hl : 1 ≤ v0) (h : eI fcd fhe tx sp ou hm 0) : eI (m_X6_unwinds_cd tx s26 fcd fhe v0 hm ou) fhe tx sp (m_X6_unwinds_h027 tx s26 fcd fhe v0 hm ou) (m_X6_unwinds_h025 tx s26 fcd fhe v0 hm ou) 0 ∧ ∀ i, (i < 200 * tx + ou ∨ 200 * tx + 200 ≤ i) → ou + hm ≤ 200 → m_X6_unwinds_cd tx s26 fcd fhe v0 hm ou i = fcd i :=
  uw_eI hl (hm - 0) 0 fcd s26 ou (by omega) h
theorem uw_topu {tx hm ou : Nat} {s26 : Int32} {fcd fhe : Nat → Int32} {v0 : Int32} (h : ¬ m_X6_unwinds_h025 tx s26 fcd fhe v0 hm ou = 0) : m_X6_rank (fhe (m_X6_unwinds_h025 tx s26 fcd fhe v0 hm ou - 1)) < v0 := by
  have h2 : ¬ hm - (g_X6_unwinds_0 tx s26 fcd fhe v0 hm ou).1 = 0 := h
  exact uw_top (tx := tx) (fhe := fhe) (v0 := v0) (hm := hm) (hm - 0) 0 fcd s26 ou (by omega) (show (g_X6_unwinds_0 tx s26 fcd fhe v0 hm ou).1 < hm by omega)
theorem okH_r1 {c : Int32} (h : okH c) (hr : m_X6_rank c < 1) : isBb c = false := by
  rcases h with e | e | e | e | e | e | e | e | e | e
  · subst e; decide
  all_goals
    subst e
    exact absurd hr (by decide +kernel)
theorem eI_drop {fcd fhe : Nat → Int32} {tx sp ou hm w : Nat} (h : eI fcd fhe tx sp ou (hm + 1) w) (h0 : isBb (fhe hm) = false) : eI fcd fhe tx sp ou hm w := by
  obtain ⟨h1, h2, h3⟩ := h
  refine ⟨h1, ?_, fun i hi => h3 i (by omega)⟩
  rw [h2, bins, if_neg (by rw [h0]; decide)]
  first | done | rfl
theorem eI_start {fcd fhe : Nat → Int32} {tx ou : Nat} : eI fcd fhe tx ou ou 0 1 := by
  refine ⟨Nat.le_refl _, ?_, fun i hi => absurd hi (Nat.not_lt_zero i)⟩
  rw [Nat.sub_self]
  rfl
theorem eI_w0 {fcd fhe : Nat → Int32} {tx sp ou hm : Nat} {wv : Int32} (hI : (wv = 1 ∧ eI fcd fhe tx sp ou hm 1) ∨ (wv = 0 ∧ eI fcd fhe tx sp ou hm 0)) (c : wv = 0) : eI fcd fhe tx sp ou hm 0 := hI.elim (fun z => absurd (z.1.symm.trans c) (by decide +kernel)) (fun z => z.2)
theorem eI_w1 {fcd fhe : Nat → Int32} {tx sp ou hm : Nat} {wv : Int32} (hI : (wv = 1 ∧ eI fcd fhe tx sp ou hm 1) ∨ (wv = 0 ∧ eI fcd fhe tx sp ou hm 0)) (c : ¬ wv = 0) : eI fcd fhe tx sp ou hm 1 ∧ wv = 1 := hI.elim (fun z => ⟨z.2, z.1⟩) (fun z => absurd z.1 c)
theorem eI_end {fcd fhe : Nat → Int32} {tx sp ou : Nat} (h : eI fcd fhe tx sp ou 0 0) : dp (eF fcd tx) sp (ou - sp) = some 1 := h.2.1
theorem oo_use {op : Int32} {yh : Nat → Int32} {v : Int32} {hm : Nat} (h : ¬ m_X6_opensOne op = 0) : m_X6_opensOne_h025 op hm = hm + 1 ∧ m_X6_opensOne_he op yh v hm = upd yh hm v := by
  have h5 : ¬ op = 5 := fun z => h (by unfold m_X6_opensOne; rw [if_pos z])
  unfold m_X6_opensOne_h025 m_X6_opensOne_he
  exact ⟨if_neg h5, if_neg h5⟩
theorem sg_ok {t : Int32} (h : ¬ m_X6_signOf t = -1) : isB (m_X6_signOf t) ∧ ¬ t = 0 := by
  refine ⟨?_, fun z => h (by rw [z]; decide)⟩
  revert h
  unfold m_X6_signOf isB
  repeat' split
  all_goals
    intro h
    first
      | exact absurd rfl h
      | decide
noncomputable def m_X6_between (tx : Nat) (s26 : Int32) (fcd : Nat → Int32) (fhe : Nat → Int32) (v0 : Int32) (hm : Nat) (ou : Nat) : Int32 := if (m_X6_rank v0) = 4 then (if (nI (m_X6_unwinds_h025 tx s26 fcd fhe 5 hm ou)) ≤ 0 then 1 else (if (m_X6_rank (fhe ((m_X6_unwinds_h025 tx s26 fcd fhe 5 hm ou) - 1))) = 4 then 0 else 1)) else 1
noncomputable def m_X6_between_h025 (tx : Nat) (s26 : Int32) (fcd : Nat → Int32) (fhe : Nat → Int32) (v0 : Int32) (hm : Nat) (ou : Nat) : Nat := if (m_X6_rank v0) = 4 then (if (nI (m_X6_unwinds_h025 tx s26 fcd fhe 5 hm ou)) ≤ 0 then ((m_X6_unwinds_h025 tx s26 fcd fhe 5 hm ou) + 1) else (if (m_X6_rank (fhe ((m_X6_unwinds_h025 tx s26 fcd fhe 5 hm ou) - 1))) = 4 then (m_X6_unwinds_h025 tx s26 fcd fhe 5 hm ou) else ((m_X6_unwinds_h025 tx s26 fcd fhe 5 hm ou) + 1))) else ((m_X6_unwinds_h025 tx s26 fcd fhe (m_X6_rank v0) hm ou) + 1)
noncomputable def m_X6_between_h026 (tx : Nat) (s26 : Int32) (fcd : Nat → Int32) (fhe : Nat → Int32) (v0 : Int32) (hm : Nat) (ou : Nat) : Int32 := if (m_X6_rank v0) = 4 then (m_X6_unwinds_h026 tx s26 fcd fhe 5 hm ou) else (m_X6_unwinds_h026 tx s26 fcd fhe (m_X6_rank v0) hm ou)
noncomputable def m_X6_between_h027 (tx : Nat) (s26 : Int32) (fcd : Nat → Int32) (fhe : Nat → Int32) (v0 : Int32) (hm : Nat) (ou : Nat) : Nat := if (m_X6_rank v0) = 4 then (m_X6_unwinds_h027 tx s26 fcd fhe 5 hm ou) else (m_X6_unwinds_h027 tx s26 fcd fhe (m_X6_rank v0) hm ou)
noncomputable def m_X6_between_cd (tx : Nat) (s26 : Int32) (fcd : Nat → Int32) (fhe : Nat → Int32) (v0 : Int32) (hm : Nat) (ou : Nat) : Nat → Int32 := if (m_X6_rank v0) = 4 then (m_X6_unwinds_cd tx s26 fcd fhe 5 hm ou) else (m_X6_unwinds_cd tx s26 fcd fhe (m_X6_rank v0) hm ou)
noncomputable def m_X6_between_he (tx : Nat) (s26 : Int32) (fcd : Nat → Int32) (fhe : Nat → Int32) (v0 : Int32) (hm : Nat) (ou : Nat) : Nat → Int32 := if (m_X6_rank v0) = 4 then (if (nI (m_X6_unwinds_h025 tx s26 fcd fhe 5 hm ou)) ≤ 0 then (upd fhe (m_X6_unwinds_h025 tx s26 fcd fhe 5 hm ou) v0) else (if (m_X6_rank (fhe ((m_X6_unwinds_h025 tx s26 fcd fhe 5 hm ou) - 1))) = 4 then fhe else (upd fhe (m_X6_unwinds_h025 tx s26 fcd fhe 5 hm ou) v0))) else (upd fhe (m_X6_unwinds_h025 tx s26 fcd fhe (m_X6_rank v0) hm ou) v0)
abbrev q_X6_between (G : gG) (h0 kd mo st ro tp cd sr ir ih ss sq ce lw wo he sk na kp gb go fa ga vo : Nat) (pb : Nat) (jg : Nat) (td : Nat) (tx : Nat) (ru : Nat) (him : Int32) (s19 : Int32) (s20 : Int32) (s21 : Int32) (s22 : Int32) (s26 : Int32) (s31 : Int32) (s32 : Int32) (s33 : Int32) (s34 : Int32) (s39 : Int32) (s40 : Int32) (fcd : Nat → Int32) (fhe : Nat → Int32) (v0 : Int32) (hm : Nat) (ou : Nat) (A : Nat → Prop) : Array Value → State → Outcome → State → Prop := va_Qi (fun (r : Int32) (u : Unit) => match u with | _ => r = m_X6_between tx s26 fcd fhe v0 hm ou) (fun (u : Unit) t => match u with | _ => va_P G.1 vwCl [zo6 h0 (nI pb) kd mo st (nI jg) ro tp (nI td) cd sr (nI tx) (nI ru) him ir ih ss sq ce lw s19 s20 s21 s22 wo he (nI (m_X6_between_h025 tx s26 fcd fhe v0 hm ou)) (m_X6_between_h026 tx s26 fcd fhe v0 hm ou) (nI (m_X6_between_h027 tx s26 fcd fhe v0 hm ou)) sk na kp s31 s32 s33 s34 gb go fa ga s39 s40 vo, zi G cd 1200 (m_X6_between_cd tx s26 fcd fhe v0 hm ou), zi G he 200 (m_X6_between_he tx s26 fcd fhe v0 hm ou)] t.heap ∧ gK G t ∧ va_D A [zo6 h0 (nI pb) kd mo st (nI jg) ro tp (nI td) cd sr (nI tx) (nI ru) him ir ih ss sq ce lw s19 s20 s21 s22 wo he (nI (m_X6_between_h025 tx s26 fcd fhe v0 hm ou)) (m_X6_between_h026 tx s26 fcd fhe v0 hm ou) (nI (m_X6_between_h027 tx s26 fcd fhe v0 hm ou)) sk na kp s31 s32 s33 s34 gb go fa ga s39 s40 vo, zi G cd 1200 (m_X6_between_cd tx s26 fcd fhe v0 hm ou), zi G he 200 (m_X6_between_he tx s26 fcd fhe v0 hm ou)]) A
set_option maxHeartbeats 4000000 in
set_option maxRecDepth 100000 in
theorem c_X6_between (l : Launch) (G : gG) (h0 kd mo st ro tp cd sr ir ih ss sq ce lw wo he sk na kp gb go fa ga vo : Nat) (pb : Nat) (jg : Nat) (td : Nat) (tx : Nat) (ru : Nat) (him : Int32) (s19 : Int32) (s20 : Int32) (s21 : Int32) (s22 : Int32) (s26 : Int32) (s31 : Int32) (s32 : Int32) (s33 : Int32) (s34 : Int32) (s39 : Int32) (s40 : Int32) (fcd : Nat → Int32) (fhe : Nat → Int32) (v0 : Int32) (hm : Nat) (ou : Nat) (sz : Nat) (hom : ou + hm < 199) (htx : tx < 6) : Met l yX6_between wsX6_between ({ frames := 2, cells := 0, slots := 0, locals := 43 }) (gPre G [.ref h0, .int v0] [zo6 h0 (nI pb) kd mo st (nI jg) ro tp (nI td) cd sr (nI tx) (nI ru) him ir ih ss sq ce lw s19 s20 s21 s22 wo he (nI hm) s26 (nI ou) sk na kp s31 s32 s33 s34 gb go fa ga s39 s40 vo, zi G cd 1200 fcd, zi G he 200 fhe] sz) (q_X6_between G h0 kd mo st ro tp cd sr ir ih ss sq ce lw wo he sk na kp gb go fa ga vo pb jg td tx ru him s19 s20 s21 s22 s26 s31 s32 s33 s34 s39 s40 fcd fhe v0 hm ou (va_A [zo6 h0 (nI pb) kd mo st (nI jg) ro tp (nI td) cd sr (nI tx) (nI ru) him ir ih ss sq ce lw s19 s20 s21 s22 wo he (nI hm) s26 (nI ou) sk na kp s31 s32 s33 s34 gb go fa ga s39 s40 vo, zi G cd 1200 fcd, zi G he 200 fhe] sz)) 0 0 (va_A [zo6 h0 (nI pb) kd mo st (nI jg) ro tp (nI td) cd sr (nI tx) (nI ru) him ir ih ss sq ce lw s19 s20 s21 s22 wo he (nI hm) s26 (nI ou) sk na kp s31 s32 s33 s34 gb go fa ga s39 s40 vo, zi G cd 1200 fcd, zi G he 200 fhe] sz) := by
  refine Met.ofW (cc := cX6_between) (maxL := 2) (ret := (some .boolean)) (by decide +kernel) rfl ?_
  intro p e s m args below meth c s₁ B hml hv
  obtain ⟨rfl, hsz, hP, hK, hD0⟩ := hv
  have hx := B.exec
  have hb := B.bytes
  have hr := B.returns
  have hts := atoms_spec (ws := wsX6_between) B.pre
  have hown : s.vm.findClass RX6 = some m.cls := findClass_of_methodNamed B.named
  have hlocks := B.notSynchronized
  subst hsz
  have hD := hD0.self (sz := s.heap.size)
  generalize hAe : va_A [zo6 h0 (nI pb) kd mo st (nI jg) ro tp (nI td) cd sr (nI tx) (nI ru) him ir ih ss sq ce lw s19 s20 s21 s22 wo he (nI hm) s26 (nI ou) sk na kp s31 s32 s33 s34 gb go fa ga s39 s40 vo, zi G cd 1200 fcd, zi G he 200 fhe] s.heap.size = A at hD ⊢
  have hA : ∀ q : Nat, s.heap.size ≤ q → A q := fun q h => by rw [← hAe]; exact Or.inr h
  have hS : va_S A s.heap s.heap [] := va_S.rf
  have hz9 : gPD G A [zo6 h0 (nI pb) kd mo st (nI jg) ro tp (nI td) cd sr (nI tx) (nI ru) him ir ih ss sq ce lw s19 s20 s21 s22 wo he (nI hm) s26 (nI ou) sk na kp s31 s32 s33 s34 gb go fa ga s39 s40 vo, zi G cd 1200 fcd, zi G he 200 fhe] s.heap := ⟨hP, hD⟩
  have hP := hz9.1
  have hD := hz9.2
  have hl := lv_entry ([.ref h0, .int v0]) (n := 2) (Nat.le_of_ble_eq_true rfl)
  rw [lg_entry_eq]
  generalize (lg_sl ([.ref h0, .int v0]) ++ List.replicate (2 - (lg_sl ([.ref h0, .int v0])).length) Slot.unset).toArray = ls at hl ⊢
  have hl : lv_has ls 2 [zR 0 h0, zI 1 v0] := hl
  have kf130 := hts (.fieldLink RX6 130 "PebbleInShoeModel" "heldMany" "I") (by decide +kernel)
  have hiX6 := (by decide +kernel : ∀ w ∈ wsX60, w ∈ wsX6_between)
  have kf52 := hts (.fieldLink RX6 52 "PebbleInShoeModel" "held" "[I") (by decide +kernel)
  refine lv_aload_n hx hb dX6_between_0 rfl (lv_at hl 0 rfl) ?_
  refine lv_iload_n hx hb dX6_between_1 rfl (lv_at hl 1 rfl) ?_
  have hz9 : gPD G A [] s.heap := ⟨hP.sub [] rfl, hD.sub [] (by decide +kernel) rfl⟩
  have hPc := hz9.1
  have hDc := hz9.2
  have hFc := gFree hPc hD hS hA [] rfl
  refine va_calli (va_runS (As := [.int v0]) (rest := [.ref h0]) ⟨hx, hb, hml, hown, hts⟩ (c_X6_rank l G v0 s.heap.size) (va_cwS 1 hts gX6_between_X6_rank rfl rfl rfl (by decide +kernel) ⟨Nat.le_of_ble_eq_true rfl, Nat.le_of_ble_eq_true rfl⟩) ⟨gPre_blind, fun U hU hW => gPre_of hU hW hK hPc hDc⟩ rfl rfl hl.1 rfl (lv_room (Nat.le_of_ble_eq_true rfl)) dX6_between_2 ⟨Nat.le_of_ble_eq_true rfl, Nat.le_of_ble_eq_true rfl⟩) hS (fun q _ h => hFc q h) hFc (fun r_1 u t H locs ht hvm w_2 hB hz1 hk1 hS => ?_)
  obtain ⟨hP1, hK1, hD1⟩ := hB
  rw [ht] at hP1
  have hz9 : gPD G (va_A _ s.heap.size) [] H := ⟨hP1, hD1⟩
  have hP1 := hz9.1
  have hD1 := hz9.2
  have w_2 : r_1 = m_X6_rank v0 := w_2
  have hz9 : gPD G A [zo6 h0 (nI pb) kd mo st (nI jg) ro tp (nI td) cd sr (nI tx) (nI ru) him ir ih ss sq ce lw s19 s20 s21 s22 wo he (nI hm) s26 (nI ou) sk na kp s31 s32 s33 s34 gb go fa ga s39 s40 vo, zi G cd 1200 fcd, zi G he 200 fhe] H := gJoin hP hD hk1 hFc hP1 hD1 [] [0, 1, 2] rfl rfl rfl (by decide +kernel) (by decide +kernel)
  have hP := hz9.1
  have hD := hz9.2
  subst w_2
  refine lv_iconst (v := 4) hx hb dX6_between_5 (by decide +kernel) ?_
  refine lv_icmp_ne (tgt := 13) hx hb dX6_between_6 (by decide +kernel) (fun c_3 => ?_) (fun c_3 => ?_)
  · skip
    refine lv_iload_n hx hb dX6_between_13 rfl (lv_at hl 1 rfl) ?_
    have hz9 : gPD G A [] H := ⟨hP.sub [] rfl, hD.sub [] (by decide +kernel) rfl⟩
    have hPc := hz9.1
    have hDc := hz9.2
    have hFc := gFree hPc hD hS hA [] rfl
    refine va_calli (va_runS (As := [.int v0]) (rest := [.ref h0]) ⟨hx, hb, hml, hown, hts⟩ (c_X6_rank l G v0 H.size) (va_cwS 1 hts gX6_between_X6_rank rfl rfl rfl (by decide +kernel) ⟨Nat.le_of_ble_eq_true rfl, Nat.le_of_ble_eq_true rfl⟩) ⟨gPre_blind, fun U hU hW => gPre_of hU hW hK hPc hDc⟩ rfl rfl hl.1 rfl (lv_room (Nat.le_of_ble_eq_true rfl)) dX6_between_14 ⟨Nat.le_of_ble_eq_true rfl, Nat.le_of_ble_eq_true rfl⟩) hS (fun q _ h => hFc q h) hFc (fun r_4 u t H locs ht hvm w_5 hB hz1 hk1 hS => ?_)
    obtain ⟨hP1, hK1, hD1⟩ := hB
    rw [ht] at hP1
    have hz9 : gPD G (va_A _ _) [] H := ⟨hP1, hD1⟩
    have hP1 := hz9.1
    have hD1 := hz9.2
    have w_5 : r_4 = m_X6_rank v0 := w_5
    have hz9 : gPD G A [zo6 h0 (nI pb) kd mo st (nI jg) ro tp (nI td) cd sr (nI tx) (nI ru) him ir ih ss sq ce lw s19 s20 s21 s22 wo he (nI hm) s26 (nI ou) sk na kp s31 s32 s33 s34 gb go fa ga s39 s40 vo, zi G cd 1200 fcd, zi G he 200 fhe] H := gJoin hP hD hk1 hFc hP1 hD1 [] [0, 1, 2] rfl rfl rfl (by decide +kernel) (by decide +kernel)
    have hP := hz9.1
    have hD := hz9.2
    subst w_5
    have hz9 : gPD G A [zo6 h0 (nI pb) kd mo st (nI jg) ro tp (nI td) cd sr (nI tx) (nI ru) him ir ih ss sq ce lw s19 s20 s21 s22 wo he (nI hm) s26 (nI ou) sk na kp s31 s32 s33 s34 gb go fa ga s39 s40 vo, zi G cd 1200 fcd, zi G he 200 fhe] H := ⟨hP.sub [0, 1, 2] rfl, hD.sub [0, 1, 2] (by decide +kernel) rfl⟩
    have hPc := hz9.1
    have hDc := hz9.2
    have hFc := gFree hPc hD hS hA [0, 1, 2] rfl
    refine va_callv (va_runV (As := [.int (m_X6_rank v0)]) (rest := []) ⟨hx, hb, hml, hown, hts⟩ (c_X6_unwinds l G h0 kd mo st ro tp cd sr ir ih ss sq ce lw wo he sk na kp gb go fa ga vo pb jg td tx ru him s19 s20 s21 s22 s26 s31 s32 s33 s34 s39 s40 fcd fhe (m_X6_rank v0) hm ou H.size (by omega) (by first | exact htx | assumption | omega)) (cwV 1 hts gX6_between_X6_unwinds rfl rfl rfl (by decide +kernel) ⟨Nat.le_of_ble_eq_true rfl, Nat.le_of_ble_eq_true rfl⟩) ⟨gPre_blind, va_recv hK hPc (ci := 6) (q0 := 0) rfl rfl, fun U hU hW => gPre_of hU hW hK hPc hDc⟩ rfl rfl hl.1 rfl (lv_room (Nat.le_of_ble_eq_true rfl)) dX6_between_17 ⟨Nat.le_of_ble_eq_true rfl, Nat.le_of_ble_eq_true rfl⟩) hS (fun q _ h => hFc q h) hFc (fun u t H locs ht hvm w_7 hB hz1 hk1 hS => ?_)
    obtain ⟨hP1, hK1, hD1⟩ := hB
    rw [ht] at hP1
    have hz9 : gPD G (va_A _ _) [zo6 h0 (nI pb) kd mo st (nI jg) ro tp (nI td) cd sr (nI tx) (nI ru) him ir ih ss sq ce lw s19 s20 s21 s22 wo he (nI (m_X6_unwinds_h025 tx s26 fcd fhe (m_X6_rank v0) hm ou)) (m_X6_unwinds_h026 tx s26 fcd fhe (m_X6_rank v0) hm ou) (nI (m_X6_unwinds_h027 tx s26 fcd fhe (m_X6_rank v0) hm ou)) sk na kp s31 s32 s33 s34 gb go fa ga s39 s40 vo, zi G cd 1200 (m_X6_unwinds_cd tx s26 fcd fhe (m_X6_rank v0) hm ou), zi G he 200 fhe] H := ⟨hP1, hD1⟩
    have hP1 := hz9.1
    have hD1 := hz9.2
    have w_7 : (m_X6_unwinds_h025 tx s26 fcd fhe (m_X6_rank v0) hm ou) ≤ hm ∧ (m_X6_unwinds_h027 tx s26 fcd fhe (m_X6_rank v0) hm ou) + (m_X6_unwinds_h025 tx s26 fcd fhe (m_X6_rank v0) hm ou) = ou + hm := w_7
    have hz9 : gPD G A [zo6 h0 (nI pb) kd mo st (nI jg) ro tp (nI td) cd sr (nI tx) (nI ru) him ir ih ss sq ce lw s19 s20 s21 s22 wo he (nI (m_X6_unwinds_h025 tx s26 fcd fhe (m_X6_rank v0) hm ou)) (m_X6_unwinds_h026 tx s26 fcd fhe (m_X6_rank v0) hm ou) (nI (m_X6_unwinds_h027 tx s26 fcd fhe (m_X6_rank v0) hm ou)) sk na kp s31 s32 s33 s34 gb go fa ga s39 s40 vo, zi G cd 1200 (m_X6_unwinds_cd tx s26 fcd fhe (m_X6_rank v0) hm ou), zi G he 200 fhe] H := gJoin hP hD hk1 hFc hP1 hD1 [0, 1, 2] [] rfl rfl rfl (by decide +kernel) (by decide +kernel)
    have hP := hz9.1
    have hD := hz9.2
    have huw := w_7
    refine lv_iload_n hx hb dX6_between_20 rfl (lv_at hl 1 rfl) ?_
    have hz9 : gPD G A [] H := ⟨hP.sub [] rfl, hD.sub [] (by decide +kernel) rfl⟩
    have hPc := hz9.1
    have hDc := hz9.2
    have hFc := gFree hPc hD hS hA [] rfl
    refine va_calli (va_runS (As := [.int v0]) (rest := []) ⟨hx, hb, hml, hown, hts⟩ (c_X6_rank l G v0 H.size) (va_cwS 1 hts gX6_between_X6_rank rfl rfl rfl (by decide +kernel) ⟨Nat.le_of_ble_eq_true rfl, Nat.le_of_ble_eq_true rfl⟩) ⟨gPre_blind, fun U hU hW => gPre_of hU hW hK hPc hDc⟩ rfl rfl hl.1 rfl (lv_room (Nat.le_of_ble_eq_true rfl)) dX6_between_21 ⟨Nat.le_of_ble_eq_true rfl, Nat.le_of_ble_eq_true rfl⟩) hS (fun q _ h => hFc q h) hFc (fun r_8 u t H locs ht hvm w_9 hB hz1 hk1 hS => ?_)
    obtain ⟨hP1, hK1, hD1⟩ := hB
    rw [ht] at hP1
    have hz9 : gPD G (va_A _ _) [] H := ⟨hP1, hD1⟩
    have hP1 := hz9.1
    have hD1 := hz9.2
    have w_9 : r_8 = m_X6_rank v0 := w_9
    have hz9 : gPD G A [zo6 h0 (nI pb) kd mo st (nI jg) ro tp (nI td) cd sr (nI tx) (nI ru) him ir ih ss sq ce lw s19 s20 s21 s22 wo he (nI (m_X6_unwinds_h025 tx s26 fcd fhe (m_X6_rank v0) hm ou)) (m_X6_unwinds_h026 tx s26 fcd fhe (m_X6_rank v0) hm ou) (nI (m_X6_unwinds_h027 tx s26 fcd fhe (m_X6_rank v0) hm ou)) sk na kp s31 s32 s33 s34 gb go fa ga s39 s40 vo, zi G cd 1200 (m_X6_unwinds_cd tx s26 fcd fhe (m_X6_rank v0) hm ou), zi G he 200 fhe] H := gJoin hP hD hk1 hFc hP1 hD1 [] [0, 1, 2] rfl rfl rfl (by decide +kernel) (by decide +kernel)
    have hP := hz9.1
    have hD := hz9.2
    subst w_9
    refine lv_iconst (v := 4) hx hb dX6_between_24 (by decide +kernel) ?_
    refine lv_icmp_ne (tgt := 55) hx hb dX6_between_25 (by decide +kernel) (fun c_10 => ?_) (fun c_10 => ?_)
    rotate_left
    · exact absurd c_10 (c_3)
    refine lv_aload_n hx hb dX6_between_55 rfl (lv_at hl 0 rfl) ?_
    refine lv_iload_n hx hb dX6_between_56 rfl (lv_at hl 1 rfl) ?_
    have hz9 : gPD G A [zo6 h0 (nI pb) kd mo st (nI jg) ro tp (nI td) cd sr (nI tx) (nI ru) him ir ih ss sq ce lw s19 s20 s21 s22 wo he (nI (m_X6_unwinds_h025 tx s26 fcd fhe (m_X6_rank v0) hm ou)) (m_X6_unwinds_h026 tx s26 fcd fhe (m_X6_rank v0) hm ou) (nI (m_X6_unwinds_h027 tx s26 fcd fhe (m_X6_rank v0) hm ou)) sk na kp s31 s32 s33 s34 gb go fa ga s39 s40 vo, zi G he 200 fhe] H := ⟨hP.sub [0, 2] rfl, hD.sub [0, 2] (by decide +kernel) rfl⟩
    have hPc := hz9.1
    have hDc := hz9.2
    have hFc := gFree hPc hD hS hA [0, 2] rfl
    refine va_callv (va_runV (As := [.int v0]) (rest := []) ⟨hx, hb, hml, hown, hts⟩ (c_X6_holds l G h0 kd mo st ro tp cd sr ir ih ss sq ce lw wo he sk na kp gb go fa ga vo pb jg td tx ru him s19 s20 s21 s22 (m_X6_unwinds_h026 tx s26 fcd fhe (m_X6_rank v0) hm ou) (nI (m_X6_unwinds_h027 tx s26 fcd fhe (m_X6_rank v0) hm ou)) s31 s32 s33 s34 s39 s40 fhe v0 (m_X6_unwinds_h025 tx s26 fcd fhe (m_X6_rank v0) hm ou) H.size (by omega)) (cwV 1 hts gX6_between_X6_holds rfl rfl rfl (by decide +kernel) ⟨Nat.le_of_ble_eq_true rfl, Nat.le_of_ble_eq_true rfl⟩) ⟨gPre_blind, va_recv hK hPc (ci := 6) (q0 := 0) rfl rfl, fun U hU hW => gPre_of hU hW hK hPc hDc⟩ rfl rfl hl.1 rfl (lv_room (Nat.le_of_ble_eq_true rfl)) dX6_between_57 ⟨Nat.le_of_ble_eq_true rfl, Nat.le_of_ble_eq_true rfl⟩) hS (fun q _ h => hFc q h) hFc (fun u t H locs ht hvm w_12 hB hz1 hk1 hS => ?_)
    obtain ⟨hP1, hK1, hD1⟩ := hB
    rw [ht] at hP1
    have hz9 : gPD G (va_A _ _) [zo6 h0 (nI pb) kd mo st (nI jg) ro tp (nI td) cd sr (nI tx) (nI ru) him ir ih ss sq ce lw s19 s20 s21 s22 wo he (nI (((m_X6_unwinds_h025 tx s26 fcd fhe (m_X6_rank v0) hm ou) + 1))) (m_X6_unwinds_h026 tx s26 fcd fhe (m_X6_rank v0) hm ou) (nI (m_X6_unwinds_h027 tx s26 fcd fhe (m_X6_rank v0) hm ou)) sk na kp s31 s32 s33 s34 gb go fa ga s39 s40 vo, zi G he 200 (upd fhe (m_X6_unwinds_h025 tx s26 fcd fhe (m_X6_rank v0) hm ou) v0)] H := ⟨hP1, hD1⟩
    have hP1 := hz9.1
    have hD1 := hz9.2
    have hz9 : gPD G A [zi G cd 1200 (m_X6_unwinds_cd tx s26 fcd fhe (m_X6_rank v0) hm ou), zo6 h0 (nI pb) kd mo st (nI jg) ro tp (nI td) cd sr (nI tx) (nI ru) him ir ih ss sq ce lw s19 s20 s21 s22 wo he (nI (((m_X6_unwinds_h025 tx s26 fcd fhe (m_X6_rank v0) hm ou) + 1))) (m_X6_unwinds_h026 tx s26 fcd fhe (m_X6_rank v0) hm ou) (nI (m_X6_unwinds_h027 tx s26 fcd fhe (m_X6_rank v0) hm ou)) sk na kp s31 s32 s33 s34 gb go fa ga s39 s40 vo, zi G he 200 (upd fhe (m_X6_unwinds_h025 tx s26 fcd fhe (m_X6_rank v0) hm ou) v0)] H := gJoin hP hD hk1 hFc hP1 hD1 [0, 2] [1] rfl rfl rfl (by decide +kernel) (by decide +kernel)
    have hP := hz9.1
    have hD := hz9.2
    refine lv_iconst (v := 1) hx hb dX6_between_60 (by decide +kernel) ?_
    have q_13 : m_X6_between_h025 tx s26 fcd fhe v0 hm ou = (m_X6_unwinds_h025 tx s26 fcd fhe (m_X6_rank v0) hm ou) + 1 := by unfold m_X6_between_h025; rw [if_neg c_3]
    have q_14 : m_X6_between_h026 tx s26 fcd fhe v0 hm ou = (m_X6_unwinds_h026 tx s26 fcd fhe (m_X6_rank v0) hm ou) := by unfold m_X6_between_h026; rw [if_neg c_3]
    have q_15 : m_X6_between_h027 tx s26 fcd fhe v0 hm ou = m_X6_unwinds_h027 tx s26 fcd fhe (m_X6_rank v0) hm ou := by unfold m_X6_between_h027; rw [if_neg c_3]
    have q_16 : m_X6_between_cd tx s26 fcd fhe v0 hm ou = (m_X6_unwinds_cd tx s26 fcd fhe (m_X6_rank v0) hm ou) := by unfold m_X6_between_cd; rw [if_neg c_3]
    have q_17 : m_X6_between_he tx s26 fcd fhe v0 hm ou = (upd fhe (m_X6_unwinds_h025 tx s26 fcd fhe (m_X6_rank v0) hm ou) v0) := by unfold m_X6_between_he; rw [if_neg c_3]
    have hz9 : gPD G A [zo6 h0 (nI pb) kd mo st (nI jg) ro tp (nI td) cd sr (nI tx) (nI ru) him ir ih ss sq ce lw s19 s20 s21 s22 wo he (nI (m_X6_between_h025 tx s26 fcd fhe v0 hm ou)) (m_X6_between_h026 tx s26 fcd fhe v0 hm ou) (nI (m_X6_between_h027 tx s26 fcd fhe v0 hm ou)) sk na kp s31 s32 s33 s34 gb go fa ga s39 s40 vo, zi G cd 1200 (m_X6_between_cd tx s26 fcd fhe v0 hm ou), zi G he 200 (m_X6_between_he tx s26 fcd fhe v0 hm ou)] H := ⟨by rw [q_13, q_14, q_15, q_16, q_17]; exact hP.sub [1, 0, 2] rfl, by rw [q_13, q_14, q_15, q_16, q_17]; exact hD.sub [1, 0, 2] (by decide +kernel) rfl⟩
    have hP9 := hz9.1
    have hD9 := hz9.2
    have hpost : (fun (r : Int32) (u : Unit) => match u with | _ => r = m_X6_between tx s26 fcd fhe v0 hm ou) 1 () := (show m_X6_between tx s26 fcd fhe v0 hm ou = 1 from by unfold m_X6_between; rw [if_neg c_3]).symm
    exact W.zret (v := 1) hx hb hr (rfl) (fun t ht hW => ⟨⟨1, (), rfl, hpost, by rw [ht]; exact hP9, va_K.moved hW.alike hK, hD9⟩, hS.F ht⟩) hS.2.2 dX6_between_61
  · skip
    refine lv_iconst (v := 5) hx hb dX6_between_9 (by decide +kernel) ?_
    refine lv_goto (tgt := 17) hx hb dX6_between_10 (by decide +kernel) ?_
    have hz9 : gPD G A [zo6 h0 (nI pb) kd mo st (nI jg) ro tp (nI td) cd sr (nI tx) (nI ru) him ir ih ss sq ce lw s19 s20 s21 s22 wo he (nI hm) s26 (nI ou) sk na kp s31 s32 s33 s34 gb go fa ga s39 s40 vo, zi G cd 1200 fcd, zi G he 200 fhe] H := ⟨hP.sub [0, 1, 2] rfl, hD.sub [0, 1, 2] (by decide +kernel) rfl⟩
    have hPc := hz9.1
    have hDc := hz9.2
    have hFc := gFree hPc hD hS hA [0, 1, 2] rfl
    refine va_callv (va_runV (As := [.int 5]) (rest := []) ⟨hx, hb, hml, hown, hts⟩ (c_X6_unwinds l G h0 kd mo st ro tp cd sr ir ih ss sq ce lw wo he sk na kp gb go fa ga vo pb jg td tx ru him s19 s20 s21 s22 s26 s31 s32 s33 s34 s39 s40 fcd fhe 5 hm ou H.size (by omega) (by first | exact htx | assumption | omega)) (cwV 1 hts gX6_between_X6_unwinds rfl rfl rfl (by decide +kernel) ⟨Nat.le_of_ble_eq_true rfl, Nat.le_of_ble_eq_true rfl⟩) ⟨gPre_blind, va_recv hK hPc (ci := 6) (q0 := 0) rfl rfl, fun U hU hW => gPre_of hU hW hK hPc hDc⟩ rfl rfl hl.1 rfl (lv_room (Nat.le_of_ble_eq_true rfl)) dX6_between_17 ⟨Nat.le_of_ble_eq_true rfl, Nat.le_of_ble_eq_true rfl⟩) hS (fun q _ h => hFc q h) hFc (fun u t H locs ht hvm w_19 hB hz1 hk1 hS => ?_)
    obtain ⟨hP1, hK1, hD1⟩ := hB
    rw [ht] at hP1
    have hz9 : gPD G (va_A _ _) [zo6 h0 (nI pb) kd mo st (nI jg) ro tp (nI td) cd sr (nI tx) (nI ru) him ir ih ss sq ce lw s19 s20 s21 s22 wo he (nI (m_X6_unwinds_h025 tx s26 fcd fhe 5 hm ou)) (m_X6_unwinds_h026 tx s26 fcd fhe 5 hm ou) (nI (m_X6_unwinds_h027 tx s26 fcd fhe 5 hm ou)) sk na kp s31 s32 s33 s34 gb go fa ga s39 s40 vo, zi G cd 1200 (m_X6_unwinds_cd tx s26 fcd fhe 5 hm ou), zi G he 200 fhe] H := ⟨hP1, hD1⟩
    have hP1 := hz9.1
    have hD1 := hz9.2
    have w_19 : (m_X6_unwinds_h025 tx s26 fcd fhe 5 hm ou) ≤ hm ∧ (m_X6_unwinds_h027 tx s26 fcd fhe 5 hm ou) + (m_X6_unwinds_h025 tx s26 fcd fhe 5 hm ou) = ou + hm := w_19
    have hz9 : gPD G A [zo6 h0 (nI pb) kd mo st (nI jg) ro tp (nI td) cd sr (nI tx) (nI ru) him ir ih ss sq ce lw s19 s20 s21 s22 wo he (nI (m_X6_unwinds_h025 tx s26 fcd fhe 5 hm ou)) (m_X6_unwinds_h026 tx s26 fcd fhe 5 hm ou) (nI (m_X6_unwinds_h027 tx s26 fcd fhe 5 hm ou)) sk na kp s31 s32 s33 s34 gb go fa ga s39 s40 vo, zi G cd 1200 (m_X6_unwinds_cd tx s26 fcd fhe 5 hm ou), zi G he 200 fhe] H := gJoin hP hD hk1 hFc hP1 hD1 [0, 1, 2] [] rfl rfl rfl (by decide +kernel) (by decide +kernel)
    have hP := hz9.1
    have hD := hz9.2
    have huw := w_19
    refine lv_iload_n hx hb dX6_between_20 rfl (lv_at hl 1 rfl) ?_
    have hz9 : gPD G A [] H := ⟨hP.sub [] rfl, hD.sub [] (by decide +kernel) rfl⟩
    have hPc := hz9.1
    have hDc := hz9.2
    have hFc := gFree hPc hD hS hA [] rfl
    refine va_calli (va_runS (As := [.int v0]) (rest := []) ⟨hx, hb, hml, hown, hts⟩ (c_X6_rank l G v0 H.size) (va_cwS 1 hts gX6_between_X6_rank rfl rfl rfl (by decide +kernel) ⟨Nat.le_of_ble_eq_true rfl, Nat.le_of_ble_eq_true rfl⟩) ⟨gPre_blind, fun U hU hW => gPre_of hU hW hK hPc hDc⟩ rfl rfl hl.1 rfl (lv_room (Nat.le_of_ble_eq_true rfl)) dX6_between_21 ⟨Nat.le_of_ble_eq_true rfl, Nat.le_of_ble_eq_true rfl⟩) hS (fun q _ h => hFc q h) hFc (fun r_20 u t H locs ht hvm w_21 hB hz1 hk1 hS => ?_)
    obtain ⟨hP1, hK1, hD1⟩ := hB
    rw [ht] at hP1
    have hz9 : gPD G (va_A _ _) [] H := ⟨hP1, hD1⟩
    have hP1 := hz9.1
    have hD1 := hz9.2
    have w_21 : r_20 = m_X6_rank v0 := w_21
    have hz9 : gPD G A [zo6 h0 (nI pb) kd mo st (nI jg) ro tp (nI td) cd sr (nI tx) (nI ru) him ir ih ss sq ce lw s19 s20 s21 s22 wo he (nI (m_X6_unwinds_h025 tx s26 fcd fhe 5 hm ou)) (m_X6_unwinds_h026 tx s26 fcd fhe 5 hm ou) (nI (m_X6_unwinds_h027 tx s26 fcd fhe 5 hm ou)) sk na kp s31 s32 s33 s34 gb go fa ga s39 s40 vo, zi G cd 1200 (m_X6_unwinds_cd tx s26 fcd fhe 5 hm ou), zi G he 200 fhe] H := gJoin hP hD hk1 hFc hP1 hD1 [] [0, 1, 2] rfl rfl rfl (by decide +kernel) (by decide +kernel)
    have hP := hz9.1
    have hD := hz9.2
    subst w_21
    refine lv_iconst (v := 4) hx hb dX6_between_24 (by decide +kernel) ?_
    refine lv_icmp_ne (tgt := 55) hx hb dX6_between_25 (by decide +kernel) (fun c_22 => ?_) (fun c_22 => ?_)
    · exact absurd (c_3) c_22
    refine lv_aload_n hx hb dX6_between_28 rfl (lv_at hl 0 rfl) ?_
    refine va_get (D := G.1) (ci := 6) (v := .int (nI (m_X6_unwinds_h025 tx s26 fcd fhe 5 hm ou))) (C := RX6) (T := TX6) (N := 42) hx hb hts hiX6 hown hK hP 0 rfl rfl 25 (by decide +kernel) kf130 (fun _ h9 => h9) rfl dX6_between_29 ?_
    refine lv_if_le (tgt := 55) hx hb dX6_between_32 (by decide +kernel) (fun c_23 => ?_) (fun c_23 => ?_)
    · skip
      have c_23N : (m_X6_unwinds_h025 tx s26 fcd fhe 5 hm ou) ≤ 0 := nI_le1 (a := (m_X6_unwinds_h025 tx s26 fcd fhe 5 hm ou)) (b := 0) (by omega) (by omega) c_23
      refine lv_aload_n hx hb dX6_between_55 rfl (lv_at hl 0 rfl) ?_
      refine lv_iload_n hx hb dX6_between_56 rfl (lv_at hl 1 rfl) ?_
      have hz9 : gPD G A [zo6 h0 (nI pb) kd mo st (nI jg) ro tp (nI td) cd sr (nI tx) (nI ru) him ir ih ss sq ce lw s19 s20 s21 s22 wo he (nI (m_X6_unwinds_h025 tx s26 fcd fhe 5 hm ou)) (m_X6_unwinds_h026 tx s26 fcd fhe 5 hm ou) (nI (m_X6_unwinds_h027 tx s26 fcd fhe 5 hm ou)) sk na kp s31 s32 s33 s34 gb go fa ga s39 s40 vo, zi G he 200 fhe] H := ⟨hP.sub [0, 2] rfl, hD.sub [0, 2] (by decide +kernel) rfl⟩
      have hPc := hz9.1
      have hDc := hz9.2
      have hFc := gFree hPc hD hS hA [0, 2] rfl
      refine va_callv (va_runV (As := [.int v0]) (rest := []) ⟨hx, hb, hml, hown, hts⟩ (c_X6_holds l G h0 kd mo st ro tp cd sr ir ih ss sq ce lw wo he sk na kp gb go fa ga vo pb jg td tx ru him s19 s20 s21 s22 (m_X6_unwinds_h026 tx s26 fcd fhe 5 hm ou) (nI (m_X6_unwinds_h027 tx s26 fcd fhe 5 hm ou)) s31 s32 s33 s34 s39 s40 fhe v0 (m_X6_unwinds_h025 tx s26 fcd fhe 5 hm ou) H.size (by omega)) (cwV 1 hts gX6_between_X6_holds rfl rfl rfl (by decide +kernel) ⟨Nat.le_of_ble_eq_true rfl, Nat.le_of_ble_eq_true rfl⟩) ⟨gPre_blind, va_recv hK hPc (ci := 6) (q0 := 0) rfl rfl, fun U hU hW => gPre_of hU hW hK hPc hDc⟩ rfl rfl hl.1 rfl (lv_room (Nat.le_of_ble_eq_true rfl)) dX6_between_57 ⟨Nat.le_of_ble_eq_true rfl, Nat.le_of_ble_eq_true rfl⟩) hS (fun q _ h => hFc q h) hFc (fun u t H locs ht hvm w_25 hB hz1 hk1 hS => ?_)
      obtain ⟨hP1, hK1, hD1⟩ := hB
      rw [ht] at hP1
      have hz9 : gPD G (va_A _ _) [zo6 h0 (nI pb) kd mo st (nI jg) ro tp (nI td) cd sr (nI tx) (nI ru) him ir ih ss sq ce lw s19 s20 s21 s22 wo he (nI (((m_X6_unwinds_h025 tx s26 fcd fhe 5 hm ou) + 1))) (m_X6_unwinds_h026 tx s26 fcd fhe 5 hm ou) (nI (m_X6_unwinds_h027 tx s26 fcd fhe 5 hm ou)) sk na kp s31 s32 s33 s34 gb go fa ga s39 s40 vo, zi G he 200 (upd fhe (m_X6_unwinds_h025 tx s26 fcd fhe 5 hm ou) v0)] H := ⟨hP1, hD1⟩
      have hP1 := hz9.1
      have hD1 := hz9.2
      have hz9 : gPD G A [zi G cd 1200 (m_X6_unwinds_cd tx s26 fcd fhe 5 hm ou), zo6 h0 (nI pb) kd mo st (nI jg) ro tp (nI td) cd sr (nI tx) (nI ru) him ir ih ss sq ce lw s19 s20 s21 s22 wo he (nI (((m_X6_unwinds_h025 tx s26 fcd fhe 5 hm ou) + 1))) (m_X6_unwinds_h026 tx s26 fcd fhe 5 hm ou) (nI (m_X6_unwinds_h027 tx s26 fcd fhe 5 hm ou)) sk na kp s31 s32 s33 s34 gb go fa ga s39 s40 vo, zi G he 200 (upd fhe (m_X6_unwinds_h025 tx s26 fcd fhe 5 hm ou) v0)] H := gJoin hP hD hk1 hFc hP1 hD1 [0, 2] [1] rfl rfl rfl (by decide +kernel) (by decide +kernel)
      have hP := hz9.1
      have hD := hz9.2
      refine lv_iconst (v := 1) hx hb dX6_between_60 (by decide +kernel) ?_
      have q_26 : m_X6_between_h025 tx s26 fcd fhe v0 hm ou = (m_X6_unwinds_h025 tx s26 fcd fhe 5 hm ou) + 1 := by unfold m_X6_between_h025; rw [if_pos c_3, if_pos c_23]
      have q_27 : m_X6_between_h026 tx s26 fcd fhe v0 hm ou = (m_X6_unwinds_h026 tx s26 fcd fhe 5 hm ou) := by unfold m_X6_between_h026; rw [if_pos c_3]
      have q_28 : m_X6_between_h027 tx s26 fcd fhe v0 hm ou = m_X6_unwinds_h027 tx s26 fcd fhe 5 hm ou := by unfold m_X6_between_h027; rw [if_pos c_3]
      have q_29 : m_X6_between_cd tx s26 fcd fhe v0 hm ou = (m_X6_unwinds_cd tx s26 fcd fhe 5 hm ou) := by unfold m_X6_between_cd; rw [if_pos c_3]
      have q_30 : m_X6_between_he tx s26 fcd fhe v0 hm ou = (upd fhe (m_X6_unwinds_h025 tx s26 fcd fhe 5 hm ou) v0) := by unfold m_X6_between_he; rw [if_pos c_3, if_pos c_23]
      have hz9 : gPD G A [zo6 h0 (nI pb) kd mo st (nI jg) ro tp (nI td) cd sr (nI tx) (nI ru) him ir ih ss sq ce lw s19 s20 s21 s22 wo he (nI (m_X6_between_h025 tx s26 fcd fhe v0 hm ou)) (m_X6_between_h026 tx s26 fcd fhe v0 hm ou) (nI (m_X6_between_h027 tx s26 fcd fhe v0 hm ou)) sk na kp s31 s32 s33 s34 gb go fa ga s39 s40 vo, zi G cd 1200 (m_X6_between_cd tx s26 fcd fhe v0 hm ou), zi G he 200 (m_X6_between_he tx s26 fcd fhe v0 hm ou)] H := ⟨by rw [q_26, q_27, q_28, q_29, q_30]; exact hP.sub [1, 0, 2] rfl, by rw [q_26, q_27, q_28, q_29, q_30]; exact hD.sub [1, 0, 2] (by decide +kernel) rfl⟩
      have hP9 := hz9.1
      have hD9 := hz9.2
      have hpost : (fun (r : Int32) (u : Unit) => match u with | _ => r = m_X6_between tx s26 fcd fhe v0 hm ou) 1 () := (show m_X6_between tx s26 fcd fhe v0 hm ou = 1 from by unfold m_X6_between; rw [if_pos c_3, if_pos c_23]).symm
      exact W.zret (v := 1) hx hb hr (rfl) (fun t ht hW => ⟨⟨1, (), rfl, hpost, by rw [ht]; exact hP9, va_K.moved hW.alike hK, hD9⟩, hS.F ht⟩) hS.2.2 dX6_between_61
    · skip
      have c_23N : 0 < (m_X6_unwinds_h025 tx s26 fcd fhe 5 hm ou) := nI_le0 (a := (m_X6_unwinds_h025 tx s26 fcd fhe 5 hm ou)) (b := 0) (by omega) (by omega) c_23
      refine lv_aload_n hx hb dX6_between_35 rfl (lv_at hl 0 rfl) ?_
      refine va_get (D := G.1) (ci := 6) (v := .ref he) (C := RX6) (T := TX6) (N := 42) hx hb hts hiX6 hown hK hP 0 rfl rfl 24 (by decide +kernel) kf52 (fun _ h9 => h9) rfl dX6_between_36 ?_
      refine lv_aload_n hx hb dX6_between_39 rfl (lv_at hl 0 rfl) ?_
      refine va_get (D := G.1) (ci := 6) (v := .int (nI (m_X6_unwinds_h025 tx s26 fcd fhe 5 hm ou))) (C := RX6) (T := TX6) (N := 42) hx hb hts hiX6 hown hK hP 0 rfl rfl 25 (by decide +kernel) kf130 (fun _ h9 => h9) rfl dX6_between_40 ?_
      refine lv_iconst (v := 1) hx hb dX6_between_43 (by decide +kernel) ?_
      refine lv_isub hx hb dX6_between_44 ?_
      refine lv_topi (fun v_31 ev_31 => ?_)
      have ev_31 : v_31 = nI ((m_X6_unwinds_h025 tx s26 fcd fhe 5 hm ou) - 1) := ev_31.trans (pk_sub (a := (m_X6_unwinds_h025 tx s26 fcd fhe 5 hm ou)) (b := 1) (by omega))
      subst ev_31
      refine va_iald (D := G.1) hx hb hK hP 2 0 rfl rfl (i := (nI ((m_X6_unwinds_h025 tx s26 fcd fhe 5 hm ou) - 1))) (vp_in_nI (by omega) (by omega)) dX6_between_45 ?_
      refine lv_topi (fun v_32 ev_32 => ?_)
      have ev_32 : v_32 = fhe ((m_X6_unwinds_h025 tx s26 fcd fhe 5 hm ou) - 1) := ev_32.trans (by rw [nI_clamp (by omega)])
      subst ev_32
      have hz9 : gPD G A [] H := ⟨hP.sub [] rfl, hD.sub [] (by decide +kernel) rfl⟩
      have hPc := hz9.1
      have hDc := hz9.2
      have hFc := gFree hPc hD hS hA [] rfl
      refine va_calli (va_runS (As := [.int (fhe ((m_X6_unwinds_h025 tx s26 fcd fhe 5 hm ou) - 1))]) (rest := []) ⟨hx, hb, hml, hown, hts⟩ (c_X6_rank l G (fhe ((m_X6_unwinds_h025 tx s26 fcd fhe 5 hm ou) - 1)) H.size) (va_cwS 1 hts gX6_between_X6_rank rfl rfl rfl (by decide +kernel) ⟨Nat.le_of_ble_eq_true rfl, Nat.le_of_ble_eq_true rfl⟩) ⟨gPre_blind, fun U hU hW => gPre_of hU hW hK hPc hDc⟩ rfl rfl hl.1 rfl (lv_room (Nat.le_of_ble_eq_true rfl)) dX6_between_46 ⟨Nat.le_of_ble_eq_true rfl, Nat.le_of_ble_eq_true rfl⟩) hS (fun q _ h => hFc q h) hFc (fun r_33 u t H locs ht hvm w_34 hB hz1 hk1 hS => ?_)
      obtain ⟨hP1, hK1, hD1⟩ := hB
      rw [ht] at hP1
      have hz9 : gPD G (va_A _ _) [] H := ⟨hP1, hD1⟩
      have hP1 := hz9.1
      have hD1 := hz9.2
      have w_34 : r_33 = m_X6_rank (fhe ((m_X6_unwinds_h025 tx s26 fcd fhe 5 hm ou) - 1)) := w_34
      have hz9 : gPD G A [zo6 h0 (nI pb) kd mo st (nI jg) ro tp (nI td) cd sr (nI tx) (nI ru) him ir ih ss sq ce lw s19 s20 s21 s22 wo he (nI (m_X6_unwinds_h025 tx s26 fcd fhe 5 hm ou)) (m_X6_unwinds_h026 tx s26 fcd fhe 5 hm ou) (nI (m_X6_unwinds_h027 tx s26 fcd fhe 5 hm ou)) sk na kp s31 s32 s33 s34 gb go fa ga s39 s40 vo, zi G cd 1200 (m_X6_unwinds_cd tx s26 fcd fhe 5 hm ou), zi G he 200 fhe] H := gJoin hP hD hk1 hFc hP1 hD1 [] [0, 1, 2] rfl rfl rfl (by decide +kernel) (by decide +kernel)
      have hP := hz9.1
      have hD := hz9.2
      subst w_34
      refine lv_iconst (v := 4) hx hb dX6_between_49 (by decide +kernel) ?_
      refine lv_icmp_ne (tgt := 55) hx hb dX6_between_50 (by decide +kernel) (fun c_35 => ?_) (fun c_35 => ?_)
      · skip
        refine lv_aload_n hx hb dX6_between_55 rfl (lv_at hl 0 rfl) ?_
        refine lv_iload_n hx hb dX6_between_56 rfl (lv_at hl 1 rfl) ?_
        have hz9 : gPD G A [zo6 h0 (nI pb) kd mo st (nI jg) ro tp (nI td) cd sr (nI tx) (nI ru) him ir ih ss sq ce lw s19 s20 s21 s22 wo he (nI (m_X6_unwinds_h025 tx s26 fcd fhe 5 hm ou)) (m_X6_unwinds_h026 tx s26 fcd fhe 5 hm ou) (nI (m_X6_unwinds_h027 tx s26 fcd fhe 5 hm ou)) sk na kp s31 s32 s33 s34 gb go fa ga s39 s40 vo, zi G he 200 fhe] H := ⟨hP.sub [0, 2] rfl, hD.sub [0, 2] (by decide +kernel) rfl⟩
        have hPc := hz9.1
        have hDc := hz9.2
        have hFc := gFree hPc hD hS hA [0, 2] rfl
        refine va_callv (va_runV (As := [.int v0]) (rest := []) ⟨hx, hb, hml, hown, hts⟩ (c_X6_holds l G h0 kd mo st ro tp cd sr ir ih ss sq ce lw wo he sk na kp gb go fa ga vo pb jg td tx ru him s19 s20 s21 s22 (m_X6_unwinds_h026 tx s26 fcd fhe 5 hm ou) (nI (m_X6_unwinds_h027 tx s26 fcd fhe 5 hm ou)) s31 s32 s33 s34 s39 s40 fhe v0 (m_X6_unwinds_h025 tx s26 fcd fhe 5 hm ou) H.size (by omega)) (cwV 1 hts gX6_between_X6_holds rfl rfl rfl (by decide +kernel) ⟨Nat.le_of_ble_eq_true rfl, Nat.le_of_ble_eq_true rfl⟩) ⟨gPre_blind, va_recv hK hPc (ci := 6) (q0 := 0) rfl rfl, fun U hU hW => gPre_of hU hW hK hPc hDc⟩ rfl rfl hl.1 rfl (lv_room (Nat.le_of_ble_eq_true rfl)) dX6_between_57 ⟨Nat.le_of_ble_eq_true rfl, Nat.le_of_ble_eq_true rfl⟩) hS (fun q _ h => hFc q h) hFc (fun u t H locs ht hvm w_37 hB hz1 hk1 hS => ?_)
        obtain ⟨hP1, hK1, hD1⟩ := hB
        rw [ht] at hP1
        have hz9 : gPD G (va_A _ _) [zo6 h0 (nI pb) kd mo st (nI jg) ro tp (nI td) cd sr (nI tx) (nI ru) him ir ih ss sq ce lw s19 s20 s21 s22 wo he (nI (((m_X6_unwinds_h025 tx s26 fcd fhe 5 hm ou) + 1))) (m_X6_unwinds_h026 tx s26 fcd fhe 5 hm ou) (nI (m_X6_unwinds_h027 tx s26 fcd fhe 5 hm ou)) sk na kp s31 s32 s33 s34 gb go fa ga s39 s40 vo, zi G he 200 (upd fhe (m_X6_unwinds_h025 tx s26 fcd fhe 5 hm ou) v0)] H := ⟨hP1, hD1⟩
        have hP1 := hz9.1
        have hD1 := hz9.2
        have hz9 : gPD G A [zi G cd 1200 (m_X6_unwinds_cd tx s26 fcd fhe 5 hm ou), zo6 h0 (nI pb) kd mo st (nI jg) ro tp (nI td) cd sr (nI tx) (nI ru) him ir ih ss sq ce lw s19 s20 s21 s22 wo he (nI (((m_X6_unwinds_h025 tx s26 fcd fhe 5 hm ou) + 1))) (m_X6_unwinds_h026 tx s26 fcd fhe 5 hm ou) (nI (m_X6_unwinds_h027 tx s26 fcd fhe 5 hm ou)) sk na kp s31 s32 s33 s34 gb go fa ga s39 s40 vo, zi G he 200 (upd fhe (m_X6_unwinds_h025 tx s26 fcd fhe 5 hm ou) v0)] H := gJoin hP hD hk1 hFc hP1 hD1 [0, 2] [1] rfl rfl rfl (by decide +kernel) (by decide +kernel)
        have hP := hz9.1
        have hD := hz9.2
        refine lv_iconst (v := 1) hx hb dX6_between_60 (by decide +kernel) ?_
        have q_38 : m_X6_between_h025 tx s26 fcd fhe v0 hm ou = (m_X6_unwinds_h025 tx s26 fcd fhe 5 hm ou) + 1 := by unfold m_X6_between_h025; rw [if_pos c_3, if_neg c_23, if_neg c_35]
        have q_39 : m_X6_between_h026 tx s26 fcd fhe v0 hm ou = (m_X6_unwinds_h026 tx s26 fcd fhe 5 hm ou) := by unfold m_X6_between_h026; rw [if_pos c_3]
        have q_40 : m_X6_between_h027 tx s26 fcd fhe v0 hm ou = m_X6_unwinds_h027 tx s26 fcd fhe 5 hm ou := by unfold m_X6_between_h027; rw [if_pos c_3]
        have q_41 : m_X6_between_cd tx s26 fcd fhe v0 hm ou = (m_X6_unwinds_cd tx s26 fcd fhe 5 hm ou) := by unfold m_X6_between_cd; rw [if_pos c_3]
        have q_42 : m_X6_between_he tx s26 fcd fhe v0 hm ou = (upd fhe (m_X6_unwinds_h025 tx s26 fcd fhe 5 hm ou) v0) := by unfold m_X6_between_he; rw [if_pos c_3, if_neg c_23, if_neg c_35]
        have hz9 : gPD G A [zo6 h0 (nI pb) kd mo st (nI jg) ro tp (nI td) cd sr (nI tx) (nI ru) him ir ih ss sq ce lw s19 s20 s21 s22 wo he (nI (m_X6_between_h025 tx s26 fcd fhe v0 hm ou)) (m_X6_between_h026 tx s26 fcd fhe v0 hm ou) (nI (m_X6_between_h027 tx s26 fcd fhe v0 hm ou)) sk na kp s31 s32 s33 s34 gb go fa ga s39 s40 vo, zi G cd 1200 (m_X6_between_cd tx s26 fcd fhe v0 hm ou), zi G he 200 (m_X6_between_he tx s26 fcd fhe v0 hm ou)] H := ⟨by rw [q_38, q_39, q_40, q_41, q_42]; exact hP.sub [1, 0, 2] rfl, by rw [q_38, q_39, q_40, q_41, q_42]; exact hD.sub [1, 0, 2] (by decide +kernel) rfl⟩
        have hP9 := hz9.1
        have hD9 := hz9.2
        have hpost : (fun (r : Int32) (u : Unit) => match u with | _ => r = m_X6_between tx s26 fcd fhe v0 hm ou) 1 () := (show m_X6_between tx s26 fcd fhe v0 hm ou = 1 from by unfold m_X6_between; rw [if_pos c_3, if_neg c_23, if_neg c_35]).symm
        exact W.zret (v := 1) hx hb hr (rfl) (fun t ht hW => ⟨⟨1, (), rfl, hpost, by rw [ht]; exact hP9, va_K.moved hW.alike hK, hD9⟩, hS.F ht⟩) hS.2.2 dX6_between_61
      · skip
        refine lv_iconst (v := 0) hx hb dX6_between_53 (by decide +kernel) ?_
        have q_43 : m_X6_between_h025 tx s26 fcd fhe v0 hm ou = m_X6_unwinds_h025 tx s26 fcd fhe 5 hm ou := by unfold m_X6_between_h025; rw [if_pos c_3, if_neg c_23, if_pos c_35]
        have q_44 : m_X6_between_h026 tx s26 fcd fhe v0 hm ou = (m_X6_unwinds_h026 tx s26 fcd fhe 5 hm ou) := by unfold m_X6_between_h026; rw [if_pos c_3]
        have q_45 : m_X6_between_h027 tx s26 fcd fhe v0 hm ou = m_X6_unwinds_h027 tx s26 fcd fhe 5 hm ou := by unfold m_X6_between_h027; rw [if_pos c_3]
        have q_46 : m_X6_between_cd tx s26 fcd fhe v0 hm ou = (m_X6_unwinds_cd tx s26 fcd fhe 5 hm ou) := by unfold m_X6_between_cd; rw [if_pos c_3]
        have q_47 : m_X6_between_he tx s26 fcd fhe v0 hm ou = fhe := by unfold m_X6_between_he; rw [if_pos c_3, if_neg c_23, if_pos c_35]
        have hz9 : gPD G A [zo6 h0 (nI pb) kd mo st (nI jg) ro tp (nI td) cd sr (nI tx) (nI ru) him ir ih ss sq ce lw s19 s20 s21 s22 wo he (nI (m_X6_between_h025 tx s26 fcd fhe v0 hm ou)) (m_X6_between_h026 tx s26 fcd fhe v0 hm ou) (nI (m_X6_between_h027 tx s26 fcd fhe v0 hm ou)) sk na kp s31 s32 s33 s34 gb go fa ga s39 s40 vo, zi G cd 1200 (m_X6_between_cd tx s26 fcd fhe v0 hm ou), zi G he 200 (m_X6_between_he tx s26 fcd fhe v0 hm ou)] H := ⟨by rw [q_43, q_44, q_45, q_46, q_47]; exact hP.sub [0, 1, 2] rfl, by rw [q_43, q_44, q_45, q_46, q_47]; exact hD.sub [0, 1, 2] (by decide +kernel) rfl⟩
        have hP9 := hz9.1
        have hD9 := hz9.2
        have hpost : (fun (r : Int32) (u : Unit) => match u with | _ => r = m_X6_between tx s26 fcd fhe v0 hm ou) 0 () := (show m_X6_between tx s26 fcd fhe v0 hm ou = 0 from by unfold m_X6_between; rw [if_pos c_3, if_neg c_23, if_pos c_35]).symm
        exact W.zret (v := 0) hx hb hr (rfl) (fun t ht hW => ⟨⟨0, (), rfl, hpost, by rw [ht]; exact hP9, va_K.moved hW.alike hK, hD9⟩, hS.F ht⟩) hS.2.2 dX6_between_54
theorem rank_B {c : Int32} (h : isB c) : 1 ≤ m_X6_rank c := by rcases h with e | e | e | e | e | e | e <;> subst e <;> decide
theorem hold_B {fcd fhe : Nat → Int32} {tx sp ou hm : Nat} {c : Int32} (hb : isB c) (h : eI fcd fhe tx sp ou hm 0) : eI fcd (upd fhe hm c) tx sp ou (hm + 1) 1 := eI_hold h (Or.inr (Or.inr (Or.inr hb))) (by rw [if_pos (isBb_t hb)]; omega)
theorem hold_N {fcd fhe : Nat → Int32} {tx sp ou hm : Nat} {c : Int32} (hc : c = 0 ∨ c = 13 ∨ c = 19) (h : eI fcd fhe tx sp ou hm 1) : eI fcd (upd fhe hm c) tx sp ou (hm + 1) 1 := by
  refine eI_hold h ?_ ?_
  · rcases hc with e | e | e
    · exact Or.inl e
    · exact Or.inr (Or.inl e)
    · exact Or.inr (Or.inr (Or.inl e))
  · have e : ¬ isBb c = true := by rcases hc with e | e | e <;> subst e <;> decide
    rw [if_neg e]
    first | done | rfl
theorem bt_use {tx sp hm ou : Nat} {s26 : Int32} {fcd fhe : Nat → Int32} {v0 : Int32} (hb : isB v0) (h : eI fcd fhe tx sp ou hm 0) (hok : ¬ m_X6_between tx s26 fcd fhe v0 hm ou = 0) : eI (m_X6_between_cd tx s26 fcd fhe v0 hm ou) (m_X6_between_he tx s26 fcd fhe v0 hm ou) tx sp (m_X6_between_h027 tx s26 fcd fhe v0 hm ou) (m_X6_between_h025 tx s26 fcd fhe v0 hm ou) 1 ∧ m_X6_between_h027 tx s26 fcd fhe v0 hm ou + m_X6_between_h025 tx s26 fcd fhe v0 hm ou = ou + hm + 1 ∧ ∀ i, (i < 200 * tx + ou ∨ 200 * tx + 200 ≤ i) → ou + hm ≤ 200 → m_X6_between_cd tx s26 fcd fhe v0 hm ou i = fcd i := by
  unfold m_X6_between at hok
  unfold m_X6_between_cd m_X6_between_he m_X6_between_h027 m_X6_between_h025
  by_cases c : m_X6_rank v0 = 4
  · simp only [if_pos c] at hok ⊢
    have U := uw_use (s26 := s26) (v0 := 5) (by decide +kernel) h
    have F := uw_facts (tx := tx) (s26 := s26) (fcd := fcd) (fhe := fhe) (v0 := 5) (hm := hm) (ou := ou)
    by_cases c2 : (nI (m_X6_unwinds_h025 tx s26 fcd fhe 5 hm ou)) ≤ 0
    · simp only [if_pos c2] at hok ⊢
      exact ⟨hold_B hb U.1, by omega, U.2⟩
    · simp only [if_neg c2] at hok ⊢
      by_cases c3 : (m_X6_rank (fhe ((m_X6_unwinds_h025 tx s26 fcd fhe 5 hm ou) - 1))) = 4
      · simp only [if_pos c3] at hok
        exact absurd trivial hok
      · simp only [if_neg c3] at hok ⊢
        exact ⟨hold_B hb U.1, by omega, U.2⟩
  · simp only [if_neg c]
    have U := uw_use (s26 := s26) (v0 := m_X6_rank v0) (rank_B hb) h
    have F := uw_facts (tx := tx) (s26 := s26) (fcd := fcd) (fhe := fhe) (v0 := m_X6_rank v0) (hm := hm) (ou := ou)
    exact ⟨hold_B hb U.1, by omega, U.2⟩
theorem bt_any {tx sp hm ou : Nat} {s26 : Int32} {fcd fhe : Nat → Int32} {v0 : Int32} (hb : isB v0) (h : eI fcd fhe tx sp ou hm 0) : (ou ≤ m_X6_between_h027 tx s26 fcd fhe v0 hm ou ∧ m_X6_between_h027 tx s26 fcd fhe v0 hm ou ≤ ou + hm) ∧ ∀ i, (i < 200 * tx + ou ∨ 200 * tx + 200 ≤ i) → ou + hm ≤ 200 → m_X6_between_cd tx s26 fcd fhe v0 hm ou i = fcd i := by
  unfold m_X6_between_cd m_X6_between_h027
  by_cases c : m_X6_rank v0 = 4
  · simp only [if_pos c]
    have U := uw_use (s26 := s26) (v0 := 5) (by decide +kernel) h
    have F := uw_facts (tx := tx) (s26 := s26) (fcd := fcd) (fhe := fhe) (v0 := 5) (hm := hm) (ou := ou)
    exact ⟨by omega, U.2⟩
  · simp only [if_neg c]
    have U := uw_use (s26 := s26) (v0 := m_X6_rank v0) (rank_B hb) h
    have F := uw_facts (tx := tx) (s26 := s26) (fcd := fcd) (fhe := fhe) (v0 := m_X6_rank v0) (hm := hm) (ou := ou)
    exact ⟨by omega, U.2⟩
noncomputable def eRun (tx td : Nat) (ftp fwo : Nat → Int32) : Nat → Nat → Nat → Nat → Int32 → (Nat → Int32) → (Nat → Int32) → Int32 → Int32 → Option (Bool × Nat × Nat × Int32 × (Nat → Int32) × (Nat → Int32))
  | 0, _, _, _, _, _, _, _, _ => none
  | q9 + 1, za1, hm1, ou1, op1, yc, yh, wv, mn => if wv = 0 then (if (m_X6_next_h021 td ftp fwo za1) = 59 then (if (nI (m_X6_unwinds_h025 tx op1 yc yh 1 hm1 ou1)) = 0 then some (true, (m_X6_next_h019 td ftp za1), (m_X6_unwinds_h027 tx op1 yc yh 1 hm1 ou1), (m_X6_next_h020 td ftp za1), (m_X6_unwinds_cd tx op1 yc yh 1 hm1 ou1), yh) else some (false, (m_X6_next_h019 td ftp za1), (m_X6_unwinds_h027 tx op1 yc yh 1 hm1 ou1), (m_X6_next_h020 td ftp za1), (m_X6_unwinds_cd tx op1 yc yh 1 hm1 ou1), yh)) else (if (m_X6_next_h021 td ftp fwo za1) = 41 then (if (nI (m_X6_unwinds_h025 tx op1 yc yh 1 hm1 ou1)) = 0 then some (false, (m_X6_next_h019 td ftp za1), (m_X6_unwinds_h027 tx op1 yc yh 1 hm1 ou1), (m_X6_next_h020 td ftp za1), (m_X6_unwinds_cd tx op1 yc yh 1 hm1 ou1), yh) else eRun tx td ftp fwo q9 (m_X6_next_h019 td ftp za1) (m_X6_unwinds_h025 tx ((m_X6_unwinds_h026 tx op1 yc yh 1 hm1 ou1) - 1) (m_X6_unwinds_cd tx op1 yc yh 1 hm1 ou1) yh 7 ((m_X6_unwinds_h025 tx op1 yc yh 1 hm1 ou1) - 1) (m_X6_unwinds_h027 tx op1 yc yh 1 hm1 ou1)) (m_X6_unwinds_h027 tx ((m_X6_unwinds_h026 tx op1 yc yh 1 hm1 ou1) - 1) (m_X6_unwinds_cd tx op1 yc yh 1 hm1 ou1) yh 7 ((m_X6_unwinds_h025 tx op1 yc yh 1 hm1 ou1) - 1) (m_X6_unwinds_h027 tx op1 yc yh 1 hm1 ou1)) (m_X6_unwinds_h026 tx ((m_X6_unwinds_h026 tx op1 yc yh 1 hm1 ou1) - 1) (m_X6_unwinds_cd tx op1 yc yh 1 hm1 ou1) yh 7 ((m_X6_unwinds_h025 tx op1 yc yh 1 hm1 ou1) - 1) (m_X6_unwinds_h027 tx op1 yc yh 1 hm1 ou1)) (m_X6_unwinds_cd tx ((m_X6_unwinds_h026 tx op1 yc yh 1 hm1 ou1) - 1) (m_X6_unwinds_cd tx op1 yc yh 1 hm1 ou1) yh 7 ((m_X6_unwinds_h025 tx op1 yc yh 1 hm1 ou1) - 1) (m_X6_unwinds_h027 tx op1 yc yh 1 hm1 ou1)) yh wv mn) else (if (m_X6_signOf (m_X6_next_h021 td ftp fwo za1)) = (-1) then some (false, (m_X6_next_h019 td ftp za1), ou1, (m_X6_next_h020 td ftp za1), yc, yh) else (if (m_X6_between tx op1 yc yh (m_X6_signOf (m_X6_next_h021 td ftp fwo za1)) hm1 ou1) = 0 then some (false, (m_X6_next_h019 td ftp za1), (m_X6_between_h027 tx op1 yc yh (m_X6_signOf (m_X6_next_h021 td ftp fwo za1)) hm1 ou1), (m_X6_next_h020 td ftp za1), (m_X6_between_cd tx op1 yc yh (m_X6_signOf (m_X6_next_h021 td ftp fwo za1)) hm1 ou1), (m_X6_between_he tx op1 yc yh (m_X6_signOf (m_X6_next_h021 td ftp fwo za1)) hm1 ou1)) else (if 12 < (m_X6_signOf (m_X6_next_h021 td ftp fwo za1)) then eRun tx td ftp fwo q9 (m_X6_next_h019 td ftp za1) (m_X6_between_h025 tx op1 yc yh (m_X6_signOf (m_X6_next_h021 td ftp fwo za1)) hm1 ou1) (m_X6_between_h027 tx op1 yc yh (m_X6_signOf (m_X6_next_h021 td ftp fwo za1)) hm1 ou1) (m_X6_between_h026 tx op1 yc yh (m_X6_signOf (m_X6_next_h021 td ftp fwo za1)) hm1 ou1) (m_X6_between_cd tx op1 yc yh (m_X6_signOf (m_X6_next_h021 td ftp fwo za1)) hm1 ou1) (m_X6_between_he tx op1 yc yh (m_X6_signOf (m_X6_next_h021 td ftp fwo za1)) hm1 ou1) 1 0 else eRun tx td ftp fwo q9 (m_X6_next_h019 td ftp za1) (m_X6_between_h025 tx op1 yc yh (m_X6_signOf (m_X6_next_h021 td ftp fwo za1)) hm1 ou1) (m_X6_between_h027 tx op1 yc yh (m_X6_signOf (m_X6_next_h021 td ftp fwo za1)) hm1 ou1) (m_X6_between_h026 tx op1 yc yh (m_X6_signOf (m_X6_next_h021 td ftp fwo za1)) hm1 ou1) (m_X6_between_cd tx op1 yc yh (m_X6_signOf (m_X6_next_h021 td ftp fwo za1)) hm1 ou1) (m_X6_between_he tx op1 yc yh (m_X6_signOf (m_X6_next_h021 td ftp fwo za1)) hm1 ou1) 1 1))))) else (if (m_X6_next_h021 td ftp fwo za1) = 1 then eRun tx td ftp fwo q9 (m_X6_next_h019 td ftp za1) (m_X6_unwinds_h025 tx op1 (upd yc ((200 * tx) + ou1) (100000 + (m_X6_next_h022 td ftp fwo za1))) yh 7 hm1 ((ou1 + 1))) (m_X6_unwinds_h027 tx op1 (upd yc ((200 * tx) + ou1) (100000 + (m_X6_next_h022 td ftp fwo za1))) yh 7 hm1 ((ou1 + 1))) (m_X6_unwinds_h026 tx op1 (upd yc ((200 * tx) + ou1) (100000 + (m_X6_next_h022 td ftp fwo za1))) yh 7 hm1 ((ou1 + 1))) (m_X6_unwinds_cd tx op1 (upd yc ((200 * tx) + ou1) (100000 + (m_X6_next_h022 td ftp fwo za1))) yh 7 hm1 ((ou1 + 1))) yh 0 mn else (if (m_X6_next_h021 td ftp fwo za1) = 2 then eRun tx td ftp fwo q9 (m_X6_next_h019 td ftp za1) (m_X6_unwinds_h025 tx op1 (upd yc ((200 * tx) + ou1) (m_X6_next_h022 td ftp fwo za1)) yh 7 hm1 ((ou1 + 1))) (m_X6_unwinds_h027 tx op1 (upd yc ((200 * tx) + ou1) (m_X6_next_h022 td ftp fwo za1)) yh 7 hm1 ((ou1 + 1))) (m_X6_unwinds_h026 tx op1 (upd yc ((200 * tx) + ou1) (m_X6_next_h022 td ftp fwo za1)) yh 7 hm1 ((ou1 + 1))) (m_X6_unwinds_cd tx op1 (upd yc ((200 * tx) + ou1) (m_X6_next_h022 td ftp fwo za1)) yh 7 hm1 ((ou1 + 1))) yh 0 mn else (if (m_X6_next_h021 td ftp fwo za1) = 6 then (if mn = 0 then (if (m_X6_next_h021 td ftp fwo za1) = 45 then (if (m_X6_opensOne op1) = 0 then some (false, (m_X6_next_h019 td ftp za1), ou1, (m_X6_next_h020 td ftp za1), yc, (m_X6_opensOne_he op1 yh 19 hm1)) else eRun tx td ftp fwo q9 (m_X6_next_h019 td ftp za1) (m_X6_opensOne_h025 op1 hm1) ou1 (m_X6_opensOne_h026 op1) yc (m_X6_opensOne_he op1 yh 19 hm1) wv 0) else (if (m_X6_next_h021 td ftp fwo za1) = 40 then (if (m_X6_opensOne op1) = 0 then some (false, (m_X6_next_h019 td ftp za1), ou1, (m_X6_next_h020 td ftp za1), yc, (m_X6_opensOne_he op1 yh 0 hm1)) else eRun tx td ftp fwo q9 (m_X6_next_h019 td ftp za1) (m_X6_opensOne_h025 op1 hm1) ou1 (m_X6_opensOne_h026 op1) yc (m_X6_opensOne_he op1 yh 0 hm1) wv 1) else some (false, (m_X6_next_h019 td ftp za1), ou1, (m_X6_next_h020 td ftp za1), yc, yh))) else (if (m_X6_opensOne op1) = 0 then some (false, (m_X6_next_h019 td ftp za1), ou1, (m_X6_next_h020 td ftp za1), yc, (m_X6_opensOne_he op1 yh 13 hm1)) else eRun tx td ftp fwo q9 (m_X6_next_h019 td ftp za1) (m_X6_opensOne_h025 op1 hm1) ou1 (m_X6_opensOne_h026 op1) yc (m_X6_opensOne_he op1 yh 13 hm1) wv mn)) else (if (m_X6_next_h021 td ftp fwo za1) = 45 then (if (m_X6_opensOne op1) = 0 then some (false, (m_X6_next_h019 td ftp za1), ou1, (m_X6_next_h020 td ftp za1), yc, (m_X6_opensOne_he op1 yh 19 hm1)) else eRun tx td ftp fwo q9 (m_X6_next_h019 td ftp za1) (m_X6_opensOne_h025 op1 hm1) ou1 (m_X6_opensOne_h026 op1) yc (m_X6_opensOne_he op1 yh 19 hm1) wv 0) else (if (m_X6_next_h021 td ftp fwo za1) = 40 then (if (m_X6_opensOne op1) = 0 then some (false, (m_X6_next_h019 td ftp za1), ou1, (m_X6_next_h020 td ftp za1), yc, (m_X6_opensOne_he op1 yh 0 hm1)) else eRun tx td ftp fwo q9 (m_X6_next_h019 td ftp za1) (m_X6_opensOne_h025 op1 hm1) ou1 (m_X6_opensOne_h026 op1) yc (m_X6_opensOne_he op1 yh 0 hm1) wv 1) else some (false, (m_X6_next_h019 td ftp za1), ou1, (m_X6_next_h020 td ftp za1), yc, yh))))))
theorem eRun_s {tx td : Nat} {ftp fwo : Nat → Int32} {x : Bool × Nat × Nat × Int32 × (Nat → Int32) × (Nat → Int32)} : ∀ (n za1 hm1 ou1 : Nat) (op1 : Int32) (yc yh : Nat → Int32) (wv mn : Int32), eRun tx td ftp fwo n za1 hm1 ou1 op1 yc yh wv mn = some x → eRun tx td ftp fwo (n + 1) za1 hm1 ou1 op1 yc yh wv mn = some x
  | 0, _, _, _, _, _, _, _, _, h => by rw [eRun] at h; cases h
  | q9 + 1, za1, hm1, ou1, op1, yc, yh, wv, mn, h => by
    rw [eRun] at h ⊢
    by_cases c2 : wv = 0
    · rw [if_pos c2] at h ⊢
      by_cases c3 : (m_X6_next_h021 td ftp fwo za1) = 59
      · rw [if_pos c3] at h ⊢
        by_cases c4 : (nI (m_X6_unwinds_h025 tx op1 yc yh 1 hm1 ou1)) = 0
        · rw [if_pos c4] at h ⊢
          exact h
        · rw [if_neg c4] at h ⊢
          exact h
      · rw [if_neg c3] at h ⊢
        by_cases c4 : (m_X6_next_h021 td ftp fwo za1) = 41
        · rw [if_pos c4] at h ⊢
          by_cases c5 : (nI (m_X6_unwinds_h025 tx op1 yc yh 1 hm1 ou1)) = 0
          · rw [if_pos c5] at h ⊢
            exact h
          · rw [if_neg c5] at h ⊢
            exact eRun_s q9 _ _ _ _ _ _ _ _ h
        · rw [if_neg c4] at h ⊢
          by_cases c5 : (m_X6_signOf (m_X6_next_h021 td ftp fwo za1)) = (-1)
          · rw [if_pos c5] at h ⊢
            exact h
          · rw [if_neg c5] at h ⊢
            by_cases c6 : (m_X6_between tx op1 yc yh (m_X6_signOf (m_X6_next_h021 td ftp fwo za1)) hm1 ou1) = 0
            · rw [if_pos c6] at h ⊢
              exact h
            · rw [if_neg c6] at h ⊢
              by_cases c7 : 12 < (m_X6_signOf (m_X6_next_h021 td ftp fwo za1))
              · rw [if_pos c7] at h ⊢
                exact eRun_s q9 _ _ _ _ _ _ _ _ h
              · rw [if_neg c7] at h ⊢
                exact eRun_s q9 _ _ _ _ _ _ _ _ h
    · rw [if_neg c2] at h ⊢
      by_cases c3 : (m_X6_next_h021 td ftp fwo za1) = 1
      · rw [if_pos c3] at h ⊢
        exact eRun_s q9 _ _ _ _ _ _ _ _ h
      · rw [if_neg c3] at h ⊢
        by_cases c4 : (m_X6_next_h021 td ftp fwo za1) = 2
        · rw [if_pos c4] at h ⊢
          exact eRun_s q9 _ _ _ _ _ _ _ _ h
        · rw [if_neg c4] at h ⊢
          by_cases c5 : (m_X6_next_h021 td ftp fwo za1) = 6
          · rw [if_pos c5] at h ⊢
            by_cases c6 : mn = 0
            · rw [if_pos c6] at h ⊢
              by_cases c7 : (m_X6_next_h021 td ftp fwo za1) = 45
              · rw [if_pos c7] at h ⊢
                by_cases c8 : (m_X6_opensOne op1) = 0
                · rw [if_pos c8] at h ⊢
                  exact h
                · rw [if_neg c8] at h ⊢
                  exact eRun_s q9 _ _ _ _ _ _ _ _ h
              · rw [if_neg c7] at h ⊢
                by_cases c8 : (m_X6_next_h021 td ftp fwo za1) = 40
                · rw [if_pos c8] at h ⊢
                  by_cases c9 : (m_X6_opensOne op1) = 0
                  · rw [if_pos c9] at h ⊢
                    exact h
                  · rw [if_neg c9] at h ⊢
                    exact eRun_s q9 _ _ _ _ _ _ _ _ h
                · rw [if_neg c8] at h ⊢
                  exact h
            · rw [if_neg c6] at h ⊢
              by_cases c7 : (m_X6_opensOne op1) = 0
              · rw [if_pos c7] at h ⊢
                exact h
              · rw [if_neg c7] at h ⊢
                exact eRun_s q9 _ _ _ _ _ _ _ _ h
          · rw [if_neg c5] at h ⊢
            by_cases c6 : (m_X6_next_h021 td ftp fwo za1) = 45
            · rw [if_pos c6] at h ⊢
              by_cases c7 : (m_X6_opensOne op1) = 0
              · rw [if_pos c7] at h ⊢
                exact h
              · rw [if_neg c7] at h ⊢
                exact eRun_s q9 _ _ _ _ _ _ _ _ h
            · rw [if_neg c6] at h ⊢
              by_cases c7 : (m_X6_next_h021 td ftp fwo za1) = 40
              · rw [if_pos c7] at h ⊢
                by_cases c8 : (m_X6_opensOne op1) = 0
                · rw [if_pos c8] at h ⊢
                  exact h
                · rw [if_neg c8] at h ⊢
                  exact eRun_s q9 _ _ _ _ _ _ _ _ h
              · rw [if_neg c7] at h ⊢
                exact h
theorem eRun_m {tx td : Nat} {ftp fwo : Nat → Int32} {x : Bool × Nat × Nat × Int32 × (Nat → Int32) × (Nat → Int32)} {za hm ou : Nat} {op : Int32} {yc yh : Nat → Int32} {wv mn : Int32} {n : Nat} (h : eRun tx td ftp fwo n za hm ou op yc yh wv mn = some x) : ∀ k : Nat, eRun tx td ftp fwo (n + k) za hm ou op yc yh wv mn = some x
  | 0 => h
  | k + 1 => eRun_s _ _ _ _ _ _ _ _ _ (eRun_m h k)
theorem eRun_1 {tx td : Nat} {ftp fwo : Nat → Int32} {x y : Bool × Nat × Nat × Int32 × (Nat → Int32) × (Nat → Int32)} {za hm ou : Nat} {op : Int32} {yc yh : Nat → Int32} {wv mn : Int32} {n k : Nat} (h : eRun tx td ftp fwo n za hm ou op yc yh wv mn = some x) (h2 : eRun tx td ftp fwo k za hm ou op yc yh wv mn = some y) : x = y := by
  have a := eRun_m h k
  have b := eRun_m h2 n
  rw [Nat.add_comm] at b
  rw [a] at b
  exact Option.some.inj b

abbrev q_X6_eRead (G : gG) (h0 kd mo st ro tp cd sr ir ih ss sq ce lw wo he sk na kp gb go fa ga vo : Nat) (pb : Nat) (jg : Nat) (td : Nat) (tx : Nat) (ru : Nat) (him : Int32) (s20 : Int32) (s21 : Int32) (s22 : Int32) (s25 : Int32) (s26 : Int32) (s31 : Int32) (s32 : Int32) (s33 : Int32) (s34 : Int32) (s39 : Int32) (s40 : Int32) (fcd : Nat → Int32) (fhe : Nat → Int32) (ftp : Nat → Int32) (fwo : Nat → Int32) (za : Nat) (ou : Nat) (A : Nat → Prop) : Array Value → State → Outcome → State → Prop := va_Qi (fun (r : Int32) (u : Nat × Nat × Int32 × Int32 × Int32 × Int32 × Int32 × (Nat → Int32) × (Nat → Int32)) => match u with | (zza, zou, zhm, zop, zb, zt, zv, ycd, yhe) => (r = 0 ∨ r = 1) ∧ (r = 1 → dp (eF ycd tx) ou (zou - ou) = some 1) ∧ zza ≤ td ∧ zou + 1 ≤ zza ∧ ou ≤ zou ∧ (∀ i, (i < 200 * tx + ou ∨ 200 * tx + 200 ≤ i) → ycd i = fcd i) ∧ ∃ j9 b9, eRun tx td ftp fwo j9 za 0 ou 0 fcd fhe 1 1 = some (b9, zza, zou, zb, ycd, yhe) ∧ r = bz b9) (fun (u : Nat × Nat × Int32 × Int32 × Int32 × Int32 × Int32 × (Nat → Int32) × (Nat → Int32)) t => match u with | (zza, zou, zhm, zop, zb, zt, zv, ycd, yhe) => va_P G.1 vwCl [zo6 h0 (nI pb) kd mo st (nI jg) ro tp (nI td) cd sr (nI tx) (nI ru) him ir ih ss sq ce lw (nI zza) zb zt zv wo he zhm zop (nI zou) sk na kp s31 s32 s33 s34 gb go fa ga s39 s40 vo, zi G cd 1200 ycd, zi G he 200 yhe, zi G tp 160 ftp, zi G wo 96 fwo] t.heap ∧ gK G t ∧ va_D A [zo6 h0 (nI pb) kd mo st (nI jg) ro tp (nI td) cd sr (nI tx) (nI ru) him ir ih ss sq ce lw (nI zza) zb zt zv wo he zhm zop (nI zou) sk na kp s31 s32 s33 s34 gb go fa ga s39 s40 vo, zi G cd 1200 ycd, zi G he 200 yhe, zi G tp 160 ftp, zi G wo 96 fwo]) A
set_option maxHeartbeats 4000000 in
set_option maxRecDepth 100000 in
theorem c_X6_eRead (l : Launch) (G : gG) (h0 kd mo st ro tp cd sr ir ih ss sq ce lw wo he sk na kp gb go fa ga vo : Nat) (pb : Nat) (jg : Nat) (td : Nat) (tx : Nat) (ru : Nat) (him : Int32) (s20 : Int32) (s21 : Int32) (s22 : Int32) (s25 : Int32) (s26 : Int32) (s31 : Int32) (s32 : Int32) (s33 : Int32) (s34 : Int32) (s39 : Int32) (s40 : Int32) (fcd : Nat → Int32) (fhe : Nat → Int32) (ftp : Nat → Int32) (fwo : Nat → Int32) (za : Nat) (ou : Nat) (sz : Nat) (htd : td ≤ 160) (hza : za ≤ td ∧ ou + 1 ≤ za) (htx : tx < 6) : Met l yX6_eRead wsX6_eRead ({ frames := 3, cells := 0, slots := 0, locals := 64 }) (gPre G [.ref h0] [zo6 h0 (nI pb) kd mo st (nI jg) ro tp (nI td) cd sr (nI tx) (nI ru) him ir ih ss sq ce lw (nI za) s20 s21 s22 wo he s25 s26 (nI ou) sk na kp s31 s32 s33 s34 gb go fa ga s39 s40 vo, zi G cd 1200 fcd, zi G he 200 fhe, zi G tp 160 ftp, zi G wo 96 fwo] sz) (q_X6_eRead G h0 kd mo st ro tp cd sr ir ih ss sq ce lw wo he sk na kp gb go fa ga vo pb jg td tx ru him s20 s21 s22 s25 s26 s31 s32 s33 s34 s39 s40 fcd fhe ftp fwo za ou (va_A [zo6 h0 (nI pb) kd mo st (nI jg) ro tp (nI td) cd sr (nI tx) (nI ru) him ir ih ss sq ce lw (nI za) s20 s21 s22 wo he s25 s26 (nI ou) sk na kp s31 s32 s33 s34 gb go fa ga s39 s40 vo, zi G cd 1200 fcd, zi G he 200 fhe, zi G tp 160 ftp, zi G wo 96 fwo] sz)) 0 0 (va_A [zo6 h0 (nI pb) kd mo st (nI jg) ro tp (nI td) cd sr (nI tx) (nI ru) him ir ih ss sq ce lw (nI za) s20 s21 s22 wo he s25 s26 (nI ou) sk na kp s31 s32 s33 s34 gb go fa ga s39 s40 vo, zi G cd 1200 fcd, zi G he 200 fhe, zi G tp 160 ftp, zi G wo 96 fwo] sz) := by
  refine Met.ofW (cc := cX6_eRead) (maxL := 4) (ret := (some .boolean)) (by decide +kernel) rfl ?_
  intro p e s m args below meth c s₁ B hml hv
  obtain ⟨rfl, hsz, hP, hK, hD0⟩ := hv
  have hx := B.exec
  have hb := B.bytes
  have hr := B.returns
  have hts := atoms_spec (ws := wsX6_eRead) B.pre
  have hown : s.vm.findClass RX6 = some m.cls := findClass_of_methodNamed B.named
  have hlocks := B.notSynchronized
  subst hsz
  have hD := hD0.self (sz := s.heap.size)
  generalize hAe : va_A [zo6 h0 (nI pb) kd mo st (nI jg) ro tp (nI td) cd sr (nI tx) (nI ru) him ir ih ss sq ce lw (nI za) s20 s21 s22 wo he s25 s26 (nI ou) sk na kp s31 s32 s33 s34 gb go fa ga s39 s40 vo, zi G cd 1200 fcd, zi G he 200 fhe, zi G tp 160 ftp, zi G wo 96 fwo] s.heap.size = A at hD ⊢
  have hA : ∀ q : Nat, s.heap.size ≤ q → A q := fun q h => by rw [← hAe]; exact Or.inr h
  have hS : va_S A s.heap s.heap [] := va_S.rf
  have hz9 : gPD G A [zo6 h0 (nI pb) kd mo st (nI jg) ro tp (nI td) cd sr (nI tx) (nI ru) him ir ih ss sq ce lw (nI za) s20 s21 s22 wo he s25 s26 (nI ou) sk na kp s31 s32 s33 s34 gb go fa ga s39 s40 vo, zi G cd 1200 fcd, zi G he 200 fhe, zi G tp 160 ftp, zi G wo 96 fwo] s.heap := ⟨hP, hD⟩
  have hP := hz9.1
  have hD := hz9.2
  have hl := lv_entry ([.ref h0]) (n := 4) (Nat.le_of_ble_eq_true rfl)
  rw [lg_entry_eq]
  generalize (lg_sl ([.ref h0]) ++ List.replicate (4 - (lg_sl ([.ref h0])).length) Slot.unset).toArray = ls at hl ⊢
  have hl : lv_has ls 4 [zR 0 h0] := hl
  have kf130 := hts (.fieldLink RX6 130 "PebbleInShoeModel" "heldMany" "I") (by decide +kernel)
  have hiX6 := (by decide +kernel : ∀ w ∈ wsX60, w ∈ wsX6_eRead)
  have kf137 := hts (.fieldLink RX6 137 "PebbleInShoeModel" "opens" "I") (by decide +kernel)
  have kf117 := hts (.fieldLink RX6 117 "PebbleInShoeModel" "token" "I") (by decide +kernel)
  have kf120 := hts (.fieldLink RX6 120 "PebbleInShoeModel" "value" "I") (by decide +kernel)
  refine lv_aload_n hx hb dX6_eRead_0 rfl (lv_at hl 0 rfl) ?_
  refine lv_iconst (v := 0) hx hb dX6_eRead_1 (by decide +kernel) ?_
  refine va_put (D := G.1) (ci := 6) (v := .int 0) (ty := .int) (C := RX6) (T := TX6) (N := 42) hx hb hts hiX6 tyX6 tyX6_ok nmX6 hown hK hP hD hS 0 rfl rfl 25 (by decide +kernel) kf130 (fun _ h9 => h9) rfl (by decide +kernel) rfl rfl (Nat.le_of_ble_eq_true rfl) dX6_eRead_2 (fun H locs hP hD hS => ?_)
  have hz9 : gPD G A [zo6 h0 (nI pb) kd mo st (nI jg) ro tp (nI td) cd sr (nI tx) (nI ru) him ir ih ss sq ce lw (nI za) s20 s21 s22 wo he 0 s26 (nI ou) sk na kp s31 s32 s33 s34 gb go fa ga s39 s40 vo, zi G cd 1200 fcd, zi G he 200 fhe, zi G tp 160 ftp, zi G wo 96 fwo] H := ⟨hP, hD⟩
  have hP := hz9.1
  have hD := hz9.2
  refine lv_aload_n hx hb dX6_eRead_5 rfl (lv_at hl 0 rfl) ?_
  refine lv_iconst (v := 0) hx hb dX6_eRead_6 (by decide +kernel) ?_
  refine va_put (D := G.1) (ci := 6) (v := .int 0) (ty := .int) (C := RX6) (T := TX6) (N := 42) hx hb hts hiX6 tyX6 tyX6_ok nmX6 hown hK hP hD hS 0 rfl rfl 26 (by decide +kernel) kf137 (fun _ h9 => h9) rfl (by decide +kernel) rfl rfl (Nat.le_of_ble_eq_true rfl) dX6_eRead_7 (fun H locs hP hD hS => ?_)
  have hz9 : gPD G A [zo6 h0 (nI pb) kd mo st (nI jg) ro tp (nI td) cd sr (nI tx) (nI ru) him ir ih ss sq ce lw (nI za) s20 s21 s22 wo he 0 0 (nI ou) sk na kp s31 s32 s33 s34 gb go fa ga s39 s40 vo, zi G cd 1200 fcd, zi G he 200 fhe, zi G tp 160 ftp, zi G wo 96 fwo] H := ⟨hP, hD⟩
  have hP := hz9.1
  have hD := hz9.2
  refine lv_iconst (v := 1) hx hb dX6_eRead_10 (by decide +kernel) ?_
  refine lv_istore_n (lv' := [zI 1 1, zR 0 h0]) hx hb dX6_eRead_11 rfl hl (by decide +kernel) rfl (fun ls hl => ?_)
  refine lv_iconst (v := 1) hx hb dX6_eRead_12 (by decide +kernel) ?_
  refine lv_istore_n (lv' := [zI 2 1, zI 1 1, zR 0 h0]) hx hb dX6_eRead_13 rfl hl (by decide +kernel) rfl (fun ls hl => ?_)
  have loop_14 : ∀ (n9 : Nat) (za1 : Nat) (hm1 : Nat) (ou1 : Nat) (op1 : Int32) (b1 : Int32) (t1 : Int32) (v1 : Int32) (yc : Nat → Int32) (yh : Nat → Int32) (wv : Int32) (mn : Int32) (j9 : Nat), (za1 ≤ td ∧ ou1 + hm1 + 1 ≤ za1) → (ou ≤ ou1) → ((wv = 1 ∧ eI yc yh tx ou ou1 hm1 1) ∨ (wv = 0 ∧ eI yc yh tx ou ou1 hm1 0)) → ((∀ i, (i < 200 * tx + ou ∨ 200 * tx + 200 ≤ i) → yc i = fcd i)) → (∀ q, eRun tx td ftp fwo (q + j9) za 0 ou 0 fcd fhe 1 1 = eRun tx td ftp fwo q za1 hm1 ou1 op1 yc yh wv mn) → (td - za1) < n9 → ∀ (H : Heap) (locs : List Loc), va_P G.1 vwCl [zo6 h0 (nI pb) kd mo st (nI jg) ro tp (nI td) cd sr (nI tx) (nI ru) him ir ih ss sq ce lw (nI za1) b1 t1 v1 wo he (nI hm1) op1 (nI ou1) sk na kp s31 s32 s33 s34 gb go fa ga s39 s40 vo, zi G cd 1200 yc, zi G he 200 yh, zi G tp 160 ftp, zi G wo 96 fwo] H → va_D A [zo6 h0 (nI pb) kd mo st (nI jg) ro tp (nI td) cd sr (nI tx) (nI ru) him ir ih ss sq ce lw (nI za1) b1 t1 v1 wo he (nI hm1) op1 (nI ou1) sk na kp s31 s32 s33 s34 gb go fa ga s39 s40 vo, zi G cd 1200 yc, zi G he 200 yh, zi G tp 160 ftp, zi G wo 96 fwo] → va_S A s.heap H locs → ∀ ls : Array Slot, lv_has ls 4 [zR 0 h0, zI 1 wv, zI 2 mn] → W p l e (headSpec wsX6_eRead ({ frames := 3, cells := 0, slots := 0, locals := 64 })).room s m ([.ref h0] : List Value).toArray below meth c H locs 0 0 (MQ below (q_X6_eRead G h0 kd mo st ro tp cd sr ir ih ss sq ce lw wo he sk na kp gb go fa ga vo pb jg td tx ru him s20 s21 s22 s25 s26 s31 s32 s33 s34 s39 s40 fcd fhe ftp fwo za ou A) ([.ref h0] : List Value).toArray s 0 0 A) (F0 m 14 ls []) := by
    intro n9
    induction n9 with
    | zero => intro za1 hm1 ou1 op1 b1 t1 v1 yc yh wv mn j9 hz ho hI hu hF hm9; exact absurd hm9 (Nat.not_lt_zero _)
    | succ n9 ih9 =>
      intro za1 hm1 ou1 op1 b1 t1 v1 yc yh wv mn j9 hz ho hI hu hF hm9 H locs hP hD hS ls hl
      refine lv_aload_n hx hb dX6_eRead_14 rfl (lv_at hl 0 rfl) ?_
      have hz9 : gPD G A [zo6 h0 (nI pb) kd mo st (nI jg) ro tp (nI td) cd sr (nI tx) (nI ru) him ir ih ss sq ce lw (nI za1) b1 t1 v1 wo he (nI hm1) op1 (nI ou1) sk na kp s31 s32 s33 s34 gb go fa ga s39 s40 vo, zi G tp 160 ftp, zi G wo 96 fwo] H := ⟨hP.sub [0, 3, 4] rfl, hD.sub [0, 3, 4] (by decide +kernel) rfl⟩
      have hPc := hz9.1
      have hDc := hz9.2
      have hFc := gFree hPc hD hS hA [0, 3, 4] rfl
      refine va_callv (va_runV (As := []) (rest := []) ⟨hx, hb, hml, hown, hts⟩ (c_X6_next_b l G h0 kd mo st ro tp cd sr ir ih ss sq ce lw wo he sk na kp gb go fa ga vo pb jg td tx ru him b1 t1 v1 (nI hm1) op1 (nI ou1) s31 s32 s33 s34 s39 s40 ftp fwo za1 H.size (htd) (by omega)) (cwV 0 hts gX6_eRead_X6_next rfl rfl rfl (by decide +kernel) ⟨Nat.le_of_ble_eq_true rfl, Nat.le_of_ble_eq_true rfl⟩) ⟨gPre_blind, va_recv hK hPc (ci := 6) (q0 := 0) rfl rfl, fun U hU hW => gPre_of hU hW hK hPc hDc⟩ rfl rfl hl.1 rfl (lv_room (Nat.le_of_ble_eq_true rfl)) dX6_eRead_15 ⟨Nat.le_of_ble_eq_true rfl, Nat.le_of_ble_eq_true rfl⟩) hS (fun q _ h => hFc q h) hFc (fun u t H locs ht hvm w_2 hB hz1 hk1 hS => ?_)
      obtain ⟨hP1, hK1, hD1⟩ := hB
      rw [ht] at hP1
      have hz9 : gPD G (va_A _ _) [zo6 h0 (nI pb) kd mo st (nI jg) ro tp (nI td) cd sr (nI tx) (nI ru) him ir ih ss sq ce lw (nI (m_X6_next_h019 td ftp za1)) (m_X6_next_h020 td ftp za1) (m_X6_next_h021 td ftp fwo za1) (m_X6_next_h022 td ftp fwo za1) wo he (nI hm1) op1 (nI ou1) sk na kp s31 s32 s33 s34 gb go fa ga s39 s40 vo, zi G tp 160 ftp, zi G wo 96 fwo] H := ⟨hP1, hD1⟩
      have hP1 := hz9.1
      have hD1 := hz9.2
      have w_2 : za1 ≤ (m_X6_next_h019 td ftp za1) ∧ (m_X6_next_h019 td ftp za1) ≤ td ∧ (¬ (m_X6_next_h021 td ftp fwo za1) = 0 → za1 < (m_X6_next_h019 td ftp za1)) ∧ ((m_X6_next_h021 td ftp fwo za1) = 2 → 0 ≤ (m_X6_next_h022 td ftp fwo za1) ∧ (m_X6_next_h022 td ftp fwo za1) < 6) ∧ ((m_X6_next_h021 td ftp fwo za1) = 1 → 100000 ≤ 100000 + (m_X6_next_h022 td ftp fwo za1)) := w_2
      have hz9 : gPD G A [zi G cd 1200 yc, zi G he 200 yh, zo6 h0 (nI pb) kd mo st (nI jg) ro tp (nI td) cd sr (nI tx) (nI ru) him ir ih ss sq ce lw (nI (m_X6_next_h019 td ftp za1)) (m_X6_next_h020 td ftp za1) (m_X6_next_h021 td ftp fwo za1) (m_X6_next_h022 td ftp fwo za1) wo he (nI hm1) op1 (nI ou1) sk na kp s31 s32 s33 s34 gb go fa ga s39 s40 vo, zi G tp 160 ftp, zi G wo 96 fwo] H := gJoin hP hD hk1 hFc hP1 hD1 [0, 3, 4] [1, 2] rfl rfl rfl (by decide +kernel) (by decide +kernel)
      have hP := hz9.1
      have hD := hz9.2
      have hnx := w_2
      obtain ⟨hn1, hn2, hn3, hn4, hn5⟩ := hnx
      refine lv_iload_n hx hb dX6_eRead_18 rfl (lv_at hl 1 rfl) ?_
      refine lv_if_eq (tgt := 150) hx hb dX6_eRead_19 (by decide +kernel) (fun c_3 => ?_) (fun c_3 => ?_)
      · skip
        have hI0 := eI_w0 hI c_3
        have hw0 := c_3
        refine lv_aload_n hx hb dX6_eRead_150 rfl (lv_at hl 0 rfl) ?_
        refine va_get (D := G.1) (ci := 6) (v := .int (m_X6_next_h021 td ftp fwo za1)) (C := RX6) (T := TX6) (N := 42) hx hb hts hiX6 hown hK hP 2 rfl rfl 21 (by decide +kernel) kf117 (fun _ h9 => h9) rfl dX6_eRead_151 ?_
        refine lv_bipush (v := 59) hx hb dX6_eRead_154 (by decide +kernel) ?_
        refine lv_icmp_ne (tgt := 177) hx hb dX6_eRead_156 (by decide +kernel) (fun c_4 => ?_) (fun c_4 => ?_)
        · skip
          refine lv_aload_n hx hb dX6_eRead_177 rfl (lv_at hl 0 rfl) ?_
          refine va_get (D := G.1) (ci := 6) (v := .int (m_X6_next_h021 td ftp fwo za1)) (C := RX6) (T := TX6) (N := 42) hx hb hts hiX6 hown hK hP 2 rfl rfl 21 (by decide +kernel) kf117 (fun _ h9 => h9) rfl dX6_eRead_178 ?_
          refine lv_bipush (v := 41) hx hb dX6_eRead_181 (by decide +kernel) ?_
          refine lv_icmp_ne (tgt := 229) hx hb dX6_eRead_183 (by decide +kernel) (fun c_5 => ?_) (fun c_5 => ?_)
          · skip
            refine lv_aload_n hx hb dX6_eRead_229 rfl (lv_at hl 0 rfl) ?_
            have hz9 : gPD G A [zo6 h0 (nI pb) kd mo st (nI jg) ro tp (nI td) cd sr (nI tx) (nI ru) him ir ih ss sq ce lw (nI (m_X6_next_h019 td ftp za1)) (m_X6_next_h020 td ftp za1) (m_X6_next_h021 td ftp fwo za1) (m_X6_next_h022 td ftp fwo za1) wo he (nI hm1) op1 (nI ou1) sk na kp s31 s32 s33 s34 gb go fa ga s39 s40 vo] H := ⟨hP.sub [2] rfl, hD.sub [2] (by decide +kernel) rfl⟩
            have hPc := hz9.1
            have hDc := hz9.2
            have hFc := gFree hPc hD hS hA [2] rfl
            refine va_calli (va_runV (As := []) (rest := []) ⟨hx, hb, hml, hown, hts⟩ (c_X6_signOf_b l G h0 kd mo st ro tp cd sr ir ih ss sq ce lw wo he sk na kp gb go fa ga vo pb jg td tx ru him (nI (m_X6_next_h019 td ftp za1)) (m_X6_next_h020 td ftp za1) (m_X6_next_h021 td ftp fwo za1) (m_X6_next_h022 td ftp fwo za1) (nI hm1) op1 (nI ou1) s31 s32 s33 s34 s39 s40 H.size) (cwV 0 hts gX6_eRead_X6_signOf rfl rfl rfl (by decide +kernel) ⟨Nat.le_of_ble_eq_true rfl, Nat.le_of_ble_eq_true rfl⟩) ⟨gPre_blind, va_recv hK hPc (ci := 6) (q0 := 0) rfl rfl, fun U hU hW => gPre_of hU hW hK hPc hDc⟩ rfl rfl hl.1 rfl (lv_room (Nat.le_of_ble_eq_true rfl)) dX6_eRead_230 ⟨Nat.le_of_ble_eq_true rfl, Nat.le_of_ble_eq_true rfl⟩) hS (fun q _ h => hFc q h) hFc (fun r_6 u t H locs ht hvm w_7 hB hz1 hk1 hS => ?_)
            obtain ⟨hP1, hK1, hD1⟩ := hB
            rw [ht] at hP1
            have hz9 : gPD G (va_A _ _) [zo6 h0 (nI pb) kd mo st (nI jg) ro tp (nI td) cd sr (nI tx) (nI ru) him ir ih ss sq ce lw (nI (m_X6_next_h019 td ftp za1)) (m_X6_next_h020 td ftp za1) (m_X6_next_h021 td ftp fwo za1) (m_X6_next_h022 td ftp fwo za1) wo he (nI hm1) op1 (nI ou1) sk na kp s31 s32 s33 s34 gb go fa ga s39 s40 vo] H := ⟨hP1, hD1⟩
            have hP1 := hz9.1
            have hD1 := hz9.2
            have w_7 : r_6 = m_X6_signOf (m_X6_next_h021 td ftp fwo za1) := w_7
            have hz9 : gPD G A [zi G cd 1200 yc, zi G he 200 yh, zi G tp 160 ftp, zi G wo 96 fwo, zo6 h0 (nI pb) kd mo st (nI jg) ro tp (nI td) cd sr (nI tx) (nI ru) him ir ih ss sq ce lw (nI (m_X6_next_h019 td ftp za1)) (m_X6_next_h020 td ftp za1) (m_X6_next_h021 td ftp fwo za1) (m_X6_next_h022 td ftp fwo za1) wo he (nI hm1) op1 (nI ou1) sk na kp s31 s32 s33 s34 gb go fa ga s39 s40 vo] H := gJoin hP hD hk1 hFc hP1 hD1 [2] [0, 1, 3, 4] rfl rfl rfl (by decide +kernel) (by decide +kernel)
            have hP := hz9.1
            have hD := hz9.2
            subst w_7
            refine lv_istore_n (lv' := [zI 3 (m_X6_signOf (m_X6_next_h021 td ftp fwo za1)), zR 0 h0, zI 1 wv, zI 2 mn]) hx hb dX6_eRead_233 rfl hl (by decide +kernel) rfl (fun ls hl => ?_)
            refine lv_iload_n hx hb dX6_eRead_234 rfl (lv_at hl 0 rfl) ?_
            refine lv_iconst (v := -1) hx hb dX6_eRead_235 (by decide +kernel) ?_
            refine lv_icmp_eq (tgt := 247) hx hb dX6_eRead_236 (by decide +kernel) (fun c_8 => ?_) (fun c_8 => ?_)
            · skip
              refine lv_iconst (v := 0) hx hb dX6_eRead_247 (by decide +kernel) ?_
              have hP9 := hP.sub (ws' := [zo6 h0 (nI pb) kd mo st (nI jg) ro tp (nI td) cd sr (nI tx) (nI ru) him ir ih ss sq ce lw (nI (m_X6_next_h019 td ftp za1)) (m_X6_next_h020 td ftp za1) (m_X6_next_h021 td ftp fwo za1) (m_X6_next_h022 td ftp fwo za1) wo he (nI hm1) op1 (nI ou1) sk na kp s31 s32 s33 s34 gb go fa ga s39 s40 vo, zi G cd 1200 yc, zi G he 200 yh, zi G tp 160 ftp, zi G wo 96 fwo]) [4, 0, 1, 2, 3] rfl
              have hD9 := hD.sub (ws' := [zo6 h0 (nI pb) kd mo st (nI jg) ro tp (nI td) cd sr (nI tx) (nI ru) him ir ih ss sq ce lw (nI (m_X6_next_h019 td ftp za1)) (m_X6_next_h020 td ftp za1) (m_X6_next_h021 td ftp fwo za1) (m_X6_next_h022 td ftp fwo za1) wo he (nI hm1) op1 (nI ou1) sk na kp s31 s32 s33 s34 gb go fa ga s39 s40 vo, zi G cd 1200 yc, zi G he 200 yh, zi G tp 160 ftp, zi G wo 96 fwo]) [4, 0, 1, 2, 3] (by decide +kernel) rfl
              have hpost : (fun (r : Int32) (u : Nat × Nat × Int32 × Int32 × Int32 × Int32 × Int32 × (Nat → Int32) × (Nat → Int32)) => match u with | (zza, zou, zhm, zop, zb, zt, zv, ycd, yhe) => (r = 0 ∨ r = 1) ∧ (r = 1 → dp (eF ycd tx) ou (zou - ou) = some 1) ∧ zza ≤ td ∧ zou + 1 ≤ zza ∧ ou ≤ zou ∧ (∀ i, (i < 200 * tx + ou ∨ 200 * tx + 200 ≤ i) → ycd i = fcd i) ∧ ∃ j9 b9, eRun tx td ftp fwo j9 za 0 ou 0 fcd fhe 1 1 = some (b9, zza, zou, zb, ycd, yhe) ∧ r = bz b9) 0 ((m_X6_next_h019 td ftp za1), ou1, (nI hm1), op1, (m_X6_next_h020 td ftp za1), (m_X6_next_h021 td ftp fwo za1), (m_X6_next_h022 td ftp fwo za1), yc, yh) := by exact ⟨Or.inl rfl, fun z => absurd z (by decide +kernel), by omega, by omega, by omega, hu, ⟨1 + j9, false, by rw [hF 1, show (1 : Nat) = 0 + 1 from rfl, eRun]; rw [if_pos c_3, if_neg c_4, if_neg c_5, if_pos c_8], rfl⟩⟩
              exact W.zret (v := 0) hx hb hr (rfl) (fun t ht hW => ⟨⟨0, ((m_X6_next_h019 td ftp za1), ou1, (nI hm1), op1, (m_X6_next_h020 td ftp za1), (m_X6_next_h021 td ftp fwo za1), (m_X6_next_h022 td ftp fwo za1), yc, yh), rfl, hpost, by rw [ht]; exact hP9, va_K.moved hW.alike hK, hD9⟩, hS.F ht⟩) hS.2.2 dX6_eRead_248
            · skip
              refine lv_aload_n hx hb dX6_eRead_239 rfl (lv_at hl 1 rfl) ?_
              refine lv_iload_n hx hb dX6_eRead_240 rfl (lv_at hl 0 rfl) ?_
              have hz9 : gPD G A [zo6 h0 (nI pb) kd mo st (nI jg) ro tp (nI td) cd sr (nI tx) (nI ru) him ir ih ss sq ce lw (nI (m_X6_next_h019 td ftp za1)) (m_X6_next_h020 td ftp za1) (m_X6_next_h021 td ftp fwo za1) (m_X6_next_h022 td ftp fwo za1) wo he (nI hm1) op1 (nI ou1) sk na kp s31 s32 s33 s34 gb go fa ga s39 s40 vo, zi G cd 1200 yc, zi G he 200 yh] H := ⟨hP.sub [4, 0, 1] rfl, hD.sub [4, 0, 1] (by decide +kernel) rfl⟩
              have hPc := hz9.1
              have hDc := hz9.2
              have hFc := gFree hPc hD hS hA [4, 0, 1] rfl
              refine va_calli (va_runV (As := [.int (m_X6_signOf (m_X6_next_h021 td ftp fwo za1))]) (rest := []) ⟨hx, hb, hml, hown, hts⟩ (c_X6_between l G h0 kd mo st ro tp cd sr ir ih ss sq ce lw wo he sk na kp gb go fa ga vo pb jg td tx ru him (nI (m_X6_next_h019 td ftp za1)) (m_X6_next_h020 td ftp za1) (m_X6_next_h021 td ftp fwo za1) (m_X6_next_h022 td ftp fwo za1) op1 s31 s32 s33 s34 s39 s40 yc yh (m_X6_signOf (m_X6_next_h021 td ftp fwo za1)) hm1 ou1 H.size (by omega) (by first | exact htx | assumption | omega)) (cwV 1 hts gX6_eRead_X6_between rfl rfl rfl (by decide +kernel) ⟨Nat.le_of_ble_eq_true rfl, Nat.le_of_ble_eq_true rfl⟩) ⟨gPre_blind, va_recv hK hPc (ci := 6) (q0 := 0) rfl rfl, fun U hU hW => gPre_of hU hW hK hPc hDc⟩ rfl rfl hl.1 rfl (lv_room (Nat.le_of_ble_eq_true rfl)) dX6_eRead_241 ⟨Nat.le_of_ble_eq_true rfl, Nat.le_of_ble_eq_true rfl⟩) hS (fun q _ h => hFc q h) hFc (fun r_9 u t H locs ht hvm w_10 hB hz1 hk1 hS => ?_)
              obtain ⟨hP1, hK1, hD1⟩ := hB
              rw [ht] at hP1
              have hz9 : gPD G (va_A _ _) [zo6 h0 (nI pb) kd mo st (nI jg) ro tp (nI td) cd sr (nI tx) (nI ru) him ir ih ss sq ce lw (nI (m_X6_next_h019 td ftp za1)) (m_X6_next_h020 td ftp za1) (m_X6_next_h021 td ftp fwo za1) (m_X6_next_h022 td ftp fwo za1) wo he (nI (m_X6_between_h025 tx op1 yc yh (m_X6_signOf (m_X6_next_h021 td ftp fwo za1)) hm1 ou1)) (m_X6_between_h026 tx op1 yc yh (m_X6_signOf (m_X6_next_h021 td ftp fwo za1)) hm1 ou1) (nI (m_X6_between_h027 tx op1 yc yh (m_X6_signOf (m_X6_next_h021 td ftp fwo za1)) hm1 ou1)) sk na kp s31 s32 s33 s34 gb go fa ga s39 s40 vo, zi G cd 1200 (m_X6_between_cd tx op1 yc yh (m_X6_signOf (m_X6_next_h021 td ftp fwo za1)) hm1 ou1), zi G he 200 (m_X6_between_he tx op1 yc yh (m_X6_signOf (m_X6_next_h021 td ftp fwo za1)) hm1 ou1)] H := ⟨hP1, hD1⟩
              have hP1 := hz9.1
              have hD1 := hz9.2
              have w_10 : r_9 = m_X6_between tx op1 yc yh (m_X6_signOf (m_X6_next_h021 td ftp fwo za1)) hm1 ou1 := w_10
              have hz9 : gPD G A [zi G tp 160 ftp, zi G wo 96 fwo, zo6 h0 (nI pb) kd mo st (nI jg) ro tp (nI td) cd sr (nI tx) (nI ru) him ir ih ss sq ce lw (nI (m_X6_next_h019 td ftp za1)) (m_X6_next_h020 td ftp za1) (m_X6_next_h021 td ftp fwo za1) (m_X6_next_h022 td ftp fwo za1) wo he (nI (m_X6_between_h025 tx op1 yc yh (m_X6_signOf (m_X6_next_h021 td ftp fwo za1)) hm1 ou1)) (m_X6_between_h026 tx op1 yc yh (m_X6_signOf (m_X6_next_h021 td ftp fwo za1)) hm1 ou1) (nI (m_X6_between_h027 tx op1 yc yh (m_X6_signOf (m_X6_next_h021 td ftp fwo za1)) hm1 ou1)) sk na kp s31 s32 s33 s34 gb go fa ga s39 s40 vo, zi G cd 1200 (m_X6_between_cd tx op1 yc yh (m_X6_signOf (m_X6_next_h021 td ftp fwo za1)) hm1 ou1), zi G he 200 (m_X6_between_he tx op1 yc yh (m_X6_signOf (m_X6_next_h021 td ftp fwo za1)) hm1 ou1)] H := gJoin hP hD hk1 hFc hP1 hD1 [4, 0, 1] [2, 3] rfl rfl rfl (by decide +kernel) (by decide +kernel)
              have hP := hz9.1
              have hD := hz9.2
              subst w_10
              refine lv_if_ne (tgt := 249) hx hb dX6_eRead_244 (by decide +kernel) (fun c_11 => ?_) (fun c_11 => ?_)
              · skip
                have hgs := sg_ok c_8
                have hgt := hn3 hgs.2
                have hB := bt_use hgs.1 hI0 c_11
                have hB2 := (bt_any (s26 := op1) hgs.1 hI0).1
                refine lv_iconst (v := 1) hx hb dX6_eRead_249 (by decide +kernel) ?_
                refine lv_istore_n (lv' := [zI 1 1, zI 3 (m_X6_signOf (m_X6_next_h021 td ftp fwo za1)), zR 0 h0, zI 2 mn]) hx hb dX6_eRead_250 rfl hl (by decide +kernel) rfl (fun ls hl => ?_)
                refine lv_iload_n hx hb dX6_eRead_251 rfl (lv_at hl 1 rfl) ?_
                refine lv_bipush (v := 12) hx hb dX6_eRead_252 (by decide +kernel) ?_
                refine lv_icmp_gt (tgt := 261) hx hb dX6_eRead_254 (by decide +kernel) (fun c_12 => ?_) (fun c_12 => ?_)
                · skip
                  refine lv_iconst (v := 0) hx hb dX6_eRead_261 (by decide +kernel) ?_
                  refine lv_istore_n (lv' := [zI 2 0, zI 1 1, zI 3 (m_X6_signOf (m_X6_next_h021 td ftp fwo za1)), zR 0 h0]) hx hb dX6_eRead_262 rfl hl (by decide +kernel) rfl (fun ls hl => ?_)
                  refine lv_goto (tgt := 14) hx hb dX6_eRead_263 (by decide +kernel) ?_
                  exact ih9 (m_X6_next_h019 td ftp za1) (m_X6_between_h025 tx op1 yc yh (m_X6_signOf (m_X6_next_h021 td ftp fwo za1)) hm1 ou1) (m_X6_between_h027 tx op1 yc yh (m_X6_signOf (m_X6_next_h021 td ftp fwo za1)) hm1 ou1) (m_X6_between_h026 tx op1 yc yh (m_X6_signOf (m_X6_next_h021 td ftp fwo za1)) hm1 ou1) (m_X6_next_h020 td ftp za1) (m_X6_next_h021 td ftp fwo za1) (m_X6_next_h022 td ftp fwo za1) (m_X6_between_cd tx op1 yc yh (m_X6_signOf (m_X6_next_h021 td ftp fwo za1)) hm1 ou1) (m_X6_between_he tx op1 yc yh (m_X6_signOf (m_X6_next_h021 td ftp fwo za1)) hm1 ou1) 1 0 (j9 + 1) (⟨hn2, by omega⟩) (by omega) (Or.inl ⟨rfl, hB.1⟩) (fun i hi => by rw [hB.2.2 i (by omega) (by omega)]; exact hu i hi) (fun q => by rw [show q + (j9 + 1) = (q + 1) + j9 by omega, hF (q + 1), eRun]; rw [if_pos c_3, if_neg c_4, if_neg c_5, if_neg c_8, if_neg c_11, if_pos c_12]) (by omega) _ _ (hP.sub [2, 3, 4, 0, 1] rfl) (hD.sub [2, 3, 4, 0, 1] (by decide +kernel) rfl) hS ls (lv_sub hl [3, 1, 0] rfl)
                · skip
                  refine lv_iconst (v := 1) hx hb dX6_eRead_257 (by decide +kernel) ?_
                  refine lv_goto (tgt := 262) hx hb dX6_eRead_258 (by decide +kernel) ?_
                  refine lv_istore_n (lv' := [zI 2 1, zI 1 1, zI 3 (m_X6_signOf (m_X6_next_h021 td ftp fwo za1)), zR 0 h0]) hx hb dX6_eRead_262 rfl hl (by decide +kernel) rfl (fun ls hl => ?_)
                  refine lv_goto (tgt := 14) hx hb dX6_eRead_263 (by decide +kernel) ?_
                  exact ih9 (m_X6_next_h019 td ftp za1) (m_X6_between_h025 tx op1 yc yh (m_X6_signOf (m_X6_next_h021 td ftp fwo za1)) hm1 ou1) (m_X6_between_h027 tx op1 yc yh (m_X6_signOf (m_X6_next_h021 td ftp fwo za1)) hm1 ou1) (m_X6_between_h026 tx op1 yc yh (m_X6_signOf (m_X6_next_h021 td ftp fwo za1)) hm1 ou1) (m_X6_next_h020 td ftp za1) (m_X6_next_h021 td ftp fwo za1) (m_X6_next_h022 td ftp fwo za1) (m_X6_between_cd tx op1 yc yh (m_X6_signOf (m_X6_next_h021 td ftp fwo za1)) hm1 ou1) (m_X6_between_he tx op1 yc yh (m_X6_signOf (m_X6_next_h021 td ftp fwo za1)) hm1 ou1) 1 1 (j9 + 1) (⟨hn2, by omega⟩) (by omega) (Or.inl ⟨rfl, hB.1⟩) (fun i hi => by rw [hB.2.2 i (by omega) (by omega)]; exact hu i hi) (fun q => by rw [show q + (j9 + 1) = (q + 1) + j9 by omega, hF (q + 1), eRun]; rw [if_pos c_3, if_neg c_4, if_neg c_5, if_neg c_8, if_neg c_11, if_neg c_12]) (by omega) _ _ (hP.sub [2, 3, 4, 0, 1] rfl) (hD.sub [2, 3, 4, 0, 1] (by decide +kernel) rfl) hS ls (lv_sub hl [3, 1, 0] rfl)
              · skip
                refine lv_iconst (v := 0) hx hb dX6_eRead_247 (by decide +kernel) ?_
                have hP9 := hP.sub (ws' := [zo6 h0 (nI pb) kd mo st (nI jg) ro tp (nI td) cd sr (nI tx) (nI ru) him ir ih ss sq ce lw (nI (m_X6_next_h019 td ftp za1)) (m_X6_next_h020 td ftp za1) (m_X6_next_h021 td ftp fwo za1) (m_X6_next_h022 td ftp fwo za1) wo he (nI (m_X6_between_h025 tx op1 yc yh (m_X6_signOf (m_X6_next_h021 td ftp fwo za1)) hm1 ou1)) (m_X6_between_h026 tx op1 yc yh (m_X6_signOf (m_X6_next_h021 td ftp fwo za1)) hm1 ou1) (nI (m_X6_between_h027 tx op1 yc yh (m_X6_signOf (m_X6_next_h021 td ftp fwo za1)) hm1 ou1)) sk na kp s31 s32 s33 s34 gb go fa ga s39 s40 vo, zi G cd 1200 (m_X6_between_cd tx op1 yc yh (m_X6_signOf (m_X6_next_h021 td ftp fwo za1)) hm1 ou1), zi G he 200 (m_X6_between_he tx op1 yc yh (m_X6_signOf (m_X6_next_h021 td ftp fwo za1)) hm1 ou1), zi G tp 160 ftp, zi G wo 96 fwo]) [2, 3, 4, 0, 1] rfl
                have hD9 := hD.sub (ws' := [zo6 h0 (nI pb) kd mo st (nI jg) ro tp (nI td) cd sr (nI tx) (nI ru) him ir ih ss sq ce lw (nI (m_X6_next_h019 td ftp za1)) (m_X6_next_h020 td ftp za1) (m_X6_next_h021 td ftp fwo za1) (m_X6_next_h022 td ftp fwo za1) wo he (nI (m_X6_between_h025 tx op1 yc yh (m_X6_signOf (m_X6_next_h021 td ftp fwo za1)) hm1 ou1)) (m_X6_between_h026 tx op1 yc yh (m_X6_signOf (m_X6_next_h021 td ftp fwo za1)) hm1 ou1) (nI (m_X6_between_h027 tx op1 yc yh (m_X6_signOf (m_X6_next_h021 td ftp fwo za1)) hm1 ou1)) sk na kp s31 s32 s33 s34 gb go fa ga s39 s40 vo, zi G cd 1200 (m_X6_between_cd tx op1 yc yh (m_X6_signOf (m_X6_next_h021 td ftp fwo za1)) hm1 ou1), zi G he 200 (m_X6_between_he tx op1 yc yh (m_X6_signOf (m_X6_next_h021 td ftp fwo za1)) hm1 ou1), zi G tp 160 ftp, zi G wo 96 fwo]) [2, 3, 4, 0, 1] (by decide +kernel) rfl
                have hpost : (fun (r : Int32) (u : Nat × Nat × Int32 × Int32 × Int32 × Int32 × Int32 × (Nat → Int32) × (Nat → Int32)) => match u with | (zza, zou, zhm, zop, zb, zt, zv, ycd, yhe) => (r = 0 ∨ r = 1) ∧ (r = 1 → dp (eF ycd tx) ou (zou - ou) = some 1) ∧ zza ≤ td ∧ zou + 1 ≤ zza ∧ ou ≤ zou ∧ (∀ i, (i < 200 * tx + ou ∨ 200 * tx + 200 ≤ i) → ycd i = fcd i) ∧ ∃ j9 b9, eRun tx td ftp fwo j9 za 0 ou 0 fcd fhe 1 1 = some (b9, zza, zou, zb, ycd, yhe) ∧ r = bz b9) 0 ((m_X6_next_h019 td ftp za1), (m_X6_between_h027 tx op1 yc yh (m_X6_signOf (m_X6_next_h021 td ftp fwo za1)) hm1 ou1), nI (m_X6_between_h025 tx op1 yc yh (m_X6_signOf (m_X6_next_h021 td ftp fwo za1)) hm1 ou1), (m_X6_between_h026 tx op1 yc yh (m_X6_signOf (m_X6_next_h021 td ftp fwo za1)) hm1 ou1), (m_X6_next_h020 td ftp za1), (m_X6_next_h021 td ftp fwo za1), (m_X6_next_h022 td ftp fwo za1), (m_X6_between_cd tx op1 yc yh (m_X6_signOf (m_X6_next_h021 td ftp fwo za1)) hm1 ou1), (m_X6_between_he tx op1 yc yh (m_X6_signOf (m_X6_next_h021 td ftp fwo za1)) hm1 ou1)) := by have hU9 := bt_any (s26 := op1) (sg_ok c_8).1 hI0; exact ⟨Or.inl rfl, fun z => absurd z (by decide +kernel), by omega, by omega, by omega, fun i hi => by rw [hU9.2 i (by omega) (by omega)]; exact hu i hi, ⟨1 + j9, false, by rw [hF 1, show (1 : Nat) = 0 + 1 from rfl, eRun]; rw [if_pos c_3, if_neg c_4, if_neg c_5, if_neg c_8, if_pos c_11], rfl⟩⟩
                exact W.zret (v := 0) hx hb hr (rfl) (fun t ht hW => ⟨⟨0, ((m_X6_next_h019 td ftp za1), (m_X6_between_h027 tx op1 yc yh (m_X6_signOf (m_X6_next_h021 td ftp fwo za1)) hm1 ou1), nI (m_X6_between_h025 tx op1 yc yh (m_X6_signOf (m_X6_next_h021 td ftp fwo za1)) hm1 ou1), (m_X6_between_h026 tx op1 yc yh (m_X6_signOf (m_X6_next_h021 td ftp fwo za1)) hm1 ou1), (m_X6_next_h020 td ftp za1), (m_X6_next_h021 td ftp fwo za1), (m_X6_next_h022 td ftp fwo za1), (m_X6_between_cd tx op1 yc yh (m_X6_signOf (m_X6_next_h021 td ftp fwo za1)) hm1 ou1), (m_X6_between_he tx op1 yc yh (m_X6_signOf (m_X6_next_h021 td ftp fwo za1)) hm1 ou1)), rfl, hpost, by rw [ht]; exact hP9, va_K.moved hW.alike hK, hD9⟩, hS.F ht⟩) hS.2.2 dX6_eRead_248
          · skip
            refine lv_aload_n hx hb dX6_eRead_186 rfl (lv_at hl 0 rfl) ?_
            refine lv_iconst (v := 1) hx hb dX6_eRead_187 (by decide +kernel) ?_
            have hz9 : gPD G A [zo6 h0 (nI pb) kd mo st (nI jg) ro tp (nI td) cd sr (nI tx) (nI ru) him ir ih ss sq ce lw (nI (m_X6_next_h019 td ftp za1)) (m_X6_next_h020 td ftp za1) (m_X6_next_h021 td ftp fwo za1) (m_X6_next_h022 td ftp fwo za1) wo he (nI hm1) op1 (nI ou1) sk na kp s31 s32 s33 s34 gb go fa ga s39 s40 vo, zi G cd 1200 yc, zi G he 200 yh] H := ⟨hP.sub [2, 0, 1] rfl, hD.sub [2, 0, 1] (by decide +kernel) rfl⟩
            have hPc := hz9.1
            have hDc := hz9.2
            have hFc := gFree hPc hD hS hA [2, 0, 1] rfl
            refine va_callv (va_runV (As := [.int 1]) (rest := []) ⟨hx, hb, hml, hown, hts⟩ (c_X6_unwinds l G h0 kd mo st ro tp cd sr ir ih ss sq ce lw wo he sk na kp gb go fa ga vo pb jg td tx ru him (nI (m_X6_next_h019 td ftp za1)) (m_X6_next_h020 td ftp za1) (m_X6_next_h021 td ftp fwo za1) (m_X6_next_h022 td ftp fwo za1) op1 s31 s32 s33 s34 s39 s40 yc yh 1 hm1 ou1 H.size (by first | exact hom | assumption | omega) (by first | exact htx | assumption | omega)) (cwV 1 hts gX6_eRead_X6_unwinds rfl rfl rfl (by decide +kernel) ⟨Nat.le_of_ble_eq_true rfl, Nat.le_of_ble_eq_true rfl⟩) ⟨gPre_blind, va_recv hK hPc (ci := 6) (q0 := 0) rfl rfl, fun U hU hW => gPre_of hU hW hK hPc hDc⟩ rfl rfl hl.1 rfl (lv_room (Nat.le_of_ble_eq_true rfl)) dX6_eRead_188 ⟨Nat.le_of_ble_eq_true rfl, Nat.le_of_ble_eq_true rfl⟩) hS (fun q _ h => hFc q h) hFc (fun u t H locs ht hvm w_14 hB hz1 hk1 hS => ?_)
            obtain ⟨hP1, hK1, hD1⟩ := hB
            rw [ht] at hP1
            have hz9 : gPD G (va_A _ _) [zo6 h0 (nI pb) kd mo st (nI jg) ro tp (nI td) cd sr (nI tx) (nI ru) him ir ih ss sq ce lw (nI (m_X6_next_h019 td ftp za1)) (m_X6_next_h020 td ftp za1) (m_X6_next_h021 td ftp fwo za1) (m_X6_next_h022 td ftp fwo za1) wo he (nI (m_X6_unwinds_h025 tx op1 yc yh 1 hm1 ou1)) (m_X6_unwinds_h026 tx op1 yc yh 1 hm1 ou1) (nI (m_X6_unwinds_h027 tx op1 yc yh 1 hm1 ou1)) sk na kp s31 s32 s33 s34 gb go fa ga s39 s40 vo, zi G cd 1200 (m_X6_unwinds_cd tx op1 yc yh 1 hm1 ou1), zi G he 200 yh] H := ⟨hP1, hD1⟩
            have hP1 := hz9.1
            have hD1 := hz9.2
            have w_14 : (m_X6_unwinds_h025 tx op1 yc yh 1 hm1 ou1) ≤ hm1 ∧ (m_X6_unwinds_h027 tx op1 yc yh 1 hm1 ou1) + (m_X6_unwinds_h025 tx op1 yc yh 1 hm1 ou1) = ou1 + hm1 := w_14
            have hz9 : gPD G A [zi G tp 160 ftp, zi G wo 96 fwo, zo6 h0 (nI pb) kd mo st (nI jg) ro tp (nI td) cd sr (nI tx) (nI ru) him ir ih ss sq ce lw (nI (m_X6_next_h019 td ftp za1)) (m_X6_next_h020 td ftp za1) (m_X6_next_h021 td ftp fwo za1) (m_X6_next_h022 td ftp fwo za1) wo he (nI (m_X6_unwinds_h025 tx op1 yc yh 1 hm1 ou1)) (m_X6_unwinds_h026 tx op1 yc yh 1 hm1 ou1) (nI (m_X6_unwinds_h027 tx op1 yc yh 1 hm1 ou1)) sk na kp s31 s32 s33 s34 gb go fa ga s39 s40 vo, zi G cd 1200 (m_X6_unwinds_cd tx op1 yc yh 1 hm1 ou1), zi G he 200 yh] H := gJoin hP hD hk1 hFc hP1 hD1 [2, 0, 1] [3, 4] rfl rfl rfl (by decide +kernel) (by decide +kernel)
            have hP := hz9.1
            have hD := hz9.2
            have huw := w_14
            refine lv_aload_n hx hb dX6_eRead_191 rfl (lv_at hl 0 rfl) ?_
            refine va_get (D := G.1) (ci := 6) (v := .int (nI (m_X6_unwinds_h025 tx op1 yc yh 1 hm1 ou1))) (C := RX6) (T := TX6) (N := 42) hx hb hts hiX6 hown hK hP 2 rfl rfl 25 (by decide +kernel) kf130 (fun _ h9 => h9) rfl dX6_eRead_192 ?_
            refine lv_if_ne (tgt := 200) hx hb dX6_eRead_195 (by decide +kernel) (fun c_15 => ?_) (fun c_15 => ?_)
            · skip
              have c_15N : ¬ (m_X6_unwinds_h025 tx op1 yc yh 1 hm1 ou1) = 0 := nI_eq0 (a := (m_X6_unwinds_h025 tx op1 yc yh 1 hm1 ou1)) (b := 0) (by omega) (by omega) c_15
              have hU := uw_use (s26 := op1) (by decide : (1 : Int32) ≤ 1) hI0
              have hI2 := eI_drop (hm := (m_X6_unwinds_h025 tx op1 yc yh 1 hm1 ou1) - 1) (by rw [show (m_X6_unwinds_h025 tx op1 yc yh 1 hm1 ou1) - 1 + 1 = m_X6_unwinds_h025 tx op1 yc yh 1 hm1 ou1 by omega]; exact hU.1) (okH_r1 (hU.1.2.2 _ (by omega)) (uw_topu c_15N))
              refine lv_aload_n hx hb dX6_eRead_200 rfl (lv_at hl 0 rfl) ?_
              refine lv_dup hx hb dX6_eRead_201 rfl ?_
              refine va_get (D := G.1) (ci := 6) (v := .int (nI (m_X6_unwinds_h025 tx op1 yc yh 1 hm1 ou1))) (C := RX6) (T := TX6) (N := 42) hx hb hts hiX6 hown hK hP 2 rfl rfl 25 (by decide +kernel) kf130 (fun _ h9 => h9) rfl dX6_eRead_202 ?_
              refine lv_iconst (v := 1) hx hb dX6_eRead_205 (by decide +kernel) ?_
              refine lv_isub hx hb dX6_eRead_206 ?_
              refine lv_topi (fun v_16 ev_16 => ?_)
              have ev_16 : v_16 = nI ((m_X6_unwinds_h025 tx op1 yc yh 1 hm1 ou1) - 1) := ev_16.trans (pk_sub (a := (m_X6_unwinds_h025 tx op1 yc yh 1 hm1 ou1)) (b := 1) (by omega))
              subst ev_16
              refine va_put (D := G.1) (ci := 6) (v := .int (nI ((m_X6_unwinds_h025 tx op1 yc yh 1 hm1 ou1) - 1))) (ty := .int) (C := RX6) (T := TX6) (N := 42) hx hb hts hiX6 tyX6 tyX6_ok nmX6 hown hK hP hD hS 2 rfl rfl 25 (by decide +kernel) kf130 (fun _ h9 => h9) rfl (by decide +kernel) rfl rfl (Nat.le_of_ble_eq_true rfl) dX6_eRead_207 (fun H locs hP hD hS => ?_)
              have hz9 : gPD G A [zi G tp 160 ftp, zi G wo 96 fwo, zo6 h0 (nI pb) kd mo st (nI jg) ro tp (nI td) cd sr (nI tx) (nI ru) him ir ih ss sq ce lw (nI (m_X6_next_h019 td ftp za1)) (m_X6_next_h020 td ftp za1) (m_X6_next_h021 td ftp fwo za1) (m_X6_next_h022 td ftp fwo za1) wo he (nI ((m_X6_unwinds_h025 tx op1 yc yh 1 hm1 ou1) - 1)) (m_X6_unwinds_h026 tx op1 yc yh 1 hm1 ou1) (nI (m_X6_unwinds_h027 tx op1 yc yh 1 hm1 ou1)) sk na kp s31 s32 s33 s34 gb go fa ga s39 s40 vo, zi G cd 1200 (m_X6_unwinds_cd tx op1 yc yh 1 hm1 ou1), zi G he 200 yh] H := ⟨hP, hD⟩
              have hP := hz9.1
              have hD := hz9.2
              refine lv_aload_n hx hb dX6_eRead_210 rfl (lv_at hl 0 rfl) ?_
              refine lv_dup hx hb dX6_eRead_211 rfl ?_
              refine va_get (D := G.1) (ci := 6) (v := .int (m_X6_unwinds_h026 tx op1 yc yh 1 hm1 ou1)) (C := RX6) (T := TX6) (N := 42) hx hb hts hiX6 hown hK hP 2 rfl rfl 26 (by decide +kernel) kf137 (fun _ h9 => h9) rfl dX6_eRead_212 ?_
              refine lv_iconst (v := 1) hx hb dX6_eRead_215 (by decide +kernel) ?_
              refine lv_isub hx hb dX6_eRead_216 ?_
              refine va_put (D := G.1) (ci := 6) (v := .int ((m_X6_unwinds_h026 tx op1 yc yh 1 hm1 ou1) - 1)) (ty := .int) (C := RX6) (T := TX6) (N := 42) hx hb hts hiX6 tyX6 tyX6_ok nmX6 hown hK hP hD hS 2 rfl rfl 26 (by decide +kernel) kf137 (fun _ h9 => h9) rfl (by decide +kernel) rfl rfl (Nat.le_of_ble_eq_true rfl) dX6_eRead_217 (fun H locs hP hD hS => ?_)
              have hz9 : gPD G A [zi G tp 160 ftp, zi G wo 96 fwo, zo6 h0 (nI pb) kd mo st (nI jg) ro tp (nI td) cd sr (nI tx) (nI ru) him ir ih ss sq ce lw (nI (m_X6_next_h019 td ftp za1)) (m_X6_next_h020 td ftp za1) (m_X6_next_h021 td ftp fwo za1) (m_X6_next_h022 td ftp fwo za1) wo he (nI ((m_X6_unwinds_h025 tx op1 yc yh 1 hm1 ou1) - 1)) ((m_X6_unwinds_h026 tx op1 yc yh 1 hm1 ou1) - 1) (nI (m_X6_unwinds_h027 tx op1 yc yh 1 hm1 ou1)) sk na kp s31 s32 s33 s34 gb go fa ga s39 s40 vo, zi G cd 1200 (m_X6_unwinds_cd tx op1 yc yh 1 hm1 ou1), zi G he 200 yh] H := ⟨hP, hD⟩
              have hP := hz9.1
              have hD := hz9.2
              refine lv_aload_n hx hb dX6_eRead_220 rfl (lv_at hl 0 rfl) ?_
              refine lv_bipush (v := 7) hx hb dX6_eRead_221 (by decide +kernel) ?_
              have hz9 : gPD G A [zo6 h0 (nI pb) kd mo st (nI jg) ro tp (nI td) cd sr (nI tx) (nI ru) him ir ih ss sq ce lw (nI (m_X6_next_h019 td ftp za1)) (m_X6_next_h020 td ftp za1) (m_X6_next_h021 td ftp fwo za1) (m_X6_next_h022 td ftp fwo za1) wo he (nI ((m_X6_unwinds_h025 tx op1 yc yh 1 hm1 ou1) - 1)) ((m_X6_unwinds_h026 tx op1 yc yh 1 hm1 ou1) - 1) (nI (m_X6_unwinds_h027 tx op1 yc yh 1 hm1 ou1)) sk na kp s31 s32 s33 s34 gb go fa ga s39 s40 vo, zi G cd 1200 (m_X6_unwinds_cd tx op1 yc yh 1 hm1 ou1), zi G he 200 yh] H := ⟨hP.sub [2, 3, 4] rfl, hD.sub [2, 3, 4] (by decide +kernel) rfl⟩
              have hPc := hz9.1
              have hDc := hz9.2
              have hFc := gFree hPc hD hS hA [2, 3, 4] rfl
              refine va_callv (va_runV (As := [.int 7]) (rest := []) ⟨hx, hb, hml, hown, hts⟩ (c_X6_unwinds l G h0 kd mo st ro tp cd sr ir ih ss sq ce lw wo he sk na kp gb go fa ga vo pb jg td tx ru him (nI (m_X6_next_h019 td ftp za1)) (m_X6_next_h020 td ftp za1) (m_X6_next_h021 td ftp fwo za1) (m_X6_next_h022 td ftp fwo za1) ((m_X6_unwinds_h026 tx op1 yc yh 1 hm1 ou1) - 1) s31 s32 s33 s34 s39 s40 (m_X6_unwinds_cd tx op1 yc yh 1 hm1 ou1) yh 7 ((m_X6_unwinds_h025 tx op1 yc yh 1 hm1 ou1) - 1) (m_X6_unwinds_h027 tx op1 yc yh 1 hm1 ou1) H.size (by first | exact hom | assumption | omega) (by first | exact htx | assumption | omega)) (cwV 1 hts gX6_eRead_X6_unwinds rfl rfl rfl (by decide +kernel) ⟨Nat.le_of_ble_eq_true rfl, Nat.le_of_ble_eq_true rfl⟩) ⟨gPre_blind, va_recv hK hPc (ci := 6) (q0 := 0) rfl rfl, fun U hU hW => gPre_of hU hW hK hPc hDc⟩ rfl rfl hl.1 rfl (lv_room (Nat.le_of_ble_eq_true rfl)) dX6_eRead_223 ⟨Nat.le_of_ble_eq_true rfl, Nat.le_of_ble_eq_true rfl⟩) hS (fun q _ h => hFc q h) hFc (fun u t H locs ht hvm w_18 hB hz1 hk1 hS => ?_)
              obtain ⟨hP1, hK1, hD1⟩ := hB
              rw [ht] at hP1
              have hz9 : gPD G (va_A _ _) [zo6 h0 (nI pb) kd mo st (nI jg) ro tp (nI td) cd sr (nI tx) (nI ru) him ir ih ss sq ce lw (nI (m_X6_next_h019 td ftp za1)) (m_X6_next_h020 td ftp za1) (m_X6_next_h021 td ftp fwo za1) (m_X6_next_h022 td ftp fwo za1) wo he (nI (m_X6_unwinds_h025 tx ((m_X6_unwinds_h026 tx op1 yc yh 1 hm1 ou1) - 1) (m_X6_unwinds_cd tx op1 yc yh 1 hm1 ou1) yh 7 ((m_X6_unwinds_h025 tx op1 yc yh 1 hm1 ou1) - 1) (m_X6_unwinds_h027 tx op1 yc yh 1 hm1 ou1))) (m_X6_unwinds_h026 tx ((m_X6_unwinds_h026 tx op1 yc yh 1 hm1 ou1) - 1) (m_X6_unwinds_cd tx op1 yc yh 1 hm1 ou1) yh 7 ((m_X6_unwinds_h025 tx op1 yc yh 1 hm1 ou1) - 1) (m_X6_unwinds_h027 tx op1 yc yh 1 hm1 ou1)) (nI (m_X6_unwinds_h027 tx ((m_X6_unwinds_h026 tx op1 yc yh 1 hm1 ou1) - 1) (m_X6_unwinds_cd tx op1 yc yh 1 hm1 ou1) yh 7 ((m_X6_unwinds_h025 tx op1 yc yh 1 hm1 ou1) - 1) (m_X6_unwinds_h027 tx op1 yc yh 1 hm1 ou1))) sk na kp s31 s32 s33 s34 gb go fa ga s39 s40 vo, zi G cd 1200 (m_X6_unwinds_cd tx ((m_X6_unwinds_h026 tx op1 yc yh 1 hm1 ou1) - 1) (m_X6_unwinds_cd tx op1 yc yh 1 hm1 ou1) yh 7 ((m_X6_unwinds_h025 tx op1 yc yh 1 hm1 ou1) - 1) (m_X6_unwinds_h027 tx op1 yc yh 1 hm1 ou1)), zi G he 200 yh] H := ⟨hP1, hD1⟩
              have hP1 := hz9.1
              have hD1 := hz9.2
              have w_18 : (m_X6_unwinds_h025 tx ((m_X6_unwinds_h026 tx op1 yc yh 1 hm1 ou1) - 1) (m_X6_unwinds_cd tx op1 yc yh 1 hm1 ou1) yh 7 ((m_X6_unwinds_h025 tx op1 yc yh 1 hm1 ou1) - 1) (m_X6_unwinds_h027 tx op1 yc yh 1 hm1 ou1)) ≤ ((m_X6_unwinds_h025 tx op1 yc yh 1 hm1 ou1) - 1) ∧ (m_X6_unwinds_h027 tx ((m_X6_unwinds_h026 tx op1 yc yh 1 hm1 ou1) - 1) (m_X6_unwinds_cd tx op1 yc yh 1 hm1 ou1) yh 7 ((m_X6_unwinds_h025 tx op1 yc yh 1 hm1 ou1) - 1) (m_X6_unwinds_h027 tx op1 yc yh 1 hm1 ou1)) + (m_X6_unwinds_h025 tx ((m_X6_unwinds_h026 tx op1 yc yh 1 hm1 ou1) - 1) (m_X6_unwinds_cd tx op1 yc yh 1 hm1 ou1) yh 7 ((m_X6_unwinds_h025 tx op1 yc yh 1 hm1 ou1) - 1) (m_X6_unwinds_h027 tx op1 yc yh 1 hm1 ou1)) = (m_X6_unwinds_h027 tx op1 yc yh 1 hm1 ou1) + ((m_X6_unwinds_h025 tx op1 yc yh 1 hm1 ou1) - 1) := w_18
              have hz9 : gPD G A [zi G tp 160 ftp, zi G wo 96 fwo, zo6 h0 (nI pb) kd mo st (nI jg) ro tp (nI td) cd sr (nI tx) (nI ru) him ir ih ss sq ce lw (nI (m_X6_next_h019 td ftp za1)) (m_X6_next_h020 td ftp za1) (m_X6_next_h021 td ftp fwo za1) (m_X6_next_h022 td ftp fwo za1) wo he (nI (m_X6_unwinds_h025 tx ((m_X6_unwinds_h026 tx op1 yc yh 1 hm1 ou1) - 1) (m_X6_unwinds_cd tx op1 yc yh 1 hm1 ou1) yh 7 ((m_X6_unwinds_h025 tx op1 yc yh 1 hm1 ou1) - 1) (m_X6_unwinds_h027 tx op1 yc yh 1 hm1 ou1))) (m_X6_unwinds_h026 tx ((m_X6_unwinds_h026 tx op1 yc yh 1 hm1 ou1) - 1) (m_X6_unwinds_cd tx op1 yc yh 1 hm1 ou1) yh 7 ((m_X6_unwinds_h025 tx op1 yc yh 1 hm1 ou1) - 1) (m_X6_unwinds_h027 tx op1 yc yh 1 hm1 ou1)) (nI (m_X6_unwinds_h027 tx ((m_X6_unwinds_h026 tx op1 yc yh 1 hm1 ou1) - 1) (m_X6_unwinds_cd tx op1 yc yh 1 hm1 ou1) yh 7 ((m_X6_unwinds_h025 tx op1 yc yh 1 hm1 ou1) - 1) (m_X6_unwinds_h027 tx op1 yc yh 1 hm1 ou1))) sk na kp s31 s32 s33 s34 gb go fa ga s39 s40 vo, zi G cd 1200 (m_X6_unwinds_cd tx ((m_X6_unwinds_h026 tx op1 yc yh 1 hm1 ou1) - 1) (m_X6_unwinds_cd tx op1 yc yh 1 hm1 ou1) yh 7 ((m_X6_unwinds_h025 tx op1 yc yh 1 hm1 ou1) - 1) (m_X6_unwinds_h027 tx op1 yc yh 1 hm1 ou1)), zi G he 200 yh] H := gJoin hP hD hk1 hFc hP1 hD1 [2, 3, 4] [0, 1] rfl rfl rfl (by decide +kernel) (by decide +kernel)
              have hP := hz9.1
              have hD := hz9.2
              have huw := w_18
              refine lv_goto (tgt := 14) hx hb dX6_eRead_226 (by decide +kernel) ?_
              have hgt := hn3 (fun z9 => absurd (c_5.symm.trans z9) (by decide +kernel))
              have hU2 := uw_use (s26 := m_X6_unwinds_h026 tx op1 yc yh 1 hm1 ou1 - 1) (by decide : (1 : Int32) ≤ 7) hI2
              exact ih9 (m_X6_next_h019 td ftp za1) (m_X6_unwinds_h025 tx ((m_X6_unwinds_h026 tx op1 yc yh 1 hm1 ou1) - 1) (m_X6_unwinds_cd tx op1 yc yh 1 hm1 ou1) yh 7 ((m_X6_unwinds_h025 tx op1 yc yh 1 hm1 ou1) - 1) (m_X6_unwinds_h027 tx op1 yc yh 1 hm1 ou1)) (m_X6_unwinds_h027 tx ((m_X6_unwinds_h026 tx op1 yc yh 1 hm1 ou1) - 1) (m_X6_unwinds_cd tx op1 yc yh 1 hm1 ou1) yh 7 ((m_X6_unwinds_h025 tx op1 yc yh 1 hm1 ou1) - 1) (m_X6_unwinds_h027 tx op1 yc yh 1 hm1 ou1)) (m_X6_unwinds_h026 tx ((m_X6_unwinds_h026 tx op1 yc yh 1 hm1 ou1) - 1) (m_X6_unwinds_cd tx op1 yc yh 1 hm1 ou1) yh 7 ((m_X6_unwinds_h025 tx op1 yc yh 1 hm1 ou1) - 1) (m_X6_unwinds_h027 tx op1 yc yh 1 hm1 ou1)) (m_X6_next_h020 td ftp za1) (m_X6_next_h021 td ftp fwo za1) (m_X6_next_h022 td ftp fwo za1) (m_X6_unwinds_cd tx ((m_X6_unwinds_h026 tx op1 yc yh 1 hm1 ou1) - 1) (m_X6_unwinds_cd tx op1 yc yh 1 hm1 ou1) yh 7 ((m_X6_unwinds_h025 tx op1 yc yh 1 hm1 ou1) - 1) (m_X6_unwinds_h027 tx op1 yc yh 1 hm1 ou1)) yh wv mn (j9 + 1) (⟨hn2, by omega⟩) (by omega) (Or.inr ⟨hw0, hU2.1⟩) (fun i hi => by rw [hU2.2 i (by omega) (by omega), hU.2 i (by omega) (by omega)]; exact hu i hi) (fun q => by rw [show q + (j9 + 1) = (q + 1) + j9 by omega, hF (q + 1), eRun]; rw [if_pos c_3, if_neg c_4, if_pos c_5, if_neg c_15]) (by omega) _ _ (hP.sub [2, 3, 4, 0, 1] rfl) (hD.sub [2, 3, 4, 0, 1] (by decide +kernel) rfl) hS ls (lv_sub hl [0, 1, 2] rfl)
            · skip
              have c_15N : (m_X6_unwinds_h025 tx op1 yc yh 1 hm1 ou1) = 0 := nI_eq1 (a := (m_X6_unwinds_h025 tx op1 yc yh 1 hm1 ou1)) (b := 0) (by omega) (by omega) c_15
              refine lv_iconst (v := 0) hx hb dX6_eRead_198 (by decide +kernel) ?_
              have hP9 := hP.sub (ws' := [zo6 h0 (nI pb) kd mo st (nI jg) ro tp (nI td) cd sr (nI tx) (nI ru) him ir ih ss sq ce lw (nI (m_X6_next_h019 td ftp za1)) (m_X6_next_h020 td ftp za1) (m_X6_next_h021 td ftp fwo za1) (m_X6_next_h022 td ftp fwo za1) wo he (nI (m_X6_unwinds_h025 tx op1 yc yh 1 hm1 ou1)) (m_X6_unwinds_h026 tx op1 yc yh 1 hm1 ou1) (nI (m_X6_unwinds_h027 tx op1 yc yh 1 hm1 ou1)) sk na kp s31 s32 s33 s34 gb go fa ga s39 s40 vo, zi G cd 1200 (m_X6_unwinds_cd tx op1 yc yh 1 hm1 ou1), zi G he 200 yh, zi G tp 160 ftp, zi G wo 96 fwo]) [2, 3, 4, 0, 1] rfl
              have hD9 := hD.sub (ws' := [zo6 h0 (nI pb) kd mo st (nI jg) ro tp (nI td) cd sr (nI tx) (nI ru) him ir ih ss sq ce lw (nI (m_X6_next_h019 td ftp za1)) (m_X6_next_h020 td ftp za1) (m_X6_next_h021 td ftp fwo za1) (m_X6_next_h022 td ftp fwo za1) wo he (nI (m_X6_unwinds_h025 tx op1 yc yh 1 hm1 ou1)) (m_X6_unwinds_h026 tx op1 yc yh 1 hm1 ou1) (nI (m_X6_unwinds_h027 tx op1 yc yh 1 hm1 ou1)) sk na kp s31 s32 s33 s34 gb go fa ga s39 s40 vo, zi G cd 1200 (m_X6_unwinds_cd tx op1 yc yh 1 hm1 ou1), zi G he 200 yh, zi G tp 160 ftp, zi G wo 96 fwo]) [2, 3, 4, 0, 1] (by decide +kernel) rfl
              have hpost : (fun (r : Int32) (u : Nat × Nat × Int32 × Int32 × Int32 × Int32 × Int32 × (Nat → Int32) × (Nat → Int32)) => match u with | (zza, zou, zhm, zop, zb, zt, zv, ycd, yhe) => (r = 0 ∨ r = 1) ∧ (r = 1 → dp (eF ycd tx) ou (zou - ou) = some 1) ∧ zza ≤ td ∧ zou + 1 ≤ zza ∧ ou ≤ zou ∧ (∀ i, (i < 200 * tx + ou ∨ 200 * tx + 200 ≤ i) → ycd i = fcd i) ∧ ∃ j9 b9, eRun tx td ftp fwo j9 za 0 ou 0 fcd fhe 1 1 = some (b9, zza, zou, zb, ycd, yhe) ∧ r = bz b9) 0 ((m_X6_next_h019 td ftp za1), (m_X6_unwinds_h027 tx op1 yc yh 1 hm1 ou1), nI (m_X6_unwinds_h025 tx op1 yc yh 1 hm1 ou1), (m_X6_unwinds_h026 tx op1 yc yh 1 hm1 ou1), (m_X6_next_h020 td ftp za1), (m_X6_next_h021 td ftp fwo za1), (m_X6_next_h022 td ftp fwo za1), (m_X6_unwinds_cd tx op1 yc yh 1 hm1 ou1), yh) := by have hU9 := uw_use (s26 := op1) (by decide : (1 : Int32) ≤ 1) hI0; exact ⟨Or.inl rfl, fun z => absurd z (by decide +kernel), by omega, by omega, by omega, fun i hi => by rw [hU9.2 i (by omega) (by omega)]; exact hu i hi, ⟨1 + j9, false, by rw [hF 1, show (1 : Nat) = 0 + 1 from rfl, eRun]; rw [if_pos c_3, if_neg c_4, if_pos c_5, if_pos c_15], rfl⟩⟩
              exact W.zret (v := 0) hx hb hr (rfl) (fun t ht hW => ⟨⟨0, ((m_X6_next_h019 td ftp za1), (m_X6_unwinds_h027 tx op1 yc yh 1 hm1 ou1), nI (m_X6_unwinds_h025 tx op1 yc yh 1 hm1 ou1), (m_X6_unwinds_h026 tx op1 yc yh 1 hm1 ou1), (m_X6_next_h020 td ftp za1), (m_X6_next_h021 td ftp fwo za1), (m_X6_next_h022 td ftp fwo za1), (m_X6_unwinds_cd tx op1 yc yh 1 hm1 ou1), yh), rfl, hpost, by rw [ht]; exact hP9, va_K.moved hW.alike hK, hD9⟩, hS.F ht⟩) hS.2.2 dX6_eRead_199
        · skip
          refine lv_aload_n hx hb dX6_eRead_159 rfl (lv_at hl 0 rfl) ?_
          refine lv_iconst (v := 1) hx hb dX6_eRead_160 (by decide +kernel) ?_
          have hz9 : gPD G A [zo6 h0 (nI pb) kd mo st (nI jg) ro tp (nI td) cd sr (nI tx) (nI ru) him ir ih ss sq ce lw (nI (m_X6_next_h019 td ftp za1)) (m_X6_next_h020 td ftp za1) (m_X6_next_h021 td ftp fwo za1) (m_X6_next_h022 td ftp fwo za1) wo he (nI hm1) op1 (nI ou1) sk na kp s31 s32 s33 s34 gb go fa ga s39 s40 vo, zi G cd 1200 yc, zi G he 200 yh] H := ⟨hP.sub [2, 0, 1] rfl, hD.sub [2, 0, 1] (by decide +kernel) rfl⟩
          have hPc := hz9.1
          have hDc := hz9.2
          have hFc := gFree hPc hD hS hA [2, 0, 1] rfl
          refine va_callv (va_runV (As := [.int 1]) (rest := []) ⟨hx, hb, hml, hown, hts⟩ (c_X6_unwinds l G h0 kd mo st ro tp cd sr ir ih ss sq ce lw wo he sk na kp gb go fa ga vo pb jg td tx ru him (nI (m_X6_next_h019 td ftp za1)) (m_X6_next_h020 td ftp za1) (m_X6_next_h021 td ftp fwo za1) (m_X6_next_h022 td ftp fwo za1) op1 s31 s32 s33 s34 s39 s40 yc yh 1 hm1 ou1 H.size (by first | exact hom | assumption | omega) (by first | exact htx | assumption | omega)) (cwV 1 hts gX6_eRead_X6_unwinds rfl rfl rfl (by decide +kernel) ⟨Nat.le_of_ble_eq_true rfl, Nat.le_of_ble_eq_true rfl⟩) ⟨gPre_blind, va_recv hK hPc (ci := 6) (q0 := 0) rfl rfl, fun U hU hW => gPre_of hU hW hK hPc hDc⟩ rfl rfl hl.1 rfl (lv_room (Nat.le_of_ble_eq_true rfl)) dX6_eRead_161 ⟨Nat.le_of_ble_eq_true rfl, Nat.le_of_ble_eq_true rfl⟩) hS (fun q _ h => hFc q h) hFc (fun u t H locs ht hvm w_20 hB hz1 hk1 hS => ?_)
          obtain ⟨hP1, hK1, hD1⟩ := hB
          rw [ht] at hP1
          have hz9 : gPD G (va_A _ _) [zo6 h0 (nI pb) kd mo st (nI jg) ro tp (nI td) cd sr (nI tx) (nI ru) him ir ih ss sq ce lw (nI (m_X6_next_h019 td ftp za1)) (m_X6_next_h020 td ftp za1) (m_X6_next_h021 td ftp fwo za1) (m_X6_next_h022 td ftp fwo za1) wo he (nI (m_X6_unwinds_h025 tx op1 yc yh 1 hm1 ou1)) (m_X6_unwinds_h026 tx op1 yc yh 1 hm1 ou1) (nI (m_X6_unwinds_h027 tx op1 yc yh 1 hm1 ou1)) sk na kp s31 s32 s33 s34 gb go fa ga s39 s40 vo, zi G cd 1200 (m_X6_unwinds_cd tx op1 yc yh 1 hm1 ou1), zi G he 200 yh] H := ⟨hP1, hD1⟩
          have hP1 := hz9.1
          have hD1 := hz9.2
          have w_20 : (m_X6_unwinds_h025 tx op1 yc yh 1 hm1 ou1) ≤ hm1 ∧ (m_X6_unwinds_h027 tx op1 yc yh 1 hm1 ou1) + (m_X6_unwinds_h025 tx op1 yc yh 1 hm1 ou1) = ou1 + hm1 := w_20
          have hz9 : gPD G A [zi G tp 160 ftp, zi G wo 96 fwo, zo6 h0 (nI pb) kd mo st (nI jg) ro tp (nI td) cd sr (nI tx) (nI ru) him ir ih ss sq ce lw (nI (m_X6_next_h019 td ftp za1)) (m_X6_next_h020 td ftp za1) (m_X6_next_h021 td ftp fwo za1) (m_X6_next_h022 td ftp fwo za1) wo he (nI (m_X6_unwinds_h025 tx op1 yc yh 1 hm1 ou1)) (m_X6_unwinds_h026 tx op1 yc yh 1 hm1 ou1) (nI (m_X6_unwinds_h027 tx op1 yc yh 1 hm1 ou1)) sk na kp s31 s32 s33 s34 gb go fa ga s39 s40 vo, zi G cd 1200 (m_X6_unwinds_cd tx op1 yc yh 1 hm1 ou1), zi G he 200 yh] H := gJoin hP hD hk1 hFc hP1 hD1 [2, 0, 1] [3, 4] rfl rfl rfl (by decide +kernel) (by decide +kernel)
          have hP := hz9.1
          have hD := hz9.2
          have huw := w_20
          refine lv_aload_n hx hb dX6_eRead_164 rfl (lv_at hl 0 rfl) ?_
          refine va_get (D := G.1) (ci := 6) (v := .int (nI (m_X6_unwinds_h025 tx op1 yc yh 1 hm1 ou1))) (C := RX6) (T := TX6) (N := 42) hx hb hts hiX6 hown hK hP 2 rfl rfl 25 (by decide +kernel) kf130 (fun _ h9 => h9) rfl dX6_eRead_165 ?_
          refine lv_if_ne (tgt := 175) hx hb dX6_eRead_168 (by decide +kernel) (fun c_21 => ?_) (fun c_21 => ?_)
          · skip
            have c_21N : ¬ (m_X6_unwinds_h025 tx op1 yc yh 1 hm1 ou1) = 0 := nI_eq0 (a := (m_X6_unwinds_h025 tx op1 yc yh 1 hm1 ou1)) (b := 0) (by omega) (by omega) c_21
            refine lv_iconst (v := 0) hx hb dX6_eRead_175 (by decide +kernel) ?_
            have hP9 := hP.sub (ws' := [zo6 h0 (nI pb) kd mo st (nI jg) ro tp (nI td) cd sr (nI tx) (nI ru) him ir ih ss sq ce lw (nI (m_X6_next_h019 td ftp za1)) (m_X6_next_h020 td ftp za1) (m_X6_next_h021 td ftp fwo za1) (m_X6_next_h022 td ftp fwo za1) wo he (nI (m_X6_unwinds_h025 tx op1 yc yh 1 hm1 ou1)) (m_X6_unwinds_h026 tx op1 yc yh 1 hm1 ou1) (nI (m_X6_unwinds_h027 tx op1 yc yh 1 hm1 ou1)) sk na kp s31 s32 s33 s34 gb go fa ga s39 s40 vo, zi G cd 1200 (m_X6_unwinds_cd tx op1 yc yh 1 hm1 ou1), zi G he 200 yh, zi G tp 160 ftp, zi G wo 96 fwo]) [2, 3, 4, 0, 1] rfl
            have hD9 := hD.sub (ws' := [zo6 h0 (nI pb) kd mo st (nI jg) ro tp (nI td) cd sr (nI tx) (nI ru) him ir ih ss sq ce lw (nI (m_X6_next_h019 td ftp za1)) (m_X6_next_h020 td ftp za1) (m_X6_next_h021 td ftp fwo za1) (m_X6_next_h022 td ftp fwo za1) wo he (nI (m_X6_unwinds_h025 tx op1 yc yh 1 hm1 ou1)) (m_X6_unwinds_h026 tx op1 yc yh 1 hm1 ou1) (nI (m_X6_unwinds_h027 tx op1 yc yh 1 hm1 ou1)) sk na kp s31 s32 s33 s34 gb go fa ga s39 s40 vo, zi G cd 1200 (m_X6_unwinds_cd tx op1 yc yh 1 hm1 ou1), zi G he 200 yh, zi G tp 160 ftp, zi G wo 96 fwo]) [2, 3, 4, 0, 1] (by decide +kernel) rfl
            have hpost : (fun (r : Int32) (u : Nat × Nat × Int32 × Int32 × Int32 × Int32 × Int32 × (Nat → Int32) × (Nat → Int32)) => match u with | (zza, zou, zhm, zop, zb, zt, zv, ycd, yhe) => (r = 0 ∨ r = 1) ∧ (r = 1 → dp (eF ycd tx) ou (zou - ou) = some 1) ∧ zza ≤ td ∧ zou + 1 ≤ zza ∧ ou ≤ zou ∧ (∀ i, (i < 200 * tx + ou ∨ 200 * tx + 200 ≤ i) → ycd i = fcd i) ∧ ∃ j9 b9, eRun tx td ftp fwo j9 za 0 ou 0 fcd fhe 1 1 = some (b9, zza, zou, zb, ycd, yhe) ∧ r = bz b9) 0 ((m_X6_next_h019 td ftp za1), (m_X6_unwinds_h027 tx op1 yc yh 1 hm1 ou1), nI (m_X6_unwinds_h025 tx op1 yc yh 1 hm1 ou1), (m_X6_unwinds_h026 tx op1 yc yh 1 hm1 ou1), (m_X6_next_h020 td ftp za1), (m_X6_next_h021 td ftp fwo za1), (m_X6_next_h022 td ftp fwo za1), (m_X6_unwinds_cd tx op1 yc yh 1 hm1 ou1), yh) := by have hU9 := uw_use (s26 := op1) (by decide : (1 : Int32) ≤ 1) hI0; exact ⟨Or.inl rfl, fun z => absurd z (by decide +kernel), by omega, by omega, by omega, fun i hi => by rw [hU9.2 i (by omega) (by omega)]; exact hu i hi, ⟨1 + j9, false, by rw [hF 1, show (1 : Nat) = 0 + 1 from rfl, eRun]; rw [if_pos c_3, if_pos c_4, if_neg c_21], rfl⟩⟩
            exact W.zret (v := 0) hx hb hr (rfl) (fun t ht hW => ⟨⟨0, ((m_X6_next_h019 td ftp za1), (m_X6_unwinds_h027 tx op1 yc yh 1 hm1 ou1), nI (m_X6_unwinds_h025 tx op1 yc yh 1 hm1 ou1), (m_X6_unwinds_h026 tx op1 yc yh 1 hm1 ou1), (m_X6_next_h020 td ftp za1), (m_X6_next_h021 td ftp fwo za1), (m_X6_next_h022 td ftp fwo za1), (m_X6_unwinds_cd tx op1 yc yh 1 hm1 ou1), yh), rfl, hpost, by rw [ht]; exact hP9, va_K.moved hW.alike hK, hD9⟩, hS.F ht⟩) hS.2.2 dX6_eRead_176
          · skip
            have c_21N : (m_X6_unwinds_h025 tx op1 yc yh 1 hm1 ou1) = 0 := nI_eq1 (a := (m_X6_unwinds_h025 tx op1 yc yh 1 hm1 ou1)) (b := 0) (by omega) (by omega) c_21
            refine lv_iconst (v := 1) hx hb dX6_eRead_171 (by decide +kernel) ?_
            refine lv_goto (tgt := 176) hx hb dX6_eRead_172 (by decide +kernel) ?_
            have hP9 := hP.sub (ws' := [zo6 h0 (nI pb) kd mo st (nI jg) ro tp (nI td) cd sr (nI tx) (nI ru) him ir ih ss sq ce lw (nI (m_X6_next_h019 td ftp za1)) (m_X6_next_h020 td ftp za1) (m_X6_next_h021 td ftp fwo za1) (m_X6_next_h022 td ftp fwo za1) wo he (nI (m_X6_unwinds_h025 tx op1 yc yh 1 hm1 ou1)) (m_X6_unwinds_h026 tx op1 yc yh 1 hm1 ou1) (nI (m_X6_unwinds_h027 tx op1 yc yh 1 hm1 ou1)) sk na kp s31 s32 s33 s34 gb go fa ga s39 s40 vo, zi G cd 1200 (m_X6_unwinds_cd tx op1 yc yh 1 hm1 ou1), zi G he 200 yh, zi G tp 160 ftp, zi G wo 96 fwo]) [2, 3, 4, 0, 1] rfl
            have hD9 := hD.sub (ws' := [zo6 h0 (nI pb) kd mo st (nI jg) ro tp (nI td) cd sr (nI tx) (nI ru) him ir ih ss sq ce lw (nI (m_X6_next_h019 td ftp za1)) (m_X6_next_h020 td ftp za1) (m_X6_next_h021 td ftp fwo za1) (m_X6_next_h022 td ftp fwo za1) wo he (nI (m_X6_unwinds_h025 tx op1 yc yh 1 hm1 ou1)) (m_X6_unwinds_h026 tx op1 yc yh 1 hm1 ou1) (nI (m_X6_unwinds_h027 tx op1 yc yh 1 hm1 ou1)) sk na kp s31 s32 s33 s34 gb go fa ga s39 s40 vo, zi G cd 1200 (m_X6_unwinds_cd tx op1 yc yh 1 hm1 ou1), zi G he 200 yh, zi G tp 160 ftp, zi G wo 96 fwo]) [2, 3, 4, 0, 1] (by decide +kernel) rfl
            have hpost : (fun (r : Int32) (u : Nat × Nat × Int32 × Int32 × Int32 × Int32 × Int32 × (Nat → Int32) × (Nat → Int32)) => match u with | (zza, zou, zhm, zop, zb, zt, zv, ycd, yhe) => (r = 0 ∨ r = 1) ∧ (r = 1 → dp (eF ycd tx) ou (zou - ou) = some 1) ∧ zza ≤ td ∧ zou + 1 ≤ zza ∧ ou ≤ zou ∧ (∀ i, (i < 200 * tx + ou ∨ 200 * tx + 200 ≤ i) → ycd i = fcd i) ∧ ∃ j9 b9, eRun tx td ftp fwo j9 za 0 ou 0 fcd fhe 1 1 = some (b9, zza, zou, zb, ycd, yhe) ∧ r = bz b9) 1 ((m_X6_next_h019 td ftp za1), (m_X6_unwinds_h027 tx op1 yc yh 1 hm1 ou1), nI (m_X6_unwinds_h025 tx op1 yc yh 1 hm1 ou1), (m_X6_unwinds_h026 tx op1 yc yh 1 hm1 ou1), (m_X6_next_h020 td ftp za1), (m_X6_next_h021 td ftp fwo za1), (m_X6_next_h022 td ftp fwo za1), (m_X6_unwinds_cd tx op1 yc yh 1 hm1 ou1), yh) := by have hU9 := uw_use (s26 := op1) (by decide : (1 : Int32) ≤ 1) hI0; have hE9 := hU9.1; rw [c_21N] at hE9; exact ⟨Or.inr rfl, fun _ => eI_end hE9, by omega, by omega, by omega, fun i hi => by rw [hU9.2 i (by omega) (by omega)]; exact hu i hi, ⟨1 + j9, true, by rw [hF 1, show (1 : Nat) = 0 + 1 from rfl, eRun]; rw [if_pos c_3, if_pos c_4, if_pos c_21], rfl⟩⟩
            exact W.zret (v := 1) hx hb hr (rfl) (fun t ht hW => ⟨⟨1, ((m_X6_next_h019 td ftp za1), (m_X6_unwinds_h027 tx op1 yc yh 1 hm1 ou1), nI (m_X6_unwinds_h025 tx op1 yc yh 1 hm1 ou1), (m_X6_unwinds_h026 tx op1 yc yh 1 hm1 ou1), (m_X6_next_h020 td ftp za1), (m_X6_next_h021 td ftp fwo za1), (m_X6_next_h022 td ftp fwo za1), (m_X6_unwinds_cd tx op1 yc yh 1 hm1 ou1), yh), rfl, hpost, by rw [ht]; exact hP9, va_K.moved hW.alike hK, hD9⟩, hS.F ht⟩) hS.2.2 dX6_eRead_176
      · skip
        obtain ⟨hI1, hw1⟩ := eI_w1 hI c_3
        refine lv_aload_n hx hb dX6_eRead_22 rfl (lv_at hl 0 rfl) ?_
        refine va_get (D := G.1) (ci := 6) (v := .int (m_X6_next_h021 td ftp fwo za1)) (C := RX6) (T := TX6) (N := 42) hx hb hts hiX6 hown hK hP 2 rfl rfl 21 (by decide +kernel) kf117 (fun _ h9 => h9) rfl dX6_eRead_23 ?_
        refine lv_iconst (v := 1) hx hb dX6_eRead_26 (by decide +kernel) ?_
        refine lv_icmp_eq (tgt := 38) hx hb dX6_eRead_27 (by decide +kernel) (fun c_22 => ?_) (fun c_22 => ?_)
        · skip
          refine lv_aload_n hx hb dX6_eRead_38 rfl (lv_at hl 0 rfl) ?_
          refine lv_aload_n hx hb dX6_eRead_39 rfl (lv_at hl 0 rfl) ?_
          refine va_get (D := G.1) (ci := 6) (v := .int (m_X6_next_h021 td ftp fwo za1)) (C := RX6) (T := TX6) (N := 42) hx hb hts hiX6 hown hK hP 2 rfl rfl 21 (by decide +kernel) kf117 (fun _ h9 => h9) rfl dX6_eRead_40 ?_
          refine lv_iconst (v := 1) hx hb dX6_eRead_43 (by decide +kernel) ?_
          refine lv_icmp_ne (tgt := 57) hx hb dX6_eRead_44 (by decide +kernel) (fun c_23 => ?_) (fun c_23 => ?_)
          · exact absurd (c_22) c_23
          refine lv_ldc hx hb hown (hts (.constant RX6 153 (100000)) (by decide +kernel)) dX6_eRead_47 ?_
          refine lv_aload_n hx hb dX6_eRead_49 rfl (lv_at hl 0 rfl) ?_
          refine va_get (D := G.1) (ci := 6) (v := .int (m_X6_next_h022 td ftp fwo za1)) (C := RX6) (T := TX6) (N := 42) hx hb hts hiX6 hown hK hP 2 rfl rfl 22 (by decide +kernel) kf120 (fun _ h9 => h9) rfl dX6_eRead_50 ?_
          refine lv_iadd hx hb dX6_eRead_53 ?_
          refine lv_goto (tgt := 61) hx hb dX6_eRead_54 (by decide +kernel) ?_
          have hz9 : gPD G A [zo6 h0 (nI pb) kd mo st (nI jg) ro tp (nI td) cd sr (nI tx) (nI ru) him ir ih ss sq ce lw (nI (m_X6_next_h019 td ftp za1)) (m_X6_next_h020 td ftp za1) (m_X6_next_h021 td ftp fwo za1) (m_X6_next_h022 td ftp fwo za1) wo he (nI hm1) op1 (nI ou1) sk na kp s31 s32 s33 s34 gb go fa ga s39 s40 vo, zi G cd 1200 yc] H := ⟨hP.sub [2, 0] rfl, hD.sub [2, 0] (by decide +kernel) rfl⟩
          have hPc := hz9.1
          have hDc := hz9.2
          have hFc := gFree hPc hD hS hA [2, 0] rfl
          refine va_callv (va_runV (As := [.int (100000 + (m_X6_next_h022 td ftp fwo za1))]) (rest := []) ⟨hx, hb, hml, hown, hts⟩ (c_X6_puts l G h0 kd mo st ro tp cd sr ir ih ss sq ce lw wo he sk na kp gb go fa ga vo pb jg td tx ru him (nI (m_X6_next_h019 td ftp za1)) (m_X6_next_h020 td ftp za1) (m_X6_next_h021 td ftp fwo za1) (m_X6_next_h022 td ftp fwo za1) (nI hm1) op1 s31 s32 s33 s34 s39 s40 yc (100000 + (m_X6_next_h022 td ftp fwo za1)) ou1 H.size (by first | exact hou | assumption | omega) (by first | exact htx | assumption | omega)) (cwV 1 hts gX6_eRead_X6_puts rfl rfl rfl (by decide +kernel) ⟨Nat.le_of_ble_eq_true rfl, Nat.le_of_ble_eq_true rfl⟩) ⟨gPre_blind, va_recv hK hPc (ci := 6) (q0 := 0) rfl rfl, fun U hU hW => gPre_of hU hW hK hPc hDc⟩ rfl rfl hl.1 rfl (lv_room (Nat.le_of_ble_eq_true rfl)) dX6_eRead_61 ⟨Nat.le_of_ble_eq_true rfl, Nat.le_of_ble_eq_true rfl⟩) hS (fun q _ h => hFc q h) hFc (fun u t H locs ht hvm w_25 hB hz1 hk1 hS => ?_)
          obtain ⟨hP1, hK1, hD1⟩ := hB
          rw [ht] at hP1
          have hz9 : gPD G (va_A _ _) [zo6 h0 (nI pb) kd mo st (nI jg) ro tp (nI td) cd sr (nI tx) (nI ru) him ir ih ss sq ce lw (nI (m_X6_next_h019 td ftp za1)) (m_X6_next_h020 td ftp za1) (m_X6_next_h021 td ftp fwo za1) (m_X6_next_h022 td ftp fwo za1) wo he (nI hm1) op1 (nI ((ou1 + 1))) sk na kp s31 s32 s33 s34 gb go fa ga s39 s40 vo, zi G cd 1200 (upd yc ((200 * tx) + ou1) (100000 + (m_X6_next_h022 td ftp fwo za1)))] H := ⟨hP1, hD1⟩
          have hP1 := hz9.1
          have hD1 := hz9.2
          have hz9 : gPD G A [zi G he 200 yh, zi G tp 160 ftp, zi G wo 96 fwo, zo6 h0 (nI pb) kd mo st (nI jg) ro tp (nI td) cd sr (nI tx) (nI ru) him ir ih ss sq ce lw (nI (m_X6_next_h019 td ftp za1)) (m_X6_next_h020 td ftp za1) (m_X6_next_h021 td ftp fwo za1) (m_X6_next_h022 td ftp fwo za1) wo he (nI hm1) op1 (nI ((ou1 + 1))) sk na kp s31 s32 s33 s34 gb go fa ga s39 s40 vo, zi G cd 1200 (upd yc ((200 * tx) + ou1) (100000 + (m_X6_next_h022 td ftp fwo za1)))] H := gJoin hP hD hk1 hFc hP1 hD1 [2, 0] [1, 3, 4] rfl rfl rfl (by decide +kernel) (by decide +kernel)
          have hP := hz9.1
          have hD := hz9.2
          refine lv_aload_n hx hb dX6_eRead_64 rfl (lv_at hl 0 rfl) ?_
          refine lv_bipush (v := 7) hx hb dX6_eRead_65 (by decide +kernel) ?_
          have hz9 : gPD G A [zo6 h0 (nI pb) kd mo st (nI jg) ro tp (nI td) cd sr (nI tx) (nI ru) him ir ih ss sq ce lw (nI (m_X6_next_h019 td ftp za1)) (m_X6_next_h020 td ftp za1) (m_X6_next_h021 td ftp fwo za1) (m_X6_next_h022 td ftp fwo za1) wo he (nI hm1) op1 (nI ((ou1 + 1))) sk na kp s31 s32 s33 s34 gb go fa ga s39 s40 vo, zi G cd 1200 (upd yc ((200 * tx) + ou1) (100000 + (m_X6_next_h022 td ftp fwo za1))), zi G he 200 yh] H := ⟨hP.sub [3, 4, 0] rfl, hD.sub [3, 4, 0] (by decide +kernel) rfl⟩
          have hPc := hz9.1
          have hDc := hz9.2
          have hFc := gFree hPc hD hS hA [3, 4, 0] rfl
          refine va_callv (va_runV (As := [.int 7]) (rest := []) ⟨hx, hb, hml, hown, hts⟩ (c_X6_unwinds l G h0 kd mo st ro tp cd sr ir ih ss sq ce lw wo he sk na kp gb go fa ga vo pb jg td tx ru him (nI (m_X6_next_h019 td ftp za1)) (m_X6_next_h020 td ftp za1) (m_X6_next_h021 td ftp fwo za1) (m_X6_next_h022 td ftp fwo za1) op1 s31 s32 s33 s34 s39 s40 (upd yc ((200 * tx) + ou1) (100000 + (m_X6_next_h022 td ftp fwo za1))) yh 7 hm1 ((ou1 + 1)) H.size (by first | exact hom | assumption | omega) (by first | exact htx | assumption | omega)) (cwV 1 hts gX6_eRead_X6_unwinds rfl rfl rfl (by decide +kernel) ⟨Nat.le_of_ble_eq_true rfl, Nat.le_of_ble_eq_true rfl⟩) ⟨gPre_blind, va_recv hK hPc (ci := 6) (q0 := 0) rfl rfl, fun U hU hW => gPre_of hU hW hK hPc hDc⟩ rfl rfl hl.1 rfl (lv_room (Nat.le_of_ble_eq_true rfl)) dX6_eRead_67 ⟨Nat.le_of_ble_eq_true rfl, Nat.le_of_ble_eq_true rfl⟩) hS (fun q _ h => hFc q h) hFc (fun u t H locs ht hvm w_27 hB hz1 hk1 hS => ?_)
          obtain ⟨hP1, hK1, hD1⟩ := hB
          rw [ht] at hP1
          have hz9 : gPD G (va_A _ _) [zo6 h0 (nI pb) kd mo st (nI jg) ro tp (nI td) cd sr (nI tx) (nI ru) him ir ih ss sq ce lw (nI (m_X6_next_h019 td ftp za1)) (m_X6_next_h020 td ftp za1) (m_X6_next_h021 td ftp fwo za1) (m_X6_next_h022 td ftp fwo za1) wo he (nI (m_X6_unwinds_h025 tx op1 (upd yc ((200 * tx) + ou1) (100000 + (m_X6_next_h022 td ftp fwo za1))) yh 7 hm1 ((ou1 + 1)))) (m_X6_unwinds_h026 tx op1 (upd yc ((200 * tx) + ou1) (100000 + (m_X6_next_h022 td ftp fwo za1))) yh 7 hm1 ((ou1 + 1))) (nI (m_X6_unwinds_h027 tx op1 (upd yc ((200 * tx) + ou1) (100000 + (m_X6_next_h022 td ftp fwo za1))) yh 7 hm1 ((ou1 + 1)))) sk na kp s31 s32 s33 s34 gb go fa ga s39 s40 vo, zi G cd 1200 (m_X6_unwinds_cd tx op1 (upd yc ((200 * tx) + ou1) (100000 + (m_X6_next_h022 td ftp fwo za1))) yh 7 hm1 ((ou1 + 1))), zi G he 200 yh] H := ⟨hP1, hD1⟩
          have hP1 := hz9.1
          have hD1 := hz9.2
          have w_27 : (m_X6_unwinds_h025 tx op1 (upd yc ((200 * tx) + ou1) (100000 + (m_X6_next_h022 td ftp fwo za1))) yh 7 hm1 ((ou1 + 1))) ≤ hm1 ∧ (m_X6_unwinds_h027 tx op1 (upd yc ((200 * tx) + ou1) (100000 + (m_X6_next_h022 td ftp fwo za1))) yh 7 hm1 ((ou1 + 1))) + (m_X6_unwinds_h025 tx op1 (upd yc ((200 * tx) + ou1) (100000 + (m_X6_next_h022 td ftp fwo za1))) yh 7 hm1 ((ou1 + 1))) = ((ou1 + 1)) + hm1 := w_27
          have hz9 : gPD G A [zi G tp 160 ftp, zi G wo 96 fwo, zo6 h0 (nI pb) kd mo st (nI jg) ro tp (nI td) cd sr (nI tx) (nI ru) him ir ih ss sq ce lw (nI (m_X6_next_h019 td ftp za1)) (m_X6_next_h020 td ftp za1) (m_X6_next_h021 td ftp fwo za1) (m_X6_next_h022 td ftp fwo za1) wo he (nI (m_X6_unwinds_h025 tx op1 (upd yc ((200 * tx) + ou1) (100000 + (m_X6_next_h022 td ftp fwo za1))) yh 7 hm1 ((ou1 + 1)))) (m_X6_unwinds_h026 tx op1 (upd yc ((200 * tx) + ou1) (100000 + (m_X6_next_h022 td ftp fwo za1))) yh 7 hm1 ((ou1 + 1))) (nI (m_X6_unwinds_h027 tx op1 (upd yc ((200 * tx) + ou1) (100000 + (m_X6_next_h022 td ftp fwo za1))) yh 7 hm1 ((ou1 + 1)))) sk na kp s31 s32 s33 s34 gb go fa ga s39 s40 vo, zi G cd 1200 (m_X6_unwinds_cd tx op1 (upd yc ((200 * tx) + ou1) (100000 + (m_X6_next_h022 td ftp fwo za1))) yh 7 hm1 ((ou1 + 1))), zi G he 200 yh] H := gJoin hP hD hk1 hFc hP1 hD1 [3, 4, 0] [1, 2] rfl rfl rfl (by decide +kernel) (by decide +kernel)
          have hP := hz9.1
          have hD := hz9.2
          have huw := w_27
          refine lv_iconst (v := 0) hx hb dX6_eRead_70 (by decide +kernel) ?_
          refine lv_istore_n (lv' := [zI 1 0, zR 0 h0, zI 2 mn]) hx hb dX6_eRead_71 rfl hl (by decide +kernel) rfl (fun ls hl => ?_)
          refine lv_goto (tgt := 14) hx hb dX6_eRead_72 (by decide +kernel) ?_
          have hgt := hn3 (fun z9 => absurd (c_22.symm.trans z9) (by decide +kernel))
          have hU := uw_use (s26 := op1) (by decide : (1 : Int32) ≤ 7) (eI_put hI1 (Or.inl (hn5 c_22)) (by omega))
          exact ih9 (m_X6_next_h019 td ftp za1) (m_X6_unwinds_h025 tx op1 (upd yc ((200 * tx) + ou1) (100000 + (m_X6_next_h022 td ftp fwo za1))) yh 7 hm1 ((ou1 + 1))) (m_X6_unwinds_h027 tx op1 (upd yc ((200 * tx) + ou1) (100000 + (m_X6_next_h022 td ftp fwo za1))) yh 7 hm1 ((ou1 + 1))) (m_X6_unwinds_h026 tx op1 (upd yc ((200 * tx) + ou1) (100000 + (m_X6_next_h022 td ftp fwo za1))) yh 7 hm1 ((ou1 + 1))) (m_X6_next_h020 td ftp za1) (m_X6_next_h021 td ftp fwo za1) (m_X6_next_h022 td ftp fwo za1) (m_X6_unwinds_cd tx op1 (upd yc ((200 * tx) + ou1) (100000 + (m_X6_next_h022 td ftp fwo za1))) yh 7 hm1 ((ou1 + 1))) yh 0 mn (j9 + 1) (⟨hn2, by omega⟩) (by omega) (Or.inr ⟨rfl, hU.1⟩) (fun i hi => by rw [hU.2 i (by omega) (by omega), upd_n9 (by omega)]; exact hu i hi) (fun q => by rw [show q + (j9 + 1) = (q + 1) + j9 by omega, hF (q + 1), eRun]; rw [if_neg c_3, if_pos c_22]) (by omega) _ _ (hP.sub [2, 3, 4, 0, 1] rfl) (hD.sub [2, 3, 4, 0, 1] (by decide +kernel) rfl) hS ls (lv_sub hl [1, 0, 2] rfl)
        · skip
          refine lv_aload_n hx hb dX6_eRead_30 rfl (lv_at hl 0 rfl) ?_
          refine va_get (D := G.1) (ci := 6) (v := .int (m_X6_next_h021 td ftp fwo za1)) (C := RX6) (T := TX6) (N := 42) hx hb hts hiX6 hown hK hP 2 rfl rfl 21 (by decide +kernel) kf117 (fun _ h9 => h9) rfl dX6_eRead_31 ?_
          refine lv_iconst (v := 2) hx hb dX6_eRead_34 (by decide +kernel) ?_
          refine lv_icmp_ne (tgt := 75) hx hb dX6_eRead_35 (by decide +kernel) (fun c_28 => ?_) (fun c_28 => ?_)
          · skip
            refine lv_aload_n hx hb dX6_eRead_75 rfl (lv_at hl 0 rfl) ?_
            refine va_get (D := G.1) (ci := 6) (v := .int (m_X6_next_h021 td ftp fwo za1)) (C := RX6) (T := TX6) (N := 42) hx hb hts hiX6 hown hK hP 2 rfl rfl 21 (by decide +kernel) kf117 (fun _ h9 => h9) rfl dX6_eRead_76 ?_
            refine lv_bipush (v := 6) hx hb dX6_eRead_79 (by decide +kernel) ?_
            refine lv_icmp_ne (tgt := 99) hx hb dX6_eRead_81 (by decide +kernel) (fun c_29 => ?_) (fun c_29 => ?_)
            · skip
              refine lv_aload_n hx hb dX6_eRead_99 rfl (lv_at hl 0 rfl) ?_
              refine va_get (D := G.1) (ci := 6) (v := .int (m_X6_next_h021 td ftp fwo za1)) (C := RX6) (T := TX6) (N := 42) hx hb hts hiX6 hown hK hP 2 rfl rfl 21 (by decide +kernel) kf117 (fun _ h9 => h9) rfl dX6_eRead_100 ?_
              refine lv_bipush (v := 45) hx hb dX6_eRead_103 (by decide +kernel) ?_
              refine lv_icmp_ne (tgt := 124) hx hb dX6_eRead_105 (by decide +kernel) (fun c_30 => ?_) (fun c_30 => ?_)
              · skip
                refine lv_aload_n hx hb dX6_eRead_124 rfl (lv_at hl 0 rfl) ?_
                refine va_get (D := G.1) (ci := 6) (v := .int (m_X6_next_h021 td ftp fwo za1)) (C := RX6) (T := TX6) (N := 42) hx hb hts hiX6 hown hK hP 2 rfl rfl 21 (by decide +kernel) kf117 (fun _ h9 => h9) rfl dX6_eRead_125 ?_
                refine lv_bipush (v := 40) hx hb dX6_eRead_128 (by decide +kernel) ?_
                refine lv_icmp_ne (tgt := 148) hx hb dX6_eRead_130 (by decide +kernel) (fun c_31 => ?_) (fun c_31 => ?_)
                · skip
                  refine lv_iconst (v := 0) hx hb dX6_eRead_148 (by decide +kernel) ?_
                  have hP9 := hP.sub (ws' := [zo6 h0 (nI pb) kd mo st (nI jg) ro tp (nI td) cd sr (nI tx) (nI ru) him ir ih ss sq ce lw (nI (m_X6_next_h019 td ftp za1)) (m_X6_next_h020 td ftp za1) (m_X6_next_h021 td ftp fwo za1) (m_X6_next_h022 td ftp fwo za1) wo he (nI hm1) op1 (nI ou1) sk na kp s31 s32 s33 s34 gb go fa ga s39 s40 vo, zi G cd 1200 yc, zi G he 200 yh, zi G tp 160 ftp, zi G wo 96 fwo]) [2, 0, 1, 3, 4] rfl
                  have hD9 := hD.sub (ws' := [zo6 h0 (nI pb) kd mo st (nI jg) ro tp (nI td) cd sr (nI tx) (nI ru) him ir ih ss sq ce lw (nI (m_X6_next_h019 td ftp za1)) (m_X6_next_h020 td ftp za1) (m_X6_next_h021 td ftp fwo za1) (m_X6_next_h022 td ftp fwo za1) wo he (nI hm1) op1 (nI ou1) sk na kp s31 s32 s33 s34 gb go fa ga s39 s40 vo, zi G cd 1200 yc, zi G he 200 yh, zi G tp 160 ftp, zi G wo 96 fwo]) [2, 0, 1, 3, 4] (by decide +kernel) rfl
                  have hpost : (fun (r : Int32) (u : Nat × Nat × Int32 × Int32 × Int32 × Int32 × Int32 × (Nat → Int32) × (Nat → Int32)) => match u with | (zza, zou, zhm, zop, zb, zt, zv, ycd, yhe) => (r = 0 ∨ r = 1) ∧ (r = 1 → dp (eF ycd tx) ou (zou - ou) = some 1) ∧ zza ≤ td ∧ zou + 1 ≤ zza ∧ ou ≤ zou ∧ (∀ i, (i < 200 * tx + ou ∨ 200 * tx + 200 ≤ i) → ycd i = fcd i) ∧ ∃ j9 b9, eRun tx td ftp fwo j9 za 0 ou 0 fcd fhe 1 1 = some (b9, zza, zou, zb, ycd, yhe) ∧ r = bz b9) 0 ((m_X6_next_h019 td ftp za1), ou1, (nI hm1), op1, (m_X6_next_h020 td ftp za1), (m_X6_next_h021 td ftp fwo za1), (m_X6_next_h022 td ftp fwo za1), yc, yh) := by exact ⟨Or.inl rfl, fun z => absurd z (by decide +kernel), by omega, by omega, by omega, hu, ⟨1 + j9, false, by rw [hF 1, show (1 : Nat) = 0 + 1 from rfl, eRun]; rw [if_neg c_3, if_neg c_22, if_neg c_28, if_neg c_29, if_neg c_30, if_neg c_31], rfl⟩⟩
                  exact W.zret (v := 0) hx hb hr (rfl) (fun t ht hW => ⟨⟨0, ((m_X6_next_h019 td ftp za1), ou1, (nI hm1), op1, (m_X6_next_h020 td ftp za1), (m_X6_next_h021 td ftp fwo za1), (m_X6_next_h022 td ftp fwo za1), yc, yh), rfl, hpost, by rw [ht]; exact hP9, va_K.moved hW.alike hK, hD9⟩, hS.F ht⟩) hS.2.2 dX6_eRead_149
                · skip
                  refine lv_aload_n hx hb dX6_eRead_133 rfl (lv_at hl 0 rfl) ?_
                  refine lv_iconst (v := 0) hx hb dX6_eRead_134 (by decide +kernel) ?_
                  have hz9 : gPD G A [zo6 h0 (nI pb) kd mo st (nI jg) ro tp (nI td) cd sr (nI tx) (nI ru) him ir ih ss sq ce lw (nI (m_X6_next_h019 td ftp za1)) (m_X6_next_h020 td ftp za1) (m_X6_next_h021 td ftp fwo za1) (m_X6_next_h022 td ftp fwo za1) wo he (nI hm1) op1 (nI ou1) sk na kp s31 s32 s33 s34 gb go fa ga s39 s40 vo, zi G he 200 yh] H := ⟨hP.sub [2, 1] rfl, hD.sub [2, 1] (by decide +kernel) rfl⟩
                  have hPc := hz9.1
                  have hDc := hz9.2
                  have hFc := gFree hPc hD hS hA [2, 1] rfl
                  refine va_calli (va_runV (As := [.int 0]) (rest := []) ⟨hx, hb, hml, hown, hts⟩ (c_X6_opensOne l G h0 kd mo st ro tp cd sr ir ih ss sq ce lw wo he sk na kp gb go fa ga vo pb jg td tx ru him (nI (m_X6_next_h019 td ftp za1)) (m_X6_next_h020 td ftp za1) (m_X6_next_h021 td ftp fwo za1) (m_X6_next_h022 td ftp fwo za1) op1 (nI ou1) s31 s32 s33 s34 s39 s40 yh 0 hm1 H.size (by first | exact hhm | assumption | omega)) (cwV 1 hts gX6_eRead_X6_opensOne rfl rfl rfl (by decide +kernel) ⟨Nat.le_of_ble_eq_true rfl, Nat.le_of_ble_eq_true rfl⟩) ⟨gPre_blind, va_recv hK hPc (ci := 6) (q0 := 0) rfl rfl, fun U hU hW => gPre_of hU hW hK hPc hDc⟩ rfl rfl hl.1 rfl (lv_room (Nat.le_of_ble_eq_true rfl)) dX6_eRead_135 ⟨Nat.le_of_ble_eq_true rfl, Nat.le_of_ble_eq_true rfl⟩) hS (fun q _ h => hFc q h) hFc (fun r_32 u t H locs ht hvm w_33 hB hz1 hk1 hS => ?_)
                  obtain ⟨hP1, hK1, hD1⟩ := hB
                  rw [ht] at hP1
                  have hz9 : gPD G (va_A _ _) [zo6 h0 (nI pb) kd mo st (nI jg) ro tp (nI td) cd sr (nI tx) (nI ru) him ir ih ss sq ce lw (nI (m_X6_next_h019 td ftp za1)) (m_X6_next_h020 td ftp za1) (m_X6_next_h021 td ftp fwo za1) (m_X6_next_h022 td ftp fwo za1) wo he (nI (m_X6_opensOne_h025 op1 hm1)) (m_X6_opensOne_h026 op1) (nI ou1) sk na kp s31 s32 s33 s34 gb go fa ga s39 s40 vo, zi G he 200 (m_X6_opensOne_he op1 yh 0 hm1)] H := ⟨hP1, hD1⟩
                  have hP1 := hz9.1
                  have hD1 := hz9.2
                  have w_33 : r_32 = m_X6_opensOne op1 := w_33
                  have hz9 : gPD G A [zi G cd 1200 yc, zi G tp 160 ftp, zi G wo 96 fwo, zo6 h0 (nI pb) kd mo st (nI jg) ro tp (nI td) cd sr (nI tx) (nI ru) him ir ih ss sq ce lw (nI (m_X6_next_h019 td ftp za1)) (m_X6_next_h020 td ftp za1) (m_X6_next_h021 td ftp fwo za1) (m_X6_next_h022 td ftp fwo za1) wo he (nI (m_X6_opensOne_h025 op1 hm1)) (m_X6_opensOne_h026 op1) (nI ou1) sk na kp s31 s32 s33 s34 gb go fa ga s39 s40 vo, zi G he 200 (m_X6_opensOne_he op1 yh 0 hm1)] H := gJoin hP hD hk1 hFc hP1 hD1 [2, 1] [0, 3, 4] rfl rfl rfl (by decide +kernel) (by decide +kernel)
                  have hP := hz9.1
                  have hD := hz9.2
                  subst w_33
                  refine lv_if_ne (tgt := 143) hx hb dX6_eRead_138 (by decide +kernel) (fun c_34 => ?_) (fun c_34 => ?_)
                  · skip
                    refine lv_iconst (v := 1) hx hb dX6_eRead_143 (by decide +kernel) ?_
                    refine lv_istore_n (lv' := [zI 2 1, zR 0 h0, zI 1 wv]) hx hb dX6_eRead_144 rfl hl (by decide +kernel) rfl (fun ls hl => ?_)
                    refine lv_goto (tgt := 14) hx hb dX6_eRead_145 (by decide +kernel) ?_
                    have hgt := hn3 (fun z9 => absurd (c_31.symm.trans z9) (by decide +kernel))
                    obtain ⟨ho1, ho2⟩ := oo_use (yh := yh) (v := 0) (hm := hm1) c_34
                    exact ih9 (m_X6_next_h019 td ftp za1) (m_X6_opensOne_h025 op1 hm1) ou1 (m_X6_opensOne_h026 op1) (m_X6_next_h020 td ftp za1) (m_X6_next_h021 td ftp fwo za1) (m_X6_next_h022 td ftp fwo za1) yc (m_X6_opensOne_he op1 yh 0 hm1) wv 1 (j9 + 1) (⟨hn2, by omega⟩) (by omega) (Or.inl ⟨hw1, by rw [ho1, ho2]; exact hold_N (by decide +kernel) hI1⟩) (hu) (fun q => by rw [show q + (j9 + 1) = (q + 1) + j9 by omega, hF (q + 1), eRun]; rw [if_neg c_3, if_neg c_22, if_neg c_28, if_neg c_29, if_neg c_30, if_pos c_31, if_neg c_34]) (by omega) _ _ (hP.sub [3, 0, 4, 1, 2] rfl) (hD.sub [3, 0, 4, 1, 2] (by decide +kernel) rfl) hS ls (lv_sub hl [1, 2, 0] rfl)
                  · skip
                    refine lv_iconst (v := 0) hx hb dX6_eRead_141 (by decide +kernel) ?_
                    have hP9 := hP.sub (ws' := [zo6 h0 (nI pb) kd mo st (nI jg) ro tp (nI td) cd sr (nI tx) (nI ru) him ir ih ss sq ce lw (nI (m_X6_next_h019 td ftp za1)) (m_X6_next_h020 td ftp za1) (m_X6_next_h021 td ftp fwo za1) (m_X6_next_h022 td ftp fwo za1) wo he (nI (m_X6_opensOne_h025 op1 hm1)) (m_X6_opensOne_h026 op1) (nI ou1) sk na kp s31 s32 s33 s34 gb go fa ga s39 s40 vo, zi G cd 1200 yc, zi G he 200 (m_X6_opensOne_he op1 yh 0 hm1), zi G tp 160 ftp, zi G wo 96 fwo]) [3, 0, 4, 1, 2] rfl
                    have hD9 := hD.sub (ws' := [zo6 h0 (nI pb) kd mo st (nI jg) ro tp (nI td) cd sr (nI tx) (nI ru) him ir ih ss sq ce lw (nI (m_X6_next_h019 td ftp za1)) (m_X6_next_h020 td ftp za1) (m_X6_next_h021 td ftp fwo za1) (m_X6_next_h022 td ftp fwo za1) wo he (nI (m_X6_opensOne_h025 op1 hm1)) (m_X6_opensOne_h026 op1) (nI ou1) sk na kp s31 s32 s33 s34 gb go fa ga s39 s40 vo, zi G cd 1200 yc, zi G he 200 (m_X6_opensOne_he op1 yh 0 hm1), zi G tp 160 ftp, zi G wo 96 fwo]) [3, 0, 4, 1, 2] (by decide +kernel) rfl
                    have hpost : (fun (r : Int32) (u : Nat × Nat × Int32 × Int32 × Int32 × Int32 × Int32 × (Nat → Int32) × (Nat → Int32)) => match u with | (zza, zou, zhm, zop, zb, zt, zv, ycd, yhe) => (r = 0 ∨ r = 1) ∧ (r = 1 → dp (eF ycd tx) ou (zou - ou) = some 1) ∧ zza ≤ td ∧ zou + 1 ≤ zza ∧ ou ≤ zou ∧ (∀ i, (i < 200 * tx + ou ∨ 200 * tx + 200 ≤ i) → ycd i = fcd i) ∧ ∃ j9 b9, eRun tx td ftp fwo j9 za 0 ou 0 fcd fhe 1 1 = some (b9, zza, zou, zb, ycd, yhe) ∧ r = bz b9) 0 ((m_X6_next_h019 td ftp za1), ou1, nI (m_X6_opensOne_h025 op1 hm1), (m_X6_opensOne_h026 op1), (m_X6_next_h020 td ftp za1), (m_X6_next_h021 td ftp fwo za1), (m_X6_next_h022 td ftp fwo za1), yc, (m_X6_opensOne_he op1 yh 0 hm1)) := by exact ⟨Or.inl rfl, fun z => absurd z (by decide +kernel), by omega, by omega, by omega, hu, ⟨1 + j9, false, by rw [hF 1, show (1 : Nat) = 0 + 1 from rfl, eRun]; rw [if_neg c_3, if_neg c_22, if_neg c_28, if_neg c_29, if_neg c_30, if_pos c_31, if_pos c_34], rfl⟩⟩
                    exact W.zret (v := 0) hx hb hr (rfl) (fun t ht hW => ⟨⟨0, ((m_X6_next_h019 td ftp za1), ou1, nI (m_X6_opensOne_h025 op1 hm1), (m_X6_opensOne_h026 op1), (m_X6_next_h020 td ftp za1), (m_X6_next_h021 td ftp fwo za1), (m_X6_next_h022 td ftp fwo za1), yc, (m_X6_opensOne_he op1 yh 0 hm1)), rfl, hpost, by rw [ht]; exact hP9, va_K.moved hW.alike hK, hD9⟩, hS.F ht⟩) hS.2.2 dX6_eRead_142
              · skip
                refine lv_aload_n hx hb dX6_eRead_108 rfl (lv_at hl 0 rfl) ?_
                refine lv_bipush (v := 19) hx hb dX6_eRead_109 (by decide +kernel) ?_
                have hz9 : gPD G A [zo6 h0 (nI pb) kd mo st (nI jg) ro tp (nI td) cd sr (nI tx) (nI ru) him ir ih ss sq ce lw (nI (m_X6_next_h019 td ftp za1)) (m_X6_next_h020 td ftp za1) (m_X6_next_h021 td ftp fwo za1) (m_X6_next_h022 td ftp fwo za1) wo he (nI hm1) op1 (nI ou1) sk na kp s31 s32 s33 s34 gb go fa ga s39 s40 vo, zi G he 200 yh] H := ⟨hP.sub [2, 1] rfl, hD.sub [2, 1] (by decide +kernel) rfl⟩
                have hPc := hz9.1
                have hDc := hz9.2
                have hFc := gFree hPc hD hS hA [2, 1] rfl
                refine va_calli (va_runV (As := [.int 19]) (rest := []) ⟨hx, hb, hml, hown, hts⟩ (c_X6_opensOne l G h0 kd mo st ro tp cd sr ir ih ss sq ce lw wo he sk na kp gb go fa ga vo pb jg td tx ru him (nI (m_X6_next_h019 td ftp za1)) (m_X6_next_h020 td ftp za1) (m_X6_next_h021 td ftp fwo za1) (m_X6_next_h022 td ftp fwo za1) op1 (nI ou1) s31 s32 s33 s34 s39 s40 yh 19 hm1 H.size (by first | exact hhm | assumption | omega)) (cwV 1 hts gX6_eRead_X6_opensOne rfl rfl rfl (by decide +kernel) ⟨Nat.le_of_ble_eq_true rfl, Nat.le_of_ble_eq_true rfl⟩) ⟨gPre_blind, va_recv hK hPc (ci := 6) (q0 := 0) rfl rfl, fun U hU hW => gPre_of hU hW hK hPc hDc⟩ rfl rfl hl.1 rfl (lv_room (Nat.le_of_ble_eq_true rfl)) dX6_eRead_111 ⟨Nat.le_of_ble_eq_true rfl, Nat.le_of_ble_eq_true rfl⟩) hS (fun q _ h => hFc q h) hFc (fun r_35 u t H locs ht hvm w_36 hB hz1 hk1 hS => ?_)
                obtain ⟨hP1, hK1, hD1⟩ := hB
                rw [ht] at hP1
                have hz9 : gPD G (va_A _ _) [zo6 h0 (nI pb) kd mo st (nI jg) ro tp (nI td) cd sr (nI tx) (nI ru) him ir ih ss sq ce lw (nI (m_X6_next_h019 td ftp za1)) (m_X6_next_h020 td ftp za1) (m_X6_next_h021 td ftp fwo za1) (m_X6_next_h022 td ftp fwo za1) wo he (nI (m_X6_opensOne_h025 op1 hm1)) (m_X6_opensOne_h026 op1) (nI ou1) sk na kp s31 s32 s33 s34 gb go fa ga s39 s40 vo, zi G he 200 (m_X6_opensOne_he op1 yh 19 hm1)] H := ⟨hP1, hD1⟩
                have hP1 := hz9.1
                have hD1 := hz9.2
                have w_36 : r_35 = m_X6_opensOne op1 := w_36
                have hz9 : gPD G A [zi G cd 1200 yc, zi G tp 160 ftp, zi G wo 96 fwo, zo6 h0 (nI pb) kd mo st (nI jg) ro tp (nI td) cd sr (nI tx) (nI ru) him ir ih ss sq ce lw (nI (m_X6_next_h019 td ftp za1)) (m_X6_next_h020 td ftp za1) (m_X6_next_h021 td ftp fwo za1) (m_X6_next_h022 td ftp fwo za1) wo he (nI (m_X6_opensOne_h025 op1 hm1)) (m_X6_opensOne_h026 op1) (nI ou1) sk na kp s31 s32 s33 s34 gb go fa ga s39 s40 vo, zi G he 200 (m_X6_opensOne_he op1 yh 19 hm1)] H := gJoin hP hD hk1 hFc hP1 hD1 [2, 1] [0, 3, 4] rfl rfl rfl (by decide +kernel) (by decide +kernel)
                have hP := hz9.1
                have hD := hz9.2
                subst w_36
                refine lv_if_ne (tgt := 119) hx hb dX6_eRead_114 (by decide +kernel) (fun c_37 => ?_) (fun c_37 => ?_)
                · skip
                  refine lv_iconst (v := 0) hx hb dX6_eRead_119 (by decide +kernel) ?_
                  refine lv_istore_n (lv' := [zI 2 0, zR 0 h0, zI 1 wv]) hx hb dX6_eRead_120 rfl hl (by decide +kernel) rfl (fun ls hl => ?_)
                  refine lv_goto (tgt := 14) hx hb dX6_eRead_121 (by decide +kernel) ?_
                  have hgt := hn3 (fun z9 => absurd (c_30.symm.trans z9) (by decide +kernel))
                  obtain ⟨ho1, ho2⟩ := oo_use (yh := yh) (v := 19) (hm := hm1) c_37
                  exact ih9 (m_X6_next_h019 td ftp za1) (m_X6_opensOne_h025 op1 hm1) ou1 (m_X6_opensOne_h026 op1) (m_X6_next_h020 td ftp za1) (m_X6_next_h021 td ftp fwo za1) (m_X6_next_h022 td ftp fwo za1) yc (m_X6_opensOne_he op1 yh 19 hm1) wv 0 (j9 + 1) (⟨hn2, by omega⟩) (by omega) (Or.inl ⟨hw1, by rw [ho1, ho2]; exact hold_N (by decide +kernel) hI1⟩) (hu) (fun q => by rw [show q + (j9 + 1) = (q + 1) + j9 by omega, hF (q + 1), eRun]; rw [if_neg c_3, if_neg c_22, if_neg c_28, if_neg c_29, if_pos c_30, if_neg c_37]) (by omega) _ _ (hP.sub [3, 0, 4, 1, 2] rfl) (hD.sub [3, 0, 4, 1, 2] (by decide +kernel) rfl) hS ls (lv_sub hl [1, 2, 0] rfl)
                · skip
                  refine lv_iconst (v := 0) hx hb dX6_eRead_117 (by decide +kernel) ?_
                  have hP9 := hP.sub (ws' := [zo6 h0 (nI pb) kd mo st (nI jg) ro tp (nI td) cd sr (nI tx) (nI ru) him ir ih ss sq ce lw (nI (m_X6_next_h019 td ftp za1)) (m_X6_next_h020 td ftp za1) (m_X6_next_h021 td ftp fwo za1) (m_X6_next_h022 td ftp fwo za1) wo he (nI (m_X6_opensOne_h025 op1 hm1)) (m_X6_opensOne_h026 op1) (nI ou1) sk na kp s31 s32 s33 s34 gb go fa ga s39 s40 vo, zi G cd 1200 yc, zi G he 200 (m_X6_opensOne_he op1 yh 19 hm1), zi G tp 160 ftp, zi G wo 96 fwo]) [3, 0, 4, 1, 2] rfl
                  have hD9 := hD.sub (ws' := [zo6 h0 (nI pb) kd mo st (nI jg) ro tp (nI td) cd sr (nI tx) (nI ru) him ir ih ss sq ce lw (nI (m_X6_next_h019 td ftp za1)) (m_X6_next_h020 td ftp za1) (m_X6_next_h021 td ftp fwo za1) (m_X6_next_h022 td ftp fwo za1) wo he (nI (m_X6_opensOne_h025 op1 hm1)) (m_X6_opensOne_h026 op1) (nI ou1) sk na kp s31 s32 s33 s34 gb go fa ga s39 s40 vo, zi G cd 1200 yc, zi G he 200 (m_X6_opensOne_he op1 yh 19 hm1), zi G tp 160 ftp, zi G wo 96 fwo]) [3, 0, 4, 1, 2] (by decide +kernel) rfl
                  have hpost : (fun (r : Int32) (u : Nat × Nat × Int32 × Int32 × Int32 × Int32 × Int32 × (Nat → Int32) × (Nat → Int32)) => match u with | (zza, zou, zhm, zop, zb, zt, zv, ycd, yhe) => (r = 0 ∨ r = 1) ∧ (r = 1 → dp (eF ycd tx) ou (zou - ou) = some 1) ∧ zza ≤ td ∧ zou + 1 ≤ zza ∧ ou ≤ zou ∧ (∀ i, (i < 200 * tx + ou ∨ 200 * tx + 200 ≤ i) → ycd i = fcd i) ∧ ∃ j9 b9, eRun tx td ftp fwo j9 za 0 ou 0 fcd fhe 1 1 = some (b9, zza, zou, zb, ycd, yhe) ∧ r = bz b9) 0 ((m_X6_next_h019 td ftp za1), ou1, nI (m_X6_opensOne_h025 op1 hm1), (m_X6_opensOne_h026 op1), (m_X6_next_h020 td ftp za1), (m_X6_next_h021 td ftp fwo za1), (m_X6_next_h022 td ftp fwo za1), yc, (m_X6_opensOne_he op1 yh 19 hm1)) := by exact ⟨Or.inl rfl, fun z => absurd z (by decide +kernel), by omega, by omega, by omega, hu, ⟨1 + j9, false, by rw [hF 1, show (1 : Nat) = 0 + 1 from rfl, eRun]; rw [if_neg c_3, if_neg c_22, if_neg c_28, if_neg c_29, if_pos c_30, if_pos c_37], rfl⟩⟩
                  exact W.zret (v := 0) hx hb hr (rfl) (fun t ht hW => ⟨⟨0, ((m_X6_next_h019 td ftp za1), ou1, nI (m_X6_opensOne_h025 op1 hm1), (m_X6_opensOne_h026 op1), (m_X6_next_h020 td ftp za1), (m_X6_next_h021 td ftp fwo za1), (m_X6_next_h022 td ftp fwo za1), yc, (m_X6_opensOne_he op1 yh 19 hm1)), rfl, hpost, by rw [ht]; exact hP9, va_K.moved hW.alike hK, hD9⟩, hS.F ht⟩) hS.2.2 dX6_eRead_118
            · skip
              refine lv_iload_n hx hb dX6_eRead_84 rfl (lv_at hl 2 rfl) ?_
              refine lv_if_eq (tgt := 99) hx hb dX6_eRead_85 (by decide +kernel) (fun c_38 => ?_) (fun c_38 => ?_)
              · skip
                refine lv_aload_n hx hb dX6_eRead_99 rfl (lv_at hl 0 rfl) ?_
                refine va_get (D := G.1) (ci := 6) (v := .int (m_X6_next_h021 td ftp fwo za1)) (C := RX6) (T := TX6) (N := 42) hx hb hts hiX6 hown hK hP 2 rfl rfl 21 (by decide +kernel) kf117 (fun _ h9 => h9) rfl dX6_eRead_100 ?_
                refine lv_bipush (v := 45) hx hb dX6_eRead_103 (by decide +kernel) ?_
                refine lv_icmp_ne (tgt := 124) hx hb dX6_eRead_105 (by decide +kernel) (fun c_39 => ?_) (fun c_39 => ?_)
                · skip
                  refine lv_aload_n hx hb dX6_eRead_124 rfl (lv_at hl 0 rfl) ?_
                  refine va_get (D := G.1) (ci := 6) (v := .int (m_X6_next_h021 td ftp fwo za1)) (C := RX6) (T := TX6) (N := 42) hx hb hts hiX6 hown hK hP 2 rfl rfl 21 (by decide +kernel) kf117 (fun _ h9 => h9) rfl dX6_eRead_125 ?_
                  refine lv_bipush (v := 40) hx hb dX6_eRead_128 (by decide +kernel) ?_
                  refine lv_icmp_ne (tgt := 148) hx hb dX6_eRead_130 (by decide +kernel) (fun c_40 => ?_) (fun c_40 => ?_)
                  · skip
                    refine lv_iconst (v := 0) hx hb dX6_eRead_148 (by decide +kernel) ?_
                    have hP9 := hP.sub (ws' := [zo6 h0 (nI pb) kd mo st (nI jg) ro tp (nI td) cd sr (nI tx) (nI ru) him ir ih ss sq ce lw (nI (m_X6_next_h019 td ftp za1)) (m_X6_next_h020 td ftp za1) (m_X6_next_h021 td ftp fwo za1) (m_X6_next_h022 td ftp fwo za1) wo he (nI hm1) op1 (nI ou1) sk na kp s31 s32 s33 s34 gb go fa ga s39 s40 vo, zi G cd 1200 yc, zi G he 200 yh, zi G tp 160 ftp, zi G wo 96 fwo]) [2, 0, 1, 3, 4] rfl
                    have hD9 := hD.sub (ws' := [zo6 h0 (nI pb) kd mo st (nI jg) ro tp (nI td) cd sr (nI tx) (nI ru) him ir ih ss sq ce lw (nI (m_X6_next_h019 td ftp za1)) (m_X6_next_h020 td ftp za1) (m_X6_next_h021 td ftp fwo za1) (m_X6_next_h022 td ftp fwo za1) wo he (nI hm1) op1 (nI ou1) sk na kp s31 s32 s33 s34 gb go fa ga s39 s40 vo, zi G cd 1200 yc, zi G he 200 yh, zi G tp 160 ftp, zi G wo 96 fwo]) [2, 0, 1, 3, 4] (by decide +kernel) rfl
                    have hpost : (fun (r : Int32) (u : Nat × Nat × Int32 × Int32 × Int32 × Int32 × Int32 × (Nat → Int32) × (Nat → Int32)) => match u with | (zza, zou, zhm, zop, zb, zt, zv, ycd, yhe) => (r = 0 ∨ r = 1) ∧ (r = 1 → dp (eF ycd tx) ou (zou - ou) = some 1) ∧ zza ≤ td ∧ zou + 1 ≤ zza ∧ ou ≤ zou ∧ (∀ i, (i < 200 * tx + ou ∨ 200 * tx + 200 ≤ i) → ycd i = fcd i) ∧ ∃ j9 b9, eRun tx td ftp fwo j9 za 0 ou 0 fcd fhe 1 1 = some (b9, zza, zou, zb, ycd, yhe) ∧ r = bz b9) 0 ((m_X6_next_h019 td ftp za1), ou1, (nI hm1), op1, (m_X6_next_h020 td ftp za1), (m_X6_next_h021 td ftp fwo za1), (m_X6_next_h022 td ftp fwo za1), yc, yh) := by exact ⟨Or.inl rfl, fun z => absurd z (by decide +kernel), by omega, by omega, by omega, hu, ⟨1 + j9, false, by rw [hF 1, show (1 : Nat) = 0 + 1 from rfl, eRun]; rw [if_neg c_3, if_neg c_22, if_neg c_28, if_pos c_29, if_pos c_38, if_neg c_39, if_neg c_40], rfl⟩⟩
                    exact W.zret (v := 0) hx hb hr (rfl) (fun t ht hW => ⟨⟨0, ((m_X6_next_h019 td ftp za1), ou1, (nI hm1), op1, (m_X6_next_h020 td ftp za1), (m_X6_next_h021 td ftp fwo za1), (m_X6_next_h022 td ftp fwo za1), yc, yh), rfl, hpost, by rw [ht]; exact hP9, va_K.moved hW.alike hK, hD9⟩, hS.F ht⟩) hS.2.2 dX6_eRead_149
                  · skip
                    refine lv_aload_n hx hb dX6_eRead_133 rfl (lv_at hl 0 rfl) ?_
                    refine lv_iconst (v := 0) hx hb dX6_eRead_134 (by decide +kernel) ?_
                    have hz9 : gPD G A [zo6 h0 (nI pb) kd mo st (nI jg) ro tp (nI td) cd sr (nI tx) (nI ru) him ir ih ss sq ce lw (nI (m_X6_next_h019 td ftp za1)) (m_X6_next_h020 td ftp za1) (m_X6_next_h021 td ftp fwo za1) (m_X6_next_h022 td ftp fwo za1) wo he (nI hm1) op1 (nI ou1) sk na kp s31 s32 s33 s34 gb go fa ga s39 s40 vo, zi G he 200 yh] H := ⟨hP.sub [2, 1] rfl, hD.sub [2, 1] (by decide +kernel) rfl⟩
                    have hPc := hz9.1
                    have hDc := hz9.2
                    have hFc := gFree hPc hD hS hA [2, 1] rfl
                    refine va_calli (va_runV (As := [.int 0]) (rest := []) ⟨hx, hb, hml, hown, hts⟩ (c_X6_opensOne l G h0 kd mo st ro tp cd sr ir ih ss sq ce lw wo he sk na kp gb go fa ga vo pb jg td tx ru him (nI (m_X6_next_h019 td ftp za1)) (m_X6_next_h020 td ftp za1) (m_X6_next_h021 td ftp fwo za1) (m_X6_next_h022 td ftp fwo za1) op1 (nI ou1) s31 s32 s33 s34 s39 s40 yh 0 hm1 H.size (by first | exact hhm | assumption | omega)) (cwV 1 hts gX6_eRead_X6_opensOne rfl rfl rfl (by decide +kernel) ⟨Nat.le_of_ble_eq_true rfl, Nat.le_of_ble_eq_true rfl⟩) ⟨gPre_blind, va_recv hK hPc (ci := 6) (q0 := 0) rfl rfl, fun U hU hW => gPre_of hU hW hK hPc hDc⟩ rfl rfl hl.1 rfl (lv_room (Nat.le_of_ble_eq_true rfl)) dX6_eRead_135 ⟨Nat.le_of_ble_eq_true rfl, Nat.le_of_ble_eq_true rfl⟩) hS (fun q _ h => hFc q h) hFc (fun r_41 u t H locs ht hvm w_42 hB hz1 hk1 hS => ?_)
                    obtain ⟨hP1, hK1, hD1⟩ := hB
                    rw [ht] at hP1
                    have hz9 : gPD G (va_A _ _) [zo6 h0 (nI pb) kd mo st (nI jg) ro tp (nI td) cd sr (nI tx) (nI ru) him ir ih ss sq ce lw (nI (m_X6_next_h019 td ftp za1)) (m_X6_next_h020 td ftp za1) (m_X6_next_h021 td ftp fwo za1) (m_X6_next_h022 td ftp fwo za1) wo he (nI (m_X6_opensOne_h025 op1 hm1)) (m_X6_opensOne_h026 op1) (nI ou1) sk na kp s31 s32 s33 s34 gb go fa ga s39 s40 vo, zi G he 200 (m_X6_opensOne_he op1 yh 0 hm1)] H := ⟨hP1, hD1⟩
                    have hP1 := hz9.1
                    have hD1 := hz9.2
                    have w_42 : r_41 = m_X6_opensOne op1 := w_42
                    have hz9 : gPD G A [zi G cd 1200 yc, zi G tp 160 ftp, zi G wo 96 fwo, zo6 h0 (nI pb) kd mo st (nI jg) ro tp (nI td) cd sr (nI tx) (nI ru) him ir ih ss sq ce lw (nI (m_X6_next_h019 td ftp za1)) (m_X6_next_h020 td ftp za1) (m_X6_next_h021 td ftp fwo za1) (m_X6_next_h022 td ftp fwo za1) wo he (nI (m_X6_opensOne_h025 op1 hm1)) (m_X6_opensOne_h026 op1) (nI ou1) sk na kp s31 s32 s33 s34 gb go fa ga s39 s40 vo, zi G he 200 (m_X6_opensOne_he op1 yh 0 hm1)] H := gJoin hP hD hk1 hFc hP1 hD1 [2, 1] [0, 3, 4] rfl rfl rfl (by decide +kernel) (by decide +kernel)
                    have hP := hz9.1
                    have hD := hz9.2
                    subst w_42
                    refine lv_if_ne (tgt := 143) hx hb dX6_eRead_138 (by decide +kernel) (fun c_43 => ?_) (fun c_43 => ?_)
                    · skip
                      refine lv_iconst (v := 1) hx hb dX6_eRead_143 (by decide +kernel) ?_
                      refine lv_istore_n (lv' := [zI 2 1, zR 0 h0, zI 1 wv]) hx hb dX6_eRead_144 rfl hl (by decide +kernel) rfl (fun ls hl => ?_)
                      refine lv_goto (tgt := 14) hx hb dX6_eRead_145 (by decide +kernel) ?_
                      have hgt := hn3 (fun z9 => absurd (c_40.symm.trans z9) (by decide +kernel))
                      obtain ⟨ho1, ho2⟩ := oo_use (yh := yh) (v := 0) (hm := hm1) c_43
                      exact ih9 (m_X6_next_h019 td ftp za1) (m_X6_opensOne_h025 op1 hm1) ou1 (m_X6_opensOne_h026 op1) (m_X6_next_h020 td ftp za1) (m_X6_next_h021 td ftp fwo za1) (m_X6_next_h022 td ftp fwo za1) yc (m_X6_opensOne_he op1 yh 0 hm1) wv 1 (j9 + 1) (⟨hn2, by omega⟩) (by omega) (Or.inl ⟨hw1, by rw [ho1, ho2]; exact hold_N (by decide +kernel) hI1⟩) (hu) (fun q => by rw [show q + (j9 + 1) = (q + 1) + j9 by omega, hF (q + 1), eRun]; rw [if_neg c_3, if_neg c_22, if_neg c_28, if_pos c_29, if_pos c_38, if_neg c_39, if_pos c_40, if_neg c_43]) (by omega) _ _ (hP.sub [3, 0, 4, 1, 2] rfl) (hD.sub [3, 0, 4, 1, 2] (by decide +kernel) rfl) hS ls (lv_sub hl [1, 2, 0] rfl)
                    · skip
                      refine lv_iconst (v := 0) hx hb dX6_eRead_141 (by decide +kernel) ?_
                      have hP9 := hP.sub (ws' := [zo6 h0 (nI pb) kd mo st (nI jg) ro tp (nI td) cd sr (nI tx) (nI ru) him ir ih ss sq ce lw (nI (m_X6_next_h019 td ftp za1)) (m_X6_next_h020 td ftp za1) (m_X6_next_h021 td ftp fwo za1) (m_X6_next_h022 td ftp fwo za1) wo he (nI (m_X6_opensOne_h025 op1 hm1)) (m_X6_opensOne_h026 op1) (nI ou1) sk na kp s31 s32 s33 s34 gb go fa ga s39 s40 vo, zi G cd 1200 yc, zi G he 200 (m_X6_opensOne_he op1 yh 0 hm1), zi G tp 160 ftp, zi G wo 96 fwo]) [3, 0, 4, 1, 2] rfl
                      have hD9 := hD.sub (ws' := [zo6 h0 (nI pb) kd mo st (nI jg) ro tp (nI td) cd sr (nI tx) (nI ru) him ir ih ss sq ce lw (nI (m_X6_next_h019 td ftp za1)) (m_X6_next_h020 td ftp za1) (m_X6_next_h021 td ftp fwo za1) (m_X6_next_h022 td ftp fwo za1) wo he (nI (m_X6_opensOne_h025 op1 hm1)) (m_X6_opensOne_h026 op1) (nI ou1) sk na kp s31 s32 s33 s34 gb go fa ga s39 s40 vo, zi G cd 1200 yc, zi G he 200 (m_X6_opensOne_he op1 yh 0 hm1), zi G tp 160 ftp, zi G wo 96 fwo]) [3, 0, 4, 1, 2] (by decide +kernel) rfl
                      have hpost : (fun (r : Int32) (u : Nat × Nat × Int32 × Int32 × Int32 × Int32 × Int32 × (Nat → Int32) × (Nat → Int32)) => match u with | (zza, zou, zhm, zop, zb, zt, zv, ycd, yhe) => (r = 0 ∨ r = 1) ∧ (r = 1 → dp (eF ycd tx) ou (zou - ou) = some 1) ∧ zza ≤ td ∧ zou + 1 ≤ zza ∧ ou ≤ zou ∧ (∀ i, (i < 200 * tx + ou ∨ 200 * tx + 200 ≤ i) → ycd i = fcd i) ∧ ∃ j9 b9, eRun tx td ftp fwo j9 za 0 ou 0 fcd fhe 1 1 = some (b9, zza, zou, zb, ycd, yhe) ∧ r = bz b9) 0 ((m_X6_next_h019 td ftp za1), ou1, nI (m_X6_opensOne_h025 op1 hm1), (m_X6_opensOne_h026 op1), (m_X6_next_h020 td ftp za1), (m_X6_next_h021 td ftp fwo za1), (m_X6_next_h022 td ftp fwo za1), yc, (m_X6_opensOne_he op1 yh 0 hm1)) := by exact ⟨Or.inl rfl, fun z => absurd z (by decide +kernel), by omega, by omega, by omega, hu, ⟨1 + j9, false, by rw [hF 1, show (1 : Nat) = 0 + 1 from rfl, eRun]; rw [if_neg c_3, if_neg c_22, if_neg c_28, if_pos c_29, if_pos c_38, if_neg c_39, if_pos c_40, if_pos c_43], rfl⟩⟩
                      exact W.zret (v := 0) hx hb hr (rfl) (fun t ht hW => ⟨⟨0, ((m_X6_next_h019 td ftp za1), ou1, nI (m_X6_opensOne_h025 op1 hm1), (m_X6_opensOne_h026 op1), (m_X6_next_h020 td ftp za1), (m_X6_next_h021 td ftp fwo za1), (m_X6_next_h022 td ftp fwo za1), yc, (m_X6_opensOne_he op1 yh 0 hm1)), rfl, hpost, by rw [ht]; exact hP9, va_K.moved hW.alike hK, hD9⟩, hS.F ht⟩) hS.2.2 dX6_eRead_142
                · skip
                  refine lv_aload_n hx hb dX6_eRead_108 rfl (lv_at hl 0 rfl) ?_
                  refine lv_bipush (v := 19) hx hb dX6_eRead_109 (by decide +kernel) ?_
                  have hz9 : gPD G A [zo6 h0 (nI pb) kd mo st (nI jg) ro tp (nI td) cd sr (nI tx) (nI ru) him ir ih ss sq ce lw (nI (m_X6_next_h019 td ftp za1)) (m_X6_next_h020 td ftp za1) (m_X6_next_h021 td ftp fwo za1) (m_X6_next_h022 td ftp fwo za1) wo he (nI hm1) op1 (nI ou1) sk na kp s31 s32 s33 s34 gb go fa ga s39 s40 vo, zi G he 200 yh] H := ⟨hP.sub [2, 1] rfl, hD.sub [2, 1] (by decide +kernel) rfl⟩
                  have hPc := hz9.1
                  have hDc := hz9.2
                  have hFc := gFree hPc hD hS hA [2, 1] rfl
                  refine va_calli (va_runV (As := [.int 19]) (rest := []) ⟨hx, hb, hml, hown, hts⟩ (c_X6_opensOne l G h0 kd mo st ro tp cd sr ir ih ss sq ce lw wo he sk na kp gb go fa ga vo pb jg td tx ru him (nI (m_X6_next_h019 td ftp za1)) (m_X6_next_h020 td ftp za1) (m_X6_next_h021 td ftp fwo za1) (m_X6_next_h022 td ftp fwo za1) op1 (nI ou1) s31 s32 s33 s34 s39 s40 yh 19 hm1 H.size (by first | exact hhm | assumption | omega)) (cwV 1 hts gX6_eRead_X6_opensOne rfl rfl rfl (by decide +kernel) ⟨Nat.le_of_ble_eq_true rfl, Nat.le_of_ble_eq_true rfl⟩) ⟨gPre_blind, va_recv hK hPc (ci := 6) (q0 := 0) rfl rfl, fun U hU hW => gPre_of hU hW hK hPc hDc⟩ rfl rfl hl.1 rfl (lv_room (Nat.le_of_ble_eq_true rfl)) dX6_eRead_111 ⟨Nat.le_of_ble_eq_true rfl, Nat.le_of_ble_eq_true rfl⟩) hS (fun q _ h => hFc q h) hFc (fun r_44 u t H locs ht hvm w_45 hB hz1 hk1 hS => ?_)
                  obtain ⟨hP1, hK1, hD1⟩ := hB
                  rw [ht] at hP1
                  have hz9 : gPD G (va_A _ _) [zo6 h0 (nI pb) kd mo st (nI jg) ro tp (nI td) cd sr (nI tx) (nI ru) him ir ih ss sq ce lw (nI (m_X6_next_h019 td ftp za1)) (m_X6_next_h020 td ftp za1) (m_X6_next_h021 td ftp fwo za1) (m_X6_next_h022 td ftp fwo za1) wo he (nI (m_X6_opensOne_h025 op1 hm1)) (m_X6_opensOne_h026 op1) (nI ou1) sk na kp s31 s32 s33 s34 gb go fa ga s39 s40 vo, zi G he 200 (m_X6_opensOne_he op1 yh 19 hm1)] H := ⟨hP1, hD1⟩
                  have hP1 := hz9.1
                  have hD1 := hz9.2
                  have w_45 : r_44 = m_X6_opensOne op1 := w_45
                  have hz9 : gPD G A [zi G cd 1200 yc, zi G tp 160 ftp, zi G wo 96 fwo, zo6 h0 (nI pb) kd mo st (nI jg) ro tp (nI td) cd sr (nI tx) (nI ru) him ir ih ss sq ce lw (nI (m_X6_next_h019 td ftp za1)) (m_X6_next_h020 td ftp za1) (m_X6_next_h021 td ftp fwo za1) (m_X6_next_h022 td ftp fwo za1) wo he (nI (m_X6_opensOne_h025 op1 hm1)) (m_X6_opensOne_h026 op1) (nI ou1) sk na kp s31 s32 s33 s34 gb go fa ga s39 s40 vo, zi G he 200 (m_X6_opensOne_he op1 yh 19 hm1)] H := gJoin hP hD hk1 hFc hP1 hD1 [2, 1] [0, 3, 4] rfl rfl rfl (by decide +kernel) (by decide +kernel)
                  have hP := hz9.1
                  have hD := hz9.2
                  subst w_45
                  refine lv_if_ne (tgt := 119) hx hb dX6_eRead_114 (by decide +kernel) (fun c_46 => ?_) (fun c_46 => ?_)
                  · skip
                    refine lv_iconst (v := 0) hx hb dX6_eRead_119 (by decide +kernel) ?_
                    refine lv_istore_n (lv' := [zI 2 0, zR 0 h0, zI 1 wv]) hx hb dX6_eRead_120 rfl hl (by decide +kernel) rfl (fun ls hl => ?_)
                    refine lv_goto (tgt := 14) hx hb dX6_eRead_121 (by decide +kernel) ?_
                    have hgt := hn3 (fun z9 => absurd (c_39.symm.trans z9) (by decide +kernel))
                    obtain ⟨ho1, ho2⟩ := oo_use (yh := yh) (v := 19) (hm := hm1) c_46
                    exact ih9 (m_X6_next_h019 td ftp za1) (m_X6_opensOne_h025 op1 hm1) ou1 (m_X6_opensOne_h026 op1) (m_X6_next_h020 td ftp za1) (m_X6_next_h021 td ftp fwo za1) (m_X6_next_h022 td ftp fwo za1) yc (m_X6_opensOne_he op1 yh 19 hm1) wv 0 (j9 + 1) (⟨hn2, by omega⟩) (by omega) (Or.inl ⟨hw1, by rw [ho1, ho2]; exact hold_N (by decide +kernel) hI1⟩) (hu) (fun q => by rw [show q + (j9 + 1) = (q + 1) + j9 by omega, hF (q + 1), eRun]; rw [if_neg c_3, if_neg c_22, if_neg c_28, if_pos c_29, if_pos c_38, if_pos c_39, if_neg c_46]) (by omega) _ _ (hP.sub [3, 0, 4, 1, 2] rfl) (hD.sub [3, 0, 4, 1, 2] (by decide +kernel) rfl) hS ls (lv_sub hl [1, 2, 0] rfl)
                  · skip
                    refine lv_iconst (v := 0) hx hb dX6_eRead_117 (by decide +kernel) ?_
                    have hP9 := hP.sub (ws' := [zo6 h0 (nI pb) kd mo st (nI jg) ro tp (nI td) cd sr (nI tx) (nI ru) him ir ih ss sq ce lw (nI (m_X6_next_h019 td ftp za1)) (m_X6_next_h020 td ftp za1) (m_X6_next_h021 td ftp fwo za1) (m_X6_next_h022 td ftp fwo za1) wo he (nI (m_X6_opensOne_h025 op1 hm1)) (m_X6_opensOne_h026 op1) (nI ou1) sk na kp s31 s32 s33 s34 gb go fa ga s39 s40 vo, zi G cd 1200 yc, zi G he 200 (m_X6_opensOne_he op1 yh 19 hm1), zi G tp 160 ftp, zi G wo 96 fwo]) [3, 0, 4, 1, 2] rfl
                    have hD9 := hD.sub (ws' := [zo6 h0 (nI pb) kd mo st (nI jg) ro tp (nI td) cd sr (nI tx) (nI ru) him ir ih ss sq ce lw (nI (m_X6_next_h019 td ftp za1)) (m_X6_next_h020 td ftp za1) (m_X6_next_h021 td ftp fwo za1) (m_X6_next_h022 td ftp fwo za1) wo he (nI (m_X6_opensOne_h025 op1 hm1)) (m_X6_opensOne_h026 op1) (nI ou1) sk na kp s31 s32 s33 s34 gb go fa ga s39 s40 vo, zi G cd 1200 yc, zi G he 200 (m_X6_opensOne_he op1 yh 19 hm1), zi G tp 160 ftp, zi G wo 96 fwo]) [3, 0, 4, 1, 2] (by decide +kernel) rfl
                    have hpost : (fun (r : Int32) (u : Nat × Nat × Int32 × Int32 × Int32 × Int32 × Int32 × (Nat → Int32) × (Nat → Int32)) => match u with | (zza, zou, zhm, zop, zb, zt, zv, ycd, yhe) => (r = 0 ∨ r = 1) ∧ (r = 1 → dp (eF ycd tx) ou (zou - ou) = some 1) ∧ zza ≤ td ∧ zou + 1 ≤ zza ∧ ou ≤ zou ∧ (∀ i, (i < 200 * tx + ou ∨ 200 * tx + 200 ≤ i) → ycd i = fcd i) ∧ ∃ j9 b9, eRun tx td ftp fwo j9 za 0 ou 0 fcd fhe 1 1 = some (b9, zza, zou, zb, ycd, yhe) ∧ r = bz b9) 0 ((m_X6_next_h019 td ftp za1), ou1, nI (m_X6_opensOne_h025 op1 hm1), (m_X6_opensOne_h026 op1), (m_X6_next_h020 td ftp za1), (m_X6_next_h021 td ftp fwo za1), (m_X6_next_h022 td ftp fwo za1), yc, (m_X6_opensOne_he op1 yh 19 hm1)) := by exact ⟨Or.inl rfl, fun z => absurd z (by decide +kernel), by omega, by omega, by omega, hu, ⟨1 + j9, false, by rw [hF 1, show (1 : Nat) = 0 + 1 from rfl, eRun]; rw [if_neg c_3, if_neg c_22, if_neg c_28, if_pos c_29, if_pos c_38, if_pos c_39, if_pos c_46], rfl⟩⟩
                    exact W.zret (v := 0) hx hb hr (rfl) (fun t ht hW => ⟨⟨0, ((m_X6_next_h019 td ftp za1), ou1, nI (m_X6_opensOne_h025 op1 hm1), (m_X6_opensOne_h026 op1), (m_X6_next_h020 td ftp za1), (m_X6_next_h021 td ftp fwo za1), (m_X6_next_h022 td ftp fwo za1), yc, (m_X6_opensOne_he op1 yh 19 hm1)), rfl, hpost, by rw [ht]; exact hP9, va_K.moved hW.alike hK, hD9⟩, hS.F ht⟩) hS.2.2 dX6_eRead_118
              · skip
                refine lv_aload_n hx hb dX6_eRead_88 rfl (lv_at hl 0 rfl) ?_
                refine lv_bipush (v := 13) hx hb dX6_eRead_89 (by decide +kernel) ?_
                have hz9 : gPD G A [zo6 h0 (nI pb) kd mo st (nI jg) ro tp (nI td) cd sr (nI tx) (nI ru) him ir ih ss sq ce lw (nI (m_X6_next_h019 td ftp za1)) (m_X6_next_h020 td ftp za1) (m_X6_next_h021 td ftp fwo za1) (m_X6_next_h022 td ftp fwo za1) wo he (nI hm1) op1 (nI ou1) sk na kp s31 s32 s33 s34 gb go fa ga s39 s40 vo, zi G he 200 yh] H := ⟨hP.sub [2, 1] rfl, hD.sub [2, 1] (by decide +kernel) rfl⟩
                have hPc := hz9.1
                have hDc := hz9.2
                have hFc := gFree hPc hD hS hA [2, 1] rfl
                refine va_calli (va_runV (As := [.int 13]) (rest := []) ⟨hx, hb, hml, hown, hts⟩ (c_X6_opensOne l G h0 kd mo st ro tp cd sr ir ih ss sq ce lw wo he sk na kp gb go fa ga vo pb jg td tx ru him (nI (m_X6_next_h019 td ftp za1)) (m_X6_next_h020 td ftp za1) (m_X6_next_h021 td ftp fwo za1) (m_X6_next_h022 td ftp fwo za1) op1 (nI ou1) s31 s32 s33 s34 s39 s40 yh 13 hm1 H.size (by first | exact hhm | assumption | omega)) (cwV 1 hts gX6_eRead_X6_opensOne rfl rfl rfl (by decide +kernel) ⟨Nat.le_of_ble_eq_true rfl, Nat.le_of_ble_eq_true rfl⟩) ⟨gPre_blind, va_recv hK hPc (ci := 6) (q0 := 0) rfl rfl, fun U hU hW => gPre_of hU hW hK hPc hDc⟩ rfl rfl hl.1 rfl (lv_room (Nat.le_of_ble_eq_true rfl)) dX6_eRead_91 ⟨Nat.le_of_ble_eq_true rfl, Nat.le_of_ble_eq_true rfl⟩) hS (fun q _ h => hFc q h) hFc (fun r_47 u t H locs ht hvm w_48 hB hz1 hk1 hS => ?_)
                obtain ⟨hP1, hK1, hD1⟩ := hB
                rw [ht] at hP1
                have hz9 : gPD G (va_A _ _) [zo6 h0 (nI pb) kd mo st (nI jg) ro tp (nI td) cd sr (nI tx) (nI ru) him ir ih ss sq ce lw (nI (m_X6_next_h019 td ftp za1)) (m_X6_next_h020 td ftp za1) (m_X6_next_h021 td ftp fwo za1) (m_X6_next_h022 td ftp fwo za1) wo he (nI (m_X6_opensOne_h025 op1 hm1)) (m_X6_opensOne_h026 op1) (nI ou1) sk na kp s31 s32 s33 s34 gb go fa ga s39 s40 vo, zi G he 200 (m_X6_opensOne_he op1 yh 13 hm1)] H := ⟨hP1, hD1⟩
                have hP1 := hz9.1
                have hD1 := hz9.2
                have w_48 : r_47 = m_X6_opensOne op1 := w_48
                have hz9 : gPD G A [zi G cd 1200 yc, zi G tp 160 ftp, zi G wo 96 fwo, zo6 h0 (nI pb) kd mo st (nI jg) ro tp (nI td) cd sr (nI tx) (nI ru) him ir ih ss sq ce lw (nI (m_X6_next_h019 td ftp za1)) (m_X6_next_h020 td ftp za1) (m_X6_next_h021 td ftp fwo za1) (m_X6_next_h022 td ftp fwo za1) wo he (nI (m_X6_opensOne_h025 op1 hm1)) (m_X6_opensOne_h026 op1) (nI ou1) sk na kp s31 s32 s33 s34 gb go fa ga s39 s40 vo, zi G he 200 (m_X6_opensOne_he op1 yh 13 hm1)] H := gJoin hP hD hk1 hFc hP1 hD1 [2, 1] [0, 3, 4] rfl rfl rfl (by decide +kernel) (by decide +kernel)
                have hP := hz9.1
                have hD := hz9.2
                subst w_48
                refine lv_if_ne (tgt := 14) hx hb dX6_eRead_94 (by decide +kernel) (fun c_49 => ?_) (fun c_49 => ?_)
                · skip
                  have hgt := hn3 (fun z9 => absurd (c_29.symm.trans z9) (by decide +kernel))
                  obtain ⟨ho1, ho2⟩ := oo_use (yh := yh) (v := 13) (hm := hm1) c_49
                  exact ih9 (m_X6_next_h019 td ftp za1) (m_X6_opensOne_h025 op1 hm1) ou1 (m_X6_opensOne_h026 op1) (m_X6_next_h020 td ftp za1) (m_X6_next_h021 td ftp fwo za1) (m_X6_next_h022 td ftp fwo za1) yc (m_X6_opensOne_he op1 yh 13 hm1) wv mn (j9 + 1) (⟨hn2, by omega⟩) (by omega) (Or.inl ⟨hw1, by rw [ho1, ho2]; exact hold_N (by decide +kernel) hI1⟩) (hu) (fun q => by rw [show q + (j9 + 1) = (q + 1) + j9 by omega, hF (q + 1), eRun]; rw [if_neg c_3, if_neg c_22, if_neg c_28, if_pos c_29, if_neg c_38, if_neg c_49]) (by omega) _ _ (hP.sub [3, 0, 4, 1, 2] rfl) (hD.sub [3, 0, 4, 1, 2] (by decide +kernel) rfl) hS ls (lv_sub hl [0, 1, 2] rfl)
                · skip
                  refine lv_iconst (v := 0) hx hb dX6_eRead_97 (by decide +kernel) ?_
                  have hP9 := hP.sub (ws' := [zo6 h0 (nI pb) kd mo st (nI jg) ro tp (nI td) cd sr (nI tx) (nI ru) him ir ih ss sq ce lw (nI (m_X6_next_h019 td ftp za1)) (m_X6_next_h020 td ftp za1) (m_X6_next_h021 td ftp fwo za1) (m_X6_next_h022 td ftp fwo za1) wo he (nI (m_X6_opensOne_h025 op1 hm1)) (m_X6_opensOne_h026 op1) (nI ou1) sk na kp s31 s32 s33 s34 gb go fa ga s39 s40 vo, zi G cd 1200 yc, zi G he 200 (m_X6_opensOne_he op1 yh 13 hm1), zi G tp 160 ftp, zi G wo 96 fwo]) [3, 0, 4, 1, 2] rfl
                  have hD9 := hD.sub (ws' := [zo6 h0 (nI pb) kd mo st (nI jg) ro tp (nI td) cd sr (nI tx) (nI ru) him ir ih ss sq ce lw (nI (m_X6_next_h019 td ftp za1)) (m_X6_next_h020 td ftp za1) (m_X6_next_h021 td ftp fwo za1) (m_X6_next_h022 td ftp fwo za1) wo he (nI (m_X6_opensOne_h025 op1 hm1)) (m_X6_opensOne_h026 op1) (nI ou1) sk na kp s31 s32 s33 s34 gb go fa ga s39 s40 vo, zi G cd 1200 yc, zi G he 200 (m_X6_opensOne_he op1 yh 13 hm1), zi G tp 160 ftp, zi G wo 96 fwo]) [3, 0, 4, 1, 2] (by decide +kernel) rfl
                  have hpost : (fun (r : Int32) (u : Nat × Nat × Int32 × Int32 × Int32 × Int32 × Int32 × (Nat → Int32) × (Nat → Int32)) => match u with | (zza, zou, zhm, zop, zb, zt, zv, ycd, yhe) => (r = 0 ∨ r = 1) ∧ (r = 1 → dp (eF ycd tx) ou (zou - ou) = some 1) ∧ zza ≤ td ∧ zou + 1 ≤ zza ∧ ou ≤ zou ∧ (∀ i, (i < 200 * tx + ou ∨ 200 * tx + 200 ≤ i) → ycd i = fcd i) ∧ ∃ j9 b9, eRun tx td ftp fwo j9 za 0 ou 0 fcd fhe 1 1 = some (b9, zza, zou, zb, ycd, yhe) ∧ r = bz b9) 0 ((m_X6_next_h019 td ftp za1), ou1, nI (m_X6_opensOne_h025 op1 hm1), (m_X6_opensOne_h026 op1), (m_X6_next_h020 td ftp za1), (m_X6_next_h021 td ftp fwo za1), (m_X6_next_h022 td ftp fwo za1), yc, (m_X6_opensOne_he op1 yh 13 hm1)) := by exact ⟨Or.inl rfl, fun z => absurd z (by decide +kernel), by omega, by omega, by omega, hu, ⟨1 + j9, false, by rw [hF 1, show (1 : Nat) = 0 + 1 from rfl, eRun]; rw [if_neg c_3, if_neg c_22, if_neg c_28, if_pos c_29, if_neg c_38, if_pos c_49], rfl⟩⟩
                  exact W.zret (v := 0) hx hb hr (rfl) (fun t ht hW => ⟨⟨0, ((m_X6_next_h019 td ftp za1), ou1, nI (m_X6_opensOne_h025 op1 hm1), (m_X6_opensOne_h026 op1), (m_X6_next_h020 td ftp za1), (m_X6_next_h021 td ftp fwo za1), (m_X6_next_h022 td ftp fwo za1), yc, (m_X6_opensOne_he op1 yh 13 hm1)), rfl, hpost, by rw [ht]; exact hP9, va_K.moved hW.alike hK, hD9⟩, hS.F ht⟩) hS.2.2 dX6_eRead_98
          · skip
            refine lv_aload_n hx hb dX6_eRead_38 rfl (lv_at hl 0 rfl) ?_
            refine lv_aload_n hx hb dX6_eRead_39 rfl (lv_at hl 0 rfl) ?_
            refine va_get (D := G.1) (ci := 6) (v := .int (m_X6_next_h021 td ftp fwo za1)) (C := RX6) (T := TX6) (N := 42) hx hb hts hiX6 hown hK hP 2 rfl rfl 21 (by decide +kernel) kf117 (fun _ h9 => h9) rfl dX6_eRead_40 ?_
            refine lv_iconst (v := 1) hx hb dX6_eRead_43 (by decide +kernel) ?_
            refine lv_icmp_ne (tgt := 57) hx hb dX6_eRead_44 (by decide +kernel) (fun c_50 => ?_) (fun c_50 => ?_)
            rotate_left
            · exact absurd c_50 (c_22)
            refine lv_aload_n hx hb dX6_eRead_57 rfl (lv_at hl 0 rfl) ?_
            refine va_get (D := G.1) (ci := 6) (v := .int (m_X6_next_h022 td ftp fwo za1)) (C := RX6) (T := TX6) (N := 42) hx hb hts hiX6 hown hK hP 2 rfl rfl 22 (by decide +kernel) kf120 (fun _ h9 => h9) rfl dX6_eRead_58 ?_
            have hz9 : gPD G A [zo6 h0 (nI pb) kd mo st (nI jg) ro tp (nI td) cd sr (nI tx) (nI ru) him ir ih ss sq ce lw (nI (m_X6_next_h019 td ftp za1)) (m_X6_next_h020 td ftp za1) (m_X6_next_h021 td ftp fwo za1) (m_X6_next_h022 td ftp fwo za1) wo he (nI hm1) op1 (nI ou1) sk na kp s31 s32 s33 s34 gb go fa ga s39 s40 vo, zi G cd 1200 yc] H := ⟨hP.sub [2, 0] rfl, hD.sub [2, 0] (by decide +kernel) rfl⟩
            have hPc := hz9.1
            have hDc := hz9.2
            have hFc := gFree hPc hD hS hA [2, 0] rfl
            refine va_callv (va_runV (As := [.int (m_X6_next_h022 td ftp fwo za1)]) (rest := []) ⟨hx, hb, hml, hown, hts⟩ (c_X6_puts l G h0 kd mo st ro tp cd sr ir ih ss sq ce lw wo he sk na kp gb go fa ga vo pb jg td tx ru him (nI (m_X6_next_h019 td ftp za1)) (m_X6_next_h020 td ftp za1) (m_X6_next_h021 td ftp fwo za1) (m_X6_next_h022 td ftp fwo za1) (nI hm1) op1 s31 s32 s33 s34 s39 s40 yc (m_X6_next_h022 td ftp fwo za1) ou1 H.size (by first | exact hou | assumption | omega) (by first | exact htx | assumption | omega)) (cwV 1 hts gX6_eRead_X6_puts rfl rfl rfl (by decide +kernel) ⟨Nat.le_of_ble_eq_true rfl, Nat.le_of_ble_eq_true rfl⟩) ⟨gPre_blind, va_recv hK hPc (ci := 6) (q0 := 0) rfl rfl, fun U hU hW => gPre_of hU hW hK hPc hDc⟩ rfl rfl hl.1 rfl (lv_room (Nat.le_of_ble_eq_true rfl)) dX6_eRead_61 ⟨Nat.le_of_ble_eq_true rfl, Nat.le_of_ble_eq_true rfl⟩) hS (fun q _ h => hFc q h) hFc (fun u t H locs ht hvm w_52 hB hz1 hk1 hS => ?_)
            obtain ⟨hP1, hK1, hD1⟩ := hB
            rw [ht] at hP1
            have hz9 : gPD G (va_A _ _) [zo6 h0 (nI pb) kd mo st (nI jg) ro tp (nI td) cd sr (nI tx) (nI ru) him ir ih ss sq ce lw (nI (m_X6_next_h019 td ftp za1)) (m_X6_next_h020 td ftp za1) (m_X6_next_h021 td ftp fwo za1) (m_X6_next_h022 td ftp fwo za1) wo he (nI hm1) op1 (nI ((ou1 + 1))) sk na kp s31 s32 s33 s34 gb go fa ga s39 s40 vo, zi G cd 1200 (upd yc ((200 * tx) + ou1) (m_X6_next_h022 td ftp fwo za1))] H := ⟨hP1, hD1⟩
            have hP1 := hz9.1
            have hD1 := hz9.2
            have hz9 : gPD G A [zi G he 200 yh, zi G tp 160 ftp, zi G wo 96 fwo, zo6 h0 (nI pb) kd mo st (nI jg) ro tp (nI td) cd sr (nI tx) (nI ru) him ir ih ss sq ce lw (nI (m_X6_next_h019 td ftp za1)) (m_X6_next_h020 td ftp za1) (m_X6_next_h021 td ftp fwo za1) (m_X6_next_h022 td ftp fwo za1) wo he (nI hm1) op1 (nI ((ou1 + 1))) sk na kp s31 s32 s33 s34 gb go fa ga s39 s40 vo, zi G cd 1200 (upd yc ((200 * tx) + ou1) (m_X6_next_h022 td ftp fwo za1))] H := gJoin hP hD hk1 hFc hP1 hD1 [2, 0] [1, 3, 4] rfl rfl rfl (by decide +kernel) (by decide +kernel)
            have hP := hz9.1
            have hD := hz9.2
            refine lv_aload_n hx hb dX6_eRead_64 rfl (lv_at hl 0 rfl) ?_
            refine lv_bipush (v := 7) hx hb dX6_eRead_65 (by decide +kernel) ?_
            have hz9 : gPD G A [zo6 h0 (nI pb) kd mo st (nI jg) ro tp (nI td) cd sr (nI tx) (nI ru) him ir ih ss sq ce lw (nI (m_X6_next_h019 td ftp za1)) (m_X6_next_h020 td ftp za1) (m_X6_next_h021 td ftp fwo za1) (m_X6_next_h022 td ftp fwo za1) wo he (nI hm1) op1 (nI ((ou1 + 1))) sk na kp s31 s32 s33 s34 gb go fa ga s39 s40 vo, zi G cd 1200 (upd yc ((200 * tx) + ou1) (m_X6_next_h022 td ftp fwo za1)), zi G he 200 yh] H := ⟨hP.sub [3, 4, 0] rfl, hD.sub [3, 4, 0] (by decide +kernel) rfl⟩
            have hPc := hz9.1
            have hDc := hz9.2
            have hFc := gFree hPc hD hS hA [3, 4, 0] rfl
            refine va_callv (va_runV (As := [.int 7]) (rest := []) ⟨hx, hb, hml, hown, hts⟩ (c_X6_unwinds l G h0 kd mo st ro tp cd sr ir ih ss sq ce lw wo he sk na kp gb go fa ga vo pb jg td tx ru him (nI (m_X6_next_h019 td ftp za1)) (m_X6_next_h020 td ftp za1) (m_X6_next_h021 td ftp fwo za1) (m_X6_next_h022 td ftp fwo za1) op1 s31 s32 s33 s34 s39 s40 (upd yc ((200 * tx) + ou1) (m_X6_next_h022 td ftp fwo za1)) yh 7 hm1 ((ou1 + 1)) H.size (by first | exact hom | assumption | omega) (by first | exact htx | assumption | omega)) (cwV 1 hts gX6_eRead_X6_unwinds rfl rfl rfl (by decide +kernel) ⟨Nat.le_of_ble_eq_true rfl, Nat.le_of_ble_eq_true rfl⟩) ⟨gPre_blind, va_recv hK hPc (ci := 6) (q0 := 0) rfl rfl, fun U hU hW => gPre_of hU hW hK hPc hDc⟩ rfl rfl hl.1 rfl (lv_room (Nat.le_of_ble_eq_true rfl)) dX6_eRead_67 ⟨Nat.le_of_ble_eq_true rfl, Nat.le_of_ble_eq_true rfl⟩) hS (fun q _ h => hFc q h) hFc (fun u t H locs ht hvm w_54 hB hz1 hk1 hS => ?_)
            obtain ⟨hP1, hK1, hD1⟩ := hB
            rw [ht] at hP1
            have hz9 : gPD G (va_A _ _) [zo6 h0 (nI pb) kd mo st (nI jg) ro tp (nI td) cd sr (nI tx) (nI ru) him ir ih ss sq ce lw (nI (m_X6_next_h019 td ftp za1)) (m_X6_next_h020 td ftp za1) (m_X6_next_h021 td ftp fwo za1) (m_X6_next_h022 td ftp fwo za1) wo he (nI (m_X6_unwinds_h025 tx op1 (upd yc ((200 * tx) + ou1) (m_X6_next_h022 td ftp fwo za1)) yh 7 hm1 ((ou1 + 1)))) (m_X6_unwinds_h026 tx op1 (upd yc ((200 * tx) + ou1) (m_X6_next_h022 td ftp fwo za1)) yh 7 hm1 ((ou1 + 1))) (nI (m_X6_unwinds_h027 tx op1 (upd yc ((200 * tx) + ou1) (m_X6_next_h022 td ftp fwo za1)) yh 7 hm1 ((ou1 + 1)))) sk na kp s31 s32 s33 s34 gb go fa ga s39 s40 vo, zi G cd 1200 (m_X6_unwinds_cd tx op1 (upd yc ((200 * tx) + ou1) (m_X6_next_h022 td ftp fwo za1)) yh 7 hm1 ((ou1 + 1))), zi G he 200 yh] H := ⟨hP1, hD1⟩
            have hP1 := hz9.1
            have hD1 := hz9.2
            have w_54 : (m_X6_unwinds_h025 tx op1 (upd yc ((200 * tx) + ou1) (m_X6_next_h022 td ftp fwo za1)) yh 7 hm1 ((ou1 + 1))) ≤ hm1 ∧ (m_X6_unwinds_h027 tx op1 (upd yc ((200 * tx) + ou1) (m_X6_next_h022 td ftp fwo za1)) yh 7 hm1 ((ou1 + 1))) + (m_X6_unwinds_h025 tx op1 (upd yc ((200 * tx) + ou1) (m_X6_next_h022 td ftp fwo za1)) yh 7 hm1 ((ou1 + 1))) = ((ou1 + 1)) + hm1 := w_54
            have hz9 : gPD G A [zi G tp 160 ftp, zi G wo 96 fwo, zo6 h0 (nI pb) kd mo st (nI jg) ro tp (nI td) cd sr (nI tx) (nI ru) him ir ih ss sq ce lw (nI (m_X6_next_h019 td ftp za1)) (m_X6_next_h020 td ftp za1) (m_X6_next_h021 td ftp fwo za1) (m_X6_next_h022 td ftp fwo za1) wo he (nI (m_X6_unwinds_h025 tx op1 (upd yc ((200 * tx) + ou1) (m_X6_next_h022 td ftp fwo za1)) yh 7 hm1 ((ou1 + 1)))) (m_X6_unwinds_h026 tx op1 (upd yc ((200 * tx) + ou1) (m_X6_next_h022 td ftp fwo za1)) yh 7 hm1 ((ou1 + 1))) (nI (m_X6_unwinds_h027 tx op1 (upd yc ((200 * tx) + ou1) (m_X6_next_h022 td ftp fwo za1)) yh 7 hm1 ((ou1 + 1)))) sk na kp s31 s32 s33 s34 gb go fa ga s39 s40 vo, zi G cd 1200 (m_X6_unwinds_cd tx op1 (upd yc ((200 * tx) + ou1) (m_X6_next_h022 td ftp fwo za1)) yh 7 hm1 ((ou1 + 1))), zi G he 200 yh] H := gJoin hP hD hk1 hFc hP1 hD1 [3, 4, 0] [1, 2] rfl rfl rfl (by decide +kernel) (by decide +kernel)
            have hP := hz9.1
            have hD := hz9.2
            have huw := w_54
            refine lv_iconst (v := 0) hx hb dX6_eRead_70 (by decide +kernel) ?_
            refine lv_istore_n (lv' := [zI 1 0, zR 0 h0, zI 2 mn]) hx hb dX6_eRead_71 rfl hl (by decide +kernel) rfl (fun ls hl => ?_)
            refine lv_goto (tgt := 14) hx hb dX6_eRead_72 (by decide +kernel) ?_
            have hgt := hn3 (fun z9 => absurd (c_28.symm.trans z9) (by decide +kernel))
            have hU := uw_use (s26 := op1) (by decide : (1 : Int32) ≤ 7) (eI_put hI1 (Or.inr (hn4 c_28)) (by omega))
            exact ih9 (m_X6_next_h019 td ftp za1) (m_X6_unwinds_h025 tx op1 (upd yc ((200 * tx) + ou1) (m_X6_next_h022 td ftp fwo za1)) yh 7 hm1 ((ou1 + 1))) (m_X6_unwinds_h027 tx op1 (upd yc ((200 * tx) + ou1) (m_X6_next_h022 td ftp fwo za1)) yh 7 hm1 ((ou1 + 1))) (m_X6_unwinds_h026 tx op1 (upd yc ((200 * tx) + ou1) (m_X6_next_h022 td ftp fwo za1)) yh 7 hm1 ((ou1 + 1))) (m_X6_next_h020 td ftp za1) (m_X6_next_h021 td ftp fwo za1) (m_X6_next_h022 td ftp fwo za1) (m_X6_unwinds_cd tx op1 (upd yc ((200 * tx) + ou1) (m_X6_next_h022 td ftp fwo za1)) yh 7 hm1 ((ou1 + 1))) yh 0 mn (j9 + 1) (⟨hn2, by omega⟩) (by omega) (Or.inr ⟨rfl, hU.1⟩) (fun i hi => by rw [hU.2 i (by omega) (by omega), upd_n9 (by omega)]; exact hu i hi) (fun q => by rw [show q + (j9 + 1) = (q + 1) + j9 by omega, hF (q + 1), eRun]; rw [if_neg c_3, if_neg c_22, if_pos c_28]) (by omega) _ _ (hP.sub [2, 3, 4, 0, 1] rfl) (hD.sub [2, 3, 4, 0, 1] (by decide +kernel) rfl) hS ls (lv_sub hl [1, 0, 2] rfl)
  exact loop_14 (td - za + 1) za 0 ou 0 s20 s21 s22 fcd fhe 1 1 0 (⟨hza.1, by omega⟩) (Nat.le_refl _) (Or.inl ⟨rfl, eI_start⟩) (fun i _ => rfl) (fun q => rfl) (by omega) _ _ (hP.sub [0, 1, 2, 3, 4] rfl) (hD.sub [0, 1, 2, 3, 4] (by decide +kernel) rfl) hS ls (lv_sub hl [2, 1, 0] rfl)
/-! a text that was read stands well -/
theorem mWf_of {cd1 cd2 cd3 : Nat → Int32} {fsr : Nat → Nat} {tx o1 o2 o3 : Nat} (h1 : dp (eF cd1 tx) 0 (o1 - 0) = some 1) (h2 : dp (eF cd2 tx) o1 (o2 - o1) = some 1) (h3 : dp (eF cd3 tx) o2 (o3 - o2) = some 1) (l2 : o1 ≤ o2) (l3 : o2 ≤ o3) (l4 : o3 ≤ 200)
    (u2 : ∀ i, (i < 200 * tx + o1 ∨ 200 * tx + 200 ≤ i) → cd2 i = cd1 i) (u3 : ∀ i, (i < 200 * tx + o2 ∨ 200 * tx + 200 ≤ i) → cd3 i = cd2 i)
    (s0 : fsr (4 * tx) = 0) (s1 : fsr (4 * tx + 1) = o1) (s2 : fsr (4 * tx + 2) = o2) (s3 : fsr (4 * tx + 3) = o3) : mWf cd3 fsr tx := by
  have fin : ∀ {f : Nat → Int32} {sp q : Nat}, dp f sp q = some 1 → vOK 200 f q sp 0 := fun h => dp_ok (rest := 0) h rfl
  have e1 : dp (eF cd3 tx) 0 (o1 - 0) = some 1 := by
    rw [← h1]
    refine dp_eq (fun i hi => ?_)
    show cd3 (200 * tx + (0 + i)) = cd1 (200 * tx + (0 + i))
    rw [u3 _ (by omega), u2 _ (by omega)]
  have e2 : dp (eF cd3 tx) o1 (o2 - o1) = some 1 := by
    rw [← h2]
    refine dp_eq (fun i hi => ?_)
    show cd3 (200 * tx + (o1 + i)) = cd2 (200 * tx + (o1 + i))
    rw [u3 _ (by omega)]
  intro pt hp
  have c : pt = 0 ∨ pt = 1 ∨ pt = 2 := by omega
  rcases c with e | e | e
  · subst e
    rw [show 4 * tx + 0 + 1 = 4 * tx + 1 by omega, show 4 * tx + 0 = 4 * tx by omega, s0, s1]
    exact ⟨by omega, by omega, fin e1⟩
  · subst e
    rw [show 4 * tx + 1 + 1 = 4 * tx + 2 by omega, s1, s2]
    exact ⟨l2, by omega, fin e2⟩
  · subst e
    rw [show 4 * tx + 2 + 1 = 4 * tx + 3 by omega, s2, s3]
    exact ⟨l3, l4, fin h3⟩
/-- a text that stands isn't touched by the next one -/
theorem mWf_keep {cd cd' : Nat → Int32} {fsr fsr' : Nat → Nat} {t tx : Nat} (h : mWf cd fsr t) (ht : t < tx) (hu : ∀ i, i < 200 * tx → cd' i = cd i) (hs : ∀ i, i < 4 * tx → fsr' i = fsr i) : mWf cd' fsr' t := by
  intro pt hp
  obtain ⟨h1, h2, h3⟩ := h pt hp
  rw [hs _ (by omega), hs _ (by omega)]
  refine ⟨h1, h2, ?_⟩
  have key : ∀ (q k n : Nat), k + q ≤ 200 → vOK 200 (fun i => cd (200 * t + i)) q k n → vOK 200 (fun i => cd' (200 * t + i)) q k n := by
    intro q
    induction q with
    | zero => intro k n _ z; exact z
    | succ q ih =>
      intro k n hk z
      have e : cd' (200 * t + k) = cd (200 * t + k) := hu _ (by omega)
      rw [vOK] at z ⊢
      simp only [e]
      by_cases c1 : 100000 ≤ cd (200 * t + k) ∨ cd (200 * t + k) < 11
      · simp only [if_pos c1] at z ⊢
        exact ⟨z.1, ih _ _ (by omega) z.2⟩
      · simp only [if_neg c1] at z ⊢
        by_cases c2 : cd (200 * t + k) = 13 ∨ cd (200 * t + k) = 19
        · simp only [if_pos c2] at z ⊢
          exact ⟨z.1, ih _ _ (by omega) z.2⟩
        · simp only [if_neg c2] at z ⊢
          exact ⟨z.1, ih _ _ (by omega) z.2⟩
  exact key _ _ _ (by omega) h3
