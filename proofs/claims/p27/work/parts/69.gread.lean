noncomputable def p_X6_wordFrom_26 (ftp : Nat → Int32) (fwo : Nat → Int32) (fr : Nat) (tw : Nat) (k2 : Nat) : Nat → Nat → Int32 → Nat × Int32
  | 0, c26, li => (c26, li)
  | q9 + 1, c26, li => if li = 0 then (c26, li) else (if (nI tw) ≤ (nI (fr + c26)) then (if (fwo ((8 * k2) + c26)) = 32 then p_X6_wordFrom_26 ftp fwo fr tw k2 q9 (c26 + 1) 1 else p_X6_wordFrom_26 ftp fwo fr tw k2 q9 (c26 + 1) 0) else (if (fwo ((8 * k2) + c26)) = (ftp (fr + c26)) then p_X6_wordFrom_26 ftp fwo fr tw k2 q9 (c26 + 1) 1 else p_X6_wordFrom_26 ftp fwo fr tw k2 q9 (c26 + 1) 0))
noncomputable def g_X6_wordFrom_26 (ftp : Nat → Int32) (fwo : Nat → Int32) (fr : Nat) (tw : Nat) (k2 : Nat) : Nat × Int32 := p_X6_wordFrom_26 ftp fwo fr tw k2 (8 - 0) 0 0
noncomputable def p_X6_wordFrom_26q1 (ftp : Nat → Int32) (fwo : Nat → Int32) (fr : Nat) (tw : Nat) (k2 : Nat) : Nat → Nat → Int32 → Nat × Int32
  | 0, c26, li => (c26, li)
  | q9 + 1, c26, li => if li = 0 then (c26, li) else (if (nI tw) ≤ (nI (fr + c26)) then (if (fwo ((8 * k2) + c26)) = 32 then p_X6_wordFrom_26q1 ftp fwo fr tw k2 q9 (c26 + 1) 1 else p_X6_wordFrom_26q1 ftp fwo fr tw k2 q9 (c26 + 1) 0) else (if (fwo ((8 * k2) + c26)) = (ftp (fr + c26)) then p_X6_wordFrom_26q1 ftp fwo fr tw k2 q9 (c26 + 1) 1 else p_X6_wordFrom_26q1 ftp fwo fr tw k2 q9 (c26 + 1) 0))
noncomputable def g_X6_wordFrom_26q1 (ftp : Nat → Int32) (fwo : Nat → Int32) (fr : Nat) (tw : Nat) (k2 : Nat) : Nat × Int32 := p_X6_wordFrom_26q1 ftp fwo fr tw k2 (8 - 0) 0 1
noncomputable def p_X6_wordFrom_2 (ftp : Nat → Int32) (fwo : Nat → Int32) (fr : Nat) (tw : Nat) : Nat → Nat → Nat
  | 0, k2 => k2
  | q9 + 1, k2 => if 8 < (nI (tw - fr)) then (if ((g_X6_wordFrom_26 ftp fwo fr tw k2).2) = 0 then p_X6_wordFrom_2 ftp fwo fr tw q9 (k2 + 1)  else k2) else (if ((g_X6_wordFrom_26q1 ftp fwo fr tw k2).2) = 0 then p_X6_wordFrom_2 ftp fwo fr tw q9 (k2 + 1)  else k2)
noncomputable def g_X6_wordFrom_2 (ftp : Nat → Int32) (fwo : Nat → Int32) (fr : Nat) (tw : Nat) : Nat := p_X6_wordFrom_2 ftp fwo fr tw (12 - 0) 0 
noncomputable def m_X6_wordFrom (ftp : Nat → Int32) (fwo : Nat → Int32) (fr : Nat) (tw : Nat) : Int32 := if 12 ≤ (nI (g_X6_wordFrom_2 ftp fwo fr tw)) then 12 else nI (g_X6_wordFrom_2 ftp fwo fr tw)
abbrev q_X6_wordFrom (G : gG) (h0 kd mo st ro tp cd sr ir ih ss sq ce lw wo he sk na kp gb go fa ga vo : Nat) (pb : Nat) (jg : Nat) (td : Nat) (tx : Nat) (ru : Nat) (him : Int32) (s19 : Int32) (s20 : Int32) (s21 : Int32) (s22 : Int32) (s25 : Int32) (s26 : Int32) (s27 : Int32) (s31 : Int32) (s32 : Int32) (s33 : Int32) (s34 : Int32) (s39 : Int32) (s40 : Int32) (ftp : Nat → Int32) (fwo : Nat → Int32) (fr : Nat) (tw : Nat) (A : Nat → Prop) : Array Value → State → Outcome → State → Prop := va_Qi (fun (r : Int32) (u : Unit) => match u with | _ => r = m_X6_wordFrom ftp fwo fr tw) (fun (u : Unit) t => match u with | _ => va_P G.1 vwCl [zo6 h0 (nI pb) kd mo st (nI jg) ro tp (nI td) cd sr (nI tx) (nI ru) him ir ih ss sq ce lw s19 s20 s21 s22 wo he s25 s26 s27 sk na kp s31 s32 s33 s34 gb go fa ga s39 s40 vo, zi G tp 160 ftp, zi G wo 96 fwo] t.heap ∧ gK G t ∧ va_D A [zo6 h0 (nI pb) kd mo st (nI jg) ro tp (nI td) cd sr (nI tx) (nI ru) him ir ih ss sq ce lw s19 s20 s21 s22 wo he s25 s26 s27 sk na kp s31 s32 s33 s34 gb go fa ga s39 s40 vo, zi G tp 160 ftp, zi G wo 96 fwo]) A
set_option maxHeartbeats 4000000 in
set_option maxRecDepth 100000 in
theorem c_X6_wordFrom (l : Launch) (G : gG) (h0 kd mo st ro tp cd sr ir ih ss sq ce lw wo he sk na kp gb go fa ga vo : Nat) (pb : Nat) (jg : Nat) (td : Nat) (tx : Nat) (ru : Nat) (him : Int32) (s19 : Int32) (s20 : Int32) (s21 : Int32) (s22 : Int32) (s25 : Int32) (s26 : Int32) (s27 : Int32) (s31 : Int32) (s32 : Int32) (s33 : Int32) (s34 : Int32) (s39 : Int32) (s40 : Int32) (ftp : Nat → Int32) (fwo : Nat → Int32) (fr : Nat) (tw : Nat) (sz : Nat) (hft : fr ≤ tw ∧ tw ≤ 160) : Met l yX6_wordFrom wsX6_wordFrom ({ frames := 0, cells := 0, slots := 0, locals := 0 }) (gPre G [.ref h0, .int (nI fr), .int (nI tw)] [zo6 h0 (nI pb) kd mo st (nI jg) ro tp (nI td) cd sr (nI tx) (nI ru) him ir ih ss sq ce lw s19 s20 s21 s22 wo he s25 s26 s27 sk na kp s31 s32 s33 s34 gb go fa ga s39 s40 vo, zi G tp 160 ftp, zi G wo 96 fwo] sz) (q_X6_wordFrom G h0 kd mo st ro tp cd sr ir ih ss sq ce lw wo he sk na kp gb go fa ga vo pb jg td tx ru him s19 s20 s21 s22 s25 s26 s27 s31 s32 s33 s34 s39 s40 ftp fwo fr tw (va_A [zo6 h0 (nI pb) kd mo st (nI jg) ro tp (nI td) cd sr (nI tx) (nI ru) him ir ih ss sq ce lw s19 s20 s21 s22 wo he s25 s26 s27 sk na kp s31 s32 s33 s34 gb go fa ga s39 s40 vo, zi G tp 160 ftp, zi G wo 96 fwo] sz)) 0 0 (va_A [zo6 h0 (nI pb) kd mo st (nI jg) ro tp (nI td) cd sr (nI tx) (nI ru) him ir ih ss sq ce lw s19 s20 s21 s22 wo he s25 s26 s27 sk na kp s31 s32 s33 s34 gb go fa ga s39 s40 vo, zi G tp 160 ftp, zi G wo 96 fwo] sz) := by
  refine Met.ofW (cc := cX6_wordFrom) (maxL := 6) (ret := (some .int)) (by decide +kernel) rfl ?_
  intro p e s m args below meth c s₁ B hml hv
  obtain ⟨rfl, hsz, hP, hK, hD0⟩ := hv
  have hx := B.exec
  have hb := B.bytes
  have hr := B.returns
  have hts := atoms_spec (ws := wsX6_wordFrom) B.pre
  have hown : s.vm.findClass RX6 = some m.cls := findClass_of_methodNamed B.named
  have hlocks := B.notSynchronized
  subst hsz
  have hD := hD0.self (sz := s.heap.size)
  generalize hAe : va_A [zo6 h0 (nI pb) kd mo st (nI jg) ro tp (nI td) cd sr (nI tx) (nI ru) him ir ih ss sq ce lw s19 s20 s21 s22 wo he s25 s26 s27 sk na kp s31 s32 s33 s34 gb go fa ga s39 s40 vo, zi G tp 160 ftp, zi G wo 96 fwo] s.heap.size = A at hD ⊢
  have hA : ∀ q : Nat, s.heap.size ≤ q → A q := fun q h => by rw [← hAe]; exact Or.inr h
  have hS : va_S A s.heap s.heap [] := va_S.rf
  have hz9 : gPD G A [zo6 h0 (nI pb) kd mo st (nI jg) ro tp (nI td) cd sr (nI tx) (nI ru) him ir ih ss sq ce lw s19 s20 s21 s22 wo he s25 s26 s27 sk na kp s31 s32 s33 s34 gb go fa ga s39 s40 vo, zi G tp 160 ftp, zi G wo 96 fwo] s.heap := ⟨hP, hD⟩
  have hP := hz9.1
  have hD := hz9.2
  have hl := lv_entry ([.ref h0, .int (nI fr), .int (nI tw)]) (n := 6) (Nat.le_of_ble_eq_true rfl)
  rw [lg_entry_eq]
  generalize (lg_sl ([.ref h0, .int (nI fr), .int (nI tw)]) ++ List.replicate (6 - (lg_sl ([.ref h0, .int (nI fr), .int (nI tw)])).length) Slot.unset).toArray = ls at hl ⊢
  have hl : lv_has ls 6 [zR 0 h0, zI 1 (nI fr), zI 2 (nI tw)] := hl
  have kf49 := hts (.fieldLink RX6 49 "PebbleInShoeModel" "words" "[I") (by decide +kernel)
  have hiX6 := (by decide +kernel : ∀ w ∈ wsX60, w ∈ wsX6_wordFrom)
  have kf22 := hts (.fieldLink RX6 22 "PebbleInShoeModel" "tape" "[I") (by decide +kernel)
  refine lv_iconst (v := 0) hx hb dX6_wordFrom_0 (by decide +kernel) ?_
  refine lv_istore_n (lv' := [zI 3 0, zR 0 h0, zI 1 (nI fr), zI 2 (nI tw)]) hx hb dX6_wordFrom_1 rfl hl (by decide +kernel) rfl (fun ls hl => ?_)
  have loop_2 : ∀ (n9 : Nat) (k2 : Nat), (k2 ≤ 12) → (p_X6_wordFrom_2 ftp fwo fr tw (12 - k2) k2  = (g_X6_wordFrom_2 ftp fwo fr tw)) → (12 - k2) < n9 → ∀ (H : Heap) (locs : List Loc), va_P G.1 vwCl [zo6 h0 (nI pb) kd mo st (nI jg) ro tp (nI td) cd sr (nI tx) (nI ru) him ir ih ss sq ce lw s19 s20 s21 s22 wo he s25 s26 s27 sk na kp s31 s32 s33 s34 gb go fa ga s39 s40 vo, zi G tp 160 ftp, zi G wo 96 fwo] H → va_D A [zo6 h0 (nI pb) kd mo st (nI jg) ro tp (nI td) cd sr (nI tx) (nI ru) him ir ih ss sq ce lw s19 s20 s21 s22 wo he s25 s26 s27 sk na kp s31 s32 s33 s34 gb go fa ga s39 s40 vo, zi G tp 160 ftp, zi G wo 96 fwo] → va_S A s.heap H locs → ∀ ls : Array Slot, lv_has ls 6 [zI 3 (nI k2), zR 0 h0, zI 1 (nI fr), zI 2 (nI tw)] → W p l e (headSpec wsX6_wordFrom ({ frames := 0, cells := 0, slots := 0, locals := 0 })).room s m ([.ref h0, .int (nI fr), .int (nI tw)] : List Value).toArray below meth c H locs 0 0 (MQ below (q_X6_wordFrom G h0 kd mo st ro tp cd sr ir ih ss sq ce lw wo he sk na kp gb go fa ga vo pb jg td tx ru him s19 s20 s21 s22 s25 s26 s27 s31 s32 s33 s34 s39 s40 ftp fwo fr tw A) ([.ref h0, .int (nI fr), .int (nI tw)] : List Value).toArray s 0 0 A) (F0 m 2 ls []) := by
    intro n9
    induction n9 with
    | zero => intro k2 hk2 R2 hm9_2; exact absurd hm9_2 (Nat.not_lt_zero _)
    | succ n9 ih9_2 =>
      intro k2 hk2 R2 hm9_2 H locs hP hD hS ls hl
      refine lv_iload_n hx hb dX6_wordFrom_2 rfl (lv_at hl 0 rfl) ?_
      refine lv_bipush (v := 12) hx hb dX6_wordFrom_3 (by decide +kernel) ?_
      refine lv_icmp_ge (tgt := 101) hx hb dX6_wordFrom_5 (by decide +kernel) (fun c_1 => ?_) (fun c_1 => ?_)
      · skip
        have c_1N : 12 ≤ k2 := nI_le1 (a := 12) (b := k2) (by omega) (by omega) c_1
        have hF2 : (g_X6_wordFrom_2 ftp fwo fr tw) = k2 := by rw [← R2, show 12 - k2 = 0 by omega]; rfl
        have hE2_0 : k2 = (g_X6_wordFrom_2 ftp fwo fr tw) := by rw [hF2]
        clear hF2 R2
        subst hE2_0
        refine lv_bipush (v := 12) hx hb dX6_wordFrom_101 (by decide +kernel) ?_
        have hpost : (fun (r : Int32) (u : Unit) => match u with | _ => r = m_X6_wordFrom ftp fwo fr tw) 12 () := (show m_X6_wordFrom ftp fwo fr tw = 12 from by unfold m_X6_wordFrom; rw [if_pos c_1]).symm
        exact W.iret (v := 12) hx hb hr (fun t ht hW => ⟨⟨12, (), rfl, hpost, by rw [ht]; exact hP, va_K.moved hW.alike hK, hD⟩, hS.F ht⟩) hS.2.2 dX6_wordFrom_103
      · skip
        have c_1N : k2 < 12 := nI_le0 (a := 12) (b := k2) (by omega) (by omega) c_1
        refine lv_iload_n hx hb dX6_wordFrom_8 rfl (lv_at hl 3 rfl) ?_
        refine lv_iload_n hx hb dX6_wordFrom_9 rfl (lv_at hl 2 rfl) ?_
        refine lv_isub hx hb dX6_wordFrom_10 ?_
        refine g_topi (y := nI (tw - fr)) (pk_sub (a := tw) (b := fr) (by omega)) ?_
        refine lv_bipush (v := 8) hx hb dX6_wordFrom_11 (by decide +kernel) ?_
        refine lv_icmp_gt (tgt := 20) hx hb dX6_wordFrom_13 (by decide +kernel) (fun c_3 => ?_) (fun c_3 => ?_)
        · skip
          have c_3N : 8 < (tw - fr) := nI_lt1 (a := 8) (b := (tw - fr)) (by omega) (by omega) c_3
          refine lv_iconst (v := 0) hx hb dX6_wordFrom_20 (by decide +kernel) ?_
          refine lv_istore (lv' := [zI 4 0, zI 3 (nI k2), zR 0 h0, zI 1 (nI fr), zI 2 (nI tw)]) hx hb dX6_wordFrom_21 hl (by decide +kernel) rfl (fun ls hl => ?_)
          refine lv_iconst (v := 0) hx hb dX6_wordFrom_23 (by decide +kernel) ?_
          refine lv_istore (lv' := [zI 5 0, zI 4 0, zI 3 (nI k2), zR 0 h0, zI 1 (nI fr), zI 2 (nI tw)]) hx hb dX6_wordFrom_24 hl (by decide +kernel) rfl (fun ls hl => ?_)
          have loop_26 : ∀ (n9 : Nat) (c26 : Nat) (li : Int32), (c26 ≤ 8) → (p_X6_wordFrom_26 ftp fwo fr tw k2 (8 - c26) c26 li = (g_X6_wordFrom_26 ftp fwo fr tw k2)) → (8 - c26) < n9 → ∀ (H : Heap) (locs : List Loc), va_P G.1 vwCl [zo6 h0 (nI pb) kd mo st (nI jg) ro tp (nI td) cd sr (nI tx) (nI ru) him ir ih ss sq ce lw s19 s20 s21 s22 wo he s25 s26 s27 sk na kp s31 s32 s33 s34 gb go fa ga s39 s40 vo, zi G tp 160 ftp, zi G wo 96 fwo] H → va_D A [zo6 h0 (nI pb) kd mo st (nI jg) ro tp (nI td) cd sr (nI tx) (nI ru) him ir ih ss sq ce lw s19 s20 s21 s22 wo he s25 s26 s27 sk na kp s31 s32 s33 s34 gb go fa ga s39 s40 vo, zi G tp 160 ftp, zi G wo 96 fwo] → va_S A s.heap H locs → ∀ ls : Array Slot, lv_has ls 6 [zI 5 (nI c26), zI 4 li, zI 3 (nI k2), zR 0 h0, zI 1 (nI fr), zI 2 (nI tw)] → W p l e (headSpec wsX6_wordFrom ({ frames := 0, cells := 0, slots := 0, locals := 0 })).room s m ([.ref h0, .int (nI fr), .int (nI tw)] : List Value).toArray below meth c H locs 0 0 (MQ below (q_X6_wordFrom G h0 kd mo st ro tp cd sr ir ih ss sq ce lw wo he sk na kp gb go fa ga vo pb jg td tx ru him s19 s20 s21 s22 s25 s26 s27 s31 s32 s33 s34 s39 s40 ftp fwo fr tw A) ([.ref h0, .int (nI fr), .int (nI tw)] : List Value).toArray s 0 0 A) (F0 m 26 ls []) := by
            intro n9
            induction n9 with
            | zero => intro c26 li hc26 R26 hm9_26; exact absurd hm9_26 (Nat.not_lt_zero _)
            | succ n9 ih9_26 =>
              intro c26 li hc26 R26 hm9_26 H locs hP hD hS ls hl
              refine lv_iload hx hb dX6_wordFrom_26 (lv_at hl 0 rfl) ?_
              refine lv_bipush (v := 8) hx hb dX6_wordFrom_28 (by decide +kernel) ?_
              refine lv_icmp_ge (tgt := 88) hx hb dX6_wordFrom_30 (by decide +kernel) (fun c_4 => ?_) (fun c_4 => ?_)
              · skip
                have c_4N : 8 ≤ c26 := nI_le1 (a := 8) (b := c26) (by omega) (by omega) c_4
                have hF26 : (g_X6_wordFrom_26 ftp fwo fr tw k2) = (c26, li) := by rw [← R26, show 8 - c26 = 0 by omega]; rfl
                have hE26_0 : c26 = ((g_X6_wordFrom_26 ftp fwo fr tw k2).1) := by rw [hF26]
                have hE26_1 : li = ((g_X6_wordFrom_26 ftp fwo fr tw k2).2) := by rw [hF26]
                clear hF26 R26
                subst hE26_0
                subst hE26_1
                refine lv_iload hx hb dX6_wordFrom_88 (lv_at hl 1 rfl) ?_
                refine lv_if_eq (tgt := 95) hx hb dX6_wordFrom_90 (by decide +kernel) (fun c_5 => ?_) (fun c_5 => ?_)
                · skip
                  refine lv_iinc (v := nI (k2 + 1)) (lv' := [zI 3 (nI (k2 + 1)), zI 5 (nI ((g_X6_wordFrom_26 ftp fwo fr tw k2).1)), zI 4 ((g_X6_wordFrom_26 ftp fwo fr tw k2).2), zR 0 h0, zI 1 (nI fr), zI 2 (nI tw)]) hx hb dX6_wordFrom_95 hl (k := 2) rfl (nI_add k2 1) (by decide +kernel) rfl (fun ls hl => ?_)
                  refine lv_goto (tgt := 2) hx hb dX6_wordFrom_98 (by decide +kernel) ?_
                  exact ih9_2 (k2 + 1) (by omega) (Eq.trans (Eq.symm ((congrArg (fun z9 => p_X6_wordFrom_2 ftp fwo fr tw (z9) k2 ) (show 12 - k2 = 12 - (k2 + 1) + 1 by omega)).trans (by show p_X6_wordFrom_2 ftp fwo fr tw (12 - (k2 + 1) + 1) k2  = _; rw [p_X6_wordFrom_2, if_pos c_3, if_pos c_5]))) R2) (by omega) _ _ hP hD hS ls (lv_sub hl [0, 3, 4, 5] rfl)
                · skip
                  refine lv_iload_n hx hb dX6_wordFrom_93 rfl (lv_at hl 2 rfl) ?_
                  have hF2 : (g_X6_wordFrom_2 ftp fwo fr tw) = k2 := R2.symm.trans ((congrArg (fun z9 => p_X6_wordFrom_2 ftp fwo fr tw (z9) k2 ) (show 12 - k2 = 12 - (k2 + 1) + 1 by omega)).trans (by show p_X6_wordFrom_2 ftp fwo fr tw (12 - (k2 + 1) + 1) k2  = _; rw [p_X6_wordFrom_2, if_pos c_3, if_neg c_5]))
                  have hE2_0 : k2 = (g_X6_wordFrom_2 ftp fwo fr tw) := by rw [hF2]
                  clear hF2 R2
                  subst hE2_0
                  have hpost : (fun (r : Int32) (u : Unit) => match u with | _ => r = m_X6_wordFrom ftp fwo fr tw) (nI (g_X6_wordFrom_2 ftp fwo fr tw)) () := (show m_X6_wordFrom ftp fwo fr tw = (nI (g_X6_wordFrom_2 ftp fwo fr tw)) from by unfold m_X6_wordFrom; rw [if_neg c_1]).symm
                  exact W.iret (v := (nI (g_X6_wordFrom_2 ftp fwo fr tw))) hx hb hr (fun t ht hW => ⟨⟨(nI (g_X6_wordFrom_2 ftp fwo fr tw)), (), rfl, hpost, by rw [ht]; exact hP, va_K.moved hW.alike hK, hD⟩, hS.F ht⟩) hS.2.2 dX6_wordFrom_94
              · skip
                have c_4N : c26 < 8 := nI_le0 (a := 8) (b := c26) (by omega) (by omega) c_4
                refine lv_iload hx hb dX6_wordFrom_33 (lv_at hl 1 rfl) ?_
                refine lv_if_eq (tgt := 88) hx hb dX6_wordFrom_35 (by decide +kernel) (fun c_6 => ?_) (fun c_6 => ?_)
                · skip
                  have hF26 : (g_X6_wordFrom_26 ftp fwo fr tw k2) = (c26, li) := R26.symm.trans ((congrArg (fun z9 => p_X6_wordFrom_26 ftp fwo fr tw k2 (z9) c26 li) (show 8 - c26 = 8 - (c26 + 1) + 1 by omega)).trans (by show p_X6_wordFrom_26 ftp fwo fr tw k2 (8 - (c26 + 1) + 1) c26 li = _; rw [p_X6_wordFrom_26, if_pos c_6]))
                  have hE26_0 : c26 = ((g_X6_wordFrom_26 ftp fwo fr tw k2).1) := by rw [hF26]
                  have hE26_1 : li = ((g_X6_wordFrom_26 ftp fwo fr tw k2).2) := by rw [hF26]
                  clear hF26 R26
                  subst hE26_0
                  subst hE26_1
                  refine lv_iload hx hb dX6_wordFrom_88 (lv_at hl 1 rfl) ?_
                  refine lv_if_eq (tgt := 95) hx hb dX6_wordFrom_90 (by decide +kernel) (fun c_7 => ?_) (fun c_7 => ?_)
                  · skip
                    refine lv_iinc (v := nI (k2 + 1)) (lv' := [zI 3 (nI (k2 + 1)), zI 5 (nI ((g_X6_wordFrom_26 ftp fwo fr tw k2).1)), zI 4 ((g_X6_wordFrom_26 ftp fwo fr tw k2).2), zR 0 h0, zI 1 (nI fr), zI 2 (nI tw)]) hx hb dX6_wordFrom_95 hl (k := 2) rfl (nI_add k2 1) (by decide +kernel) rfl (fun ls hl => ?_)
                    refine lv_goto (tgt := 2) hx hb dX6_wordFrom_98 (by decide +kernel) ?_
                    exact ih9_2 (k2 + 1) (by omega) (Eq.trans (Eq.symm ((congrArg (fun z9 => p_X6_wordFrom_2 ftp fwo fr tw (z9) k2 ) (show 12 - k2 = 12 - (k2 + 1) + 1 by omega)).trans (by show p_X6_wordFrom_2 ftp fwo fr tw (12 - (k2 + 1) + 1) k2  = _; rw [p_X6_wordFrom_2, if_pos c_3, if_pos c_7]))) R2) (by omega) _ _ hP hD hS ls (lv_sub hl [0, 3, 4, 5] rfl)
                  · skip
                    refine lv_iload_n hx hb dX6_wordFrom_93 rfl (lv_at hl 2 rfl) ?_
                    have hF2 : (g_X6_wordFrom_2 ftp fwo fr tw) = k2 := R2.symm.trans ((congrArg (fun z9 => p_X6_wordFrom_2 ftp fwo fr tw (z9) k2 ) (show 12 - k2 = 12 - (k2 + 1) + 1 by omega)).trans (by show p_X6_wordFrom_2 ftp fwo fr tw (12 - (k2 + 1) + 1) k2  = _; rw [p_X6_wordFrom_2, if_pos c_3, if_neg c_7]))
                    have hE2_0 : k2 = (g_X6_wordFrom_2 ftp fwo fr tw) := by rw [hF2]
                    clear hF2 R2
                    subst hE2_0
                    have hpost : (fun (r : Int32) (u : Unit) => match u with | _ => r = m_X6_wordFrom ftp fwo fr tw) (nI (g_X6_wordFrom_2 ftp fwo fr tw)) () := (show m_X6_wordFrom ftp fwo fr tw = (nI (g_X6_wordFrom_2 ftp fwo fr tw)) from by unfold m_X6_wordFrom; rw [if_neg c_1]).symm
                    exact W.iret (v := (nI (g_X6_wordFrom_2 ftp fwo fr tw))) hx hb hr (fun t ht hW => ⟨⟨(nI (g_X6_wordFrom_2 ftp fwo fr tw)), (), rfl, hpost, by rw [ht]; exact hP, va_K.moved hW.alike hK, hD⟩, hS.F ht⟩) hS.2.2 dX6_wordFrom_94
                · skip
                  refine g_aget (D := G.1) (ci := 6) (v := .ref wo) (C := RX6) (T := TX6) (N := 42) hx hb dX6_wordFrom_38 rfl (lv_at hl 3 rfl) hts hiX6 hown hK hP 0 rfl rfl 23 (by decide +kernel) kf49 (fun _ h9 => h9) rfl dX6_wordFrom_39 ?_
                  refine lv_bipush (v := 8) hx hb dX6_wordFrom_42 (by decide +kernel) ?_
                  refine lv_iload_n hx hb dX6_wordFrom_44 rfl (lv_at hl 2 rfl) ?_
                  refine lv_imul hx hb dX6_wordFrom_45 ?_
                  refine g_topi (y := nI (8 * k2)) (pk_mul 8 k2) ?_
                  refine lv_iload hx hb dX6_wordFrom_46 (lv_at hl 0 rfl) ?_
                  refine lv_iadd hx hb dX6_wordFrom_48 ?_
                  refine g_topi (y := nI ((8 * k2) + c26)) (nI_add (8 * k2) c26) ?_
                  refine g_iald (D := G.1) hx hb hK hP 2 0 rfl rfl (k := (8 * k2) + c26) (y := fwo ((8 * k2) + c26)) (by omega) rfl rfl dX6_wordFrom_49 ?_
                  refine lv_iload_n hx hb dX6_wordFrom_50 rfl (lv_at hl 4 rfl) ?_
                  refine lv_iload hx hb dX6_wordFrom_51 (lv_at hl 0 rfl) ?_
                  refine lv_iadd hx hb dX6_wordFrom_53 ?_
                  refine g_topi (y := nI (fr + c26)) (nI_add fr c26) ?_
                  refine lv_iload_n hx hb dX6_wordFrom_54 rfl (lv_at hl 5 rfl) ?_
                  refine lv_icmp_ge (tgt := 70) hx hb dX6_wordFrom_55 (by decide +kernel) (fun c_12 => ?_) (fun c_12 => ?_)
                  · skip
                    have c_12N : tw ≤ (fr + c26) := nI_le1 (a := tw) (b := (fr + c26)) (by omega) (by omega) c_12
                    refine lv_bipush (v := 32) hx hb dX6_wordFrom_70 (by decide +kernel) ?_
                    refine lv_icmp_ne (tgt := 79) hx hb dX6_wordFrom_72 (by decide +kernel) (fun c_13 => ?_) (fun c_13 => ?_)
                    · skip
                      refine lv_iconst (v := 0) hx hb dX6_wordFrom_79 (by decide +kernel) ?_
                      refine lv_istore (lv' := [zI 4 0, zI 5 (nI c26), zI 3 (nI k2), zR 0 h0, zI 1 (nI fr), zI 2 (nI tw)]) hx hb dX6_wordFrom_80 hl (by decide +kernel) rfl (fun ls hl => ?_)
                      refine lv_iinc (v := nI (c26 + 1)) (lv' := [zI 5 (nI (c26 + 1)), zI 4 0, zI 3 (nI k2), zR 0 h0, zI 1 (nI fr), zI 2 (nI tw)]) hx hb dX6_wordFrom_82 hl (k := 1) rfl (nI_add c26 1) (by decide +kernel) rfl (fun ls hl => ?_)
                      refine lv_goto (tgt := 26) hx hb dX6_wordFrom_85 (by decide +kernel) ?_
                      exact ih9_26 (c26 + 1) 0 (by omega) (Eq.trans (Eq.symm ((congrArg (fun z9 => p_X6_wordFrom_26 ftp fwo fr tw k2 (z9) c26 li) (show 8 - c26 = 8 - (c26 + 1) + 1 by omega)).trans (by show p_X6_wordFrom_26 ftp fwo fr tw k2 (8 - (c26 + 1) + 1) c26 li = _; rw [p_X6_wordFrom_26, if_neg c_6, if_pos c_12, if_neg c_13]))) R26) (by omega) _ _ hP hD hS ls hl
                    · skip
                      refine lv_iconst (v := 1) hx hb dX6_wordFrom_75 (by decide +kernel) ?_
                      refine lv_goto (tgt := 80) hx hb dX6_wordFrom_76 (by decide +kernel) ?_
                      refine lv_istore (lv' := [zI 4 1, zI 5 (nI c26), zI 3 (nI k2), zR 0 h0, zI 1 (nI fr), zI 2 (nI tw)]) hx hb dX6_wordFrom_80 hl (by decide +kernel) rfl (fun ls hl => ?_)
                      refine lv_iinc (v := nI (c26 + 1)) (lv' := [zI 5 (nI (c26 + 1)), zI 4 1, zI 3 (nI k2), zR 0 h0, zI 1 (nI fr), zI 2 (nI tw)]) hx hb dX6_wordFrom_82 hl (k := 1) rfl (nI_add c26 1) (by decide +kernel) rfl (fun ls hl => ?_)
                      refine lv_goto (tgt := 26) hx hb dX6_wordFrom_85 (by decide +kernel) ?_
                      exact ih9_26 (c26 + 1) 1 (by omega) (Eq.trans (Eq.symm ((congrArg (fun z9 => p_X6_wordFrom_26 ftp fwo fr tw k2 (z9) c26 li) (show 8 - c26 = 8 - (c26 + 1) + 1 by omega)).trans (by show p_X6_wordFrom_26 ftp fwo fr tw k2 (8 - (c26 + 1) + 1) c26 li = _; rw [p_X6_wordFrom_26, if_neg c_6, if_pos c_12, if_pos c_13]))) R26) (by omega) _ _ hP hD hS ls hl
                  · skip
                    have c_12N : (fr + c26) < tw := nI_le0 (a := tw) (b := (fr + c26)) (by omega) (by omega) c_12
                    refine g_aget (D := G.1) (ci := 6) (v := .ref tp) (C := RX6) (T := TX6) (N := 42) hx hb dX6_wordFrom_58 rfl (lv_at hl 3 rfl) hts hiX6 hown hK hP 0 rfl rfl 6 (by decide +kernel) kf22 (fun _ h9 => h9) rfl dX6_wordFrom_59 ?_
                    refine lv_iload_n hx hb dX6_wordFrom_62 rfl (lv_at hl 4 rfl) ?_
                    refine lv_iload hx hb dX6_wordFrom_63 (lv_at hl 0 rfl) ?_
                    refine lv_iadd hx hb dX6_wordFrom_65 ?_
                    refine g_topi (y := nI (fr + c26)) (nI_add fr c26) ?_
                    refine g_iald (D := G.1) hx hb hK hP 1 0 rfl rfl (k := fr + c26) (y := ftp (fr + c26)) (by omega) rfl rfl dX6_wordFrom_66 ?_
                    refine lv_goto (tgt := 72) hx hb dX6_wordFrom_67 (by decide +kernel) ?_
                    refine lv_icmp_ne (tgt := 79) hx hb dX6_wordFrom_72 (by decide +kernel) (fun c_16 => ?_) (fun c_16 => ?_)
                    · skip
                      refine lv_iconst (v := 0) hx hb dX6_wordFrom_79 (by decide +kernel) ?_
                      refine lv_istore (lv' := [zI 4 0, zI 5 (nI c26), zI 3 (nI k2), zR 0 h0, zI 1 (nI fr), zI 2 (nI tw)]) hx hb dX6_wordFrom_80 hl (by decide +kernel) rfl (fun ls hl => ?_)
                      refine lv_iinc (v := nI (c26 + 1)) (lv' := [zI 5 (nI (c26 + 1)), zI 4 0, zI 3 (nI k2), zR 0 h0, zI 1 (nI fr), zI 2 (nI tw)]) hx hb dX6_wordFrom_82 hl (k := 1) rfl (nI_add c26 1) (by decide +kernel) rfl (fun ls hl => ?_)
                      refine lv_goto (tgt := 26) hx hb dX6_wordFrom_85 (by decide +kernel) ?_
                      exact ih9_26 (c26 + 1) 0 (by omega) (Eq.trans (Eq.symm ((congrArg (fun z9 => p_X6_wordFrom_26 ftp fwo fr tw k2 (z9) c26 li) (show 8 - c26 = 8 - (c26 + 1) + 1 by omega)).trans (by show p_X6_wordFrom_26 ftp fwo fr tw k2 (8 - (c26 + 1) + 1) c26 li = _; rw [p_X6_wordFrom_26, if_neg c_6, if_neg c_12, if_neg c_16]))) R26) (by omega) _ _ hP hD hS ls hl
                    · skip
                      refine lv_iconst (v := 1) hx hb dX6_wordFrom_75 (by decide +kernel) ?_
                      refine lv_goto (tgt := 80) hx hb dX6_wordFrom_76 (by decide +kernel) ?_
                      refine lv_istore (lv' := [zI 4 1, zI 5 (nI c26), zI 3 (nI k2), zR 0 h0, zI 1 (nI fr), zI 2 (nI tw)]) hx hb dX6_wordFrom_80 hl (by decide +kernel) rfl (fun ls hl => ?_)
                      refine lv_iinc (v := nI (c26 + 1)) (lv' := [zI 5 (nI (c26 + 1)), zI 4 1, zI 3 (nI k2), zR 0 h0, zI 1 (nI fr), zI 2 (nI tw)]) hx hb dX6_wordFrom_82 hl (k := 1) rfl (nI_add c26 1) (by decide +kernel) rfl (fun ls hl => ?_)
                      refine lv_goto (tgt := 26) hx hb dX6_wordFrom_85 (by decide +kernel) ?_
                      exact ih9_26 (c26 + 1) 1 (by omega) (Eq.trans (Eq.symm ((congrArg (fun z9 => p_X6_wordFrom_26 ftp fwo fr tw k2 (z9) c26 li) (show 8 - c26 = 8 - (c26 + 1) + 1 by omega)).trans (by show p_X6_wordFrom_26 ftp fwo fr tw k2 (8 - (c26 + 1) + 1) c26 li = _; rw [p_X6_wordFrom_26, if_neg c_6, if_neg c_12, if_pos c_16]))) R26) (by omega) _ _ hP hD hS ls hl
          exact loop_26 (8 - 0 + 1) 0 0 (by omega) (rfl) (by omega) _ _ hP hD hS ls hl
        · skip
          have c_3N : (tw - fr) ≤ 8 := nI_lt0 (a := 8) (b := (tw - fr)) (by omega) (by omega) c_3
          refine lv_iconst (v := 1) hx hb dX6_wordFrom_16 (by decide +kernel) ?_
          refine lv_goto (tgt := 21) hx hb dX6_wordFrom_17 (by decide +kernel) ?_
          refine lv_istore (lv' := [zI 4 1, zI 3 (nI k2), zR 0 h0, zI 1 (nI fr), zI 2 (nI tw)]) hx hb dX6_wordFrom_21 hl (by decide +kernel) rfl (fun ls hl => ?_)
          refine lv_iconst (v := 0) hx hb dX6_wordFrom_23 (by decide +kernel) ?_
          refine lv_istore (lv' := [zI 5 0, zI 4 1, zI 3 (nI k2), zR 0 h0, zI 1 (nI fr), zI 2 (nI tw)]) hx hb dX6_wordFrom_24 hl (by decide +kernel) rfl (fun ls hl => ?_)
          have loop_26 : ∀ (n9 : Nat) (c26 : Nat) (li : Int32), (c26 ≤ 8) → (p_X6_wordFrom_26q1 ftp fwo fr tw k2 (8 - c26) c26 li = (g_X6_wordFrom_26q1 ftp fwo fr tw k2)) → (8 - c26) < n9 → ∀ (H : Heap) (locs : List Loc), va_P G.1 vwCl [zo6 h0 (nI pb) kd mo st (nI jg) ro tp (nI td) cd sr (nI tx) (nI ru) him ir ih ss sq ce lw s19 s20 s21 s22 wo he s25 s26 s27 sk na kp s31 s32 s33 s34 gb go fa ga s39 s40 vo, zi G tp 160 ftp, zi G wo 96 fwo] H → va_D A [zo6 h0 (nI pb) kd mo st (nI jg) ro tp (nI td) cd sr (nI tx) (nI ru) him ir ih ss sq ce lw s19 s20 s21 s22 wo he s25 s26 s27 sk na kp s31 s32 s33 s34 gb go fa ga s39 s40 vo, zi G tp 160 ftp, zi G wo 96 fwo] → va_S A s.heap H locs → ∀ ls : Array Slot, lv_has ls 6 [zI 5 (nI c26), zI 4 li, zI 3 (nI k2), zR 0 h0, zI 1 (nI fr), zI 2 (nI tw)] → W p l e (headSpec wsX6_wordFrom ({ frames := 0, cells := 0, slots := 0, locals := 0 })).room s m ([.ref h0, .int (nI fr), .int (nI tw)] : List Value).toArray below meth c H locs 0 0 (MQ below (q_X6_wordFrom G h0 kd mo st ro tp cd sr ir ih ss sq ce lw wo he sk na kp gb go fa ga vo pb jg td tx ru him s19 s20 s21 s22 s25 s26 s27 s31 s32 s33 s34 s39 s40 ftp fwo fr tw A) ([.ref h0, .int (nI fr), .int (nI tw)] : List Value).toArray s 0 0 A) (F0 m 26 ls []) := by
            intro n9
            induction n9 with
            | zero => intro c26 li hc26 R26 hm9_26; exact absurd hm9_26 (Nat.not_lt_zero _)
            | succ n9 ih9_26 =>
              intro c26 li hc26 R26 hm9_26 H locs hP hD hS ls hl
              refine lv_iload hx hb dX6_wordFrom_26 (lv_at hl 0 rfl) ?_
              refine lv_bipush (v := 8) hx hb dX6_wordFrom_28 (by decide +kernel) ?_
              refine lv_icmp_ge (tgt := 88) hx hb dX6_wordFrom_30 (by decide +kernel) (fun c_17 => ?_) (fun c_17 => ?_)
              · skip
                have c_17N : 8 ≤ c26 := nI_le1 (a := 8) (b := c26) (by omega) (by omega) c_17
                have hF26 : (g_X6_wordFrom_26q1 ftp fwo fr tw k2) = (c26, li) := by rw [← R26, show 8 - c26 = 0 by omega]; rfl
                have hE26_0 : c26 = ((g_X6_wordFrom_26q1 ftp fwo fr tw k2).1) := by rw [hF26]
                have hE26_1 : li = ((g_X6_wordFrom_26q1 ftp fwo fr tw k2).2) := by rw [hF26]
                clear hF26 R26
                subst hE26_0
                subst hE26_1
                refine lv_iload hx hb dX6_wordFrom_88 (lv_at hl 1 rfl) ?_
                refine lv_if_eq (tgt := 95) hx hb dX6_wordFrom_90 (by decide +kernel) (fun c_18 => ?_) (fun c_18 => ?_)
                · skip
                  refine lv_iinc (v := nI (k2 + 1)) (lv' := [zI 3 (nI (k2 + 1)), zI 5 (nI ((g_X6_wordFrom_26q1 ftp fwo fr tw k2).1)), zI 4 ((g_X6_wordFrom_26q1 ftp fwo fr tw k2).2), zR 0 h0, zI 1 (nI fr), zI 2 (nI tw)]) hx hb dX6_wordFrom_95 hl (k := 2) rfl (nI_add k2 1) (by decide +kernel) rfl (fun ls hl => ?_)
                  refine lv_goto (tgt := 2) hx hb dX6_wordFrom_98 (by decide +kernel) ?_
                  exact ih9_2 (k2 + 1) (by omega) (Eq.trans (Eq.symm ((congrArg (fun z9 => p_X6_wordFrom_2 ftp fwo fr tw (z9) k2 ) (show 12 - k2 = 12 - (k2 + 1) + 1 by omega)).trans (by show p_X6_wordFrom_2 ftp fwo fr tw (12 - (k2 + 1) + 1) k2  = _; rw [p_X6_wordFrom_2, if_neg c_3, if_pos c_18]))) R2) (by omega) _ _ hP hD hS ls (lv_sub hl [0, 3, 4, 5] rfl)
                · skip
                  refine lv_iload_n hx hb dX6_wordFrom_93 rfl (lv_at hl 2 rfl) ?_
                  have hF2 : (g_X6_wordFrom_2 ftp fwo fr tw) = k2 := R2.symm.trans ((congrArg (fun z9 => p_X6_wordFrom_2 ftp fwo fr tw (z9) k2 ) (show 12 - k2 = 12 - (k2 + 1) + 1 by omega)).trans (by show p_X6_wordFrom_2 ftp fwo fr tw (12 - (k2 + 1) + 1) k2  = _; rw [p_X6_wordFrom_2, if_neg c_3, if_neg c_18]))
                  have hE2_0 : k2 = (g_X6_wordFrom_2 ftp fwo fr tw) := by rw [hF2]
                  clear hF2 R2
                  subst hE2_0
                  have hpost : (fun (r : Int32) (u : Unit) => match u with | _ => r = m_X6_wordFrom ftp fwo fr tw) (nI (g_X6_wordFrom_2 ftp fwo fr tw)) () := (show m_X6_wordFrom ftp fwo fr tw = (nI (g_X6_wordFrom_2 ftp fwo fr tw)) from by unfold m_X6_wordFrom; rw [if_neg c_1]).symm
                  exact W.iret (v := (nI (g_X6_wordFrom_2 ftp fwo fr tw))) hx hb hr (fun t ht hW => ⟨⟨(nI (g_X6_wordFrom_2 ftp fwo fr tw)), (), rfl, hpost, by rw [ht]; exact hP, va_K.moved hW.alike hK, hD⟩, hS.F ht⟩) hS.2.2 dX6_wordFrom_94
              · skip
                have c_17N : c26 < 8 := nI_le0 (a := 8) (b := c26) (by omega) (by omega) c_17
                refine lv_iload hx hb dX6_wordFrom_33 (lv_at hl 1 rfl) ?_
                refine lv_if_eq (tgt := 88) hx hb dX6_wordFrom_35 (by decide +kernel) (fun c_19 => ?_) (fun c_19 => ?_)
                · skip
                  have hF26 : (g_X6_wordFrom_26q1 ftp fwo fr tw k2) = (c26, li) := R26.symm.trans ((congrArg (fun z9 => p_X6_wordFrom_26q1 ftp fwo fr tw k2 (z9) c26 li) (show 8 - c26 = 8 - (c26 + 1) + 1 by omega)).trans (by show p_X6_wordFrom_26q1 ftp fwo fr tw k2 (8 - (c26 + 1) + 1) c26 li = _; rw [p_X6_wordFrom_26q1, if_pos c_19]))
                  have hE26_0 : c26 = ((g_X6_wordFrom_26q1 ftp fwo fr tw k2).1) := by rw [hF26]
                  have hE26_1 : li = ((g_X6_wordFrom_26q1 ftp fwo fr tw k2).2) := by rw [hF26]
                  clear hF26 R26
                  subst hE26_0
                  subst hE26_1
                  refine lv_iload hx hb dX6_wordFrom_88 (lv_at hl 1 rfl) ?_
                  refine lv_if_eq (tgt := 95) hx hb dX6_wordFrom_90 (by decide +kernel) (fun c_20 => ?_) (fun c_20 => ?_)
                  · skip
                    refine lv_iinc (v := nI (k2 + 1)) (lv' := [zI 3 (nI (k2 + 1)), zI 5 (nI ((g_X6_wordFrom_26q1 ftp fwo fr tw k2).1)), zI 4 ((g_X6_wordFrom_26q1 ftp fwo fr tw k2).2), zR 0 h0, zI 1 (nI fr), zI 2 (nI tw)]) hx hb dX6_wordFrom_95 hl (k := 2) rfl (nI_add k2 1) (by decide +kernel) rfl (fun ls hl => ?_)
                    refine lv_goto (tgt := 2) hx hb dX6_wordFrom_98 (by decide +kernel) ?_
                    exact ih9_2 (k2 + 1) (by omega) (Eq.trans (Eq.symm ((congrArg (fun z9 => p_X6_wordFrom_2 ftp fwo fr tw (z9) k2 ) (show 12 - k2 = 12 - (k2 + 1) + 1 by omega)).trans (by show p_X6_wordFrom_2 ftp fwo fr tw (12 - (k2 + 1) + 1) k2  = _; rw [p_X6_wordFrom_2, if_neg c_3, if_pos c_20]))) R2) (by omega) _ _ hP hD hS ls (lv_sub hl [0, 3, 4, 5] rfl)
                  · skip
                    refine lv_iload_n hx hb dX6_wordFrom_93 rfl (lv_at hl 2 rfl) ?_
                    have hF2 : (g_X6_wordFrom_2 ftp fwo fr tw) = k2 := R2.symm.trans ((congrArg (fun z9 => p_X6_wordFrom_2 ftp fwo fr tw (z9) k2 ) (show 12 - k2 = 12 - (k2 + 1) + 1 by omega)).trans (by show p_X6_wordFrom_2 ftp fwo fr tw (12 - (k2 + 1) + 1) k2  = _; rw [p_X6_wordFrom_2, if_neg c_3, if_neg c_20]))
                    have hE2_0 : k2 = (g_X6_wordFrom_2 ftp fwo fr tw) := by rw [hF2]
                    clear hF2 R2
                    subst hE2_0
                    have hpost : (fun (r : Int32) (u : Unit) => match u with | _ => r = m_X6_wordFrom ftp fwo fr tw) (nI (g_X6_wordFrom_2 ftp fwo fr tw)) () := (show m_X6_wordFrom ftp fwo fr tw = (nI (g_X6_wordFrom_2 ftp fwo fr tw)) from by unfold m_X6_wordFrom; rw [if_neg c_1]).symm
                    exact W.iret (v := (nI (g_X6_wordFrom_2 ftp fwo fr tw))) hx hb hr (fun t ht hW => ⟨⟨(nI (g_X6_wordFrom_2 ftp fwo fr tw)), (), rfl, hpost, by rw [ht]; exact hP, va_K.moved hW.alike hK, hD⟩, hS.F ht⟩) hS.2.2 dX6_wordFrom_94
                · skip
                  refine g_aget (D := G.1) (ci := 6) (v := .ref wo) (C := RX6) (T := TX6) (N := 42) hx hb dX6_wordFrom_38 rfl (lv_at hl 3 rfl) hts hiX6 hown hK hP 0 rfl rfl 23 (by decide +kernel) kf49 (fun _ h9 => h9) rfl dX6_wordFrom_39 ?_
                  refine lv_bipush (v := 8) hx hb dX6_wordFrom_42 (by decide +kernel) ?_
                  refine lv_iload_n hx hb dX6_wordFrom_44 rfl (lv_at hl 2 rfl) ?_
                  refine lv_imul hx hb dX6_wordFrom_45 ?_
                  refine g_topi (y := nI (8 * k2)) (pk_mul 8 k2) ?_
                  refine lv_iload hx hb dX6_wordFrom_46 (lv_at hl 0 rfl) ?_
                  refine lv_iadd hx hb dX6_wordFrom_48 ?_
                  refine g_topi (y := nI ((8 * k2) + c26)) (nI_add (8 * k2) c26) ?_
                  refine g_iald (D := G.1) hx hb hK hP 2 0 rfl rfl (k := (8 * k2) + c26) (y := fwo ((8 * k2) + c26)) (by omega) rfl rfl dX6_wordFrom_49 ?_
                  refine lv_iload_n hx hb dX6_wordFrom_50 rfl (lv_at hl 4 rfl) ?_
                  refine lv_iload hx hb dX6_wordFrom_51 (lv_at hl 0 rfl) ?_
                  refine lv_iadd hx hb dX6_wordFrom_53 ?_
                  refine g_topi (y := nI (fr + c26)) (nI_add fr c26) ?_
                  refine lv_iload_n hx hb dX6_wordFrom_54 rfl (lv_at hl 5 rfl) ?_
                  refine lv_icmp_ge (tgt := 70) hx hb dX6_wordFrom_55 (by decide +kernel) (fun c_25 => ?_) (fun c_25 => ?_)
                  · skip
                    have c_25N : tw ≤ (fr + c26) := nI_le1 (a := tw) (b := (fr + c26)) (by omega) (by omega) c_25
                    refine lv_bipush (v := 32) hx hb dX6_wordFrom_70 (by decide +kernel) ?_
                    refine lv_icmp_ne (tgt := 79) hx hb dX6_wordFrom_72 (by decide +kernel) (fun c_26 => ?_) (fun c_26 => ?_)
                    · skip
                      refine lv_iconst (v := 0) hx hb dX6_wordFrom_79 (by decide +kernel) ?_
                      refine lv_istore (lv' := [zI 4 0, zI 5 (nI c26), zI 3 (nI k2), zR 0 h0, zI 1 (nI fr), zI 2 (nI tw)]) hx hb dX6_wordFrom_80 hl (by decide +kernel) rfl (fun ls hl => ?_)
                      refine lv_iinc (v := nI (c26 + 1)) (lv' := [zI 5 (nI (c26 + 1)), zI 4 0, zI 3 (nI k2), zR 0 h0, zI 1 (nI fr), zI 2 (nI tw)]) hx hb dX6_wordFrom_82 hl (k := 1) rfl (nI_add c26 1) (by decide +kernel) rfl (fun ls hl => ?_)
                      refine lv_goto (tgt := 26) hx hb dX6_wordFrom_85 (by decide +kernel) ?_
                      exact ih9_26 (c26 + 1) 0 (by omega) (Eq.trans (Eq.symm ((congrArg (fun z9 => p_X6_wordFrom_26q1 ftp fwo fr tw k2 (z9) c26 li) (show 8 - c26 = 8 - (c26 + 1) + 1 by omega)).trans (by show p_X6_wordFrom_26q1 ftp fwo fr tw k2 (8 - (c26 + 1) + 1) c26 li = _; rw [p_X6_wordFrom_26q1, if_neg c_19, if_pos c_25, if_neg c_26]))) R26) (by omega) _ _ hP hD hS ls hl
                    · skip
                      refine lv_iconst (v := 1) hx hb dX6_wordFrom_75 (by decide +kernel) ?_
                      refine lv_goto (tgt := 80) hx hb dX6_wordFrom_76 (by decide +kernel) ?_
                      refine lv_istore (lv' := [zI 4 1, zI 5 (nI c26), zI 3 (nI k2), zR 0 h0, zI 1 (nI fr), zI 2 (nI tw)]) hx hb dX6_wordFrom_80 hl (by decide +kernel) rfl (fun ls hl => ?_)
                      refine lv_iinc (v := nI (c26 + 1)) (lv' := [zI 5 (nI (c26 + 1)), zI 4 1, zI 3 (nI k2), zR 0 h0, zI 1 (nI fr), zI 2 (nI tw)]) hx hb dX6_wordFrom_82 hl (k := 1) rfl (nI_add c26 1) (by decide +kernel) rfl (fun ls hl => ?_)
                      refine lv_goto (tgt := 26) hx hb dX6_wordFrom_85 (by decide +kernel) ?_
                      exact ih9_26 (c26 + 1) 1 (by omega) (Eq.trans (Eq.symm ((congrArg (fun z9 => p_X6_wordFrom_26q1 ftp fwo fr tw k2 (z9) c26 li) (show 8 - c26 = 8 - (c26 + 1) + 1 by omega)).trans (by show p_X6_wordFrom_26q1 ftp fwo fr tw k2 (8 - (c26 + 1) + 1) c26 li = _; rw [p_X6_wordFrom_26q1, if_neg c_19, if_pos c_25, if_pos c_26]))) R26) (by omega) _ _ hP hD hS ls hl
                  · skip
                    have c_25N : (fr + c26) < tw := nI_le0 (a := tw) (b := (fr + c26)) (by omega) (by omega) c_25
                    refine g_aget (D := G.1) (ci := 6) (v := .ref tp) (C := RX6) (T := TX6) (N := 42) hx hb dX6_wordFrom_58 rfl (lv_at hl 3 rfl) hts hiX6 hown hK hP 0 rfl rfl 6 (by decide +kernel) kf22 (fun _ h9 => h9) rfl dX6_wordFrom_59 ?_
                    refine lv_iload_n hx hb dX6_wordFrom_62 rfl (lv_at hl 4 rfl) ?_
                    refine lv_iload hx hb dX6_wordFrom_63 (lv_at hl 0 rfl) ?_
                    refine lv_iadd hx hb dX6_wordFrom_65 ?_
                    refine g_topi (y := nI (fr + c26)) (nI_add fr c26) ?_
                    refine g_iald (D := G.1) hx hb hK hP 1 0 rfl rfl (k := fr + c26) (y := ftp (fr + c26)) (by omega) rfl rfl dX6_wordFrom_66 ?_
                    refine lv_goto (tgt := 72) hx hb dX6_wordFrom_67 (by decide +kernel) ?_
                    refine lv_icmp_ne (tgt := 79) hx hb dX6_wordFrom_72 (by decide +kernel) (fun c_29 => ?_) (fun c_29 => ?_)
                    · skip
                      refine lv_iconst (v := 0) hx hb dX6_wordFrom_79 (by decide +kernel) ?_
                      refine lv_istore (lv' := [zI 4 0, zI 5 (nI c26), zI 3 (nI k2), zR 0 h0, zI 1 (nI fr), zI 2 (nI tw)]) hx hb dX6_wordFrom_80 hl (by decide +kernel) rfl (fun ls hl => ?_)
                      refine lv_iinc (v := nI (c26 + 1)) (lv' := [zI 5 (nI (c26 + 1)), zI 4 0, zI 3 (nI k2), zR 0 h0, zI 1 (nI fr), zI 2 (nI tw)]) hx hb dX6_wordFrom_82 hl (k := 1) rfl (nI_add c26 1) (by decide +kernel) rfl (fun ls hl => ?_)
                      refine lv_goto (tgt := 26) hx hb dX6_wordFrom_85 (by decide +kernel) ?_
                      exact ih9_26 (c26 + 1) 0 (by omega) (Eq.trans (Eq.symm ((congrArg (fun z9 => p_X6_wordFrom_26q1 ftp fwo fr tw k2 (z9) c26 li) (show 8 - c26 = 8 - (c26 + 1) + 1 by omega)).trans (by show p_X6_wordFrom_26q1 ftp fwo fr tw k2 (8 - (c26 + 1) + 1) c26 li = _; rw [p_X6_wordFrom_26q1, if_neg c_19, if_neg c_25, if_neg c_29]))) R26) (by omega) _ _ hP hD hS ls hl
                    · skip
                      refine lv_iconst (v := 1) hx hb dX6_wordFrom_75 (by decide +kernel) ?_
                      refine lv_goto (tgt := 80) hx hb dX6_wordFrom_76 (by decide +kernel) ?_
                      refine lv_istore (lv' := [zI 4 1, zI 5 (nI c26), zI 3 (nI k2), zR 0 h0, zI 1 (nI fr), zI 2 (nI tw)]) hx hb dX6_wordFrom_80 hl (by decide +kernel) rfl (fun ls hl => ?_)
                      refine lv_iinc (v := nI (c26 + 1)) (lv' := [zI 5 (nI (c26 + 1)), zI 4 1, zI 3 (nI k2), zR 0 h0, zI 1 (nI fr), zI 2 (nI tw)]) hx hb dX6_wordFrom_82 hl (k := 1) rfl (nI_add c26 1) (by decide +kernel) rfl (fun ls hl => ?_)
                      refine lv_goto (tgt := 26) hx hb dX6_wordFrom_85 (by decide +kernel) ?_
                      exact ih9_26 (c26 + 1) 1 (by omega) (Eq.trans (Eq.symm ((congrArg (fun z9 => p_X6_wordFrom_26q1 ftp fwo fr tw k2 (z9) c26 li) (show 8 - c26 = 8 - (c26 + 1) + 1 by omega)).trans (by show p_X6_wordFrom_26q1 ftp fwo fr tw k2 (8 - (c26 + 1) + 1) c26 li = _; rw [p_X6_wordFrom_26q1, if_neg c_19, if_neg c_25, if_pos c_29]))) R26) (by omega) _ _ hP hD hS ls hl
          exact loop_26 (8 - 0 + 1) 0 1 (by omega) (rfl) (by omega) _ _ hP hD hS ls hl
  exact loop_2 (12 - 0 + 1) 0 (by omega) (rfl) (by omega) _ _ hP hD hS ls hl
noncomputable def m_X6_rank (v0 : Int32) : Int32 := if v0 = 0 then 0 else (if v0 = 11 then 1 else (if v0 = 12 then 2 else (if v0 = 13 then 3 else (if 15 < v0 then (if 17 < v0 then (if v0 = 18 then 6 else 7) else 5) else 4))))
abbrev q_X6_rank (G : gG) (v0 : Int32) (A : Nat → Prop) : Array Value → State → Outcome → State → Prop := va_Qi (fun (r : Int32) (u : Unit) => match u with | _ => r = m_X6_rank v0) (fun (u : Unit) t => match u with | _ => va_P G.1 vwCl [] t.heap ∧ gK G t ∧ va_D A []) A
set_option maxHeartbeats 4000000 in
set_option maxRecDepth 100000 in
theorem c_X6_rank (l : Launch) (G : gG) (v0 : Int32) (sz : Nat) : Met l yX6_rank wsX6_rank ({ frames := 0, cells := 0, slots := 0, locals := 0 }) (gPre G [.int v0] [] sz) (q_X6_rank G v0 (va_A [] sz)) 0 0 (va_A [] sz) := by
  refine Met.ofW (cc := cX6_rank) (maxL := 1) (ret := (some .int)) (by decide +kernel) rfl ?_
  intro p e s m args below meth c s₁ B hml hv
  obtain ⟨rfl, hsz, hP, hK, hD0⟩ := hv
  have hx := B.exec
  have hb := B.bytes
  have hr := B.returns
  have hts := atoms_spec (ws := wsX6_rank) B.pre
  have hown : s.vm.findClass RX6 = some m.cls := findClass_of_methodNamed B.named
  have hlocks := B.notSynchronized
  subst hsz
  have hD := hD0.self (sz := s.heap.size)
  generalize hAe : va_A [] s.heap.size = A at hD ⊢
  have hA : ∀ q : Nat, s.heap.size ≤ q → A q := fun q h => by rw [← hAe]; exact Or.inr h
  have hS : va_S A s.heap s.heap [] := va_S.rf
  have hz9 : gPD G A [] s.heap := ⟨hP, hD⟩
  have hP := hz9.1
  have hD := hz9.2
  have hl := lv_entry ([.int v0]) (n := 1) (Nat.le_of_ble_eq_true rfl)
  rw [lg_entry_eq]
  generalize (lg_sl ([.int v0]) ++ List.replicate (1 - (lg_sl ([.int v0])).length) Slot.unset).toArray = ls at hl ⊢
  have hl : lv_has ls 1 [zI 0 v0] := hl
  refine lv_iload_n hx hb dX6_rank_0 rfl (lv_at hl 0 rfl) ?_
  refine lv_if_ne (tgt := 8) hx hb dX6_rank_1 (by decide +kernel) (fun c_1 => ?_) (fun c_1 => ?_)
  · skip
    refine lv_iload_n hx hb dX6_rank_8 rfl (lv_at hl 0 rfl) ?_
    refine lv_bipush (v := 11) hx hb dX6_rank_9 (by decide +kernel) ?_
    refine lv_icmp_ne (tgt := 18) hx hb dX6_rank_11 (by decide +kernel) (fun c_2 => ?_) (fun c_2 => ?_)
    · skip
      refine lv_iload_n hx hb dX6_rank_18 rfl (lv_at hl 0 rfl) ?_
      refine lv_bipush (v := 12) hx hb dX6_rank_19 (by decide +kernel) ?_
      refine lv_icmp_ne (tgt := 28) hx hb dX6_rank_21 (by decide +kernel) (fun c_3 => ?_) (fun c_3 => ?_)
      · skip
        refine lv_iload_n hx hb dX6_rank_28 rfl (lv_at hl 0 rfl) ?_
        refine lv_bipush (v := 13) hx hb dX6_rank_29 (by decide +kernel) ?_
        refine lv_icmp_ne (tgt := 38) hx hb dX6_rank_31 (by decide +kernel) (fun c_4 => ?_) (fun c_4 => ?_)
        · skip
          refine lv_iload_n hx hb dX6_rank_38 rfl (lv_at hl 0 rfl) ?_
          refine lv_bipush (v := 15) hx hb dX6_rank_39 (by decide +kernel) ?_
          refine lv_icmp_gt (tgt := 48) hx hb dX6_rank_41 (by decide +kernel) (fun c_5 => ?_) (fun c_5 => ?_)
          · skip
            refine lv_iload_n hx hb dX6_rank_48 rfl (lv_at hl 0 rfl) ?_
            refine lv_bipush (v := 17) hx hb dX6_rank_49 (by decide +kernel) ?_
            refine lv_icmp_gt (tgt := 58) hx hb dX6_rank_51 (by decide +kernel) (fun c_6 => ?_) (fun c_6 => ?_)
            · skip
              refine lv_iload_n hx hb dX6_rank_58 rfl (lv_at hl 0 rfl) ?_
              refine lv_bipush (v := 18) hx hb dX6_rank_59 (by decide +kernel) ?_
              refine lv_icmp_ne (tgt := 69) hx hb dX6_rank_61 (by decide +kernel) (fun c_7 => ?_) (fun c_7 => ?_)
              · skip
                refine lv_bipush (v := 7) hx hb dX6_rank_69 (by decide +kernel) ?_
                have hpost : (fun (r : Int32) (u : Unit) => match u with | _ => r = m_X6_rank v0) 7 () := (show m_X6_rank v0 = 7 from by unfold m_X6_rank; rw [if_neg c_1, if_neg c_2, if_neg c_3, if_neg c_4, if_pos c_5, if_pos c_6, if_neg c_7]).symm
                exact W.iret (v := 7) hx hb hr (fun t ht hW => ⟨⟨7, (), rfl, hpost, by rw [ht]; exact hP, va_K.moved hW.alike hK, hD⟩, hS.F ht⟩) hS.2.2 dX6_rank_71
              · skip
                refine lv_bipush (v := 6) hx hb dX6_rank_64 (by decide +kernel) ?_
                refine lv_goto (tgt := 71) hx hb dX6_rank_66 (by decide +kernel) ?_
                have hpost : (fun (r : Int32) (u : Unit) => match u with | _ => r = m_X6_rank v0) 6 () := (show m_X6_rank v0 = 6 from by unfold m_X6_rank; rw [if_neg c_1, if_neg c_2, if_neg c_3, if_neg c_4, if_pos c_5, if_pos c_6, if_pos c_7]).symm
                exact W.iret (v := 6) hx hb hr (fun t ht hW => ⟨⟨6, (), rfl, hpost, by rw [ht]; exact hP, va_K.moved hW.alike hK, hD⟩, hS.F ht⟩) hS.2.2 dX6_rank_71
            · skip
              refine lv_iconst (v := 5) hx hb dX6_rank_54 (by decide +kernel) ?_
              refine lv_goto (tgt := 71) hx hb dX6_rank_55 (by decide +kernel) ?_
              have hpost : (fun (r : Int32) (u : Unit) => match u with | _ => r = m_X6_rank v0) 5 () := (show m_X6_rank v0 = 5 from by unfold m_X6_rank; rw [if_neg c_1, if_neg c_2, if_neg c_3, if_neg c_4, if_pos c_5, if_neg c_6]).symm
              exact W.iret (v := 5) hx hb hr (fun t ht hW => ⟨⟨5, (), rfl, hpost, by rw [ht]; exact hP, va_K.moved hW.alike hK, hD⟩, hS.F ht⟩) hS.2.2 dX6_rank_71
          · skip
            refine lv_iconst (v := 4) hx hb dX6_rank_44 (by decide +kernel) ?_
            refine lv_goto (tgt := 71) hx hb dX6_rank_45 (by decide +kernel) ?_
            have hpost : (fun (r : Int32) (u : Unit) => match u with | _ => r = m_X6_rank v0) 4 () := (show m_X6_rank v0 = 4 from by unfold m_X6_rank; rw [if_neg c_1, if_neg c_2, if_neg c_3, if_neg c_4, if_neg c_5]).symm
            exact W.iret (v := 4) hx hb hr (fun t ht hW => ⟨⟨4, (), rfl, hpost, by rw [ht]; exact hP, va_K.moved hW.alike hK, hD⟩, hS.F ht⟩) hS.2.2 dX6_rank_71
        · skip
          refine lv_iconst (v := 3) hx hb dX6_rank_34 (by decide +kernel) ?_
          refine lv_goto (tgt := 71) hx hb dX6_rank_35 (by decide +kernel) ?_
          have hpost : (fun (r : Int32) (u : Unit) => match u with | _ => r = m_X6_rank v0) 3 () := (show m_X6_rank v0 = 3 from by unfold m_X6_rank; rw [if_neg c_1, if_neg c_2, if_neg c_3, if_pos c_4]).symm
          exact W.iret (v := 3) hx hb hr (fun t ht hW => ⟨⟨3, (), rfl, hpost, by rw [ht]; exact hP, va_K.moved hW.alike hK, hD⟩, hS.F ht⟩) hS.2.2 dX6_rank_71
      · skip
        refine lv_iconst (v := 2) hx hb dX6_rank_24 (by decide +kernel) ?_
        refine lv_goto (tgt := 71) hx hb dX6_rank_25 (by decide +kernel) ?_
        have hpost : (fun (r : Int32) (u : Unit) => match u with | _ => r = m_X6_rank v0) 2 () := (show m_X6_rank v0 = 2 from by unfold m_X6_rank; rw [if_neg c_1, if_neg c_2, if_pos c_3]).symm
        exact W.iret (v := 2) hx hb hr (fun t ht hW => ⟨⟨2, (), rfl, hpost, by rw [ht]; exact hP, va_K.moved hW.alike hK, hD⟩, hS.F ht⟩) hS.2.2 dX6_rank_71
    · skip
      refine lv_iconst (v := 1) hx hb dX6_rank_14 (by decide +kernel) ?_
      refine lv_goto (tgt := 71) hx hb dX6_rank_15 (by decide +kernel) ?_
      have hpost : (fun (r : Int32) (u : Unit) => match u with | _ => r = m_X6_rank v0) 1 () := (show m_X6_rank v0 = 1 from by unfold m_X6_rank; rw [if_neg c_1, if_pos c_2]).symm
      exact W.iret (v := 1) hx hb hr (fun t ht hW => ⟨⟨1, (), rfl, hpost, by rw [ht]; exact hP, va_K.moved hW.alike hK, hD⟩, hS.F ht⟩) hS.2.2 dX6_rank_71
  · skip
    refine lv_iconst (v := 0) hx hb dX6_rank_4 (by decide +kernel) ?_
    refine lv_goto (tgt := 71) hx hb dX6_rank_5 (by decide +kernel) ?_
    have hpost : (fun (r : Int32) (u : Unit) => match u with | _ => r = m_X6_rank v0) 0 () := (show m_X6_rank v0 = 0 from by unfold m_X6_rank; rw [if_pos c_1]).symm
    exact W.iret (v := 0) hx hb hr (fun t ht hW => ⟨⟨0, (), rfl, hpost, by rw [ht]; exact hP, va_K.moved hW.alike hK, hD⟩, hS.F ht⟩) hS.2.2 dX6_rank_71
noncomputable def p_X6_next_0 (ftp : Nat → Int32) : Nat → Nat → Nat
  | 0, a0 => a0
  | q9 + 1, a0 => if (ftp a0) = 32 then p_X6_next_0 ftp q9 (a0 + 1)  else (if (ftp a0) = 10 then p_X6_next_0 ftp q9 (a0 + 1)  else a0)
noncomputable def g_X6_next_0 (td : Nat) (ftp : Nat → Int32) (za : Nat) : Nat := p_X6_next_0 ftp (td - za) za 
noncomputable def p_X6_next_230 (ftp : Nat → Int32) : Nat → Nat → Nat → Int32 → Nat × Nat × Int32
  | 0, a2, n2, z22v => (a2, n2, z22v)
  | q9 + 1, a2, n2, z22v => if 48 ≤ (ftp a2) ∧ (ftp a2) ≤ 57 then (if 4 ≤ (nI n2) then p_X6_next_230 ftp q9 (a2 + 1) (n2 + 1) 0 else p_X6_next_230 ftp q9 (a2 + 1) (n2 + 1) (((10 * z22v) + (ftp a2)) - 48)) else (a2, n2, z22v)
noncomputable def g_X6_next_230 (td : Nat) (ftp : Nat → Int32) (za : Nat) : Nat × Nat × Int32 := p_X6_next_230 ftp (td - (g_X6_next_0 td ftp za)) (g_X6_next_0 td ftp za) 0 0
noncomputable def p_X6_next_103 (ftp : Nat → Int32) : Nat → Nat → Nat
  | 0, a1 => a1
  | q9 + 1, a1 => if 97 ≤ (ftp a1) ∧ (ftp a1) ≤ 122 then p_X6_next_103 ftp q9 (a1 + 1)  else a1
noncomputable def g_X6_next_103 (td : Nat) (ftp : Nat → Int32) (za : Nat) : Nat := p_X6_next_103 ftp (td - (g_X6_next_0 td ftp za)) (g_X6_next_0 td ftp za) 
noncomputable def m_X6_next_h019 (td : Nat) (ftp : Nat → Int32) (za : Nat) : Nat := if (nI (g_X6_next_0 td ftp za)) = (nI td) then (g_X6_next_0 td ftp za) else (if 97 ≤ (ftp (g_X6_next_0 td ftp za)) ∧ (ftp (g_X6_next_0 td ftp za)) ≤ 122 then (g_X6_next_103 td ftp za) else (if 48 ≤ (ftp (g_X6_next_0 td ftp za)) ∧ (ftp (g_X6_next_0 td ftp za)) ≤ 57 then ((g_X6_next_230 td ftp za).1) else ((g_X6_next_0 td ftp za) + 1)))
noncomputable def m_X6_next_h020 (td : Nat) (ftp : Nat → Int32) (za : Nat) : Int32 := nI (g_X6_next_0 td ftp za)
noncomputable def m_X6_next_h021 (td : Nat) (ftp : Nat → Int32) (fwo : Nat → Int32) (za : Nat) : Int32 := if (nI (g_X6_next_0 td ftp za)) = (nI td) then 0 else (if 97 ≤ (ftp (g_X6_next_0 td ftp za)) ∧ (ftp (g_X6_next_0 td ftp za)) ≤ 122 then (if 3 ≤ (m_X6_wordFrom ftp fwo (g_X6_next_0 td ftp za) (g_X6_next_103 td ftp za)) then (if 9 ≤ (m_X6_wordFrom ftp fwo (g_X6_next_0 td ftp za) (g_X6_next_103 td ftp za)) then (if (m_X6_wordFrom ftp fwo (g_X6_next_0 td ftp za) (g_X6_next_103 td ftp za)) = 12 then -1 else (4 + (m_X6_wordFrom ftp fwo (g_X6_next_0 td ftp za) (g_X6_next_103 td ftp za))) - 9) else 2) else 3) else (if 48 ≤ (ftp (g_X6_next_0 td ftp za)) ∧ (ftp (g_X6_next_0 td ftp za)) ≤ 57 then (if (nI ((g_X6_next_230 td ftp za).2.1)) ≤ 4 then 1 else -1) else (if (ftp (g_X6_next_0 td ftp za)) = 40 then ftp (g_X6_next_0 td ftp za) else (if (ftp (g_X6_next_0 td ftp za)) = 41 then ftp (g_X6_next_0 td ftp za) else (if (ftp (g_X6_next_0 td ftp za)) = 59 then ftp (g_X6_next_0 td ftp za) else (if (ftp (g_X6_next_0 td ftp za)) = 43 then ftp (g_X6_next_0 td ftp za) else (if (ftp (g_X6_next_0 td ftp za)) = 45 then ftp (g_X6_next_0 td ftp za) else (if (ftp (g_X6_next_0 td ftp za)) = 42 then ftp (g_X6_next_0 td ftp za) else (if (ftp (g_X6_next_0 td ftp za)) = 60 then ftp (g_X6_next_0 td ftp za) else (if (ftp (g_X6_next_0 td ftp za)) = 61 then ftp (g_X6_next_0 td ftp za) else -1))))))))))
noncomputable def m_X6_next_h022 (td : Nat) (ftp : Nat → Int32) (fwo : Nat → Int32) (za : Nat) : Int32 := if (nI (g_X6_next_0 td ftp za)) = (nI td) then 0 else (if 97 ≤ (ftp (g_X6_next_0 td ftp za)) ∧ (ftp (g_X6_next_0 td ftp za)) ≤ 122 then (if 3 ≤ (m_X6_wordFrom ftp fwo (g_X6_next_0 td ftp za) (g_X6_next_103 td ftp za)) then (m_X6_wordFrom ftp fwo (g_X6_next_0 td ftp za) (g_X6_next_103 td ftp za)) - 3 else m_X6_wordFrom ftp fwo (g_X6_next_0 td ftp za) (g_X6_next_103 td ftp za)) else (if 48 ≤ (ftp (g_X6_next_0 td ftp za)) ∧ (ftp (g_X6_next_0 td ftp za)) ≤ 57 then ((g_X6_next_230 td ftp za).2.2) else 0))
theorem n0_le {ftp : Nat → Int32} : ∀ (q a : Nat), a ≤ p_X6_next_0 ftp q a ∧ p_X6_next_0 ftp q a ≤ a + q
  | 0, a => ⟨Nat.le_refl _, Nat.le_refl _⟩
  | q + 1, a => by
    rw [p_X6_next_0]
    have h := n0_le (ftp := ftp) q (a + 1)
    by_cases c1 : ftp a = 32
    · rw [if_pos c1]; omega
    · rw [if_neg c1]
      by_cases c2 : ftp a = 10
      · rw [if_pos c2]; omega
      · rw [if_neg c2]; omega
theorem n1_le {ftp : Nat → Int32} : ∀ (q a : Nat), a ≤ p_X6_next_103 ftp q a ∧ p_X6_next_103 ftp q a ≤ a + q
  | 0, a => ⟨Nat.le_refl _, Nat.le_refl _⟩
  | q + 1, a => by
    rw [p_X6_next_103]
    have h := n1_le (ftp := ftp) q (a + 1)
    by_cases c1 : 97 ≤ ftp a ∧ ftp a ≤ 122
    · rw [if_pos c1]; omega
    · rw [if_neg c1]; omega
theorem n1_gt {ftp : Nat → Int32} {q a : Nat} (h0 : 0 < q) (c1 : 97 ≤ ftp a ∧ ftp a ≤ 122) : a < p_X6_next_103 ftp q a := by
  obtain ⟨r, rfl⟩ : ∃ r, q = r + 1 := ⟨q - 1, by omega⟩
  rw [p_X6_next_103, if_pos c1]
  have h := n1_le (ftp := ftp) r (a + 1)
  omega
theorem n2_step {k n : Nat} {c : Int32} (hk : k < 10 ^ n) (hn : n < 4) (h : 48 ≤ c ∧ c ≤ 57) : ∃ j, j < 10 ^ (n + 1) ∧ ((10 * nI k) + c) - 48 = nI j := by
  have h4 : 10 ^ n ≤ 1000 := Nat.le_trans (Nat.pow_le_pow_right (by decide +kernel) (show n ≤ 3 by omega)) (by decide +kernel)
  have h0 : 0 ≤ c := by
    have z : (48 : Int32).toInt ≤ c.toInt := Int32.le_iff_toInt_le.mp h.1
    have z2 : (48 : Int32).toInt = 48 := rfl
    exact Int32.le_iff_toInt_le.mpr (by show (0 : Int) ≤ c.toInt; omega)
  have e := nC_eq h0
  have h1 := h.1
  have h2 := h.2
  rw [e] at h1 h2
  have a1 := nI_le1 (a := 48) (b := nC c) (by omega) (nC_31 c) h1
  have a2 := nI_le1 (a := nC c) (b := 57) (nC_31 c) (by omega) h2
  refine ⟨10 * k + (nC c - 48), by rw [Nat.pow_succ]; omega, ?_⟩
  have e4 : 10 * nI k + c - 48 = 10 * nI k + nI (nC c) - 48 := by rw [← e]
  have e1 : (10 : Int32) * nI k = nI (10 * k) := pk_mul 10 k
  have e2 : nI (10 * k) + nI (nC c) = nI (10 * k + nC c) := nI_add _ _
  have e3 : nI (10 * k + nC c) - 48 = nI (10 * k + nC c - 48) := pk_sub (b := 48) (by omega)
  rw [e4, e1, e2, e3, show 10 * k + nC c - 48 = 10 * k + (nC c - 48) by omega]
theorem n2_le {ftp : Nat → Int32} : ∀ (q a n : Nat) (z : Int32), (n ≤ 4 → ∃ k, k < 10 ^ n ∧ z = nI k) → a ≤ (p_X6_next_230 ftp q a n z).1 ∧ ((p_X6_next_230 ftp q a n z).1 ≤ a + q ∧ (p_X6_next_230 ftp q a n z).2.1 ≤ n + q) ∧ ((p_X6_next_230 ftp q a n z).2.1 ≤ 4 → ∃ k, k < 10 ^ (p_X6_next_230 ftp q a n z).2.1 ∧ (p_X6_next_230 ftp q a n z).2.2 = nI k)
  | 0, a, n, z, h => ⟨Nat.le_refl _, ⟨Nat.le_refl _, Nat.le_refl _⟩, h⟩
  | q + 1, a, n, z, h => by
    rw [p_X6_next_230]
    by_cases c1 : 48 ≤ ftp a ∧ ftp a ≤ 57
    · rw [if_pos c1]
      by_cases c2 : 4 ≤ nI n
      · rw [if_pos c2]
        have hn : 4 ≤ n ∨ 2 ^ 31 ≤ n := by
          rcases Nat.lt_or_ge n (2 ^ 31) with w | w
          · exact Or.inl (nI_le1 (a := 4) (b := n) (by omega) w c2)
          · exact Or.inr w
        obtain ⟨h1, h2, h3⟩ := n2_le (ftp := ftp) q (a + 1) (n + 1) 0 (fun w => absurd w (by omega))
        exact ⟨by omega, ⟨by omega, by omega⟩, h3⟩
      · rw [if_neg c2]
        have hb : (n + 1 ≤ 4 → ∃ k, k < 10 ^ (n + 1) ∧ ((10 * z) + ftp a) - 48 = nI k) := fun w => by
          obtain ⟨k, hk, e⟩ := h (by omega)
          rw [e]
          exact n2_step hk (by omega) c1
        obtain ⟨h1, h2, h3⟩ := n2_le (ftp := ftp) q (a + 1) (n + 1) _ hb
        exact ⟨by omega, ⟨by omega, by omega⟩, h3⟩
    · rw [if_neg c1]; exact ⟨Nat.le_refl _, ⟨by show a ≤ a + (q + 1); omega, by show n ≤ n + (q + 1); omega⟩, h⟩
theorem n2_gt {ftp : Nat → Int32} {q a n : Nat} {z : Int32} (h0 : 0 < q) (h : n ≤ 4 → ∃ k, k < 10 ^ n ∧ z = nI k) (hn : n < 4) (c1 : 48 ≤ ftp a ∧ ftp a ≤ 57) : a < (p_X6_next_230 ftp q a n z).1 := by
  obtain ⟨r, rfl⟩ : ∃ r, q = r + 1 := ⟨q - 1, by omega⟩
  have hb : (n + 1 ≤ 4 → ∃ k, k < 10 ^ (n + 1) ∧ ((10 * z) + ftp a) - 48 = nI k) := fun w => by
    obtain ⟨k, hk, e⟩ := h (by omega)
    rw [e]
    exact n2_step hk (by omega) c1
  have h2 := n2_le (ftp := ftp) r (a + 1) (n + 1) _ hb
  have hc : ¬ (4 : Int32) ≤ nI n := fun w => absurd (nI_le1 (a := 4) (b := n) (by omega) (by omega) w) (by omega)
  rw [p_X6_next_230, if_pos c1, if_neg hc]
  omega
theorem wf_le {ftp fwo : Nat → Int32} {fr tw : Nat} : ∀ (q k : Nat), p_X6_wordFrom_2 ftp fwo fr tw q k ≤ k + q
  | 0, k => Nat.le_refl _
  | q + 1, k => by
    rw [p_X6_wordFrom_2]
    have h := wf_le (ftp := ftp) (fwo := fwo) (fr := fr) (tw := tw) q (k + 1)
    repeat' split
    all_goals omega
theorem wf_nI {ftp fwo : Nat → Int32} {fr tw : Nat} : ∃ k, k < 13 ∧ m_X6_wordFrom ftp fwo fr tw = nI k := by
  have h : g_X6_wordFrom_2 ftp fwo fr tw ≤ 0 + 12 := wf_le (ftp := ftp) (fwo := fwo) (fr := fr) (tw := tw) 12 0
  unfold m_X6_wordFrom
  by_cases c : 12 ≤ nI (g_X6_wordFrom_2 ftp fwo fr tw)
  · rw [if_pos c]; exact ⟨12, by omega, rfl⟩
  · rw [if_neg c]; exact ⟨_, by omega, rfl⟩
noncomputable def tkW (w : Int32) : Int32 := if 3 ≤ w then (if 9 ≤ w then (if w = 12 then -1 else (4 + w) - 9) else 2) else 3
noncomputable def vlW (w : Int32) : Int32 := if 3 ≤ w then w - 3 else w
theorem tk_ok : ∀ k, k < 13 → (tkW (nI k) = 2 → 0 ≤ vlW (nI k) ∧ vlW (nI k) < 6) ∧ ¬ tkW (nI k) = 1 := by decide +kernel
theorem nx_facts {td za : Nat} {ftp fwo : Nat → Int32} (hza : za ≤ td) (htd : td ≤ 160) : za ≤ m_X6_next_h019 td ftp za ∧ m_X6_next_h019 td ftp za ≤ td ∧ (¬ m_X6_next_h021 td ftp fwo za = 0 → za < m_X6_next_h019 td ftp za) ∧ (m_X6_next_h021 td ftp fwo za = 2 → 0 ≤ m_X6_next_h022 td ftp fwo za ∧ m_X6_next_h022 td ftp fwo za < 6) ∧ (m_X6_next_h021 td ftp fwo za = 1 → 100000 ≤ 100000 + m_X6_next_h022 td ftp fwo za) := by
  have h0 : za ≤ g_X6_next_0 td ftp za ∧ g_X6_next_0 td ftp za ≤ za + (td - za) := n0_le (ftp := ftp) (td - za) za
  unfold m_X6_next_h019 m_X6_next_h021 m_X6_next_h022
  by_cases c0 : (nI (g_X6_next_0 td ftp za)) = (nI td)
  · simp only [if_pos c0]
    refine ⟨h0.1, by omega, fun z => ?_, fun z => ?_, fun z => ?_⟩
    all_goals first
      | exact absurd trivial z
      | exact absurd rfl z
      | exact absurd z (by decide +kernel)
  · simp only [if_neg c0]
    have d0 := nI_eq0 (a := g_X6_next_0 td ftp za) (b := td) (by omega) (by omega) c0
    by_cases c1 : 97 ≤ (ftp (g_X6_next_0 td ftp za)) ∧ (ftp (g_X6_next_0 td ftp za)) ≤ 122
    · simp only [if_pos c1]
      have h1 : g_X6_next_0 td ftp za ≤ g_X6_next_103 td ftp za ∧ g_X6_next_103 td ftp za ≤ g_X6_next_0 td ftp za + (td - g_X6_next_0 td ftp za) := n1_le (ftp := ftp) (td - g_X6_next_0 td ftp za) (g_X6_next_0 td ftp za)
      have h2 : g_X6_next_0 td ftp za < g_X6_next_103 td ftp za := n1_gt (ftp := ftp) (q := td - g_X6_next_0 td ftp za) (by omega) c1
      obtain ⟨k, hk, e⟩ := wf_nI (ftp := ftp) (fwo := fwo) (fr := g_X6_next_0 td ftp za) (tw := g_X6_next_103 td ftp za)
      rw [e]
      have h3 := tk_ok k hk
      exact ⟨by omega, by omega, fun _ => by omega, h3.1, fun z => absurd z h3.2⟩
    · simp only [if_neg c1]
      by_cases c2 : 48 ≤ (ftp (g_X6_next_0 td ftp za)) ∧ (ftp (g_X6_next_0 td ftp za)) ≤ 57
      · simp only [if_pos c2]
        have hq : 0 < td - g_X6_next_0 td ftp za := by omega
        have h2 : g_X6_next_0 td ftp za < (g_X6_next_230 td ftp za).1 := n2_gt (ftp := ftp) (q := td - g_X6_next_0 td ftp za) hq (fun _ => ⟨0, by decide, rfl⟩) (by decide +kernel) c2
        have h3 : (g_X6_next_230 td ftp za).1 ≤ g_X6_next_0 td ftp za + (td - g_X6_next_0 td ftp za) := (n2_le (ftp := ftp) (td - g_X6_next_0 td ftp za) (g_X6_next_0 td ftp za) 0 0 (fun _ => ⟨0, by decide, rfl⟩)).2.1.1
        have h4 : (g_X6_next_230 td ftp za).2.1 ≤ 0 + (td - g_X6_next_0 td ftp za) := (n2_le (ftp := ftp) (td - g_X6_next_0 td ftp za) (g_X6_next_0 td ftp za) 0 0 (fun _ => ⟨0, by decide, rfl⟩)).2.1.2
        have r1 : za ≤ (g_X6_next_230 td ftp za).1 := by omega
        have r2 : (g_X6_next_230 td ftp za).1 ≤ td := by omega
        have r3 : za < (g_X6_next_230 td ftp za).1 := by omega
        have r4 : (g_X6_next_230 td ftp za).2.1 < 2 ^ 31 := by omega
        by_cases c3 : (nI ((g_X6_next_230 td ftp za).2.1)) ≤ 4
        · simp only [if_pos c3]
          have h6 := nI_le1 (a := (g_X6_next_230 td ftp za).2.1) (b := 4) r4 (by decide +kernel) c3
          have h7 : 10 ^ (g_X6_next_230 td ftp za).2.1 ≤ 10000 := Nat.le_trans (Nat.pow_le_pow_right (by decide +kernel) h6) (by decide +kernel)
          obtain ⟨k, hk, e⟩ : ∃ k, k < 10 ^ (g_X6_next_230 td ftp za).2.1 ∧ (g_X6_next_230 td ftp za).2.2 = nI k := (n2_le (ftp := ftp) (td - g_X6_next_0 td ftp za) (g_X6_next_0 td ftp za) 0 0 (fun _ => ⟨0, by decide, rfl⟩)).2.2 h6
          have hk2 : k < 10000 := Nat.lt_of_lt_of_le hk h7
          refine ⟨r1, r2, fun _ => r3, fun z => absurd z (by decide +kernel), fun _ => ?_⟩
          rw [e]
          have e2 : (100000 : Int32) + nI k = nI (100000 + k) := nI_add 100000 k
          rw [e2]
          clear h7 hk e e2
          exact nI_le (a := 100000) (by omega) (by omega)
        · simp only [if_neg c3]
          exact ⟨r1, r2, fun _ => r3, fun z => absurd z (by decide +kernel), fun z => absurd z (by decide +kernel)⟩
      · simp only [if_neg c2]
        refine ⟨by omega, by omega, fun _ => by omega, fun z => ?_, fun z => ?_⟩
        all_goals
          exfalso
          revert z
          repeat' split
          all_goals
            intro z
            first
              | exact absurd z (by decide +kernel)
              | (rename_i c; rw [c] at z; exact absurd z (by decide +kernel))
abbrev q_X6_next (G : gG) (h0 kd mo st ro tp cd sr ir ih ss sq ce lw wo he sk na kp gb go fa ga vo : Nat) (pb : Nat) (jg : Nat) (td : Nat) (tx : Nat) (ru : Nat) (him : Int32) (s20 : Int32) (s21 : Int32) (s22 : Int32) (s25 : Int32) (s26 : Int32) (s27 : Int32) (s31 : Int32) (s32 : Int32) (s33 : Int32) (s34 : Int32) (s39 : Int32) (s40 : Int32) (ftp : Nat → Int32) (fwo : Nat → Int32) (za : Nat) (A : Nat → Prop) : Array Value → State → Outcome → State → Prop := va_Qv (fun (u : Unit) => match u with | _ => za ≤ (m_X6_next_h019 td ftp za) ∧ (m_X6_next_h019 td ftp za) ≤ td ∧ (¬ (m_X6_next_h021 td ftp fwo za) = 0 → za < (m_X6_next_h019 td ftp za)) ∧ ((m_X6_next_h021 td ftp fwo za) = 2 → 0 ≤ (m_X6_next_h022 td ftp fwo za) ∧ (m_X6_next_h022 td ftp fwo za) < 6) ∧ ((m_X6_next_h021 td ftp fwo za) = 1 → 100000 ≤ 100000 + (m_X6_next_h022 td ftp fwo za))) (fun (u : Unit) t => match u with | _ => va_P G.1 vwCl [zo6 h0 (nI pb) kd mo st (nI jg) ro tp (nI td) cd sr (nI tx) (nI ru) him ir ih ss sq ce lw (nI (m_X6_next_h019 td ftp za)) (m_X6_next_h020 td ftp za) (m_X6_next_h021 td ftp fwo za) (m_X6_next_h022 td ftp fwo za) wo he s25 s26 s27 sk na kp s31 s32 s33 s34 gb go fa ga s39 s40 vo, zi G tp 160 ftp, zi G wo 96 fwo] t.heap ∧ gK G t ∧ va_D A [zo6 h0 (nI pb) kd mo st (nI jg) ro tp (nI td) cd sr (nI tx) (nI ru) him ir ih ss sq ce lw (nI (m_X6_next_h019 td ftp za)) (m_X6_next_h020 td ftp za) (m_X6_next_h021 td ftp fwo za) (m_X6_next_h022 td ftp fwo za) wo he s25 s26 s27 sk na kp s31 s32 s33 s34 gb go fa ga s39 s40 vo, zi G tp 160 ftp, zi G wo 96 fwo]) A
set_option maxHeartbeats 4000000 in
set_option maxRecDepth 100000 in
theorem c_X6_next (l : Launch) (G : gG) (h0 kd mo st ro tp cd sr ir ih ss sq ce lw wo he sk na kp gb go fa ga vo : Nat) (pb : Nat) (jg : Nat) (td : Nat) (tx : Nat) (ru : Nat) (him : Int32) (s20 : Int32) (s21 : Int32) (s22 : Int32) (s25 : Int32) (s26 : Int32) (s27 : Int32) (s31 : Int32) (s32 : Int32) (s33 : Int32) (s34 : Int32) (s39 : Int32) (s40 : Int32) (ftp : Nat → Int32) (fwo : Nat → Int32) (za : Nat) (sz : Nat) (htd : td ≤ 160) (hza : za ≤ td) : Met l yX6_next wsX6_next ({ frames := 1, cells := 0, slots := 0, locals := 25 }) (gPre G [.ref h0] [zo6 h0 (nI pb) kd mo st (nI jg) ro tp (nI td) cd sr (nI tx) (nI ru) him ir ih ss sq ce lw (nI za) s20 s21 s22 wo he s25 s26 s27 sk na kp s31 s32 s33 s34 gb go fa ga s39 s40 vo, zi G tp 160 ftp, zi G wo 96 fwo] sz) (q_X6_next G h0 kd mo st ro tp cd sr ir ih ss sq ce lw wo he sk na kp gb go fa ga vo pb jg td tx ru him s20 s21 s22 s25 s26 s27 s31 s32 s33 s34 s39 s40 ftp fwo za (va_A [zo6 h0 (nI pb) kd mo st (nI jg) ro tp (nI td) cd sr (nI tx) (nI ru) him ir ih ss sq ce lw (nI za) s20 s21 s22 wo he s25 s26 s27 sk na kp s31 s32 s33 s34 gb go fa ga s39 s40 vo, zi G tp 160 ftp, zi G wo 96 fwo] sz)) 0 0 (va_A [zo6 h0 (nI pb) kd mo st (nI jg) ro tp (nI td) cd sr (nI tx) (nI ru) him ir ih ss sq ce lw (nI za) s20 s21 s22 wo he s25 s26 s27 sk na kp s31 s32 s33 s34 gb go fa ga s39 s40 vo, zi G tp 160 ftp, zi G wo 96 fwo] sz) := by
  refine Met.ofW (cc := cX6_next) (maxL := 3) (ret := none) (by decide +kernel) rfl ?_
  intro p e s m args below meth c s₁ B hml hv
  obtain ⟨rfl, hsz, hP, hK, hD0⟩ := hv
  have hx := B.exec
  have hb := B.bytes
  have hr := B.returns
  have hts := atoms_spec (ws := wsX6_next) B.pre
  have hown : s.vm.findClass RX6 = some m.cls := findClass_of_methodNamed B.named
  have hlocks := B.notSynchronized
  subst hsz
  have hD := hD0.self (sz := s.heap.size)
  generalize hAe : va_A [zo6 h0 (nI pb) kd mo st (nI jg) ro tp (nI td) cd sr (nI tx) (nI ru) him ir ih ss sq ce lw (nI za) s20 s21 s22 wo he s25 s26 s27 sk na kp s31 s32 s33 s34 gb go fa ga s39 s40 vo, zi G tp 160 ftp, zi G wo 96 fwo] s.heap.size = A at hD ⊢
  have hA : ∀ q : Nat, s.heap.size ≤ q → A q := fun q h => by rw [← hAe]; exact Or.inr h
  have hS : va_S A s.heap s.heap [] := va_S.rf
  have hz9 : gPD G A [zo6 h0 (nI pb) kd mo st (nI jg) ro tp (nI td) cd sr (nI tx) (nI ru) him ir ih ss sq ce lw (nI za) s20 s21 s22 wo he s25 s26 s27 sk na kp s31 s32 s33 s34 gb go fa ga s39 s40 vo, zi G tp 160 ftp, zi G wo 96 fwo] s.heap := ⟨hP, hD⟩
  have hP := hz9.1
  have hD := hz9.2
  have hl := lv_entry ([.ref h0]) (n := 3) (Nat.le_of_ble_eq_true rfl)
  rw [lg_entry_eq]
  generalize (lg_sl ([.ref h0]) ++ List.replicate (3 - (lg_sl ([.ref h0])).length) Slot.unset).toArray = ls at hl ⊢
  have hl : lv_has ls 3 [zR 0 h0] := hl
  have kf111 := hts (.fieldLink RX6 111 "PebbleInShoeModel" "at" "I") (by decide +kernel)
  have hiX6 := (by decide +kernel : ∀ w ∈ wsX60, w ∈ wsX6_next)
  have kf80 := hts (.fieldLink RX6 80 "PebbleInShoeModel" "taped" "I") (by decide +kernel)
  have kf114 := hts (.fieldLink RX6 114 "PebbleInShoeModel" "begun" "I") (by decide +kernel)
  have kf117 := hts (.fieldLink RX6 117 "PebbleInShoeModel" "token" "I") (by decide +kernel)
  have kf120 := hts (.fieldLink RX6 120 "PebbleInShoeModel" "value" "I") (by decide +kernel)
  have kf22 := hts (.fieldLink RX6 22 "PebbleInShoeModel" "tape" "[I") (by decide +kernel)
  have loop_0 : ∀ (n9 : Nat) (a0 : Nat), (a0 ≤ td) → (p_X6_next_0 ftp (td - a0) a0  = (g_X6_next_0 td ftp za)) → (td - a0) < n9 → ∀ (H : Heap) (locs : List Loc), va_P G.1 vwCl [zo6 h0 (nI pb) kd mo st (nI jg) ro tp (nI td) cd sr (nI tx) (nI ru) him ir ih ss sq ce lw (nI a0) s20 s21 s22 wo he s25 s26 s27 sk na kp s31 s32 s33 s34 gb go fa ga s39 s40 vo, zi G tp 160 ftp, zi G wo 96 fwo] H → va_D A [zo6 h0 (nI pb) kd mo st (nI jg) ro tp (nI td) cd sr (nI tx) (nI ru) him ir ih ss sq ce lw (nI a0) s20 s21 s22 wo he s25 s26 s27 sk na kp s31 s32 s33 s34 gb go fa ga s39 s40 vo, zi G tp 160 ftp, zi G wo 96 fwo] → va_S A s.heap H locs → ∀ ls : Array Slot, lv_has ls 3 [zR 0 h0] → W p l e (headSpec wsX6_next ({ frames := 1, cells := 0, slots := 0, locals := 25 })).room s m ([.ref h0] : List Value).toArray below meth c H locs 0 0 (MQ below (q_X6_next G h0 kd mo st ro tp cd sr ir ih ss sq ce lw wo he sk na kp gb go fa ga vo pb jg td tx ru him s20 s21 s22 s25 s26 s27 s31 s32 s33 s34 s39 s40 ftp fwo za A) ([.ref h0] : List Value).toArray s 0 0 A) (F0 m 0 ls []) := by
    intro n9
    induction n9 with
    | zero => intro a0 ha0 R0 hm9_0; exact absurd hm9_0 (Nat.not_lt_zero _)
    | succ n9 ih9_0 =>
      intro a0 ha0 R0 hm9_0 H locs hP hD hS ls hl
      refine g_aget (D := G.1) (ci := 6) (v := .int (nI a0)) (C := RX6) (T := TX6) (N := 42) hx hb dX6_next_0 rfl (lv_at hl 0 rfl) hts hiX6 hown hK hP 0 rfl rfl 19 (by decide +kernel) kf111 (fun _ h9 => h9) rfl dX6_next_1 ?_
      refine g_aget (D := G.1) (ci := 6) (v := .int (nI td)) (C := RX6) (T := TX6) (N := 42) hx hb dX6_next_4 rfl (lv_at hl 0 rfl) hts hiX6 hown hK hP 0 rfl rfl 7 (by decide +kernel) kf80 (fun _ h9 => h9) rfl dX6_next_5 ?_
      refine lv_icmp_ge (tgt := 52) hx hb dX6_next_8 (by decide +kernel) (fun c_1 => ?_) (fun c_1 => ?_)
      · skip
        have c_1N : td ≤ a0 := nI_le1 (a := td) (b := a0) (by omega) (by omega) c_1
        have hF0 : (g_X6_next_0 td ftp za) = a0 := by rw [← R0, show td - a0 = 0 by omega]; rfl
        have hE0_0 : a0 = (g_X6_next_0 td ftp za) := by rw [hF0]
        clear hF0 R0
        subst hE0_0
        refine lv_aload_n hx hb dX6_next_52 rfl (lv_at hl 0 rfl) ?_
        refine g_aget (D := G.1) (ci := 6) (v := .int (nI (g_X6_next_0 td ftp za))) (C := RX6) (T := TX6) (N := 42) hx hb dX6_next_53 rfl (lv_at hl 0 rfl) hts hiX6 hown hK hP 0 rfl rfl 19 (by decide +kernel) kf111 (fun _ h9 => h9) rfl dX6_next_54 ?_
        refine va_put (D := G.1) (ci := 6) (v := .int (nI (g_X6_next_0 td ftp za))) (ty := .int) (C := RX6) (T := TX6) (N := 42) hx hb hts hiX6 tyX6 tyX6_ok nmX6 hown hK hP hD hS 0 rfl rfl 20 (by decide +kernel) kf114 (fun _ h9 => h9) rfl (by decide +kernel) rfl rfl (Nat.le_of_ble_eq_true rfl) dX6_next_57 (fun H locs hP hD hS => ?_)
        have hz9 : gPD G A [zo6 h0 (nI pb) kd mo st (nI jg) ro tp (nI td) cd sr (nI tx) (nI ru) him ir ih ss sq ce lw (nI (g_X6_next_0 td ftp za)) (nI (g_X6_next_0 td ftp za)) s21 s22 wo he s25 s26 s27 sk na kp s31 s32 s33 s34 gb go fa ga s39 s40 vo, zi G tp 160 ftp, zi G wo 96 fwo] H := ⟨hP, hD⟩
        have hP := hz9.1
        have hD := hz9.2
        refine lv_aload_n hx hb dX6_next_60 rfl (lv_at hl 0 rfl) ?_
        refine lv_iconst (v := 0) hx hb dX6_next_61 (by decide +kernel) ?_
        refine va_put (D := G.1) (ci := 6) (v := .int 0) (ty := .int) (C := RX6) (T := TX6) (N := 42) hx hb hts hiX6 tyX6 tyX6_ok nmX6 hown hK hP hD hS 0 rfl rfl 21 (by decide +kernel) kf117 (fun _ h9 => h9) rfl (by decide +kernel) rfl rfl (Nat.le_of_ble_eq_true rfl) dX6_next_62 (fun H locs hP hD hS => ?_)
        have hz9 : gPD G A [zo6 h0 (nI pb) kd mo st (nI jg) ro tp (nI td) cd sr (nI tx) (nI ru) him ir ih ss sq ce lw (nI (g_X6_next_0 td ftp za)) (nI (g_X6_next_0 td ftp za)) 0 s22 wo he s25 s26 s27 sk na kp s31 s32 s33 s34 gb go fa ga s39 s40 vo, zi G tp 160 ftp, zi G wo 96 fwo] H := ⟨hP, hD⟩
        have hP := hz9.1
        have hD := hz9.2
        refine lv_aload_n hx hb dX6_next_65 rfl (lv_at hl 0 rfl) ?_
        refine lv_iconst (v := 0) hx hb dX6_next_66 (by decide +kernel) ?_
        refine va_put (D := G.1) (ci := 6) (v := .int 0) (ty := .int) (C := RX6) (T := TX6) (N := 42) hx hb hts hiX6 tyX6 tyX6_ok nmX6 hown hK hP hD hS 0 rfl rfl 22 (by decide +kernel) kf120 (fun _ h9 => h9) rfl (by decide +kernel) rfl rfl (Nat.le_of_ble_eq_true rfl) dX6_next_67 (fun H locs hP hD hS => ?_)
        have hz9 : gPD G A [zo6 h0 (nI pb) kd mo st (nI jg) ro tp (nI td) cd sr (nI tx) (nI ru) him ir ih ss sq ce lw (nI (g_X6_next_0 td ftp za)) (nI (g_X6_next_0 td ftp za)) 0 0 wo he s25 s26 s27 sk na kp s31 s32 s33 s34 gb go fa ga s39 s40 vo, zi G tp 160 ftp, zi G wo 96 fwo] H := ⟨hP, hD⟩
        have hP := hz9.1
        have hD := hz9.2
        refine g_aget (D := G.1) (ci := 6) (v := .int (nI (g_X6_next_0 td ftp za))) (C := RX6) (T := TX6) (N := 42) hx hb dX6_next_70 rfl (lv_at hl 0 rfl) hts hiX6 hown hK hP 0 rfl rfl 19 (by decide +kernel) kf111 (fun _ h9 => h9) rfl dX6_next_71 ?_
        refine g_aget (D := G.1) (ci := 6) (v := .int (nI td)) (C := RX6) (T := TX6) (N := 42) hx hb dX6_next_74 rfl (lv_at hl 0 rfl) hts hiX6 hown hK hP 0 rfl rfl 7 (by decide +kernel) kf80 (fun _ h9 => h9) rfl dX6_next_75 ?_
        refine lv_icmp_ne (tgt := 82) hx hb dX6_next_78 (by decide +kernel) (fun c_2 => ?_) (fun c_2 => ?_)
        · skip
          have c_2N : ¬ (g_X6_next_0 td ftp za) = td := nI_eq0 (a := (g_X6_next_0 td ftp za)) (b := td) (by omega) (by omega) c_2
          refine g_aget (D := G.1) (ci := 6) (v := .ref tp) (C := RX6) (T := TX6) (N := 42) hx hb dX6_next_82 rfl (lv_at hl 0 rfl) hts hiX6 hown hK hP 0 rfl rfl 6 (by decide +kernel) kf22 (fun _ h9 => h9) rfl dX6_next_83 ?_
          refine g_aget (D := G.1) (ci := 6) (v := .int (nI (g_X6_next_0 td ftp za))) (C := RX6) (T := TX6) (N := 42) hx hb dX6_next_86 rfl (lv_at hl 0 rfl) hts hiX6 hown hK hP 0 rfl rfl 19 (by decide +kernel) kf111 (fun _ h9 => h9) rfl dX6_next_87 ?_
          refine g_iald (D := G.1) hx hb hK hP 1 0 rfl rfl (k := g_X6_next_0 td ftp za) (y := ftp (g_X6_next_0 td ftp za)) (by omega) rfl rfl dX6_next_90 ?_
          refine lv_istore_n (lv' := [zI 1 (ftp (g_X6_next_0 td ftp za)), zR 0 h0]) hx hb dX6_next_91 rfl hl (by decide +kernel) rfl (fun ls hl => ?_)
          refine lv_iload_n hx hb dX6_next_92 rfl (lv_at hl 0 rfl) ?_
          refine lv_bipush (v := 97) hx hb dX6_next_93 (by decide +kernel) ?_
          refine lv_bipush (v := 122) hx hb dX6_next_95 (by decide +kernel) ?_
          refine z_calli [] (v := bz (decide (97 ≤ (ftp (g_X6_next_0 td ftp za)) ∧ (ftp (g_X6_next_0 td ftp za)) ≤ 122))) (fun _ _ h => h) (va_runS (As := [.int (ftp (g_X6_next_0 td ftp za)), .int 97, .int 122]) (rest := []) ⟨hx, hb, hml, hown, hts⟩ (c_X6_in l G (ftp (g_X6_next_0 td ftp za)) 97 122 H.size) (va_cwS 3 hts gX6_next_X6_in rfl rfl rfl (by decide +kernel) ⟨Nat.le_of_ble_eq_true rfl, Nat.le_of_ble_eq_true rfl⟩) ⟨gPre_blind, fun U hU hW => gPre_ofF [] hU hW hK hP hD (by decide +kernel) rfl⟩ rfl rfl hl.1 rfl (lv_room (Nat.le_of_ble_eq_true rfl)) dX6_next_97 ⟨Nat.le_of_ble_eq_true rfl, Nat.le_of_ble_eq_true rfl⟩) hS hD hA rfl (fun u t H locs ht hvm hB hz1 hk1 hFq hAq hS => ?_)
          obtain ⟨hP1, hK1, hD1⟩ := hB
          have hP := zKeep hP hD [] hAq hk1 ht hP1 rfl
          refine lv_if_eq (tgt := 217) hx hb dX6_next_100 (by decide +kernel) (fun c_6 => ?_) (fun c_6 => ?_)
          · skip
            have n_8 : ¬ (97 ≤ (ftp (g_X6_next_0 td ftp za)) ∧ (ftp (g_X6_next_0 td ftp za)) ≤ 122) := of_decide_eq_false (bz_eq rfl c_6)
            refine lv_iload_n hx hb dX6_next_217 rfl (lv_at hl 0 rfl) ?_
            refine lv_bipush (v := 48) hx hb dX6_next_218 (by decide +kernel) ?_
            refine lv_bipush (v := 57) hx hb dX6_next_220 (by decide +kernel) ?_
            refine z_calli [] (v := bz (decide (48 ≤ (ftp (g_X6_next_0 td ftp za)) ∧ (ftp (g_X6_next_0 td ftp za)) ≤ 57))) (fun _ _ h => h) (va_runS (As := [.int (ftp (g_X6_next_0 td ftp za)), .int 48, .int 57]) (rest := []) ⟨hx, hb, hml, hown, hts⟩ (c_X6_in l G (ftp (g_X6_next_0 td ftp za)) 48 57 H.size) (va_cwS 3 hts gX6_next_X6_in rfl rfl rfl (by decide +kernel) ⟨Nat.le_of_ble_eq_true rfl, Nat.le_of_ble_eq_true rfl⟩) ⟨gPre_blind, fun U hU hW => gPre_ofF [] hU hW hK hP hD (by decide +kernel) rfl⟩ rfl rfl hl.1 rfl (lv_room (Nat.le_of_ble_eq_true rfl)) dX6_next_222 ⟨Nat.le_of_ble_eq_true rfl, Nat.le_of_ble_eq_true rfl⟩) hS hD hA rfl (fun u t H locs ht hvm hB hz1 hk1 hFq hAq hS => ?_)
            obtain ⟨hP1, hK1, hD1⟩ := hB
            have hP := zKeep hP hD [] hAq hk1 ht hP1 rfl
            refine lv_if_eq (tgt := 326) hx hb dX6_next_225 (by decide +kernel) (fun c_11 => ?_) (fun c_11 => ?_)
            · skip
              have n_13 : ¬ (48 ≤ (ftp (g_X6_next_0 td ftp za)) ∧ (ftp (g_X6_next_0 td ftp za)) ≤ 57) := of_decide_eq_false (bz_eq rfl c_11)
              refine lv_iload_n hx hb dX6_next_326 rfl (lv_at hl 0 rfl) ?_
              refine lv_bipush (v := 40) hx hb dX6_next_327 (by decide +kernel) ?_
              refine lv_icmp_eq (tgt := 374) hx hb dX6_next_329 (by decide +kernel) (fun c_14 => ?_) (fun c_14 => ?_)
              · skip
                refine lv_iconst (v := 1) hx hb dX6_next_374 (by decide +kernel) ?_
                refine lv_goto (tgt := 379) hx hb dX6_next_375 (by decide +kernel) ?_
                refine lv_istore_n (lv' := [zI 2 1, zI 1 (ftp (g_X6_next_0 td ftp za)), zR 0 h0]) hx hb dX6_next_379 rfl hl (by decide +kernel) rfl (fun ls hl => ?_)
                refine lv_aload_n hx hb dX6_next_380 rfl (lv_at hl 2 rfl) ?_
                refine lv_iload_n hx hb dX6_next_381 rfl (lv_at hl 0 rfl) ?_
                refine lv_if_eq (tgt := 389) hx hb dX6_next_382 (by decide +kernel) (fun c_15 => ?_) (fun c_15 => ?_)
                · exact absurd c_15 (by decide +kernel)
                refine lv_iload_n hx hb dX6_next_385 rfl (lv_at hl 1 rfl) ?_
                refine lv_goto (tgt := 390) hx hb dX6_next_386 (by decide +kernel) ?_
                refine va_put (D := G.1) (ci := 6) (v := .int (ftp (g_X6_next_0 td ftp za))) (ty := .int) (C := RX6) (T := TX6) (N := 42) hx hb hts hiX6 tyX6 tyX6_ok nmX6 hown hK hP hD hS 0 rfl rfl 21 (by decide +kernel) kf117 (fun _ h9 => h9) rfl (by decide +kernel) rfl rfl (Nat.le_of_ble_eq_true rfl) dX6_next_390 (fun H locs hP hD hS => ?_)
                have hz9 : gPD G A [zo6 h0 (nI pb) kd mo st (nI jg) ro tp (nI td) cd sr (nI tx) (nI ru) him ir ih ss sq ce lw (nI (g_X6_next_0 td ftp za)) (nI (g_X6_next_0 td ftp za)) (ftp (g_X6_next_0 td ftp za)) 0 wo he s25 s26 s27 sk na kp s31 s32 s33 s34 gb go fa ga s39 s40 vo, zi G tp 160 ftp, zi G wo 96 fwo] H := ⟨hP, hD⟩
                have hP := hz9.1
                have hD := hz9.2
                refine lv_aload_n hx hb dX6_next_393 rfl (lv_at hl 2 rfl) ?_
                refine lv_dup hx hb dX6_next_394 rfl ?_
                refine va_get (D := G.1) (ci := 6) (v := .int (nI (g_X6_next_0 td ftp za))) (C := RX6) (T := TX6) (N := 42) hx hb hts hiX6 hown hK hP 0 rfl rfl 19 (by decide +kernel) kf111 (fun _ h9 => h9) rfl dX6_next_395 ?_
                refine lv_iconst (v := 1) hx hb dX6_next_398 (by decide +kernel) ?_
                refine lv_iadd hx hb dX6_next_399 ?_
                refine g_topi (y := nI ((g_X6_next_0 td ftp za) + 1)) (nI_add (g_X6_next_0 td ftp za) 1) ?_
                refine va_put (D := G.1) (ci := 6) (v := .int (nI ((g_X6_next_0 td ftp za) + 1))) (ty := .int) (C := RX6) (T := TX6) (N := 42) hx hb hts hiX6 tyX6 tyX6_ok nmX6 hown hK hP hD hS 0 rfl rfl 19 (by decide +kernel) kf111 (fun _ h9 => h9) rfl (by decide +kernel) rfl rfl (Nat.le_of_ble_eq_true rfl) dX6_next_400 (fun H locs hP hD hS => ?_)
                have hz9 : gPD G A [zo6 h0 (nI pb) kd mo st (nI jg) ro tp (nI td) cd sr (nI tx) (nI ru) him ir ih ss sq ce lw (nI ((g_X6_next_0 td ftp za) + 1)) (nI (g_X6_next_0 td ftp za)) (ftp (g_X6_next_0 td ftp za)) 0 wo he s25 s26 s27 sk na kp s31 s32 s33 s34 gb go fa ga s39 s40 vo, zi G tp 160 ftp, zi G wo 96 fwo] H := ⟨hP, hD⟩
                have hP := hz9.1
                have hD := hz9.2
                have q_17 : m_X6_next_h019 td ftp za = (g_X6_next_0 td ftp za) + 1 := by unfold m_X6_next_h019; rw [if_neg c_2, if_neg n_8, if_neg n_13]
                have q_18 : m_X6_next_h020 td ftp za = nI (g_X6_next_0 td ftp za) := rfl
                have q_19 : m_X6_next_h021 td ftp fwo za = ftp (g_X6_next_0 td ftp za) := by unfold m_X6_next_h021; rw [if_neg c_2, if_neg n_8, if_neg n_13, if_pos c_14]
                have q_20 : m_X6_next_h022 td ftp fwo za = 0 := by unfold m_X6_next_h022; rw [if_neg c_2, if_neg n_8, if_neg n_13]
                have hz9 : gPD G A [zo6 h0 (nI pb) kd mo st (nI jg) ro tp (nI td) cd sr (nI tx) (nI ru) him ir ih ss sq ce lw (nI (m_X6_next_h019 td ftp za)) (m_X6_next_h020 td ftp za) (m_X6_next_h021 td ftp fwo za) (m_X6_next_h022 td ftp fwo za) wo he s25 s26 s27 sk na kp s31 s32 s33 s34 gb go fa ga s39 s40 vo, zi G tp 160 ftp, zi G wo 96 fwo] H := ⟨by rw [q_17, q_18, q_19, q_20]; exact hP, by rw [q_17, q_18, q_19, q_20]; exact hD⟩
                have hP9 := hz9.1
                have hD9 := hz9.2
                have hpost : (fun (u : Unit) => match u with | _ => za ≤ (m_X6_next_h019 td ftp za) ∧ (m_X6_next_h019 td ftp za) ≤ td ∧ (¬ (m_X6_next_h021 td ftp fwo za) = 0 → za < (m_X6_next_h019 td ftp za)) ∧ ((m_X6_next_h021 td ftp fwo za) = 2 → 0 ≤ (m_X6_next_h022 td ftp fwo za) ∧ (m_X6_next_h022 td ftp fwo za) < 6) ∧ ((m_X6_next_h021 td ftp fwo za) = 1 → 100000 ≤ 100000 + (m_X6_next_h022 td ftp fwo za))) () := nx_facts hza htd
                exact W.vret hx hb hr (fun t ht hW => ⟨⟨(), rfl, hpost, by rw [ht]; exact hP9, va_K.moved hW.alike hK, hD9⟩, hS.F ht⟩) hS.2.2 dX6_next_403
              · skip
                refine lv_iload_n hx hb dX6_next_332 rfl (lv_at hl 0 rfl) ?_
                refine lv_bipush (v := 41) hx hb dX6_next_333 (by decide +kernel) ?_
                refine lv_icmp_eq (tgt := 374) hx hb dX6_next_335 (by decide +kernel) (fun c_21 => ?_) (fun c_21 => ?_)
                · skip
                  refine lv_iconst (v := 1) hx hb dX6_next_374 (by decide +kernel) ?_
                  refine lv_goto (tgt := 379) hx hb dX6_next_375 (by decide +kernel) ?_
                  refine lv_istore_n (lv' := [zI 2 1, zI 1 (ftp (g_X6_next_0 td ftp za)), zR 0 h0]) hx hb dX6_next_379 rfl hl (by decide +kernel) rfl (fun ls hl => ?_)
                  refine lv_aload_n hx hb dX6_next_380 rfl (lv_at hl 2 rfl) ?_
                  refine lv_iload_n hx hb dX6_next_381 rfl (lv_at hl 0 rfl) ?_
                  refine lv_if_eq (tgt := 389) hx hb dX6_next_382 (by decide +kernel) (fun c_22 => ?_) (fun c_22 => ?_)
                  · exact absurd c_22 (by decide +kernel)
                  refine lv_iload_n hx hb dX6_next_385 rfl (lv_at hl 1 rfl) ?_
                  refine lv_goto (tgt := 390) hx hb dX6_next_386 (by decide +kernel) ?_
                  refine va_put (D := G.1) (ci := 6) (v := .int (ftp (g_X6_next_0 td ftp za))) (ty := .int) (C := RX6) (T := TX6) (N := 42) hx hb hts hiX6 tyX6 tyX6_ok nmX6 hown hK hP hD hS 0 rfl rfl 21 (by decide +kernel) kf117 (fun _ h9 => h9) rfl (by decide +kernel) rfl rfl (Nat.le_of_ble_eq_true rfl) dX6_next_390 (fun H locs hP hD hS => ?_)
                  have hz9 : gPD G A [zo6 h0 (nI pb) kd mo st (nI jg) ro tp (nI td) cd sr (nI tx) (nI ru) him ir ih ss sq ce lw (nI (g_X6_next_0 td ftp za)) (nI (g_X6_next_0 td ftp za)) (ftp (g_X6_next_0 td ftp za)) 0 wo he s25 s26 s27 sk na kp s31 s32 s33 s34 gb go fa ga s39 s40 vo, zi G tp 160 ftp, zi G wo 96 fwo] H := ⟨hP, hD⟩
                  have hP := hz9.1
                  have hD := hz9.2
                  refine lv_aload_n hx hb dX6_next_393 rfl (lv_at hl 2 rfl) ?_
                  refine lv_dup hx hb dX6_next_394 rfl ?_
                  refine va_get (D := G.1) (ci := 6) (v := .int (nI (g_X6_next_0 td ftp za))) (C := RX6) (T := TX6) (N := 42) hx hb hts hiX6 hown hK hP 0 rfl rfl 19 (by decide +kernel) kf111 (fun _ h9 => h9) rfl dX6_next_395 ?_
                  refine lv_iconst (v := 1) hx hb dX6_next_398 (by decide +kernel) ?_
                  refine lv_iadd hx hb dX6_next_399 ?_
                  refine g_topi (y := nI ((g_X6_next_0 td ftp za) + 1)) (nI_add (g_X6_next_0 td ftp za) 1) ?_
                  refine va_put (D := G.1) (ci := 6) (v := .int (nI ((g_X6_next_0 td ftp za) + 1))) (ty := .int) (C := RX6) (T := TX6) (N := 42) hx hb hts hiX6 tyX6 tyX6_ok nmX6 hown hK hP hD hS 0 rfl rfl 19 (by decide +kernel) kf111 (fun _ h9 => h9) rfl (by decide +kernel) rfl rfl (Nat.le_of_ble_eq_true rfl) dX6_next_400 (fun H locs hP hD hS => ?_)
                  have hz9 : gPD G A [zo6 h0 (nI pb) kd mo st (nI jg) ro tp (nI td) cd sr (nI tx) (nI ru) him ir ih ss sq ce lw (nI ((g_X6_next_0 td ftp za) + 1)) (nI (g_X6_next_0 td ftp za)) (ftp (g_X6_next_0 td ftp za)) 0 wo he s25 s26 s27 sk na kp s31 s32 s33 s34 gb go fa ga s39 s40 vo, zi G tp 160 ftp, zi G wo 96 fwo] H := ⟨hP, hD⟩
                  have hP := hz9.1
                  have hD := hz9.2
                  have q_24 : m_X6_next_h019 td ftp za = (g_X6_next_0 td ftp za) + 1 := by unfold m_X6_next_h019; rw [if_neg c_2, if_neg n_8, if_neg n_13]
                  have q_25 : m_X6_next_h020 td ftp za = nI (g_X6_next_0 td ftp za) := rfl
                  have q_26 : m_X6_next_h021 td ftp fwo za = ftp (g_X6_next_0 td ftp za) := by unfold m_X6_next_h021; rw [if_neg c_2, if_neg n_8, if_neg n_13, if_neg c_14, if_pos c_21]
                  have q_27 : m_X6_next_h022 td ftp fwo za = 0 := by unfold m_X6_next_h022; rw [if_neg c_2, if_neg n_8, if_neg n_13]
                  have hz9 : gPD G A [zo6 h0 (nI pb) kd mo st (nI jg) ro tp (nI td) cd sr (nI tx) (nI ru) him ir ih ss sq ce lw (nI (m_X6_next_h019 td ftp za)) (m_X6_next_h020 td ftp za) (m_X6_next_h021 td ftp fwo za) (m_X6_next_h022 td ftp fwo za) wo he s25 s26 s27 sk na kp s31 s32 s33 s34 gb go fa ga s39 s40 vo, zi G tp 160 ftp, zi G wo 96 fwo] H := ⟨by rw [q_24, q_25, q_26, q_27]; exact hP, by rw [q_24, q_25, q_26, q_27]; exact hD⟩
                  have hP9 := hz9.1
                  have hD9 := hz9.2
                  have hpost : (fun (u : Unit) => match u with | _ => za ≤ (m_X6_next_h019 td ftp za) ∧ (m_X6_next_h019 td ftp za) ≤ td ∧ (¬ (m_X6_next_h021 td ftp fwo za) = 0 → za < (m_X6_next_h019 td ftp za)) ∧ ((m_X6_next_h021 td ftp fwo za) = 2 → 0 ≤ (m_X6_next_h022 td ftp fwo za) ∧ (m_X6_next_h022 td ftp fwo za) < 6) ∧ ((m_X6_next_h021 td ftp fwo za) = 1 → 100000 ≤ 100000 + (m_X6_next_h022 td ftp fwo za))) () := nx_facts hza htd
                  exact W.vret hx hb hr (fun t ht hW => ⟨⟨(), rfl, hpost, by rw [ht]; exact hP9, va_K.moved hW.alike hK, hD9⟩, hS.F ht⟩) hS.2.2 dX6_next_403
                · skip
                  refine lv_iload_n hx hb dX6_next_338 rfl (lv_at hl 0 rfl) ?_
                  refine lv_bipush (v := 59) hx hb dX6_next_339 (by decide +kernel) ?_
                  refine lv_icmp_eq (tgt := 374) hx hb dX6_next_341 (by decide +kernel) (fun c_28 => ?_) (fun c_28 => ?_)
                  · skip
                    refine lv_iconst (v := 1) hx hb dX6_next_374 (by decide +kernel) ?_
                    refine lv_goto (tgt := 379) hx hb dX6_next_375 (by decide +kernel) ?_
                    refine lv_istore_n (lv' := [zI 2 1, zI 1 (ftp (g_X6_next_0 td ftp za)), zR 0 h0]) hx hb dX6_next_379 rfl hl (by decide +kernel) rfl (fun ls hl => ?_)
                    refine lv_aload_n hx hb dX6_next_380 rfl (lv_at hl 2 rfl) ?_
                    refine lv_iload_n hx hb dX6_next_381 rfl (lv_at hl 0 rfl) ?_
                    refine lv_if_eq (tgt := 389) hx hb dX6_next_382 (by decide +kernel) (fun c_29 => ?_) (fun c_29 => ?_)
                    · exact absurd c_29 (by decide +kernel)
                    refine lv_iload_n hx hb dX6_next_385 rfl (lv_at hl 1 rfl) ?_
                    refine lv_goto (tgt := 390) hx hb dX6_next_386 (by decide +kernel) ?_
                    refine va_put (D := G.1) (ci := 6) (v := .int (ftp (g_X6_next_0 td ftp za))) (ty := .int) (C := RX6) (T := TX6) (N := 42) hx hb hts hiX6 tyX6 tyX6_ok nmX6 hown hK hP hD hS 0 rfl rfl 21 (by decide +kernel) kf117 (fun _ h9 => h9) rfl (by decide +kernel) rfl rfl (Nat.le_of_ble_eq_true rfl) dX6_next_390 (fun H locs hP hD hS => ?_)
                    have hz9 : gPD G A [zo6 h0 (nI pb) kd mo st (nI jg) ro tp (nI td) cd sr (nI tx) (nI ru) him ir ih ss sq ce lw (nI (g_X6_next_0 td ftp za)) (nI (g_X6_next_0 td ftp za)) (ftp (g_X6_next_0 td ftp za)) 0 wo he s25 s26 s27 sk na kp s31 s32 s33 s34 gb go fa ga s39 s40 vo, zi G tp 160 ftp, zi G wo 96 fwo] H := ⟨hP, hD⟩
                    have hP := hz9.1
                    have hD := hz9.2
                    refine lv_aload_n hx hb dX6_next_393 rfl (lv_at hl 2 rfl) ?_
                    refine lv_dup hx hb dX6_next_394 rfl ?_
                    refine va_get (D := G.1) (ci := 6) (v := .int (nI (g_X6_next_0 td ftp za))) (C := RX6) (T := TX6) (N := 42) hx hb hts hiX6 hown hK hP 0 rfl rfl 19 (by decide +kernel) kf111 (fun _ h9 => h9) rfl dX6_next_395 ?_
                    refine lv_iconst (v := 1) hx hb dX6_next_398 (by decide +kernel) ?_
                    refine lv_iadd hx hb dX6_next_399 ?_
                    refine g_topi (y := nI ((g_X6_next_0 td ftp za) + 1)) (nI_add (g_X6_next_0 td ftp za) 1) ?_
                    refine va_put (D := G.1) (ci := 6) (v := .int (nI ((g_X6_next_0 td ftp za) + 1))) (ty := .int) (C := RX6) (T := TX6) (N := 42) hx hb hts hiX6 tyX6 tyX6_ok nmX6 hown hK hP hD hS 0 rfl rfl 19 (by decide +kernel) kf111 (fun _ h9 => h9) rfl (by decide +kernel) rfl rfl (Nat.le_of_ble_eq_true rfl) dX6_next_400 (fun H locs hP hD hS => ?_)
                    have hz9 : gPD G A [zo6 h0 (nI pb) kd mo st (nI jg) ro tp (nI td) cd sr (nI tx) (nI ru) him ir ih ss sq ce lw (nI ((g_X6_next_0 td ftp za) + 1)) (nI (g_X6_next_0 td ftp za)) (ftp (g_X6_next_0 td ftp za)) 0 wo he s25 s26 s27 sk na kp s31 s32 s33 s34 gb go fa ga s39 s40 vo, zi G tp 160 ftp, zi G wo 96 fwo] H := ⟨hP, hD⟩
                    have hP := hz9.1
                    have hD := hz9.2
                    have q_31 : m_X6_next_h019 td ftp za = (g_X6_next_0 td ftp za) + 1 := by unfold m_X6_next_h019; rw [if_neg c_2, if_neg n_8, if_neg n_13]
                    have q_32 : m_X6_next_h020 td ftp za = nI (g_X6_next_0 td ftp za) := rfl
                    have q_33 : m_X6_next_h021 td ftp fwo za = ftp (g_X6_next_0 td ftp za) := by unfold m_X6_next_h021; rw [if_neg c_2, if_neg n_8, if_neg n_13, if_neg c_14, if_neg c_21, if_pos c_28]
                    have q_34 : m_X6_next_h022 td ftp fwo za = 0 := by unfold m_X6_next_h022; rw [if_neg c_2, if_neg n_8, if_neg n_13]
                    have hz9 : gPD G A [zo6 h0 (nI pb) kd mo st (nI jg) ro tp (nI td) cd sr (nI tx) (nI ru) him ir ih ss sq ce lw (nI (m_X6_next_h019 td ftp za)) (m_X6_next_h020 td ftp za) (m_X6_next_h021 td ftp fwo za) (m_X6_next_h022 td ftp fwo za) wo he s25 s26 s27 sk na kp s31 s32 s33 s34 gb go fa ga s39 s40 vo, zi G tp 160 ftp, zi G wo 96 fwo] H := ⟨by rw [q_31, q_32, q_33, q_34]; exact hP, by rw [q_31, q_32, q_33, q_34]; exact hD⟩
                    have hP9 := hz9.1
                    have hD9 := hz9.2
                    have hpost : (fun (u : Unit) => match u with | _ => za ≤ (m_X6_next_h019 td ftp za) ∧ (m_X6_next_h019 td ftp za) ≤ td ∧ (¬ (m_X6_next_h021 td ftp fwo za) = 0 → za < (m_X6_next_h019 td ftp za)) ∧ ((m_X6_next_h021 td ftp fwo za) = 2 → 0 ≤ (m_X6_next_h022 td ftp fwo za) ∧ (m_X6_next_h022 td ftp fwo za) < 6) ∧ ((m_X6_next_h021 td ftp fwo za) = 1 → 100000 ≤ 100000 + (m_X6_next_h022 td ftp fwo za))) () := nx_facts hza htd
                    exact W.vret hx hb hr (fun t ht hW => ⟨⟨(), rfl, hpost, by rw [ht]; exact hP9, va_K.moved hW.alike hK, hD9⟩, hS.F ht⟩) hS.2.2 dX6_next_403
                  · skip
                    refine lv_iload_n hx hb dX6_next_344 rfl (lv_at hl 0 rfl) ?_
                    refine lv_bipush (v := 43) hx hb dX6_next_345 (by decide +kernel) ?_
                    refine lv_icmp_eq (tgt := 374) hx hb dX6_next_347 (by decide +kernel) (fun c_35 => ?_) (fun c_35 => ?_)
                    · skip
                      refine lv_iconst (v := 1) hx hb dX6_next_374 (by decide +kernel) ?_
                      refine lv_goto (tgt := 379) hx hb dX6_next_375 (by decide +kernel) ?_
                      refine lv_istore_n (lv' := [zI 2 1, zI 1 (ftp (g_X6_next_0 td ftp za)), zR 0 h0]) hx hb dX6_next_379 rfl hl (by decide +kernel) rfl (fun ls hl => ?_)
                      refine lv_aload_n hx hb dX6_next_380 rfl (lv_at hl 2 rfl) ?_
                      refine lv_iload_n hx hb dX6_next_381 rfl (lv_at hl 0 rfl) ?_
                      refine lv_if_eq (tgt := 389) hx hb dX6_next_382 (by decide +kernel) (fun c_36 => ?_) (fun c_36 => ?_)
                      · exact absurd c_36 (by decide +kernel)
                      refine lv_iload_n hx hb dX6_next_385 rfl (lv_at hl 1 rfl) ?_
                      refine lv_goto (tgt := 390) hx hb dX6_next_386 (by decide +kernel) ?_
                      refine va_put (D := G.1) (ci := 6) (v := .int (ftp (g_X6_next_0 td ftp za))) (ty := .int) (C := RX6) (T := TX6) (N := 42) hx hb hts hiX6 tyX6 tyX6_ok nmX6 hown hK hP hD hS 0 rfl rfl 21 (by decide +kernel) kf117 (fun _ h9 => h9) rfl (by decide +kernel) rfl rfl (Nat.le_of_ble_eq_true rfl) dX6_next_390 (fun H locs hP hD hS => ?_)
                      have hz9 : gPD G A [zo6 h0 (nI pb) kd mo st (nI jg) ro tp (nI td) cd sr (nI tx) (nI ru) him ir ih ss sq ce lw (nI (g_X6_next_0 td ftp za)) (nI (g_X6_next_0 td ftp za)) (ftp (g_X6_next_0 td ftp za)) 0 wo he s25 s26 s27 sk na kp s31 s32 s33 s34 gb go fa ga s39 s40 vo, zi G tp 160 ftp, zi G wo 96 fwo] H := ⟨hP, hD⟩
                      have hP := hz9.1
                      have hD := hz9.2
                      refine lv_aload_n hx hb dX6_next_393 rfl (lv_at hl 2 rfl) ?_
                      refine lv_dup hx hb dX6_next_394 rfl ?_
                      refine va_get (D := G.1) (ci := 6) (v := .int (nI (g_X6_next_0 td ftp za))) (C := RX6) (T := TX6) (N := 42) hx hb hts hiX6 hown hK hP 0 rfl rfl 19 (by decide +kernel) kf111 (fun _ h9 => h9) rfl dX6_next_395 ?_
                      refine lv_iconst (v := 1) hx hb dX6_next_398 (by decide +kernel) ?_
                      refine lv_iadd hx hb dX6_next_399 ?_
                      refine g_topi (y := nI ((g_X6_next_0 td ftp za) + 1)) (nI_add (g_X6_next_0 td ftp za) 1) ?_
                      refine va_put (D := G.1) (ci := 6) (v := .int (nI ((g_X6_next_0 td ftp za) + 1))) (ty := .int) (C := RX6) (T := TX6) (N := 42) hx hb hts hiX6 tyX6 tyX6_ok nmX6 hown hK hP hD hS 0 rfl rfl 19 (by decide +kernel) kf111 (fun _ h9 => h9) rfl (by decide +kernel) rfl rfl (Nat.le_of_ble_eq_true rfl) dX6_next_400 (fun H locs hP hD hS => ?_)
                      have hz9 : gPD G A [zo6 h0 (nI pb) kd mo st (nI jg) ro tp (nI td) cd sr (nI tx) (nI ru) him ir ih ss sq ce lw (nI ((g_X6_next_0 td ftp za) + 1)) (nI (g_X6_next_0 td ftp za)) (ftp (g_X6_next_0 td ftp za)) 0 wo he s25 s26 s27 sk na kp s31 s32 s33 s34 gb go fa ga s39 s40 vo, zi G tp 160 ftp, zi G wo 96 fwo] H := ⟨hP, hD⟩
                      have hP := hz9.1
                      have hD := hz9.2
                      have q_38 : m_X6_next_h019 td ftp za = (g_X6_next_0 td ftp za) + 1 := by unfold m_X6_next_h019; rw [if_neg c_2, if_neg n_8, if_neg n_13]
                      have q_39 : m_X6_next_h020 td ftp za = nI (g_X6_next_0 td ftp za) := rfl
                      have q_40 : m_X6_next_h021 td ftp fwo za = ftp (g_X6_next_0 td ftp za) := by unfold m_X6_next_h021; rw [if_neg c_2, if_neg n_8, if_neg n_13, if_neg c_14, if_neg c_21, if_neg c_28, if_pos c_35]
                      have q_41 : m_X6_next_h022 td ftp fwo za = 0 := by unfold m_X6_next_h022; rw [if_neg c_2, if_neg n_8, if_neg n_13]
                      have hz9 : gPD G A [zo6 h0 (nI pb) kd mo st (nI jg) ro tp (nI td) cd sr (nI tx) (nI ru) him ir ih ss sq ce lw (nI (m_X6_next_h019 td ftp za)) (m_X6_next_h020 td ftp za) (m_X6_next_h021 td ftp fwo za) (m_X6_next_h022 td ftp fwo za) wo he s25 s26 s27 sk na kp s31 s32 s33 s34 gb go fa ga s39 s40 vo, zi G tp 160 ftp, zi G wo 96 fwo] H := ⟨by rw [q_38, q_39, q_40, q_41]; exact hP, by rw [q_38, q_39, q_40, q_41]; exact hD⟩
                      have hP9 := hz9.1
                      have hD9 := hz9.2
                      have hpost : (fun (u : Unit) => match u with | _ => za ≤ (m_X6_next_h019 td ftp za) ∧ (m_X6_next_h019 td ftp za) ≤ td ∧ (¬ (m_X6_next_h021 td ftp fwo za) = 0 → za < (m_X6_next_h019 td ftp za)) ∧ ((m_X6_next_h021 td ftp fwo za) = 2 → 0 ≤ (m_X6_next_h022 td ftp fwo za) ∧ (m_X6_next_h022 td ftp fwo za) < 6) ∧ ((m_X6_next_h021 td ftp fwo za) = 1 → 100000 ≤ 100000 + (m_X6_next_h022 td ftp fwo za))) () := nx_facts hza htd
                      exact W.vret hx hb hr (fun t ht hW => ⟨⟨(), rfl, hpost, by rw [ht]; exact hP9, va_K.moved hW.alike hK, hD9⟩, hS.F ht⟩) hS.2.2 dX6_next_403
                    · skip
                      refine lv_iload_n hx hb dX6_next_350 rfl (lv_at hl 0 rfl) ?_
                      refine lv_bipush (v := 45) hx hb dX6_next_351 (by decide +kernel) ?_
                      refine lv_icmp_eq (tgt := 374) hx hb dX6_next_353 (by decide +kernel) (fun c_42 => ?_) (fun c_42 => ?_)
                      · skip
                        refine lv_iconst (v := 1) hx hb dX6_next_374 (by decide +kernel) ?_
                        refine lv_goto (tgt := 379) hx hb dX6_next_375 (by decide +kernel) ?_
                        refine lv_istore_n (lv' := [zI 2 1, zI 1 (ftp (g_X6_next_0 td ftp za)), zR 0 h0]) hx hb dX6_next_379 rfl hl (by decide +kernel) rfl (fun ls hl => ?_)
                        refine lv_aload_n hx hb dX6_next_380 rfl (lv_at hl 2 rfl) ?_
                        refine lv_iload_n hx hb dX6_next_381 rfl (lv_at hl 0 rfl) ?_
                        refine lv_if_eq (tgt := 389) hx hb dX6_next_382 (by decide +kernel) (fun c_43 => ?_) (fun c_43 => ?_)
                        · exact absurd c_43 (by decide +kernel)
                        refine lv_iload_n hx hb dX6_next_385 rfl (lv_at hl 1 rfl) ?_
                        refine lv_goto (tgt := 390) hx hb dX6_next_386 (by decide +kernel) ?_
                        refine va_put (D := G.1) (ci := 6) (v := .int (ftp (g_X6_next_0 td ftp za))) (ty := .int) (C := RX6) (T := TX6) (N := 42) hx hb hts hiX6 tyX6 tyX6_ok nmX6 hown hK hP hD hS 0 rfl rfl 21 (by decide +kernel) kf117 (fun _ h9 => h9) rfl (by decide +kernel) rfl rfl (Nat.le_of_ble_eq_true rfl) dX6_next_390 (fun H locs hP hD hS => ?_)
                        have hz9 : gPD G A [zo6 h0 (nI pb) kd mo st (nI jg) ro tp (nI td) cd sr (nI tx) (nI ru) him ir ih ss sq ce lw (nI (g_X6_next_0 td ftp za)) (nI (g_X6_next_0 td ftp za)) (ftp (g_X6_next_0 td ftp za)) 0 wo he s25 s26 s27 sk na kp s31 s32 s33 s34 gb go fa ga s39 s40 vo, zi G tp 160 ftp, zi G wo 96 fwo] H := ⟨hP, hD⟩
                        have hP := hz9.1
                        have hD := hz9.2
                        refine lv_aload_n hx hb dX6_next_393 rfl (lv_at hl 2 rfl) ?_
                        refine lv_dup hx hb dX6_next_394 rfl ?_
                        refine va_get (D := G.1) (ci := 6) (v := .int (nI (g_X6_next_0 td ftp za))) (C := RX6) (T := TX6) (N := 42) hx hb hts hiX6 hown hK hP 0 rfl rfl 19 (by decide +kernel) kf111 (fun _ h9 => h9) rfl dX6_next_395 ?_
                        refine lv_iconst (v := 1) hx hb dX6_next_398 (by decide +kernel) ?_
                        refine lv_iadd hx hb dX6_next_399 ?_
                        refine g_topi (y := nI ((g_X6_next_0 td ftp za) + 1)) (nI_add (g_X6_next_0 td ftp za) 1) ?_
                        refine va_put (D := G.1) (ci := 6) (v := .int (nI ((g_X6_next_0 td ftp za) + 1))) (ty := .int) (C := RX6) (T := TX6) (N := 42) hx hb hts hiX6 tyX6 tyX6_ok nmX6 hown hK hP hD hS 0 rfl rfl 19 (by decide +kernel) kf111 (fun _ h9 => h9) rfl (by decide +kernel) rfl rfl (Nat.le_of_ble_eq_true rfl) dX6_next_400 (fun H locs hP hD hS => ?_)
                        have hz9 : gPD G A [zo6 h0 (nI pb) kd mo st (nI jg) ro tp (nI td) cd sr (nI tx) (nI ru) him ir ih ss sq ce lw (nI ((g_X6_next_0 td ftp za) + 1)) (nI (g_X6_next_0 td ftp za)) (ftp (g_X6_next_0 td ftp za)) 0 wo he s25 s26 s27 sk na kp s31 s32 s33 s34 gb go fa ga s39 s40 vo, zi G tp 160 ftp, zi G wo 96 fwo] H := ⟨hP, hD⟩
                        have hP := hz9.1
                        have hD := hz9.2
                        have q_45 : m_X6_next_h019 td ftp za = (g_X6_next_0 td ftp za) + 1 := by unfold m_X6_next_h019; rw [if_neg c_2, if_neg n_8, if_neg n_13]
                        have q_46 : m_X6_next_h020 td ftp za = nI (g_X6_next_0 td ftp za) := rfl
                        have q_47 : m_X6_next_h021 td ftp fwo za = ftp (g_X6_next_0 td ftp za) := by unfold m_X6_next_h021; rw [if_neg c_2, if_neg n_8, if_neg n_13, if_neg c_14, if_neg c_21, if_neg c_28, if_neg c_35, if_pos c_42]
                        have q_48 : m_X6_next_h022 td ftp fwo za = 0 := by unfold m_X6_next_h022; rw [if_neg c_2, if_neg n_8, if_neg n_13]
                        have hz9 : gPD G A [zo6 h0 (nI pb) kd mo st (nI jg) ro tp (nI td) cd sr (nI tx) (nI ru) him ir ih ss sq ce lw (nI (m_X6_next_h019 td ftp za)) (m_X6_next_h020 td ftp za) (m_X6_next_h021 td ftp fwo za) (m_X6_next_h022 td ftp fwo za) wo he s25 s26 s27 sk na kp s31 s32 s33 s34 gb go fa ga s39 s40 vo, zi G tp 160 ftp, zi G wo 96 fwo] H := ⟨by rw [q_45, q_46, q_47, q_48]; exact hP, by rw [q_45, q_46, q_47, q_48]; exact hD⟩
                        have hP9 := hz9.1
                        have hD9 := hz9.2
                        have hpost : (fun (u : Unit) => match u with | _ => za ≤ (m_X6_next_h019 td ftp za) ∧ (m_X6_next_h019 td ftp za) ≤ td ∧ (¬ (m_X6_next_h021 td ftp fwo za) = 0 → za < (m_X6_next_h019 td ftp za)) ∧ ((m_X6_next_h021 td ftp fwo za) = 2 → 0 ≤ (m_X6_next_h022 td ftp fwo za) ∧ (m_X6_next_h022 td ftp fwo za) < 6) ∧ ((m_X6_next_h021 td ftp fwo za) = 1 → 100000 ≤ 100000 + (m_X6_next_h022 td ftp fwo za))) () := nx_facts hza htd
                        exact W.vret hx hb hr (fun t ht hW => ⟨⟨(), rfl, hpost, by rw [ht]; exact hP9, va_K.moved hW.alike hK, hD9⟩, hS.F ht⟩) hS.2.2 dX6_next_403
                      · skip
                        refine lv_iload_n hx hb dX6_next_356 rfl (lv_at hl 0 rfl) ?_
                        refine lv_bipush (v := 42) hx hb dX6_next_357 (by decide +kernel) ?_
                        refine lv_icmp_eq (tgt := 374) hx hb dX6_next_359 (by decide +kernel) (fun c_49 => ?_) (fun c_49 => ?_)
                        · skip
                          refine lv_iconst (v := 1) hx hb dX6_next_374 (by decide +kernel) ?_
                          refine lv_goto (tgt := 379) hx hb dX6_next_375 (by decide +kernel) ?_
                          refine lv_istore_n (lv' := [zI 2 1, zI 1 (ftp (g_X6_next_0 td ftp za)), zR 0 h0]) hx hb dX6_next_379 rfl hl (by decide +kernel) rfl (fun ls hl => ?_)
                          refine lv_aload_n hx hb dX6_next_380 rfl (lv_at hl 2 rfl) ?_
                          refine lv_iload_n hx hb dX6_next_381 rfl (lv_at hl 0 rfl) ?_
                          refine lv_if_eq (tgt := 389) hx hb dX6_next_382 (by decide +kernel) (fun c_50 => ?_) (fun c_50 => ?_)
                          · exact absurd c_50 (by decide +kernel)
                          refine lv_iload_n hx hb dX6_next_385 rfl (lv_at hl 1 rfl) ?_
                          refine lv_goto (tgt := 390) hx hb dX6_next_386 (by decide +kernel) ?_
                          refine va_put (D := G.1) (ci := 6) (v := .int (ftp (g_X6_next_0 td ftp za))) (ty := .int) (C := RX6) (T := TX6) (N := 42) hx hb hts hiX6 tyX6 tyX6_ok nmX6 hown hK hP hD hS 0 rfl rfl 21 (by decide +kernel) kf117 (fun _ h9 => h9) rfl (by decide +kernel) rfl rfl (Nat.le_of_ble_eq_true rfl) dX6_next_390 (fun H locs hP hD hS => ?_)
                          have hz9 : gPD G A [zo6 h0 (nI pb) kd mo st (nI jg) ro tp (nI td) cd sr (nI tx) (nI ru) him ir ih ss sq ce lw (nI (g_X6_next_0 td ftp za)) (nI (g_X6_next_0 td ftp za)) (ftp (g_X6_next_0 td ftp za)) 0 wo he s25 s26 s27 sk na kp s31 s32 s33 s34 gb go fa ga s39 s40 vo, zi G tp 160 ftp, zi G wo 96 fwo] H := ⟨hP, hD⟩
                          have hP := hz9.1
                          have hD := hz9.2
                          refine lv_aload_n hx hb dX6_next_393 rfl (lv_at hl 2 rfl) ?_
                          refine lv_dup hx hb dX6_next_394 rfl ?_
                          refine va_get (D := G.1) (ci := 6) (v := .int (nI (g_X6_next_0 td ftp za))) (C := RX6) (T := TX6) (N := 42) hx hb hts hiX6 hown hK hP 0 rfl rfl 19 (by decide +kernel) kf111 (fun _ h9 => h9) rfl dX6_next_395 ?_
                          refine lv_iconst (v := 1) hx hb dX6_next_398 (by decide +kernel) ?_
                          refine lv_iadd hx hb dX6_next_399 ?_
                          refine g_topi (y := nI ((g_X6_next_0 td ftp za) + 1)) (nI_add (g_X6_next_0 td ftp za) 1) ?_
                          refine va_put (D := G.1) (ci := 6) (v := .int (nI ((g_X6_next_0 td ftp za) + 1))) (ty := .int) (C := RX6) (T := TX6) (N := 42) hx hb hts hiX6 tyX6 tyX6_ok nmX6 hown hK hP hD hS 0 rfl rfl 19 (by decide +kernel) kf111 (fun _ h9 => h9) rfl (by decide +kernel) rfl rfl (Nat.le_of_ble_eq_true rfl) dX6_next_400 (fun H locs hP hD hS => ?_)
                          have hz9 : gPD G A [zo6 h0 (nI pb) kd mo st (nI jg) ro tp (nI td) cd sr (nI tx) (nI ru) him ir ih ss sq ce lw (nI ((g_X6_next_0 td ftp za) + 1)) (nI (g_X6_next_0 td ftp za)) (ftp (g_X6_next_0 td ftp za)) 0 wo he s25 s26 s27 sk na kp s31 s32 s33 s34 gb go fa ga s39 s40 vo, zi G tp 160 ftp, zi G wo 96 fwo] H := ⟨hP, hD⟩
                          have hP := hz9.1
                          have hD := hz9.2
                          have q_52 : m_X6_next_h019 td ftp za = (g_X6_next_0 td ftp za) + 1 := by unfold m_X6_next_h019; rw [if_neg c_2, if_neg n_8, if_neg n_13]
                          have q_53 : m_X6_next_h020 td ftp za = nI (g_X6_next_0 td ftp za) := rfl
                          have q_54 : m_X6_next_h021 td ftp fwo za = ftp (g_X6_next_0 td ftp za) := by unfold m_X6_next_h021; rw [if_neg c_2, if_neg n_8, if_neg n_13, if_neg c_14, if_neg c_21, if_neg c_28, if_neg c_35, if_neg c_42, if_pos c_49]
                          have q_55 : m_X6_next_h022 td ftp fwo za = 0 := by unfold m_X6_next_h022; rw [if_neg c_2, if_neg n_8, if_neg n_13]
                          have hz9 : gPD G A [zo6 h0 (nI pb) kd mo st (nI jg) ro tp (nI td) cd sr (nI tx) (nI ru) him ir ih ss sq ce lw (nI (m_X6_next_h019 td ftp za)) (m_X6_next_h020 td ftp za) (m_X6_next_h021 td ftp fwo za) (m_X6_next_h022 td ftp fwo za) wo he s25 s26 s27 sk na kp s31 s32 s33 s34 gb go fa ga s39 s40 vo, zi G tp 160 ftp, zi G wo 96 fwo] H := ⟨by rw [q_52, q_53, q_54, q_55]; exact hP, by rw [q_52, q_53, q_54, q_55]; exact hD⟩
                          have hP9 := hz9.1
                          have hD9 := hz9.2
                          have hpost : (fun (u : Unit) => match u with | _ => za ≤ (m_X6_next_h019 td ftp za) ∧ (m_X6_next_h019 td ftp za) ≤ td ∧ (¬ (m_X6_next_h021 td ftp fwo za) = 0 → za < (m_X6_next_h019 td ftp za)) ∧ ((m_X6_next_h021 td ftp fwo za) = 2 → 0 ≤ (m_X6_next_h022 td ftp fwo za) ∧ (m_X6_next_h022 td ftp fwo za) < 6) ∧ ((m_X6_next_h021 td ftp fwo za) = 1 → 100000 ≤ 100000 + (m_X6_next_h022 td ftp fwo za))) () := nx_facts hza htd
                          exact W.vret hx hb hr (fun t ht hW => ⟨⟨(), rfl, hpost, by rw [ht]; exact hP9, va_K.moved hW.alike hK, hD9⟩, hS.F ht⟩) hS.2.2 dX6_next_403
                        · skip
                          refine lv_iload_n hx hb dX6_next_362 rfl (lv_at hl 0 rfl) ?_
                          refine lv_bipush (v := 60) hx hb dX6_next_363 (by decide +kernel) ?_
                          refine lv_icmp_eq (tgt := 374) hx hb dX6_next_365 (by decide +kernel) (fun c_56 => ?_) (fun c_56 => ?_)
                          · skip
                            refine lv_iconst (v := 1) hx hb dX6_next_374 (by decide +kernel) ?_
                            refine lv_goto (tgt := 379) hx hb dX6_next_375 (by decide +kernel) ?_
                            refine lv_istore_n (lv' := [zI 2 1, zI 1 (ftp (g_X6_next_0 td ftp za)), zR 0 h0]) hx hb dX6_next_379 rfl hl (by decide +kernel) rfl (fun ls hl => ?_)
                            refine lv_aload_n hx hb dX6_next_380 rfl (lv_at hl 2 rfl) ?_
                            refine lv_iload_n hx hb dX6_next_381 rfl (lv_at hl 0 rfl) ?_
                            refine lv_if_eq (tgt := 389) hx hb dX6_next_382 (by decide +kernel) (fun c_57 => ?_) (fun c_57 => ?_)
                            · exact absurd c_57 (by decide +kernel)
                            refine lv_iload_n hx hb dX6_next_385 rfl (lv_at hl 1 rfl) ?_
                            refine lv_goto (tgt := 390) hx hb dX6_next_386 (by decide +kernel) ?_
                            refine va_put (D := G.1) (ci := 6) (v := .int (ftp (g_X6_next_0 td ftp za))) (ty := .int) (C := RX6) (T := TX6) (N := 42) hx hb hts hiX6 tyX6 tyX6_ok nmX6 hown hK hP hD hS 0 rfl rfl 21 (by decide +kernel) kf117 (fun _ h9 => h9) rfl (by decide +kernel) rfl rfl (Nat.le_of_ble_eq_true rfl) dX6_next_390 (fun H locs hP hD hS => ?_)
                            have hz9 : gPD G A [zo6 h0 (nI pb) kd mo st (nI jg) ro tp (nI td) cd sr (nI tx) (nI ru) him ir ih ss sq ce lw (nI (g_X6_next_0 td ftp za)) (nI (g_X6_next_0 td ftp za)) (ftp (g_X6_next_0 td ftp za)) 0 wo he s25 s26 s27 sk na kp s31 s32 s33 s34 gb go fa ga s39 s40 vo, zi G tp 160 ftp, zi G wo 96 fwo] H := ⟨hP, hD⟩
                            have hP := hz9.1
                            have hD := hz9.2
                            refine lv_aload_n hx hb dX6_next_393 rfl (lv_at hl 2 rfl) ?_
                            refine lv_dup hx hb dX6_next_394 rfl ?_
                            refine va_get (D := G.1) (ci := 6) (v := .int (nI (g_X6_next_0 td ftp za))) (C := RX6) (T := TX6) (N := 42) hx hb hts hiX6 hown hK hP 0 rfl rfl 19 (by decide +kernel) kf111 (fun _ h9 => h9) rfl dX6_next_395 ?_
                            refine lv_iconst (v := 1) hx hb dX6_next_398 (by decide +kernel) ?_
                            refine lv_iadd hx hb dX6_next_399 ?_
                            refine g_topi (y := nI ((g_X6_next_0 td ftp za) + 1)) (nI_add (g_X6_next_0 td ftp za) 1) ?_
                            refine va_put (D := G.1) (ci := 6) (v := .int (nI ((g_X6_next_0 td ftp za) + 1))) (ty := .int) (C := RX6) (T := TX6) (N := 42) hx hb hts hiX6 tyX6 tyX6_ok nmX6 hown hK hP hD hS 0 rfl rfl 19 (by decide +kernel) kf111 (fun _ h9 => h9) rfl (by decide +kernel) rfl rfl (Nat.le_of_ble_eq_true rfl) dX6_next_400 (fun H locs hP hD hS => ?_)
                            have hz9 : gPD G A [zo6 h0 (nI pb) kd mo st (nI jg) ro tp (nI td) cd sr (nI tx) (nI ru) him ir ih ss sq ce lw (nI ((g_X6_next_0 td ftp za) + 1)) (nI (g_X6_next_0 td ftp za)) (ftp (g_X6_next_0 td ftp za)) 0 wo he s25 s26 s27 sk na kp s31 s32 s33 s34 gb go fa ga s39 s40 vo, zi G tp 160 ftp, zi G wo 96 fwo] H := ⟨hP, hD⟩
                            have hP := hz9.1
                            have hD := hz9.2
                            have q_59 : m_X6_next_h019 td ftp za = (g_X6_next_0 td ftp za) + 1 := by unfold m_X6_next_h019; rw [if_neg c_2, if_neg n_8, if_neg n_13]
                            have q_60 : m_X6_next_h020 td ftp za = nI (g_X6_next_0 td ftp za) := rfl
                            have q_61 : m_X6_next_h021 td ftp fwo za = ftp (g_X6_next_0 td ftp za) := by unfold m_X6_next_h021; rw [if_neg c_2, if_neg n_8, if_neg n_13, if_neg c_14, if_neg c_21, if_neg c_28, if_neg c_35, if_neg c_42, if_neg c_49, if_pos c_56]
                            have q_62 : m_X6_next_h022 td ftp fwo za = 0 := by unfold m_X6_next_h022; rw [if_neg c_2, if_neg n_8, if_neg n_13]
                            have hz9 : gPD G A [zo6 h0 (nI pb) kd mo st (nI jg) ro tp (nI td) cd sr (nI tx) (nI ru) him ir ih ss sq ce lw (nI (m_X6_next_h019 td ftp za)) (m_X6_next_h020 td ftp za) (m_X6_next_h021 td ftp fwo za) (m_X6_next_h022 td ftp fwo za) wo he s25 s26 s27 sk na kp s31 s32 s33 s34 gb go fa ga s39 s40 vo, zi G tp 160 ftp, zi G wo 96 fwo] H := ⟨by rw [q_59, q_60, q_61, q_62]; exact hP, by rw [q_59, q_60, q_61, q_62]; exact hD⟩
                            have hP9 := hz9.1
                            have hD9 := hz9.2
                            have hpost : (fun (u : Unit) => match u with | _ => za ≤ (m_X6_next_h019 td ftp za) ∧ (m_X6_next_h019 td ftp za) ≤ td ∧ (¬ (m_X6_next_h021 td ftp fwo za) = 0 → za < (m_X6_next_h019 td ftp za)) ∧ ((m_X6_next_h021 td ftp fwo za) = 2 → 0 ≤ (m_X6_next_h022 td ftp fwo za) ∧ (m_X6_next_h022 td ftp fwo za) < 6) ∧ ((m_X6_next_h021 td ftp fwo za) = 1 → 100000 ≤ 100000 + (m_X6_next_h022 td ftp fwo za))) () := nx_facts hza htd
                            exact W.vret hx hb hr (fun t ht hW => ⟨⟨(), rfl, hpost, by rw [ht]; exact hP9, va_K.moved hW.alike hK, hD9⟩, hS.F ht⟩) hS.2.2 dX6_next_403
                          · skip
                            refine lv_iload_n hx hb dX6_next_368 rfl (lv_at hl 0 rfl) ?_
                            refine lv_bipush (v := 61) hx hb dX6_next_369 (by decide +kernel) ?_
                            refine lv_icmp_ne (tgt := 378) hx hb dX6_next_371 (by decide +kernel) (fun c_63 => ?_) (fun c_63 => ?_)
                            · skip
                              refine lv_iconst (v := 0) hx hb dX6_next_378 (by decide +kernel) ?_
                              refine lv_istore_n (lv' := [zI 2 0, zI 1 (ftp (g_X6_next_0 td ftp za)), zR 0 h0]) hx hb dX6_next_379 rfl hl (by decide +kernel) rfl (fun ls hl => ?_)
                              refine lv_aload_n hx hb dX6_next_380 rfl (lv_at hl 2 rfl) ?_
                              refine lv_iload_n hx hb dX6_next_381 rfl (lv_at hl 0 rfl) ?_
                              refine lv_if_eq (tgt := 389) hx hb dX6_next_382 (by decide +kernel) (fun c_64 => ?_) (fun c_64 => ?_)
                              rotate_left
                              · exact absurd (by decide +kernel) c_64
                              refine lv_iconst (v := -1) hx hb dX6_next_389 (by decide +kernel) ?_
                              refine va_put (D := G.1) (ci := 6) (v := .int (-1)) (ty := .int) (C := RX6) (T := TX6) (N := 42) hx hb hts hiX6 tyX6 tyX6_ok nmX6 hown hK hP hD hS 0 rfl rfl 21 (by decide +kernel) kf117 (fun _ h9 => h9) rfl (by decide +kernel) rfl rfl (Nat.le_of_ble_eq_true rfl) dX6_next_390 (fun H locs hP hD hS => ?_)
                              have hz9 : gPD G A [zo6 h0 (nI pb) kd mo st (nI jg) ro tp (nI td) cd sr (nI tx) (nI ru) him ir ih ss sq ce lw (nI (g_X6_next_0 td ftp za)) (nI (g_X6_next_0 td ftp za)) (-1) 0 wo he s25 s26 s27 sk na kp s31 s32 s33 s34 gb go fa ga s39 s40 vo, zi G tp 160 ftp, zi G wo 96 fwo] H := ⟨hP, hD⟩
                              have hP := hz9.1
                              have hD := hz9.2
                              refine lv_aload_n hx hb dX6_next_393 rfl (lv_at hl 2 rfl) ?_
                              refine lv_dup hx hb dX6_next_394 rfl ?_
                              refine va_get (D := G.1) (ci := 6) (v := .int (nI (g_X6_next_0 td ftp za))) (C := RX6) (T := TX6) (N := 42) hx hb hts hiX6 hown hK hP 0 rfl rfl 19 (by decide +kernel) kf111 (fun _ h9 => h9) rfl dX6_next_395 ?_
                              refine lv_iconst (v := 1) hx hb dX6_next_398 (by decide +kernel) ?_
                              refine lv_iadd hx hb dX6_next_399 ?_
                              refine g_topi (y := nI ((g_X6_next_0 td ftp za) + 1)) (nI_add (g_X6_next_0 td ftp za) 1) ?_
                              refine va_put (D := G.1) (ci := 6) (v := .int (nI ((g_X6_next_0 td ftp za) + 1))) (ty := .int) (C := RX6) (T := TX6) (N := 42) hx hb hts hiX6 tyX6 tyX6_ok nmX6 hown hK hP hD hS 0 rfl rfl 19 (by decide +kernel) kf111 (fun _ h9 => h9) rfl (by decide +kernel) rfl rfl (Nat.le_of_ble_eq_true rfl) dX6_next_400 (fun H locs hP hD hS => ?_)
                              have hz9 : gPD G A [zo6 h0 (nI pb) kd mo st (nI jg) ro tp (nI td) cd sr (nI tx) (nI ru) him ir ih ss sq ce lw (nI ((g_X6_next_0 td ftp za) + 1)) (nI (g_X6_next_0 td ftp za)) (-1) 0 wo he s25 s26 s27 sk na kp s31 s32 s33 s34 gb go fa ga s39 s40 vo, zi G tp 160 ftp, zi G wo 96 fwo] H := ⟨hP, hD⟩
                              have hP := hz9.1
                              have hD := hz9.2
                              have q_66 : m_X6_next_h019 td ftp za = (g_X6_next_0 td ftp za) + 1 := by unfold m_X6_next_h019; rw [if_neg c_2, if_neg n_8, if_neg n_13]
                              have q_67 : m_X6_next_h020 td ftp za = nI (g_X6_next_0 td ftp za) := rfl
                              have q_68 : m_X6_next_h021 td ftp fwo za = -1 := by unfold m_X6_next_h021; rw [if_neg c_2, if_neg n_8, if_neg n_13, if_neg c_14, if_neg c_21, if_neg c_28, if_neg c_35, if_neg c_42, if_neg c_49, if_neg c_56, if_neg c_63]
                              have q_69 : m_X6_next_h022 td ftp fwo za = 0 := by unfold m_X6_next_h022; rw [if_neg c_2, if_neg n_8, if_neg n_13]
                              have hz9 : gPD G A [zo6 h0 (nI pb) kd mo st (nI jg) ro tp (nI td) cd sr (nI tx) (nI ru) him ir ih ss sq ce lw (nI (m_X6_next_h019 td ftp za)) (m_X6_next_h020 td ftp za) (m_X6_next_h021 td ftp fwo za) (m_X6_next_h022 td ftp fwo za) wo he s25 s26 s27 sk na kp s31 s32 s33 s34 gb go fa ga s39 s40 vo, zi G tp 160 ftp, zi G wo 96 fwo] H := ⟨by rw [q_66, q_67, q_68, q_69]; exact hP, by rw [q_66, q_67, q_68, q_69]; exact hD⟩
                              have hP9 := hz9.1
                              have hD9 := hz9.2
                              have hpost : (fun (u : Unit) => match u with | _ => za ≤ (m_X6_next_h019 td ftp za) ∧ (m_X6_next_h019 td ftp za) ≤ td ∧ (¬ (m_X6_next_h021 td ftp fwo za) = 0 → za < (m_X6_next_h019 td ftp za)) ∧ ((m_X6_next_h021 td ftp fwo za) = 2 → 0 ≤ (m_X6_next_h022 td ftp fwo za) ∧ (m_X6_next_h022 td ftp fwo za) < 6) ∧ ((m_X6_next_h021 td ftp fwo za) = 1 → 100000 ≤ 100000 + (m_X6_next_h022 td ftp fwo za))) () := nx_facts hza htd
                              exact W.vret hx hb hr (fun t ht hW => ⟨⟨(), rfl, hpost, by rw [ht]; exact hP9, va_K.moved hW.alike hK, hD9⟩, hS.F ht⟩) hS.2.2 dX6_next_403
                            · skip
                              refine lv_iconst (v := 1) hx hb dX6_next_374 (by decide +kernel) ?_
                              refine lv_goto (tgt := 379) hx hb dX6_next_375 (by decide +kernel) ?_
                              refine lv_istore_n (lv' := [zI 2 1, zI 1 (ftp (g_X6_next_0 td ftp za)), zR 0 h0]) hx hb dX6_next_379 rfl hl (by decide +kernel) rfl (fun ls hl => ?_)
                              refine lv_aload_n hx hb dX6_next_380 rfl (lv_at hl 2 rfl) ?_
                              refine lv_iload_n hx hb dX6_next_381 rfl (lv_at hl 0 rfl) ?_
                              refine lv_if_eq (tgt := 389) hx hb dX6_next_382 (by decide +kernel) (fun c_70 => ?_) (fun c_70 => ?_)
                              · exact absurd c_70 (by decide +kernel)
                              refine lv_iload_n hx hb dX6_next_385 rfl (lv_at hl 1 rfl) ?_
                              refine lv_goto (tgt := 390) hx hb dX6_next_386 (by decide +kernel) ?_
                              refine va_put (D := G.1) (ci := 6) (v := .int (ftp (g_X6_next_0 td ftp za))) (ty := .int) (C := RX6) (T := TX6) (N := 42) hx hb hts hiX6 tyX6 tyX6_ok nmX6 hown hK hP hD hS 0 rfl rfl 21 (by decide +kernel) kf117 (fun _ h9 => h9) rfl (by decide +kernel) rfl rfl (Nat.le_of_ble_eq_true rfl) dX6_next_390 (fun H locs hP hD hS => ?_)
                              have hz9 : gPD G A [zo6 h0 (nI pb) kd mo st (nI jg) ro tp (nI td) cd sr (nI tx) (nI ru) him ir ih ss sq ce lw (nI (g_X6_next_0 td ftp za)) (nI (g_X6_next_0 td ftp za)) (ftp (g_X6_next_0 td ftp za)) 0 wo he s25 s26 s27 sk na kp s31 s32 s33 s34 gb go fa ga s39 s40 vo, zi G tp 160 ftp, zi G wo 96 fwo] H := ⟨hP, hD⟩
                              have hP := hz9.1
                              have hD := hz9.2
                              refine lv_aload_n hx hb dX6_next_393 rfl (lv_at hl 2 rfl) ?_
                              refine lv_dup hx hb dX6_next_394 rfl ?_
                              refine va_get (D := G.1) (ci := 6) (v := .int (nI (g_X6_next_0 td ftp za))) (C := RX6) (T := TX6) (N := 42) hx hb hts hiX6 hown hK hP 0 rfl rfl 19 (by decide +kernel) kf111 (fun _ h9 => h9) rfl dX6_next_395 ?_
                              refine lv_iconst (v := 1) hx hb dX6_next_398 (by decide +kernel) ?_
                              refine lv_iadd hx hb dX6_next_399 ?_
                              refine g_topi (y := nI ((g_X6_next_0 td ftp za) + 1)) (nI_add (g_X6_next_0 td ftp za) 1) ?_
                              refine va_put (D := G.1) (ci := 6) (v := .int (nI ((g_X6_next_0 td ftp za) + 1))) (ty := .int) (C := RX6) (T := TX6) (N := 42) hx hb hts hiX6 tyX6 tyX6_ok nmX6 hown hK hP hD hS 0 rfl rfl 19 (by decide +kernel) kf111 (fun _ h9 => h9) rfl (by decide +kernel) rfl rfl (Nat.le_of_ble_eq_true rfl) dX6_next_400 (fun H locs hP hD hS => ?_)
                              have hz9 : gPD G A [zo6 h0 (nI pb) kd mo st (nI jg) ro tp (nI td) cd sr (nI tx) (nI ru) him ir ih ss sq ce lw (nI ((g_X6_next_0 td ftp za) + 1)) (nI (g_X6_next_0 td ftp za)) (ftp (g_X6_next_0 td ftp za)) 0 wo he s25 s26 s27 sk na kp s31 s32 s33 s34 gb go fa ga s39 s40 vo, zi G tp 160 ftp, zi G wo 96 fwo] H := ⟨hP, hD⟩
                              have hP := hz9.1
                              have hD := hz9.2
                              have q_72 : m_X6_next_h019 td ftp za = (g_X6_next_0 td ftp za) + 1 := by unfold m_X6_next_h019; rw [if_neg c_2, if_neg n_8, if_neg n_13]
                              have q_73 : m_X6_next_h020 td ftp za = nI (g_X6_next_0 td ftp za) := rfl
                              have q_74 : m_X6_next_h021 td ftp fwo za = ftp (g_X6_next_0 td ftp za) := by unfold m_X6_next_h021; rw [if_neg c_2, if_neg n_8, if_neg n_13, if_neg c_14, if_neg c_21, if_neg c_28, if_neg c_35, if_neg c_42, if_neg c_49, if_neg c_56, if_pos c_63]
                              have q_75 : m_X6_next_h022 td ftp fwo za = 0 := by unfold m_X6_next_h022; rw [if_neg c_2, if_neg n_8, if_neg n_13]
                              have hz9 : gPD G A [zo6 h0 (nI pb) kd mo st (nI jg) ro tp (nI td) cd sr (nI tx) (nI ru) him ir ih ss sq ce lw (nI (m_X6_next_h019 td ftp za)) (m_X6_next_h020 td ftp za) (m_X6_next_h021 td ftp fwo za) (m_X6_next_h022 td ftp fwo za) wo he s25 s26 s27 sk na kp s31 s32 s33 s34 gb go fa ga s39 s40 vo, zi G tp 160 ftp, zi G wo 96 fwo] H := ⟨by rw [q_72, q_73, q_74, q_75]; exact hP, by rw [q_72, q_73, q_74, q_75]; exact hD⟩
                              have hP9 := hz9.1
                              have hD9 := hz9.2
                              have hpost : (fun (u : Unit) => match u with | _ => za ≤ (m_X6_next_h019 td ftp za) ∧ (m_X6_next_h019 td ftp za) ≤ td ∧ (¬ (m_X6_next_h021 td ftp fwo za) = 0 → za < (m_X6_next_h019 td ftp za)) ∧ ((m_X6_next_h021 td ftp fwo za) = 2 → 0 ≤ (m_X6_next_h022 td ftp fwo za) ∧ (m_X6_next_h022 td ftp fwo za) < 6) ∧ ((m_X6_next_h021 td ftp fwo za) = 1 → 100000 ≤ 100000 + (m_X6_next_h022 td ftp fwo za))) () := nx_facts hza htd
                              exact W.vret hx hb hr (fun t ht hW => ⟨⟨(), rfl, hpost, by rw [ht]; exact hP9, va_K.moved hW.alike hK, hD9⟩, hS.F ht⟩) hS.2.2 dX6_next_403
            · skip
              have p_12 : 48 ≤ (ftp (g_X6_next_0 td ftp za)) ∧ (ftp (g_X6_next_0 td ftp za)) ≤ 57 := of_decide_eq_true (bz_ne rfl c_11)
              refine lv_iconst (v := 0) hx hb dX6_next_228 (by decide +kernel) ?_
              refine lv_istore_n (lv' := [zI 2 0, zI 1 (ftp (g_X6_next_0 td ftp za)), zR 0 h0]) hx hb dX6_next_229 rfl hl (by decide +kernel) rfl (fun ls hl => ?_)
              have loop_230 : ∀ (n9 : Nat) (a2 : Nat) (n2 : Nat) (z22v : Int32), (a2 ≤ td) → (p_X6_next_230 ftp (td - a2) a2 n2 z22v = (g_X6_next_230 td ftp za)) → (n2 ≤ a2) → (td - a2) < n9 → ∀ (H : Heap) (locs : List Loc), va_P G.1 vwCl [zo6 h0 (nI pb) kd mo st (nI jg) ro tp (nI td) cd sr (nI tx) (nI ru) him ir ih ss sq ce lw (nI a2) (nI (g_X6_next_0 td ftp za)) 0 z22v wo he s25 s26 s27 sk na kp s31 s32 s33 s34 gb go fa ga s39 s40 vo, zi G tp 160 ftp, zi G wo 96 fwo] H → va_D A [zo6 h0 (nI pb) kd mo st (nI jg) ro tp (nI td) cd sr (nI tx) (nI ru) him ir ih ss sq ce lw (nI a2) (nI (g_X6_next_0 td ftp za)) 0 z22v wo he s25 s26 s27 sk na kp s31 s32 s33 s34 gb go fa ga s39 s40 vo, zi G tp 160 ftp, zi G wo 96 fwo] → va_S A s.heap H locs → ∀ ls : Array Slot, lv_has ls 3 [zI 2 (nI n2), zI 1 (ftp (g_X6_next_0 td ftp za)), zR 0 h0] → W p l e (headSpec wsX6_next ({ frames := 1, cells := 0, slots := 0, locals := 25 })).room s m ([.ref h0] : List Value).toArray below meth c H locs 0 0 (MQ below (q_X6_next G h0 kd mo st ro tp cd sr ir ih ss sq ce lw wo he sk na kp gb go fa ga vo pb jg td tx ru him s20 s21 s22 s25 s26 s27 s31 s32 s33 s34 s39 s40 ftp fwo za A) ([.ref h0] : List Value).toArray s 0 0 A) (F0 m 230 ls []) := by
                intro n9
                induction n9 with
                | zero => intro a2 n2 z22v ha2 R230 hn2 hm9_230; exact absurd hm9_230 (Nat.not_lt_zero _)
                | succ n9 ih9_230 =>
                  intro a2 n2 z22v ha2 R230 hn2 hm9_230 H locs hP hD hS ls hl
                  refine g_aget (D := G.1) (ci := 6) (v := .int (nI a2)) (C := RX6) (T := TX6) (N := 42) hx hb dX6_next_230 rfl (lv_at hl 2 rfl) hts hiX6 hown hK hP 0 rfl rfl 19 (by decide +kernel) kf111 (fun _ h9 => h9) rfl dX6_next_231 ?_
                  refine g_aget (D := G.1) (ci := 6) (v := .int (nI td)) (C := RX6) (T := TX6) (N := 42) hx hb dX6_next_234 rfl (lv_at hl 2 rfl) hts hiX6 hown hK hP 0 rfl rfl 7 (by decide +kernel) kf80 (fun _ h9 => h9) rfl dX6_next_235 ?_
                  refine lv_icmp_ge (tgt := 309) hx hb dX6_next_238 (by decide +kernel) (fun c_76 => ?_) (fun c_76 => ?_)
                  · skip
                    have c_76N : td ≤ a2 := nI_le1 (a := td) (b := a2) (by omega) (by omega) c_76
                    have hF230 : (g_X6_next_230 td ftp za) = (a2, n2, z22v) := by rw [← R230, show td - a2 = 0 by omega]; rfl
                    have hE230_0 : a2 = ((g_X6_next_230 td ftp za).1) := by rw [hF230]
                    have hE230_1 : n2 = ((g_X6_next_230 td ftp za).2.1) := by rw [hF230]
                    have hE230_2 : z22v = ((g_X6_next_230 td ftp za).2.2) := by rw [hF230]
                    clear hF230 R230
                    subst hE230_0
                    subst hE230_1
                    subst hE230_2
                    refine lv_aload_n hx hb dX6_next_309 rfl (lv_at hl 2 rfl) ?_
                    refine lv_iload_n hx hb dX6_next_310 rfl (lv_at hl 0 rfl) ?_
                    refine lv_iconst (v := 4) hx hb dX6_next_311 (by decide +kernel) ?_
                    refine lv_icmp_le (tgt := 319) hx hb dX6_next_312 (by decide +kernel) (fun c_77 => ?_) (fun c_77 => ?_)
                    · skip
                      have c_77N : ((g_X6_next_230 td ftp za).2.1) ≤ 4 := nI_le1 (a := ((g_X6_next_230 td ftp za).2.1)) (b := 4) (by omega) (by omega) c_77
                      refine lv_iconst (v := 1) hx hb dX6_next_319 (by decide +kernel) ?_
                      refine va_put (D := G.1) (ci := 6) (v := .int 1) (ty := .int) (C := RX6) (T := TX6) (N := 42) hx hb hts hiX6 tyX6 tyX6_ok nmX6 hown hK hP hD hS 0 rfl rfl 21 (by decide +kernel) kf117 (fun _ h9 => h9) rfl (by decide +kernel) rfl rfl (Nat.le_of_ble_eq_true rfl) dX6_next_320 (fun H locs hP hD hS => ?_)
                      have hz9 : gPD G A [zo6 h0 (nI pb) kd mo st (nI jg) ro tp (nI td) cd sr (nI tx) (nI ru) him ir ih ss sq ce lw (nI ((g_X6_next_230 td ftp za).1)) (nI (g_X6_next_0 td ftp za)) 1 ((g_X6_next_230 td ftp za).2.2) wo he s25 s26 s27 sk na kp s31 s32 s33 s34 gb go fa ga s39 s40 vo, zi G tp 160 ftp, zi G wo 96 fwo] H := ⟨hP, hD⟩
                      have hP := hz9.1
                      have hD := hz9.2
                      refine lv_goto (tgt := 403) hx hb dX6_next_323 (by decide +kernel) ?_
                      have q_78 : m_X6_next_h019 td ftp za = (g_X6_next_230 td ftp za).1 := by unfold m_X6_next_h019; rw [if_neg c_2, if_neg n_8, if_pos p_12]
                      have q_79 : m_X6_next_h020 td ftp za = nI (g_X6_next_0 td ftp za) := rfl
                      have q_80 : m_X6_next_h021 td ftp fwo za = 1 := by unfold m_X6_next_h021; rw [if_neg c_2, if_neg n_8, if_pos p_12, if_pos c_77]
                      have q_81 : m_X6_next_h022 td ftp fwo za = ((g_X6_next_230 td ftp za).2.2) := by unfold m_X6_next_h022; rw [if_neg c_2, if_neg n_8, if_pos p_12]
                      have hz9 : gPD G A [zo6 h0 (nI pb) kd mo st (nI jg) ro tp (nI td) cd sr (nI tx) (nI ru) him ir ih ss sq ce lw (nI (m_X6_next_h019 td ftp za)) (m_X6_next_h020 td ftp za) (m_X6_next_h021 td ftp fwo za) (m_X6_next_h022 td ftp fwo za) wo he s25 s26 s27 sk na kp s31 s32 s33 s34 gb go fa ga s39 s40 vo, zi G tp 160 ftp, zi G wo 96 fwo] H := ⟨by rw [q_78, q_79, q_80, q_81]; exact hP, by rw [q_78, q_79, q_80, q_81]; exact hD⟩
                      have hP9 := hz9.1
                      have hD9 := hz9.2
                      have hpost : (fun (u : Unit) => match u with | _ => za ≤ (m_X6_next_h019 td ftp za) ∧ (m_X6_next_h019 td ftp za) ≤ td ∧ (¬ (m_X6_next_h021 td ftp fwo za) = 0 → za < (m_X6_next_h019 td ftp za)) ∧ ((m_X6_next_h021 td ftp fwo za) = 2 → 0 ≤ (m_X6_next_h022 td ftp fwo za) ∧ (m_X6_next_h022 td ftp fwo za) < 6) ∧ ((m_X6_next_h021 td ftp fwo za) = 1 → 100000 ≤ 100000 + (m_X6_next_h022 td ftp fwo za))) () := nx_facts hza htd
                      exact W.vret hx hb hr (fun t ht hW => ⟨⟨(), rfl, hpost, by rw [ht]; exact hP9, va_K.moved hW.alike hK, hD9⟩, hS.F ht⟩) hS.2.2 dX6_next_403
                    · skip
                      have c_77N : 4 < ((g_X6_next_230 td ftp za).2.1) := nI_le0 (a := ((g_X6_next_230 td ftp za).2.1)) (b := 4) (by omega) (by omega) c_77
                      refine lv_iconst (v := -1) hx hb dX6_next_315 (by decide +kernel) ?_
                      refine lv_goto (tgt := 320) hx hb dX6_next_316 (by decide +kernel) ?_
                      refine va_put (D := G.1) (ci := 6) (v := .int (-1)) (ty := .int) (C := RX6) (T := TX6) (N := 42) hx hb hts hiX6 tyX6 tyX6_ok nmX6 hown hK hP hD hS 0 rfl rfl 21 (by decide +kernel) kf117 (fun _ h9 => h9) rfl (by decide +kernel) rfl rfl (Nat.le_of_ble_eq_true rfl) dX6_next_320 (fun H locs hP hD hS => ?_)
                      have hz9 : gPD G A [zo6 h0 (nI pb) kd mo st (nI jg) ro tp (nI td) cd sr (nI tx) (nI ru) him ir ih ss sq ce lw (nI ((g_X6_next_230 td ftp za).1)) (nI (g_X6_next_0 td ftp za)) (-1) ((g_X6_next_230 td ftp za).2.2) wo he s25 s26 s27 sk na kp s31 s32 s33 s34 gb go fa ga s39 s40 vo, zi G tp 160 ftp, zi G wo 96 fwo] H := ⟨hP, hD⟩
                      have hP := hz9.1
                      have hD := hz9.2
                      refine lv_goto (tgt := 403) hx hb dX6_next_323 (by decide +kernel) ?_
                      have q_82 : m_X6_next_h019 td ftp za = (g_X6_next_230 td ftp za).1 := by unfold m_X6_next_h019; rw [if_neg c_2, if_neg n_8, if_pos p_12]
                      have q_83 : m_X6_next_h020 td ftp za = nI (g_X6_next_0 td ftp za) := rfl
                      have q_84 : m_X6_next_h021 td ftp fwo za = -1 := by unfold m_X6_next_h021; rw [if_neg c_2, if_neg n_8, if_pos p_12, if_neg c_77]
                      have q_85 : m_X6_next_h022 td ftp fwo za = ((g_X6_next_230 td ftp za).2.2) := by unfold m_X6_next_h022; rw [if_neg c_2, if_neg n_8, if_pos p_12]
                      have hz9 : gPD G A [zo6 h0 (nI pb) kd mo st (nI jg) ro tp (nI td) cd sr (nI tx) (nI ru) him ir ih ss sq ce lw (nI (m_X6_next_h019 td ftp za)) (m_X6_next_h020 td ftp za) (m_X6_next_h021 td ftp fwo za) (m_X6_next_h022 td ftp fwo za) wo he s25 s26 s27 sk na kp s31 s32 s33 s34 gb go fa ga s39 s40 vo, zi G tp 160 ftp, zi G wo 96 fwo] H := ⟨by rw [q_82, q_83, q_84, q_85]; exact hP, by rw [q_82, q_83, q_84, q_85]; exact hD⟩
                      have hP9 := hz9.1
                      have hD9 := hz9.2
                      have hpost : (fun (u : Unit) => match u with | _ => za ≤ (m_X6_next_h019 td ftp za) ∧ (m_X6_next_h019 td ftp za) ≤ td ∧ (¬ (m_X6_next_h021 td ftp fwo za) = 0 → za < (m_X6_next_h019 td ftp za)) ∧ ((m_X6_next_h021 td ftp fwo za) = 2 → 0 ≤ (m_X6_next_h022 td ftp fwo za) ∧ (m_X6_next_h022 td ftp fwo za) < 6) ∧ ((m_X6_next_h021 td ftp fwo za) = 1 → 100000 ≤ 100000 + (m_X6_next_h022 td ftp fwo za))) () := nx_facts hza htd
                      exact W.vret hx hb hr (fun t ht hW => ⟨⟨(), rfl, hpost, by rw [ht]; exact hP9, va_K.moved hW.alike hK, hD9⟩, hS.F ht⟩) hS.2.2 dX6_next_403
                  · skip
                    have c_76N : a2 < td := nI_le0 (a := td) (b := a2) (by omega) (by omega) c_76
                    refine g_aget (D := G.1) (ci := 6) (v := .ref tp) (C := RX6) (T := TX6) (N := 42) hx hb dX6_next_241 rfl (lv_at hl 2 rfl) hts hiX6 hown hK hP 0 rfl rfl 6 (by decide +kernel) kf22 (fun _ h9 => h9) rfl dX6_next_242 ?_
                    refine g_aget (D := G.1) (ci := 6) (v := .int (nI a2)) (C := RX6) (T := TX6) (N := 42) hx hb dX6_next_245 rfl (lv_at hl 2 rfl) hts hiX6 hown hK hP 0 rfl rfl 19 (by decide +kernel) kf111 (fun _ h9 => h9) rfl dX6_next_246 ?_
                    refine g_iald (D := G.1) hx hb hK hP 1 0 rfl rfl (k := a2) (y := ftp a2) (by omega) rfl rfl dX6_next_249 ?_
                    refine lv_bipush (v := 48) hx hb dX6_next_250 (by decide +kernel) ?_
                    refine lv_bipush (v := 57) hx hb dX6_next_252 (by decide +kernel) ?_
                    refine z_calli [] (v := bz (decide (48 ≤ (ftp a2) ∧ (ftp a2) ≤ 57))) (fun _ _ h => h) (va_runS (As := [.int (ftp a2), .int 48, .int 57]) (rest := []) ⟨hx, hb, hml, hown, hts⟩ (c_X6_in l G (ftp a2) 48 57 H.size) (va_cwS 3 hts gX6_next_X6_in rfl rfl rfl (by decide +kernel) ⟨Nat.le_of_ble_eq_true rfl, Nat.le_of_ble_eq_true rfl⟩) ⟨gPre_blind, fun U hU hW => gPre_ofF [] hU hW hK hP hD (by decide +kernel) rfl⟩ rfl rfl hl.1 rfl (lv_room (Nat.le_of_ble_eq_true rfl)) dX6_next_254 ⟨Nat.le_of_ble_eq_true rfl, Nat.le_of_ble_eq_true rfl⟩) hS hD hA rfl (fun u t H locs ht hvm hB hz1 hk1 hFq hAq hS => ?_)
                    obtain ⟨hP1, hK1, hD1⟩ := hB
                    have hP := zKeep hP hD [] hAq hk1 ht hP1 rfl
                    refine lv_if_eq (tgt := 309) hx hb dX6_next_257 (by decide +kernel) (fun c_89 => ?_) (fun c_89 => ?_)
                    · skip
                      have n_91 : ¬ (48 ≤ (ftp a2) ∧ (ftp a2) ≤ 57) := of_decide_eq_false (bz_eq rfl c_89)
                      have hF230 : (g_X6_next_230 td ftp za) = (a2, n2, z22v) := R230.symm.trans ((congrArg (fun z9 => p_X6_next_230 ftp (z9) a2 n2 z22v) (show td - a2 = td - (a2 + 1) + 1 by omega)).trans (by show p_X6_next_230 ftp (td - (a2 + 1) + 1) a2 n2 z22v = _; rw [p_X6_next_230, if_neg n_91]))
                      have hE230_0 : a2 = ((g_X6_next_230 td ftp za).1) := by rw [hF230]
                      have hE230_1 : n2 = ((g_X6_next_230 td ftp za).2.1) := by rw [hF230]
                      have hE230_2 : z22v = ((g_X6_next_230 td ftp za).2.2) := by rw [hF230]
                      clear hF230 R230
                      subst hE230_0
                      subst hE230_1
                      subst hE230_2
                      refine lv_aload_n hx hb dX6_next_309 rfl (lv_at hl 2 rfl) ?_
                      refine lv_iload_n hx hb dX6_next_310 rfl (lv_at hl 0 rfl) ?_
                      refine lv_iconst (v := 4) hx hb dX6_next_311 (by decide +kernel) ?_
                      refine lv_icmp_le (tgt := 319) hx hb dX6_next_312 (by decide +kernel) (fun c_92 => ?_) (fun c_92 => ?_)
                      · skip
                        have c_92N : ((g_X6_next_230 td ftp za).2.1) ≤ 4 := nI_le1 (a := ((g_X6_next_230 td ftp za).2.1)) (b := 4) (by omega) (by omega) c_92
                        refine lv_iconst (v := 1) hx hb dX6_next_319 (by decide +kernel) ?_
                        refine va_put (D := G.1) (ci := 6) (v := .int 1) (ty := .int) (C := RX6) (T := TX6) (N := 42) hx hb hts hiX6 tyX6 tyX6_ok nmX6 hown hK hP hD hS 0 rfl rfl 21 (by decide +kernel) kf117 (fun _ h9 => h9) rfl (by decide +kernel) rfl rfl (Nat.le_of_ble_eq_true rfl) dX6_next_320 (fun H locs hP hD hS => ?_)
                        have hz9 : gPD G A [zo6 h0 (nI pb) kd mo st (nI jg) ro tp (nI td) cd sr (nI tx) (nI ru) him ir ih ss sq ce lw (nI ((g_X6_next_230 td ftp za).1)) (nI (g_X6_next_0 td ftp za)) 1 ((g_X6_next_230 td ftp za).2.2) wo he s25 s26 s27 sk na kp s31 s32 s33 s34 gb go fa ga s39 s40 vo, zi G tp 160 ftp, zi G wo 96 fwo] H := ⟨hP, hD⟩
                        have hP := hz9.1
                        have hD := hz9.2
                        refine lv_goto (tgt := 403) hx hb dX6_next_323 (by decide +kernel) ?_
                        have q_93 : m_X6_next_h019 td ftp za = (g_X6_next_230 td ftp za).1 := by unfold m_X6_next_h019; rw [if_neg c_2, if_neg n_8, if_pos p_12]
                        have q_94 : m_X6_next_h020 td ftp za = nI (g_X6_next_0 td ftp za) := rfl
                        have q_95 : m_X6_next_h021 td ftp fwo za = 1 := by unfold m_X6_next_h021; rw [if_neg c_2, if_neg n_8, if_pos p_12, if_pos c_92]
                        have q_96 : m_X6_next_h022 td ftp fwo za = ((g_X6_next_230 td ftp za).2.2) := by unfold m_X6_next_h022; rw [if_neg c_2, if_neg n_8, if_pos p_12]
                        have hz9 : gPD G A [zo6 h0 (nI pb) kd mo st (nI jg) ro tp (nI td) cd sr (nI tx) (nI ru) him ir ih ss sq ce lw (nI (m_X6_next_h019 td ftp za)) (m_X6_next_h020 td ftp za) (m_X6_next_h021 td ftp fwo za) (m_X6_next_h022 td ftp fwo za) wo he s25 s26 s27 sk na kp s31 s32 s33 s34 gb go fa ga s39 s40 vo, zi G tp 160 ftp, zi G wo 96 fwo] H := ⟨by rw [q_93, q_94, q_95, q_96]; exact hP, by rw [q_93, q_94, q_95, q_96]; exact hD⟩
                        have hP9 := hz9.1
                        have hD9 := hz9.2
                        have hpost : (fun (u : Unit) => match u with | _ => za ≤ (m_X6_next_h019 td ftp za) ∧ (m_X6_next_h019 td ftp za) ≤ td ∧ (¬ (m_X6_next_h021 td ftp fwo za) = 0 → za < (m_X6_next_h019 td ftp za)) ∧ ((m_X6_next_h021 td ftp fwo za) = 2 → 0 ≤ (m_X6_next_h022 td ftp fwo za) ∧ (m_X6_next_h022 td ftp fwo za) < 6) ∧ ((m_X6_next_h021 td ftp fwo za) = 1 → 100000 ≤ 100000 + (m_X6_next_h022 td ftp fwo za))) () := nx_facts hza htd
                        exact W.vret hx hb hr (fun t ht hW => ⟨⟨(), rfl, hpost, by rw [ht]; exact hP9, va_K.moved hW.alike hK, hD9⟩, hS.F ht⟩) hS.2.2 dX6_next_403
                      · skip
                        have c_92N : 4 < ((g_X6_next_230 td ftp za).2.1) := nI_le0 (a := ((g_X6_next_230 td ftp za).2.1)) (b := 4) (by omega) (by omega) c_92
                        refine lv_iconst (v := -1) hx hb dX6_next_315 (by decide +kernel) ?_
                        refine lv_goto (tgt := 320) hx hb dX6_next_316 (by decide +kernel) ?_
                        refine va_put (D := G.1) (ci := 6) (v := .int (-1)) (ty := .int) (C := RX6) (T := TX6) (N := 42) hx hb hts hiX6 tyX6 tyX6_ok nmX6 hown hK hP hD hS 0 rfl rfl 21 (by decide +kernel) kf117 (fun _ h9 => h9) rfl (by decide +kernel) rfl rfl (Nat.le_of_ble_eq_true rfl) dX6_next_320 (fun H locs hP hD hS => ?_)
                        have hz9 : gPD G A [zo6 h0 (nI pb) kd mo st (nI jg) ro tp (nI td) cd sr (nI tx) (nI ru) him ir ih ss sq ce lw (nI ((g_X6_next_230 td ftp za).1)) (nI (g_X6_next_0 td ftp za)) (-1) ((g_X6_next_230 td ftp za).2.2) wo he s25 s26 s27 sk na kp s31 s32 s33 s34 gb go fa ga s39 s40 vo, zi G tp 160 ftp, zi G wo 96 fwo] H := ⟨hP, hD⟩
                        have hP := hz9.1
                        have hD := hz9.2
                        refine lv_goto (tgt := 403) hx hb dX6_next_323 (by decide +kernel) ?_
                        have q_97 : m_X6_next_h019 td ftp za = (g_X6_next_230 td ftp za).1 := by unfold m_X6_next_h019; rw [if_neg c_2, if_neg n_8, if_pos p_12]
                        have q_98 : m_X6_next_h020 td ftp za = nI (g_X6_next_0 td ftp za) := rfl
                        have q_99 : m_X6_next_h021 td ftp fwo za = -1 := by unfold m_X6_next_h021; rw [if_neg c_2, if_neg n_8, if_pos p_12, if_neg c_92]
                        have q_100 : m_X6_next_h022 td ftp fwo za = ((g_X6_next_230 td ftp za).2.2) := by unfold m_X6_next_h022; rw [if_neg c_2, if_neg n_8, if_pos p_12]
                        have hz9 : gPD G A [zo6 h0 (nI pb) kd mo st (nI jg) ro tp (nI td) cd sr (nI tx) (nI ru) him ir ih ss sq ce lw (nI (m_X6_next_h019 td ftp za)) (m_X6_next_h020 td ftp za) (m_X6_next_h021 td ftp fwo za) (m_X6_next_h022 td ftp fwo za) wo he s25 s26 s27 sk na kp s31 s32 s33 s34 gb go fa ga s39 s40 vo, zi G tp 160 ftp, zi G wo 96 fwo] H := ⟨by rw [q_97, q_98, q_99, q_100]; exact hP, by rw [q_97, q_98, q_99, q_100]; exact hD⟩
                        have hP9 := hz9.1
                        have hD9 := hz9.2
                        have hpost : (fun (u : Unit) => match u with | _ => za ≤ (m_X6_next_h019 td ftp za) ∧ (m_X6_next_h019 td ftp za) ≤ td ∧ (¬ (m_X6_next_h021 td ftp fwo za) = 0 → za < (m_X6_next_h019 td ftp za)) ∧ ((m_X6_next_h021 td ftp fwo za) = 2 → 0 ≤ (m_X6_next_h022 td ftp fwo za) ∧ (m_X6_next_h022 td ftp fwo za) < 6) ∧ ((m_X6_next_h021 td ftp fwo za) = 1 → 100000 ≤ 100000 + (m_X6_next_h022 td ftp fwo za))) () := nx_facts hza htd
                        exact W.vret hx hb hr (fun t ht hW => ⟨⟨(), rfl, hpost, by rw [ht]; exact hP9, va_K.moved hW.alike hK, hD9⟩, hS.F ht⟩) hS.2.2 dX6_next_403
                    · skip
                      have p_90 : 48 ≤ (ftp a2) ∧ (ftp a2) ≤ 57 := of_decide_eq_true (bz_ne rfl c_89)
                      refine lv_aload_n hx hb dX6_next_260 rfl (lv_at hl 2 rfl) ?_
                      refine lv_iload_n hx hb dX6_next_261 rfl (lv_at hl 0 rfl) ?_
                      refine lv_iconst (v := 4) hx hb dX6_next_262 (by decide +kernel) ?_
                      refine lv_icmp_ge (tgt := 289) hx hb dX6_next_263 (by decide +kernel) (fun c_101 => ?_) (fun c_101 => ?_)
                      · skip
                        have c_101N : 4 ≤ n2 := nI_le1 (a := 4) (b := n2) (by omega) (by omega) c_101
                        refine lv_iconst (v := 0) hx hb dX6_next_289 (by decide +kernel) ?_
                        refine va_put (D := G.1) (ci := 6) (v := .int 0) (ty := .int) (C := RX6) (T := TX6) (N := 42) hx hb hts hiX6 tyX6 tyX6_ok nmX6 hown hK hP hD hS 0 rfl rfl 22 (by decide +kernel) kf120 (fun _ h9 => h9) rfl (by decide +kernel) rfl rfl (Nat.le_of_ble_eq_true rfl) dX6_next_290 (fun H locs hP hD hS => ?_)
                        have hz9 : gPD G A [zo6 h0 (nI pb) kd mo st (nI jg) ro tp (nI td) cd sr (nI tx) (nI ru) him ir ih ss sq ce lw (nI a2) (nI (g_X6_next_0 td ftp za)) 0 0 wo he s25 s26 s27 sk na kp s31 s32 s33 s34 gb go fa ga s39 s40 vo, zi G tp 160 ftp, zi G wo 96 fwo] H := ⟨hP, hD⟩
                        have hP := hz9.1
                        have hD := hz9.2
                        refine lv_iinc (v := nI (n2 + 1)) (lv' := [zI 2 (nI (n2 + 1)), zI 1 (ftp (g_X6_next_0 td ftp za)), zR 0 h0]) hx hb dX6_next_293 hl (k := 0) rfl (nI_add n2 1) (by decide +kernel) rfl (fun ls hl => ?_)
                        refine lv_aload_n hx hb dX6_next_296 rfl (lv_at hl 2 rfl) ?_
                        refine lv_dup hx hb dX6_next_297 rfl ?_
                        refine va_get (D := G.1) (ci := 6) (v := .int (nI a2)) (C := RX6) (T := TX6) (N := 42) hx hb hts hiX6 hown hK hP 0 rfl rfl 19 (by decide +kernel) kf111 (fun _ h9 => h9) rfl dX6_next_298 ?_
                        refine lv_iconst (v := 1) hx hb dX6_next_301 (by decide +kernel) ?_
                        refine lv_iadd hx hb dX6_next_302 ?_
                        refine g_topi (y := nI (a2 + 1)) (nI_add a2 1) ?_
                        refine va_put (D := G.1) (ci := 6) (v := .int (nI (a2 + 1))) (ty := .int) (C := RX6) (T := TX6) (N := 42) hx hb hts hiX6 tyX6 tyX6_ok nmX6 hown hK hP hD hS 0 rfl rfl 19 (by decide +kernel) kf111 (fun _ h9 => h9) rfl (by decide +kernel) rfl rfl (Nat.le_of_ble_eq_true rfl) dX6_next_303 (fun H locs hP hD hS => ?_)
                        have hz9 : gPD G A [zo6 h0 (nI pb) kd mo st (nI jg) ro tp (nI td) cd sr (nI tx) (nI ru) him ir ih ss sq ce lw (nI (a2 + 1)) (nI (g_X6_next_0 td ftp za)) 0 0 wo he s25 s26 s27 sk na kp s31 s32 s33 s34 gb go fa ga s39 s40 vo, zi G tp 160 ftp, zi G wo 96 fwo] H := ⟨hP, hD⟩
                        have hP := hz9.1
                        have hD := hz9.2
                        refine lv_goto (tgt := 230) hx hb dX6_next_306 (by decide +kernel) ?_
                        exact ih9_230 (a2 + 1) (n2 + 1) 0 (by omega) (Eq.trans (Eq.symm ((congrArg (fun z9 => p_X6_next_230 ftp (z9) a2 n2 z22v) (show td - a2 = td - (a2 + 1) + 1 by omega)).trans (by show p_X6_next_230 ftp (td - (a2 + 1) + 1) a2 n2 z22v = _; rw [p_X6_next_230, if_pos p_90, if_pos c_101]))) R230) (by omega) (by omega) _ _ hP hD hS ls hl
                      · skip
                        have c_101N : n2 < 4 := nI_le0 (a := 4) (b := n2) (by omega) (by omega) c_101
                        refine lv_bipush (v := 10) hx hb dX6_next_266 (by decide +kernel) ?_
                        refine g_aget (D := G.1) (ci := 6) (v := .int z22v) (C := RX6) (T := TX6) (N := 42) hx hb dX6_next_268 rfl (lv_at hl 2 rfl) hts hiX6 hown hK hP 0 rfl rfl 22 (by decide +kernel) kf120 (fun _ h9 => h9) rfl dX6_next_269 ?_
                        refine lv_imul hx hb dX6_next_272 ?_
                        refine g_aget (D := G.1) (ci := 6) (v := .ref tp) (C := RX6) (T := TX6) (N := 42) hx hb dX6_next_273 rfl (lv_at hl 2 rfl) hts hiX6 hown hK hP 0 rfl rfl 6 (by decide +kernel) kf22 (fun _ h9 => h9) rfl dX6_next_274 ?_
                        refine g_aget (D := G.1) (ci := 6) (v := .int (nI a2)) (C := RX6) (T := TX6) (N := 42) hx hb dX6_next_277 rfl (lv_at hl 2 rfl) hts hiX6 hown hK hP 0 rfl rfl 19 (by decide +kernel) kf111 (fun _ h9 => h9) rfl dX6_next_278 ?_
                        refine g_iald (D := G.1) hx hb hK hP 1 0 rfl rfl (k := a2) (y := ftp a2) (by omega) rfl rfl dX6_next_281 ?_
                        refine lv_iadd hx hb dX6_next_282 ?_
                        refine lv_bipush (v := 48) hx hb dX6_next_283 (by decide +kernel) ?_
                        refine lv_isub hx hb dX6_next_285 ?_
                        refine lv_goto (tgt := 290) hx hb dX6_next_286 (by decide +kernel) ?_
                        refine va_put (D := G.1) (ci := 6) (v := .int (((10 * z22v) + (ftp a2)) - 48)) (ty := .int) (C := RX6) (T := TX6) (N := 42) hx hb hts hiX6 tyX6 tyX6_ok nmX6 hown hK hP hD hS 0 rfl rfl 22 (by decide +kernel) kf120 (fun _ h9 => h9) rfl (by decide +kernel) rfl rfl (Nat.le_of_ble_eq_true rfl) dX6_next_290 (fun H locs hP hD hS => ?_)
                        have hz9 : gPD G A [zo6 h0 (nI pb) kd mo st (nI jg) ro tp (nI td) cd sr (nI tx) (nI ru) him ir ih ss sq ce lw (nI a2) (nI (g_X6_next_0 td ftp za)) 0 (((10 * z22v) + (ftp a2)) - 48) wo he s25 s26 s27 sk na kp s31 s32 s33 s34 gb go fa ga s39 s40 vo, zi G tp 160 ftp, zi G wo 96 fwo] H := ⟨hP, hD⟩
                        have hP := hz9.1
                        have hD := hz9.2
                        refine lv_iinc (v := nI (n2 + 1)) (lv' := [zI 2 (nI (n2 + 1)), zI 1 (ftp (g_X6_next_0 td ftp za)), zR 0 h0]) hx hb dX6_next_293 hl (k := 0) rfl (nI_add n2 1) (by decide +kernel) rfl (fun ls hl => ?_)
                        refine lv_aload_n hx hb dX6_next_296 rfl (lv_at hl 2 rfl) ?_
                        refine lv_dup hx hb dX6_next_297 rfl ?_
                        refine va_get (D := G.1) (ci := 6) (v := .int (nI a2)) (C := RX6) (T := TX6) (N := 42) hx hb hts hiX6 hown hK hP 0 rfl rfl 19 (by decide +kernel) kf111 (fun _ h9 => h9) rfl dX6_next_298 ?_
                        refine lv_iconst (v := 1) hx hb dX6_next_301 (by decide +kernel) ?_
                        refine lv_iadd hx hb dX6_next_302 ?_
                        refine g_topi (y := nI (a2 + 1)) (nI_add a2 1) ?_
                        refine va_put (D := G.1) (ci := 6) (v := .int (nI (a2 + 1))) (ty := .int) (C := RX6) (T := TX6) (N := 42) hx hb hts hiX6 tyX6 tyX6_ok nmX6 hown hK hP hD hS 0 rfl rfl 19 (by decide +kernel) kf111 (fun _ h9 => h9) rfl (by decide +kernel) rfl rfl (Nat.le_of_ble_eq_true rfl) dX6_next_303 (fun H locs hP hD hS => ?_)
                        have hz9 : gPD G A [zo6 h0 (nI pb) kd mo st (nI jg) ro tp (nI td) cd sr (nI tx) (nI ru) him ir ih ss sq ce lw (nI (a2 + 1)) (nI (g_X6_next_0 td ftp za)) 0 (((10 * z22v) + (ftp a2)) - 48) wo he s25 s26 s27 sk na kp s31 s32 s33 s34 gb go fa ga s39 s40 vo, zi G tp 160 ftp, zi G wo 96 fwo] H := ⟨hP, hD⟩
                        have hP := hz9.1
                        have hD := hz9.2
                        refine lv_goto (tgt := 230) hx hb dX6_next_306 (by decide +kernel) ?_
                        exact ih9_230 (a2 + 1) (n2 + 1) (((10 * z22v) + (ftp a2)) - 48) (by omega) (Eq.trans (Eq.symm ((congrArg (fun z9 => p_X6_next_230 ftp (z9) a2 n2 z22v) (show td - a2 = td - (a2 + 1) + 1 by omega)).trans (by show p_X6_next_230 ftp (td - (a2 + 1) + 1) a2 n2 z22v = _; rw [p_X6_next_230, if_pos p_90, if_neg c_101]))) R230) (by omega) (by omega) _ _ hP hD hS ls hl
              exact loop_230 (td - (g_X6_next_0 td ftp za) + 1) (g_X6_next_0 td ftp za) 0 0 (by omega) (rfl) (Nat.zero_le _) (by omega) _ _ hP hD hS ls hl
          · skip
            have p_7 : 97 ≤ (ftp (g_X6_next_0 td ftp za)) ∧ (ftp (g_X6_next_0 td ftp za)) ≤ 122 := of_decide_eq_true (bz_ne rfl c_6)
            have loop_103 : ∀ (n9 : Nat) (a1 : Nat), (a1 ≤ td) → (p_X6_next_103 ftp (td - a1) a1  = (g_X6_next_103 td ftp za)) → (td - a1) < n9 → ∀ (H : Heap) (locs : List Loc), va_P G.1 vwCl [zo6 h0 (nI pb) kd mo st (nI jg) ro tp (nI td) cd sr (nI tx) (nI ru) him ir ih ss sq ce lw (nI a1) (nI (g_X6_next_0 td ftp za)) 0 0 wo he s25 s26 s27 sk na kp s31 s32 s33 s34 gb go fa ga s39 s40 vo, zi G tp 160 ftp, zi G wo 96 fwo] H → va_D A [zo6 h0 (nI pb) kd mo st (nI jg) ro tp (nI td) cd sr (nI tx) (nI ru) him ir ih ss sq ce lw (nI a1) (nI (g_X6_next_0 td ftp za)) 0 0 wo he s25 s26 s27 sk na kp s31 s32 s33 s34 gb go fa ga s39 s40 vo, zi G tp 160 ftp, zi G wo 96 fwo] → va_S A s.heap H locs → ∀ ls : Array Slot, lv_has ls 3 [zI 1 (ftp (g_X6_next_0 td ftp za)), zR 0 h0] → W p l e (headSpec wsX6_next ({ frames := 1, cells := 0, slots := 0, locals := 25 })).room s m ([.ref h0] : List Value).toArray below meth c H locs 0 0 (MQ below (q_X6_next G h0 kd mo st ro tp cd sr ir ih ss sq ce lw wo he sk na kp gb go fa ga vo pb jg td tx ru him s20 s21 s22 s25 s26 s27 s31 s32 s33 s34 s39 s40 ftp fwo za A) ([.ref h0] : List Value).toArray s 0 0 A) (F0 m 103 ls []) := by
              intro n9
              induction n9 with
              | zero => intro a1 ha1 R103 hm9_103; exact absurd hm9_103 (Nat.not_lt_zero _)
              | succ n9 ih9_103 =>
                intro a1 ha1 R103 hm9_103 H locs hP hD hS ls hl
                refine g_aget (D := G.1) (ci := 6) (v := .int (nI a1)) (C := RX6) (T := TX6) (N := 42) hx hb dX6_next_103 rfl (lv_at hl 1 rfl) hts hiX6 hown hK hP 0 rfl rfl 19 (by decide +kernel) kf111 (fun _ h9 => h9) rfl dX6_next_104 ?_
                refine g_aget (D := G.1) (ci := 6) (v := .int (nI td)) (C := RX6) (T := TX6) (N := 42) hx hb dX6_next_107 rfl (lv_at hl 1 rfl) hts hiX6 hown hK hP 0 rfl rfl 7 (by decide +kernel) kf80 (fun _ h9 => h9) rfl dX6_next_108 ?_
                refine lv_icmp_ge (tgt := 146) hx hb dX6_next_111 (by decide +kernel) (fun c_105 => ?_) (fun c_105 => ?_)
                · skip
                  have c_105N : td ≤ a1 := nI_le1 (a := td) (b := a1) (by omega) (by omega) c_105
                  have hF103 : (g_X6_next_103 td ftp za) = a1 := by rw [← R103, show td - a1 = 0 by omega]; rfl
                  have hE103_0 : a1 = (g_X6_next_103 td ftp za) := by rw [hF103]
                  clear hF103 R103
                  subst hE103_0
                  refine lv_aload_n hx hb dX6_next_146 rfl (lv_at hl 1 rfl) ?_
                  refine g_aget (D := G.1) (ci := 6) (v := .int (nI (g_X6_next_0 td ftp za))) (C := RX6) (T := TX6) (N := 42) hx hb dX6_next_147 rfl (lv_at hl 1 rfl) hts hiX6 hown hK hP 0 rfl rfl 20 (by decide +kernel) kf114 (fun _ h9 => h9) rfl dX6_next_148 ?_
                  refine g_aget (D := G.1) (ci := 6) (v := .int (nI (g_X6_next_103 td ftp za))) (C := RX6) (T := TX6) (N := 42) hx hb dX6_next_151 rfl (lv_at hl 1 rfl) hts hiX6 hown hK hP 0 rfl rfl 19 (by decide +kernel) kf111 (fun _ h9 => h9) rfl dX6_next_152 ?_
                  refine z_calli [0, 1, 2] (v := m_X6_wordFrom ftp fwo (g_X6_next_0 td ftp za) (g_X6_next_103 td ftp za)) (fun _ _ h => h) (va_runV (As := [.int (nI (g_X6_next_0 td ftp za)), .int (nI (g_X6_next_103 td ftp za))]) (rest := []) ⟨hx, hb, hml, hown, hts⟩ (c_X6_wordFrom l G h0 kd mo st ro tp cd sr ir ih ss sq ce lw wo he sk na kp gb go fa ga vo pb jg td tx ru him (nI (g_X6_next_103 td ftp za)) (nI (g_X6_next_0 td ftp za)) 0 0 s25 s26 s27 s31 s32 s33 s34 s39 s40 ftp fwo (g_X6_next_0 td ftp za) (g_X6_next_103 td ftp za) H.size (⟨(n1_le (ftp := ftp) (td - g_X6_next_0 td ftp za) (g_X6_next_0 td ftp za)).1, by omega⟩)) (cwV 2 hts gX6_next_X6_wordFrom rfl rfl rfl (by decide +kernel) ⟨Nat.le_of_ble_eq_true rfl, Nat.le_of_ble_eq_true rfl⟩) ⟨gPre_blind, va_recv (q := (RX6, TX6, 42)) hK hP (ci := 6) (q0 := 0) rfl rfl, fun U hU hW => gPre_of hU hW hK hP hD⟩ rfl rfl hl.1 rfl (lv_room (Nat.le_of_ble_eq_true rfl)) dX6_next_155 ⟨Nat.le_of_ble_eq_true rfl, Nat.le_of_ble_eq_true rfl⟩) hS hD hA rfl (fun u t H locs ht hvm hB hz1 hk1 hFq hAq hS => ?_)
                  obtain ⟨hP1, hK1, hD1⟩ := hB
                  have hP := zKeep hP hD [0, 1, 2] hAq hk1 ht hP1 rfl
                  refine lv_istore_n (lv' := [zI 2 (m_X6_wordFrom ftp fwo (g_X6_next_0 td ftp za) (g_X6_next_103 td ftp za)), zI 1 (ftp (g_X6_next_0 td ftp za)), zR 0 h0]) hx hb dX6_next_158 rfl hl (by decide +kernel) rfl (fun ls hl => ?_)
                  refine lv_aload_n hx hb dX6_next_159 rfl (lv_at hl 2 rfl) ?_
                  refine lv_iload_n hx hb dX6_next_160 rfl (lv_at hl 0 rfl) ?_
                  refine lv_iconst (v := 3) hx hb dX6_next_161 (by decide +kernel) ?_
                  refine lv_icmp_ge (tgt := 169) hx hb dX6_next_162 (by decide +kernel) (fun c_108 => ?_) (fun c_108 => ?_)
                  · skip
                    refine lv_iload_n hx hb dX6_next_169 rfl (lv_at hl 0 rfl) ?_
                    refine lv_bipush (v := 9) hx hb dX6_next_170 (by decide +kernel) ?_
                    refine lv_icmp_ge (tgt := 179) hx hb dX6_next_172 (by decide +kernel) (fun c_109 => ?_) (fun c_109 => ?_)
                    · skip
                      refine lv_iload_n hx hb dX6_next_179 rfl (lv_at hl 0 rfl) ?_
                      refine lv_bipush (v := 12) hx hb dX6_next_180 (by decide +kernel) ?_
                      refine lv_icmp_ne (tgt := 189) hx hb dX6_next_182 (by decide +kernel) (fun c_110 => ?_) (fun c_110 => ?_)
                      · skip
                        refine lv_iconst (v := 4) hx hb dX6_next_189 (by decide +kernel) ?_
                        refine lv_iload_n hx hb dX6_next_190 rfl (lv_at hl 0 rfl) ?_
                        refine lv_iadd hx hb dX6_next_191 ?_
                        refine lv_bipush (v := 9) hx hb dX6_next_192 (by decide +kernel) ?_
                        refine lv_isub hx hb dX6_next_194 ?_
                        refine va_put (D := G.1) (ci := 6) (v := .int ((4 + (m_X6_wordFrom ftp fwo (g_X6_next_0 td ftp za) (g_X6_next_103 td ftp za))) - 9)) (ty := .int) (C := RX6) (T := TX6) (N := 42) hx hb hts hiX6 tyX6 tyX6_ok nmX6 hown hK hP hD hS 0 rfl rfl 21 (by decide +kernel) kf117 (fun _ h9 => h9) rfl (by decide +kernel) rfl rfl (Nat.le_of_ble_eq_true rfl) dX6_next_195 (fun H locs hP hD hS => ?_)
                        have hz9 : gPD G A [zo6 h0 (nI pb) kd mo st (nI jg) ro tp (nI td) cd sr (nI tx) (nI ru) him ir ih ss sq ce lw (nI (g_X6_next_103 td ftp za)) (nI (g_X6_next_0 td ftp za)) ((4 + (m_X6_wordFrom ftp fwo (g_X6_next_0 td ftp za) (g_X6_next_103 td ftp za))) - 9) 0 wo he s25 s26 s27 sk na kp s31 s32 s33 s34 gb go fa ga s39 s40 vo, zi G tp 160 ftp, zi G wo 96 fwo] H := ⟨hP, hD⟩
                        have hP := hz9.1
                        have hD := hz9.2
                        refine lv_aload_n hx hb dX6_next_198 rfl (lv_at hl 2 rfl) ?_
                        refine lv_iload_n hx hb dX6_next_199 rfl (lv_at hl 0 rfl) ?_
                        refine lv_iconst (v := 3) hx hb dX6_next_200 (by decide +kernel) ?_
                        refine lv_icmp_ge (tgt := 208) hx hb dX6_next_201 (by decide +kernel) (fun c_111 => ?_) (fun c_111 => ?_)
                        rotate_left
                        · exact absurd (c_108) c_111
                        refine lv_iload_n hx hb dX6_next_208 rfl (lv_at hl 0 rfl) ?_
                        refine lv_iconst (v := 3) hx hb dX6_next_209 (by decide +kernel) ?_
                        refine lv_isub hx hb dX6_next_210 ?_
                        refine va_put (D := G.1) (ci := 6) (v := .int ((m_X6_wordFrom ftp fwo (g_X6_next_0 td ftp za) (g_X6_next_103 td ftp za)) - 3)) (ty := .int) (C := RX6) (T := TX6) (N := 42) hx hb hts hiX6 tyX6 tyX6_ok nmX6 hown hK hP hD hS 0 rfl rfl 22 (by decide +kernel) kf120 (fun _ h9 => h9) rfl (by decide +kernel) rfl rfl (Nat.le_of_ble_eq_true rfl) dX6_next_211 (fun H locs hP hD hS => ?_)
                        have hz9 : gPD G A [zo6 h0 (nI pb) kd mo st (nI jg) ro tp (nI td) cd sr (nI tx) (nI ru) him ir ih ss sq ce lw (nI (g_X6_next_103 td ftp za)) (nI (g_X6_next_0 td ftp za)) ((4 + (m_X6_wordFrom ftp fwo (g_X6_next_0 td ftp za) (g_X6_next_103 td ftp za))) - 9) ((m_X6_wordFrom ftp fwo (g_X6_next_0 td ftp za) (g_X6_next_103 td ftp za)) - 3) wo he s25 s26 s27 sk na kp s31 s32 s33 s34 gb go fa ga s39 s40 vo, zi G tp 160 ftp, zi G wo 96 fwo] H := ⟨hP, hD⟩
                        have hP := hz9.1
                        have hD := hz9.2
                        refine lv_goto (tgt := 403) hx hb dX6_next_214 (by decide +kernel) ?_
                        have q_112 : m_X6_next_h019 td ftp za = g_X6_next_103 td ftp za := by unfold m_X6_next_h019; rw [if_neg c_2, if_pos p_7]
                        have q_113 : m_X6_next_h020 td ftp za = nI (g_X6_next_0 td ftp za) := rfl
                        have q_114 : m_X6_next_h021 td ftp fwo za = (4 + (m_X6_wordFrom ftp fwo (g_X6_next_0 td ftp za) (g_X6_next_103 td ftp za))) - 9 := by unfold m_X6_next_h021; rw [if_neg c_2, if_pos p_7, if_pos c_108, if_pos c_109, if_neg c_110]
                        have q_115 : m_X6_next_h022 td ftp fwo za = (m_X6_wordFrom ftp fwo (g_X6_next_0 td ftp za) (g_X6_next_103 td ftp za)) - 3 := by unfold m_X6_next_h022; rw [if_neg c_2, if_pos p_7, if_pos c_108]
                        have hz9 : gPD G A [zo6 h0 (nI pb) kd mo st (nI jg) ro tp (nI td) cd sr (nI tx) (nI ru) him ir ih ss sq ce lw (nI (m_X6_next_h019 td ftp za)) (m_X6_next_h020 td ftp za) (m_X6_next_h021 td ftp fwo za) (m_X6_next_h022 td ftp fwo za) wo he s25 s26 s27 sk na kp s31 s32 s33 s34 gb go fa ga s39 s40 vo, zi G tp 160 ftp, zi G wo 96 fwo] H := ⟨by rw [q_112, q_113, q_114, q_115]; exact hP, by rw [q_112, q_113, q_114, q_115]; exact hD⟩
                        have hP9 := hz9.1
                        have hD9 := hz9.2
                        have hpost : (fun (u : Unit) => match u with | _ => za ≤ (m_X6_next_h019 td ftp za) ∧ (m_X6_next_h019 td ftp za) ≤ td ∧ (¬ (m_X6_next_h021 td ftp fwo za) = 0 → za < (m_X6_next_h019 td ftp za)) ∧ ((m_X6_next_h021 td ftp fwo za) = 2 → 0 ≤ (m_X6_next_h022 td ftp fwo za) ∧ (m_X6_next_h022 td ftp fwo za) < 6) ∧ ((m_X6_next_h021 td ftp fwo za) = 1 → 100000 ≤ 100000 + (m_X6_next_h022 td ftp fwo za))) () := nx_facts hza htd
                        exact W.vret hx hb hr (fun t ht hW => ⟨⟨(), rfl, hpost, by rw [ht]; exact hP9, va_K.moved hW.alike hK, hD9⟩, hS.F ht⟩) hS.2.2 dX6_next_403
                      · skip
                        refine lv_iconst (v := -1) hx hb dX6_next_185 (by decide +kernel) ?_
                        refine lv_goto (tgt := 195) hx hb dX6_next_186 (by decide +kernel) ?_
                        refine va_put (D := G.1) (ci := 6) (v := .int (-1)) (ty := .int) (C := RX6) (T := TX6) (N := 42) hx hb hts hiX6 tyX6 tyX6_ok nmX6 hown hK hP hD hS 0 rfl rfl 21 (by decide +kernel) kf117 (fun _ h9 => h9) rfl (by decide +kernel) rfl rfl (Nat.le_of_ble_eq_true rfl) dX6_next_195 (fun H locs hP hD hS => ?_)
                        have hz9 : gPD G A [zo6 h0 (nI pb) kd mo st (nI jg) ro tp (nI td) cd sr (nI tx) (nI ru) him ir ih ss sq ce lw (nI (g_X6_next_103 td ftp za)) (nI (g_X6_next_0 td ftp za)) (-1) 0 wo he s25 s26 s27 sk na kp s31 s32 s33 s34 gb go fa ga s39 s40 vo, zi G tp 160 ftp, zi G wo 96 fwo] H := ⟨hP, hD⟩
                        have hP := hz9.1
                        have hD := hz9.2
                        refine lv_aload_n hx hb dX6_next_198 rfl (lv_at hl 2 rfl) ?_
                        refine lv_iload_n hx hb dX6_next_199 rfl (lv_at hl 0 rfl) ?_
                        refine lv_iconst (v := 3) hx hb dX6_next_200 (by decide +kernel) ?_
                        refine lv_icmp_ge (tgt := 208) hx hb dX6_next_201 (by decide +kernel) (fun c_116 => ?_) (fun c_116 => ?_)
                        rotate_left
                        · exact absurd (c_108) c_116
                        refine lv_iload_n hx hb dX6_next_208 rfl (lv_at hl 0 rfl) ?_
                        refine lv_iconst (v := 3) hx hb dX6_next_209 (by decide +kernel) ?_
                        refine lv_isub hx hb dX6_next_210 ?_
                        refine va_put (D := G.1) (ci := 6) (v := .int ((m_X6_wordFrom ftp fwo (g_X6_next_0 td ftp za) (g_X6_next_103 td ftp za)) - 3)) (ty := .int) (C := RX6) (T := TX6) (N := 42) hx hb hts hiX6 tyX6 tyX6_ok nmX6 hown hK hP hD hS 0 rfl rfl 22 (by decide +kernel) kf120 (fun _ h9 => h9) rfl (by decide +kernel) rfl rfl (Nat.le_of_ble_eq_true rfl) dX6_next_211 (fun H locs hP hD hS => ?_)
                        have hz9 : gPD G A [zo6 h0 (nI pb) kd mo st (nI jg) ro tp (nI td) cd sr (nI tx) (nI ru) him ir ih ss sq ce lw (nI (g_X6_next_103 td ftp za)) (nI (g_X6_next_0 td ftp za)) (-1) ((m_X6_wordFrom ftp fwo (g_X6_next_0 td ftp za) (g_X6_next_103 td ftp za)) - 3) wo he s25 s26 s27 sk na kp s31 s32 s33 s34 gb go fa ga s39 s40 vo, zi G tp 160 ftp, zi G wo 96 fwo] H := ⟨hP, hD⟩
                        have hP := hz9.1
                        have hD := hz9.2
                        refine lv_goto (tgt := 403) hx hb dX6_next_214 (by decide +kernel) ?_
                        have q_117 : m_X6_next_h019 td ftp za = g_X6_next_103 td ftp za := by unfold m_X6_next_h019; rw [if_neg c_2, if_pos p_7]
                        have q_118 : m_X6_next_h020 td ftp za = nI (g_X6_next_0 td ftp za) := rfl
                        have q_119 : m_X6_next_h021 td ftp fwo za = -1 := by unfold m_X6_next_h021; rw [if_neg c_2, if_pos p_7, if_pos c_108, if_pos c_109, if_pos c_110]
                        have q_120 : m_X6_next_h022 td ftp fwo za = (m_X6_wordFrom ftp fwo (g_X6_next_0 td ftp za) (g_X6_next_103 td ftp za)) - 3 := by unfold m_X6_next_h022; rw [if_neg c_2, if_pos p_7, if_pos c_108]
                        have hz9 : gPD G A [zo6 h0 (nI pb) kd mo st (nI jg) ro tp (nI td) cd sr (nI tx) (nI ru) him ir ih ss sq ce lw (nI (m_X6_next_h019 td ftp za)) (m_X6_next_h020 td ftp za) (m_X6_next_h021 td ftp fwo za) (m_X6_next_h022 td ftp fwo za) wo he s25 s26 s27 sk na kp s31 s32 s33 s34 gb go fa ga s39 s40 vo, zi G tp 160 ftp, zi G wo 96 fwo] H := ⟨by rw [q_117, q_118, q_119, q_120]; exact hP, by rw [q_117, q_118, q_119, q_120]; exact hD⟩
                        have hP9 := hz9.1
                        have hD9 := hz9.2
                        have hpost : (fun (u : Unit) => match u with | _ => za ≤ (m_X6_next_h019 td ftp za) ∧ (m_X6_next_h019 td ftp za) ≤ td ∧ (¬ (m_X6_next_h021 td ftp fwo za) = 0 → za < (m_X6_next_h019 td ftp za)) ∧ ((m_X6_next_h021 td ftp fwo za) = 2 → 0 ≤ (m_X6_next_h022 td ftp fwo za) ∧ (m_X6_next_h022 td ftp fwo za) < 6) ∧ ((m_X6_next_h021 td ftp fwo za) = 1 → 100000 ≤ 100000 + (m_X6_next_h022 td ftp fwo za))) () := nx_facts hza htd
                        exact W.vret hx hb hr (fun t ht hW => ⟨⟨(), rfl, hpost, by rw [ht]; exact hP9, va_K.moved hW.alike hK, hD9⟩, hS.F ht⟩) hS.2.2 dX6_next_403
                    · skip
                      refine lv_iconst (v := 2) hx hb dX6_next_175 (by decide +kernel) ?_
                      refine lv_goto (tgt := 195) hx hb dX6_next_176 (by decide +kernel) ?_
                      refine va_put (D := G.1) (ci := 6) (v := .int 2) (ty := .int) (C := RX6) (T := TX6) (N := 42) hx hb hts hiX6 tyX6 tyX6_ok nmX6 hown hK hP hD hS 0 rfl rfl 21 (by decide +kernel) kf117 (fun _ h9 => h9) rfl (by decide +kernel) rfl rfl (Nat.le_of_ble_eq_true rfl) dX6_next_195 (fun H locs hP hD hS => ?_)
                      have hz9 : gPD G A [zo6 h0 (nI pb) kd mo st (nI jg) ro tp (nI td) cd sr (nI tx) (nI ru) him ir ih ss sq ce lw (nI (g_X6_next_103 td ftp za)) (nI (g_X6_next_0 td ftp za)) 2 0 wo he s25 s26 s27 sk na kp s31 s32 s33 s34 gb go fa ga s39 s40 vo, zi G tp 160 ftp, zi G wo 96 fwo] H := ⟨hP, hD⟩
                      have hP := hz9.1
                      have hD := hz9.2
                      refine lv_aload_n hx hb dX6_next_198 rfl (lv_at hl 2 rfl) ?_
                      refine lv_iload_n hx hb dX6_next_199 rfl (lv_at hl 0 rfl) ?_
                      refine lv_iconst (v := 3) hx hb dX6_next_200 (by decide +kernel) ?_
                      refine lv_icmp_ge (tgt := 208) hx hb dX6_next_201 (by decide +kernel) (fun c_121 => ?_) (fun c_121 => ?_)
                      rotate_left
                      · exact absurd (c_108) c_121
                      refine lv_iload_n hx hb dX6_next_208 rfl (lv_at hl 0 rfl) ?_
                      refine lv_iconst (v := 3) hx hb dX6_next_209 (by decide +kernel) ?_
                      refine lv_isub hx hb dX6_next_210 ?_
                      refine va_put (D := G.1) (ci := 6) (v := .int ((m_X6_wordFrom ftp fwo (g_X6_next_0 td ftp za) (g_X6_next_103 td ftp za)) - 3)) (ty := .int) (C := RX6) (T := TX6) (N := 42) hx hb hts hiX6 tyX6 tyX6_ok nmX6 hown hK hP hD hS 0 rfl rfl 22 (by decide +kernel) kf120 (fun _ h9 => h9) rfl (by decide +kernel) rfl rfl (Nat.le_of_ble_eq_true rfl) dX6_next_211 (fun H locs hP hD hS => ?_)
                      have hz9 : gPD G A [zo6 h0 (nI pb) kd mo st (nI jg) ro tp (nI td) cd sr (nI tx) (nI ru) him ir ih ss sq ce lw (nI (g_X6_next_103 td ftp za)) (nI (g_X6_next_0 td ftp za)) 2 ((m_X6_wordFrom ftp fwo (g_X6_next_0 td ftp za) (g_X6_next_103 td ftp za)) - 3) wo he s25 s26 s27 sk na kp s31 s32 s33 s34 gb go fa ga s39 s40 vo, zi G tp 160 ftp, zi G wo 96 fwo] H := ⟨hP, hD⟩
                      have hP := hz9.1
                      have hD := hz9.2
                      refine lv_goto (tgt := 403) hx hb dX6_next_214 (by decide +kernel) ?_
                      have q_122 : m_X6_next_h019 td ftp za = g_X6_next_103 td ftp za := by unfold m_X6_next_h019; rw [if_neg c_2, if_pos p_7]
                      have q_123 : m_X6_next_h020 td ftp za = nI (g_X6_next_0 td ftp za) := rfl
                      have q_124 : m_X6_next_h021 td ftp fwo za = 2 := by unfold m_X6_next_h021; rw [if_neg c_2, if_pos p_7, if_pos c_108, if_neg c_109]
                      have q_125 : m_X6_next_h022 td ftp fwo za = (m_X6_wordFrom ftp fwo (g_X6_next_0 td ftp za) (g_X6_next_103 td ftp za)) - 3 := by unfold m_X6_next_h022; rw [if_neg c_2, if_pos p_7, if_pos c_108]
                      have hz9 : gPD G A [zo6 h0 (nI pb) kd mo st (nI jg) ro tp (nI td) cd sr (nI tx) (nI ru) him ir ih ss sq ce lw (nI (m_X6_next_h019 td ftp za)) (m_X6_next_h020 td ftp za) (m_X6_next_h021 td ftp fwo za) (m_X6_next_h022 td ftp fwo za) wo he s25 s26 s27 sk na kp s31 s32 s33 s34 gb go fa ga s39 s40 vo, zi G tp 160 ftp, zi G wo 96 fwo] H := ⟨by rw [q_122, q_123, q_124, q_125]; exact hP, by rw [q_122, q_123, q_124, q_125]; exact hD⟩
                      have hP9 := hz9.1
                      have hD9 := hz9.2
                      have hpost : (fun (u : Unit) => match u with | _ => za ≤ (m_X6_next_h019 td ftp za) ∧ (m_X6_next_h019 td ftp za) ≤ td ∧ (¬ (m_X6_next_h021 td ftp fwo za) = 0 → za < (m_X6_next_h019 td ftp za)) ∧ ((m_X6_next_h021 td ftp fwo za) = 2 → 0 ≤ (m_X6_next_h022 td ftp fwo za) ∧ (m_X6_next_h022 td ftp fwo za) < 6) ∧ ((m_X6_next_h021 td ftp fwo za) = 1 → 100000 ≤ 100000 + (m_X6_next_h022 td ftp fwo za))) () := nx_facts hza htd
                      exact W.vret hx hb hr (fun t ht hW => ⟨⟨(), rfl, hpost, by rw [ht]; exact hP9, va_K.moved hW.alike hK, hD9⟩, hS.F ht⟩) hS.2.2 dX6_next_403
                  · skip
                    refine lv_iconst (v := 3) hx hb dX6_next_165 (by decide +kernel) ?_
                    refine lv_goto (tgt := 195) hx hb dX6_next_166 (by decide +kernel) ?_
                    refine va_put (D := G.1) (ci := 6) (v := .int 3) (ty := .int) (C := RX6) (T := TX6) (N := 42) hx hb hts hiX6 tyX6 tyX6_ok nmX6 hown hK hP hD hS 0 rfl rfl 21 (by decide +kernel) kf117 (fun _ h9 => h9) rfl (by decide +kernel) rfl rfl (Nat.le_of_ble_eq_true rfl) dX6_next_195 (fun H locs hP hD hS => ?_)
                    have hz9 : gPD G A [zo6 h0 (nI pb) kd mo st (nI jg) ro tp (nI td) cd sr (nI tx) (nI ru) him ir ih ss sq ce lw (nI (g_X6_next_103 td ftp za)) (nI (g_X6_next_0 td ftp za)) 3 0 wo he s25 s26 s27 sk na kp s31 s32 s33 s34 gb go fa ga s39 s40 vo, zi G tp 160 ftp, zi G wo 96 fwo] H := ⟨hP, hD⟩
                    have hP := hz9.1
                    have hD := hz9.2
                    refine lv_aload_n hx hb dX6_next_198 rfl (lv_at hl 2 rfl) ?_
                    refine lv_iload_n hx hb dX6_next_199 rfl (lv_at hl 0 rfl) ?_
                    refine lv_iconst (v := 3) hx hb dX6_next_200 (by decide +kernel) ?_
                    refine lv_icmp_ge (tgt := 208) hx hb dX6_next_201 (by decide +kernel) (fun c_126 => ?_) (fun c_126 => ?_)
                    · exact absurd c_126 (c_108)
                    refine lv_iload_n hx hb dX6_next_204 rfl (lv_at hl 0 rfl) ?_
                    refine lv_goto (tgt := 211) hx hb dX6_next_205 (by decide +kernel) ?_
                    refine va_put (D := G.1) (ci := 6) (v := .int (m_X6_wordFrom ftp fwo (g_X6_next_0 td ftp za) (g_X6_next_103 td ftp za))) (ty := .int) (C := RX6) (T := TX6) (N := 42) hx hb hts hiX6 tyX6 tyX6_ok nmX6 hown hK hP hD hS 0 rfl rfl 22 (by decide +kernel) kf120 (fun _ h9 => h9) rfl (by decide +kernel) rfl rfl (Nat.le_of_ble_eq_true rfl) dX6_next_211 (fun H locs hP hD hS => ?_)
                    have hz9 : gPD G A [zo6 h0 (nI pb) kd mo st (nI jg) ro tp (nI td) cd sr (nI tx) (nI ru) him ir ih ss sq ce lw (nI (g_X6_next_103 td ftp za)) (nI (g_X6_next_0 td ftp za)) 3 (m_X6_wordFrom ftp fwo (g_X6_next_0 td ftp za) (g_X6_next_103 td ftp za)) wo he s25 s26 s27 sk na kp s31 s32 s33 s34 gb go fa ga s39 s40 vo, zi G tp 160 ftp, zi G wo 96 fwo] H := ⟨hP, hD⟩
                    have hP := hz9.1
                    have hD := hz9.2
                    refine lv_goto (tgt := 403) hx hb dX6_next_214 (by decide +kernel) ?_
                    have q_127 : m_X6_next_h019 td ftp za = g_X6_next_103 td ftp za := by unfold m_X6_next_h019; rw [if_neg c_2, if_pos p_7]
                    have q_128 : m_X6_next_h020 td ftp za = nI (g_X6_next_0 td ftp za) := rfl
                    have q_129 : m_X6_next_h021 td ftp fwo za = 3 := by unfold m_X6_next_h021; rw [if_neg c_2, if_pos p_7, if_neg c_108]
                    have q_130 : m_X6_next_h022 td ftp fwo za = m_X6_wordFrom ftp fwo (g_X6_next_0 td ftp za) (g_X6_next_103 td ftp za) := by unfold m_X6_next_h022; rw [if_neg c_2, if_pos p_7, if_neg c_108]
                    have hz9 : gPD G A [zo6 h0 (nI pb) kd mo st (nI jg) ro tp (nI td) cd sr (nI tx) (nI ru) him ir ih ss sq ce lw (nI (m_X6_next_h019 td ftp za)) (m_X6_next_h020 td ftp za) (m_X6_next_h021 td ftp fwo za) (m_X6_next_h022 td ftp fwo za) wo he s25 s26 s27 sk na kp s31 s32 s33 s34 gb go fa ga s39 s40 vo, zi G tp 160 ftp, zi G wo 96 fwo] H := ⟨by rw [q_127, q_128, q_129, q_130]; exact hP, by rw [q_127, q_128, q_129, q_130]; exact hD⟩
                    have hP9 := hz9.1
                    have hD9 := hz9.2
                    have hpost : (fun (u : Unit) => match u with | _ => za ≤ (m_X6_next_h019 td ftp za) ∧ (m_X6_next_h019 td ftp za) ≤ td ∧ (¬ (m_X6_next_h021 td ftp fwo za) = 0 → za < (m_X6_next_h019 td ftp za)) ∧ ((m_X6_next_h021 td ftp fwo za) = 2 → 0 ≤ (m_X6_next_h022 td ftp fwo za) ∧ (m_X6_next_h022 td ftp fwo za) < 6) ∧ ((m_X6_next_h021 td ftp fwo za) = 1 → 100000 ≤ 100000 + (m_X6_next_h022 td ftp fwo za))) () := nx_facts hza htd
                    exact W.vret hx hb hr (fun t ht hW => ⟨⟨(), rfl, hpost, by rw [ht]; exact hP9, va_K.moved hW.alike hK, hD9⟩, hS.F ht⟩) hS.2.2 dX6_next_403
                · skip
                  have c_105N : a1 < td := nI_le0 (a := td) (b := a1) (by omega) (by omega) c_105
                  refine g_aget (D := G.1) (ci := 6) (v := .ref tp) (C := RX6) (T := TX6) (N := 42) hx hb dX6_next_114 rfl (lv_at hl 1 rfl) hts hiX6 hown hK hP 0 rfl rfl 6 (by decide +kernel) kf22 (fun _ h9 => h9) rfl dX6_next_115 ?_
                  refine g_aget (D := G.1) (ci := 6) (v := .int (nI a1)) (C := RX6) (T := TX6) (N := 42) hx hb dX6_next_118 rfl (lv_at hl 1 rfl) hts hiX6 hown hK hP 0 rfl rfl 19 (by decide +kernel) kf111 (fun _ h9 => h9) rfl dX6_next_119 ?_
                  refine g_iald (D := G.1) hx hb hK hP 1 0 rfl rfl (k := a1) (y := ftp a1) (by omega) rfl rfl dX6_next_122 ?_
                  refine lv_bipush (v := 97) hx hb dX6_next_123 (by decide +kernel) ?_
                  refine lv_bipush (v := 122) hx hb dX6_next_125 (by decide +kernel) ?_
                  refine z_calli [] (v := bz (decide (97 ≤ (ftp a1) ∧ (ftp a1) ≤ 122))) (fun _ _ h => h) (va_runS (As := [.int (ftp a1), .int 97, .int 122]) (rest := []) ⟨hx, hb, hml, hown, hts⟩ (c_X6_in l G (ftp a1) 97 122 H.size) (va_cwS 3 hts gX6_next_X6_in rfl rfl rfl (by decide +kernel) ⟨Nat.le_of_ble_eq_true rfl, Nat.le_of_ble_eq_true rfl⟩) ⟨gPre_blind, fun U hU hW => gPre_ofF [] hU hW hK hP hD (by decide +kernel) rfl⟩ rfl rfl hl.1 rfl (lv_room (Nat.le_of_ble_eq_true rfl)) dX6_next_127 ⟨Nat.le_of_ble_eq_true rfl, Nat.le_of_ble_eq_true rfl⟩) hS hD hA rfl (fun u t H locs ht hvm hB hz1 hk1 hFq hAq hS => ?_)
                  obtain ⟨hP1, hK1, hD1⟩ := hB
                  have hP := zKeep hP hD [] hAq hk1 ht hP1 rfl
                  refine lv_if_eq (tgt := 146) hx hb dX6_next_130 (by decide +kernel) (fun c_134 => ?_) (fun c_134 => ?_)
                  · skip
                    have n_136 : ¬ (97 ≤ (ftp a1) ∧ (ftp a1) ≤ 122) := of_decide_eq_false (bz_eq rfl c_134)
                    have hF103 : (g_X6_next_103 td ftp za) = a1 := R103.symm.trans ((congrArg (fun z9 => p_X6_next_103 ftp (z9) a1 ) (show td - a1 = td - (a1 + 1) + 1 by omega)).trans (by show p_X6_next_103 ftp (td - (a1 + 1) + 1) a1  = _; rw [p_X6_next_103, if_neg n_136]))
                    have hE103_0 : a1 = (g_X6_next_103 td ftp za) := by rw [hF103]
                    clear hF103 R103
                    subst hE103_0
                    refine lv_aload_n hx hb dX6_next_146 rfl (lv_at hl 1 rfl) ?_
                    refine g_aget (D := G.1) (ci := 6) (v := .int (nI (g_X6_next_0 td ftp za))) (C := RX6) (T := TX6) (N := 42) hx hb dX6_next_147 rfl (lv_at hl 1 rfl) hts hiX6 hown hK hP 0 rfl rfl 20 (by decide +kernel) kf114 (fun _ h9 => h9) rfl dX6_next_148 ?_
                    refine g_aget (D := G.1) (ci := 6) (v := .int (nI (g_X6_next_103 td ftp za))) (C := RX6) (T := TX6) (N := 42) hx hb dX6_next_151 rfl (lv_at hl 1 rfl) hts hiX6 hown hK hP 0 rfl rfl 19 (by decide +kernel) kf111 (fun _ h9 => h9) rfl dX6_next_152 ?_
                    refine z_calli [0, 1, 2] (v := m_X6_wordFrom ftp fwo (g_X6_next_0 td ftp za) (g_X6_next_103 td ftp za)) (fun _ _ h => h) (va_runV (As := [.int (nI (g_X6_next_0 td ftp za)), .int (nI (g_X6_next_103 td ftp za))]) (rest := []) ⟨hx, hb, hml, hown, hts⟩ (c_X6_wordFrom l G h0 kd mo st ro tp cd sr ir ih ss sq ce lw wo he sk na kp gb go fa ga vo pb jg td tx ru him (nI (g_X6_next_103 td ftp za)) (nI (g_X6_next_0 td ftp za)) 0 0 s25 s26 s27 s31 s32 s33 s34 s39 s40 ftp fwo (g_X6_next_0 td ftp za) (g_X6_next_103 td ftp za) H.size (⟨(n1_le (ftp := ftp) (td - g_X6_next_0 td ftp za) (g_X6_next_0 td ftp za)).1, by omega⟩)) (cwV 2 hts gX6_next_X6_wordFrom rfl rfl rfl (by decide +kernel) ⟨Nat.le_of_ble_eq_true rfl, Nat.le_of_ble_eq_true rfl⟩) ⟨gPre_blind, va_recv (q := (RX6, TX6, 42)) hK hP (ci := 6) (q0 := 0) rfl rfl, fun U hU hW => gPre_of hU hW hK hP hD⟩ rfl rfl hl.1 rfl (lv_room (Nat.le_of_ble_eq_true rfl)) dX6_next_155 ⟨Nat.le_of_ble_eq_true rfl, Nat.le_of_ble_eq_true rfl⟩) hS hD hA rfl (fun u t H locs ht hvm hB hz1 hk1 hFq hAq hS => ?_)
                    obtain ⟨hP1, hK1, hD1⟩ := hB
                    have hP := zKeep hP hD [0, 1, 2] hAq hk1 ht hP1 rfl
                    refine lv_istore_n (lv' := [zI 2 (m_X6_wordFrom ftp fwo (g_X6_next_0 td ftp za) (g_X6_next_103 td ftp za)), zI 1 (ftp (g_X6_next_0 td ftp za)), zR 0 h0]) hx hb dX6_next_158 rfl hl (by decide +kernel) rfl (fun ls hl => ?_)
                    refine lv_aload_n hx hb dX6_next_159 rfl (lv_at hl 2 rfl) ?_
                    refine lv_iload_n hx hb dX6_next_160 rfl (lv_at hl 0 rfl) ?_
                    refine lv_iconst (v := 3) hx hb dX6_next_161 (by decide +kernel) ?_
                    refine lv_icmp_ge (tgt := 169) hx hb dX6_next_162 (by decide +kernel) (fun c_139 => ?_) (fun c_139 => ?_)
                    · skip
                      refine lv_iload_n hx hb dX6_next_169 rfl (lv_at hl 0 rfl) ?_
                      refine lv_bipush (v := 9) hx hb dX6_next_170 (by decide +kernel) ?_
                      refine lv_icmp_ge (tgt := 179) hx hb dX6_next_172 (by decide +kernel) (fun c_140 => ?_) (fun c_140 => ?_)
                      · skip
                        refine lv_iload_n hx hb dX6_next_179 rfl (lv_at hl 0 rfl) ?_
                        refine lv_bipush (v := 12) hx hb dX6_next_180 (by decide +kernel) ?_
                        refine lv_icmp_ne (tgt := 189) hx hb dX6_next_182 (by decide +kernel) (fun c_141 => ?_) (fun c_141 => ?_)
                        · skip
                          refine lv_iconst (v := 4) hx hb dX6_next_189 (by decide +kernel) ?_
                          refine lv_iload_n hx hb dX6_next_190 rfl (lv_at hl 0 rfl) ?_
                          refine lv_iadd hx hb dX6_next_191 ?_
                          refine lv_bipush (v := 9) hx hb dX6_next_192 (by decide +kernel) ?_
                          refine lv_isub hx hb dX6_next_194 ?_
                          refine va_put (D := G.1) (ci := 6) (v := .int ((4 + (m_X6_wordFrom ftp fwo (g_X6_next_0 td ftp za) (g_X6_next_103 td ftp za))) - 9)) (ty := .int) (C := RX6) (T := TX6) (N := 42) hx hb hts hiX6 tyX6 tyX6_ok nmX6 hown hK hP hD hS 0 rfl rfl 21 (by decide +kernel) kf117 (fun _ h9 => h9) rfl (by decide +kernel) rfl rfl (Nat.le_of_ble_eq_true rfl) dX6_next_195 (fun H locs hP hD hS => ?_)
                          have hz9 : gPD G A [zo6 h0 (nI pb) kd mo st (nI jg) ro tp (nI td) cd sr (nI tx) (nI ru) him ir ih ss sq ce lw (nI (g_X6_next_103 td ftp za)) (nI (g_X6_next_0 td ftp za)) ((4 + (m_X6_wordFrom ftp fwo (g_X6_next_0 td ftp za) (g_X6_next_103 td ftp za))) - 9) 0 wo he s25 s26 s27 sk na kp s31 s32 s33 s34 gb go fa ga s39 s40 vo, zi G tp 160 ftp, zi G wo 96 fwo] H := ⟨hP, hD⟩
                          have hP := hz9.1
                          have hD := hz9.2
                          refine lv_aload_n hx hb dX6_next_198 rfl (lv_at hl 2 rfl) ?_
                          refine lv_iload_n hx hb dX6_next_199 rfl (lv_at hl 0 rfl) ?_
                          refine lv_iconst (v := 3) hx hb dX6_next_200 (by decide +kernel) ?_
                          refine lv_icmp_ge (tgt := 208) hx hb dX6_next_201 (by decide +kernel) (fun c_142 => ?_) (fun c_142 => ?_)
                          rotate_left
                          · exact absurd (c_139) c_142
                          refine lv_iload_n hx hb dX6_next_208 rfl (lv_at hl 0 rfl) ?_
                          refine lv_iconst (v := 3) hx hb dX6_next_209 (by decide +kernel) ?_
                          refine lv_isub hx hb dX6_next_210 ?_
                          refine va_put (D := G.1) (ci := 6) (v := .int ((m_X6_wordFrom ftp fwo (g_X6_next_0 td ftp za) (g_X6_next_103 td ftp za)) - 3)) (ty := .int) (C := RX6) (T := TX6) (N := 42) hx hb hts hiX6 tyX6 tyX6_ok nmX6 hown hK hP hD hS 0 rfl rfl 22 (by decide +kernel) kf120 (fun _ h9 => h9) rfl (by decide +kernel) rfl rfl (Nat.le_of_ble_eq_true rfl) dX6_next_211 (fun H locs hP hD hS => ?_)
                          have hz9 : gPD G A [zo6 h0 (nI pb) kd mo st (nI jg) ro tp (nI td) cd sr (nI tx) (nI ru) him ir ih ss sq ce lw (nI (g_X6_next_103 td ftp za)) (nI (g_X6_next_0 td ftp za)) ((4 + (m_X6_wordFrom ftp fwo (g_X6_next_0 td ftp za) (g_X6_next_103 td ftp za))) - 9) ((m_X6_wordFrom ftp fwo (g_X6_next_0 td ftp za) (g_X6_next_103 td ftp za)) - 3) wo he s25 s26 s27 sk na kp s31 s32 s33 s34 gb go fa ga s39 s40 vo, zi G tp 160 ftp, zi G wo 96 fwo] H := ⟨hP, hD⟩
                          have hP := hz9.1
                          have hD := hz9.2
                          refine lv_goto (tgt := 403) hx hb dX6_next_214 (by decide +kernel) ?_
                          have q_143 : m_X6_next_h019 td ftp za = g_X6_next_103 td ftp za := by unfold m_X6_next_h019; rw [if_neg c_2, if_pos p_7]
                          have q_144 : m_X6_next_h020 td ftp za = nI (g_X6_next_0 td ftp za) := rfl
                          have q_145 : m_X6_next_h021 td ftp fwo za = (4 + (m_X6_wordFrom ftp fwo (g_X6_next_0 td ftp za) (g_X6_next_103 td ftp za))) - 9 := by unfold m_X6_next_h021; rw [if_neg c_2, if_pos p_7, if_pos c_139, if_pos c_140, if_neg c_141]
                          have q_146 : m_X6_next_h022 td ftp fwo za = (m_X6_wordFrom ftp fwo (g_X6_next_0 td ftp za) (g_X6_next_103 td ftp za)) - 3 := by unfold m_X6_next_h022; rw [if_neg c_2, if_pos p_7, if_pos c_139]
                          have hz9 : gPD G A [zo6 h0 (nI pb) kd mo st (nI jg) ro tp (nI td) cd sr (nI tx) (nI ru) him ir ih ss sq ce lw (nI (m_X6_next_h019 td ftp za)) (m_X6_next_h020 td ftp za) (m_X6_next_h021 td ftp fwo za) (m_X6_next_h022 td ftp fwo za) wo he s25 s26 s27 sk na kp s31 s32 s33 s34 gb go fa ga s39 s40 vo, zi G tp 160 ftp, zi G wo 96 fwo] H := ⟨by rw [q_143, q_144, q_145, q_146]; exact hP, by rw [q_143, q_144, q_145, q_146]; exact hD⟩
                          have hP9 := hz9.1
                          have hD9 := hz9.2
                          have hpost : (fun (u : Unit) => match u with | _ => za ≤ (m_X6_next_h019 td ftp za) ∧ (m_X6_next_h019 td ftp za) ≤ td ∧ (¬ (m_X6_next_h021 td ftp fwo za) = 0 → za < (m_X6_next_h019 td ftp za)) ∧ ((m_X6_next_h021 td ftp fwo za) = 2 → 0 ≤ (m_X6_next_h022 td ftp fwo za) ∧ (m_X6_next_h022 td ftp fwo za) < 6) ∧ ((m_X6_next_h021 td ftp fwo za) = 1 → 100000 ≤ 100000 + (m_X6_next_h022 td ftp fwo za))) () := nx_facts hza htd
                          exact W.vret hx hb hr (fun t ht hW => ⟨⟨(), rfl, hpost, by rw [ht]; exact hP9, va_K.moved hW.alike hK, hD9⟩, hS.F ht⟩) hS.2.2 dX6_next_403
                        · skip
                          refine lv_iconst (v := -1) hx hb dX6_next_185 (by decide +kernel) ?_
                          refine lv_goto (tgt := 195) hx hb dX6_next_186 (by decide +kernel) ?_
                          refine va_put (D := G.1) (ci := 6) (v := .int (-1)) (ty := .int) (C := RX6) (T := TX6) (N := 42) hx hb hts hiX6 tyX6 tyX6_ok nmX6 hown hK hP hD hS 0 rfl rfl 21 (by decide +kernel) kf117 (fun _ h9 => h9) rfl (by decide +kernel) rfl rfl (Nat.le_of_ble_eq_true rfl) dX6_next_195 (fun H locs hP hD hS => ?_)
                          have hz9 : gPD G A [zo6 h0 (nI pb) kd mo st (nI jg) ro tp (nI td) cd sr (nI tx) (nI ru) him ir ih ss sq ce lw (nI (g_X6_next_103 td ftp za)) (nI (g_X6_next_0 td ftp za)) (-1) 0 wo he s25 s26 s27 sk na kp s31 s32 s33 s34 gb go fa ga s39 s40 vo, zi G tp 160 ftp, zi G wo 96 fwo] H := ⟨hP, hD⟩
                          have hP := hz9.1
                          have hD := hz9.2
                          refine lv_aload_n hx hb dX6_next_198 rfl (lv_at hl 2 rfl) ?_
                          refine lv_iload_n hx hb dX6_next_199 rfl (lv_at hl 0 rfl) ?_
                          refine lv_iconst (v := 3) hx hb dX6_next_200 (by decide +kernel) ?_
                          refine lv_icmp_ge (tgt := 208) hx hb dX6_next_201 (by decide +kernel) (fun c_147 => ?_) (fun c_147 => ?_)
                          rotate_left
                          · exact absurd (c_139) c_147
                          refine lv_iload_n hx hb dX6_next_208 rfl (lv_at hl 0 rfl) ?_
                          refine lv_iconst (v := 3) hx hb dX6_next_209 (by decide +kernel) ?_
                          refine lv_isub hx hb dX6_next_210 ?_
                          refine va_put (D := G.1) (ci := 6) (v := .int ((m_X6_wordFrom ftp fwo (g_X6_next_0 td ftp za) (g_X6_next_103 td ftp za)) - 3)) (ty := .int) (C := RX6) (T := TX6) (N := 42) hx hb hts hiX6 tyX6 tyX6_ok nmX6 hown hK hP hD hS 0 rfl rfl 22 (by decide +kernel) kf120 (fun _ h9 => h9) rfl (by decide +kernel) rfl rfl (Nat.le_of_ble_eq_true rfl) dX6_next_211 (fun H locs hP hD hS => ?_)
                          have hz9 : gPD G A [zo6 h0 (nI pb) kd mo st (nI jg) ro tp (nI td) cd sr (nI tx) (nI ru) him ir ih ss sq ce lw (nI (g_X6_next_103 td ftp za)) (nI (g_X6_next_0 td ftp za)) (-1) ((m_X6_wordFrom ftp fwo (g_X6_next_0 td ftp za) (g_X6_next_103 td ftp za)) - 3) wo he s25 s26 s27 sk na kp s31 s32 s33 s34 gb go fa ga s39 s40 vo, zi G tp 160 ftp, zi G wo 96 fwo] H := ⟨hP, hD⟩
                          have hP := hz9.1
                          have hD := hz9.2
                          refine lv_goto (tgt := 403) hx hb dX6_next_214 (by decide +kernel) ?_
                          have q_148 : m_X6_next_h019 td ftp za = g_X6_next_103 td ftp za := by unfold m_X6_next_h019; rw [if_neg c_2, if_pos p_7]
                          have q_149 : m_X6_next_h020 td ftp za = nI (g_X6_next_0 td ftp za) := rfl
                          have q_150 : m_X6_next_h021 td ftp fwo za = -1 := by unfold m_X6_next_h021; rw [if_neg c_2, if_pos p_7, if_pos c_139, if_pos c_140, if_pos c_141]
                          have q_151 : m_X6_next_h022 td ftp fwo za = (m_X6_wordFrom ftp fwo (g_X6_next_0 td ftp za) (g_X6_next_103 td ftp za)) - 3 := by unfold m_X6_next_h022; rw [if_neg c_2, if_pos p_7, if_pos c_139]
                          have hz9 : gPD G A [zo6 h0 (nI pb) kd mo st (nI jg) ro tp (nI td) cd sr (nI tx) (nI ru) him ir ih ss sq ce lw (nI (m_X6_next_h019 td ftp za)) (m_X6_next_h020 td ftp za) (m_X6_next_h021 td ftp fwo za) (m_X6_next_h022 td ftp fwo za) wo he s25 s26 s27 sk na kp s31 s32 s33 s34 gb go fa ga s39 s40 vo, zi G tp 160 ftp, zi G wo 96 fwo] H := ⟨by rw [q_148, q_149, q_150, q_151]; exact hP, by rw [q_148, q_149, q_150, q_151]; exact hD⟩
                          have hP9 := hz9.1
                          have hD9 := hz9.2
                          have hpost : (fun (u : Unit) => match u with | _ => za ≤ (m_X6_next_h019 td ftp za) ∧ (m_X6_next_h019 td ftp za) ≤ td ∧ (¬ (m_X6_next_h021 td ftp fwo za) = 0 → za < (m_X6_next_h019 td ftp za)) ∧ ((m_X6_next_h021 td ftp fwo za) = 2 → 0 ≤ (m_X6_next_h022 td ftp fwo za) ∧ (m_X6_next_h022 td ftp fwo za) < 6) ∧ ((m_X6_next_h021 td ftp fwo za) = 1 → 100000 ≤ 100000 + (m_X6_next_h022 td ftp fwo za))) () := nx_facts hza htd
                          exact W.vret hx hb hr (fun t ht hW => ⟨⟨(), rfl, hpost, by rw [ht]; exact hP9, va_K.moved hW.alike hK, hD9⟩, hS.F ht⟩) hS.2.2 dX6_next_403
                      · skip
                        refine lv_iconst (v := 2) hx hb dX6_next_175 (by decide +kernel) ?_
                        refine lv_goto (tgt := 195) hx hb dX6_next_176 (by decide +kernel) ?_
                        refine va_put (D := G.1) (ci := 6) (v := .int 2) (ty := .int) (C := RX6) (T := TX6) (N := 42) hx hb hts hiX6 tyX6 tyX6_ok nmX6 hown hK hP hD hS 0 rfl rfl 21 (by decide +kernel) kf117 (fun _ h9 => h9) rfl (by decide +kernel) rfl rfl (Nat.le_of_ble_eq_true rfl) dX6_next_195 (fun H locs hP hD hS => ?_)
                        have hz9 : gPD G A [zo6 h0 (nI pb) kd mo st (nI jg) ro tp (nI td) cd sr (nI tx) (nI ru) him ir ih ss sq ce lw (nI (g_X6_next_103 td ftp za)) (nI (g_X6_next_0 td ftp za)) 2 0 wo he s25 s26 s27 sk na kp s31 s32 s33 s34 gb go fa ga s39 s40 vo, zi G tp 160 ftp, zi G wo 96 fwo] H := ⟨hP, hD⟩
                        have hP := hz9.1
                        have hD := hz9.2
                        refine lv_aload_n hx hb dX6_next_198 rfl (lv_at hl 2 rfl) ?_
                        refine lv_iload_n hx hb dX6_next_199 rfl (lv_at hl 0 rfl) ?_
                        refine lv_iconst (v := 3) hx hb dX6_next_200 (by decide +kernel) ?_
                        refine lv_icmp_ge (tgt := 208) hx hb dX6_next_201 (by decide +kernel) (fun c_152 => ?_) (fun c_152 => ?_)
                        rotate_left
                        · exact absurd (c_139) c_152
                        refine lv_iload_n hx hb dX6_next_208 rfl (lv_at hl 0 rfl) ?_
                        refine lv_iconst (v := 3) hx hb dX6_next_209 (by decide +kernel) ?_
                        refine lv_isub hx hb dX6_next_210 ?_
                        refine va_put (D := G.1) (ci := 6) (v := .int ((m_X6_wordFrom ftp fwo (g_X6_next_0 td ftp za) (g_X6_next_103 td ftp za)) - 3)) (ty := .int) (C := RX6) (T := TX6) (N := 42) hx hb hts hiX6 tyX6 tyX6_ok nmX6 hown hK hP hD hS 0 rfl rfl 22 (by decide +kernel) kf120 (fun _ h9 => h9) rfl (by decide +kernel) rfl rfl (Nat.le_of_ble_eq_true rfl) dX6_next_211 (fun H locs hP hD hS => ?_)
                        have hz9 : gPD G A [zo6 h0 (nI pb) kd mo st (nI jg) ro tp (nI td) cd sr (nI tx) (nI ru) him ir ih ss sq ce lw (nI (g_X6_next_103 td ftp za)) (nI (g_X6_next_0 td ftp za)) 2 ((m_X6_wordFrom ftp fwo (g_X6_next_0 td ftp za) (g_X6_next_103 td ftp za)) - 3) wo he s25 s26 s27 sk na kp s31 s32 s33 s34 gb go fa ga s39 s40 vo, zi G tp 160 ftp, zi G wo 96 fwo] H := ⟨hP, hD⟩
                        have hP := hz9.1
                        have hD := hz9.2
                        refine lv_goto (tgt := 403) hx hb dX6_next_214 (by decide +kernel) ?_
                        have q_153 : m_X6_next_h019 td ftp za = g_X6_next_103 td ftp za := by unfold m_X6_next_h019; rw [if_neg c_2, if_pos p_7]
                        have q_154 : m_X6_next_h020 td ftp za = nI (g_X6_next_0 td ftp za) := rfl
                        have q_155 : m_X6_next_h021 td ftp fwo za = 2 := by unfold m_X6_next_h021; rw [if_neg c_2, if_pos p_7, if_pos c_139, if_neg c_140]
                        have q_156 : m_X6_next_h022 td ftp fwo za = (m_X6_wordFrom ftp fwo (g_X6_next_0 td ftp za) (g_X6_next_103 td ftp za)) - 3 := by unfold m_X6_next_h022; rw [if_neg c_2, if_pos p_7, if_pos c_139]
                        have hz9 : gPD G A [zo6 h0 (nI pb) kd mo st (nI jg) ro tp (nI td) cd sr (nI tx) (nI ru) him ir ih ss sq ce lw (nI (m_X6_next_h019 td ftp za)) (m_X6_next_h020 td ftp za) (m_X6_next_h021 td ftp fwo za) (m_X6_next_h022 td ftp fwo za) wo he s25 s26 s27 sk na kp s31 s32 s33 s34 gb go fa ga s39 s40 vo, zi G tp 160 ftp, zi G wo 96 fwo] H := ⟨by rw [q_153, q_154, q_155, q_156]; exact hP, by rw [q_153, q_154, q_155, q_156]; exact hD⟩
                        have hP9 := hz9.1
                        have hD9 := hz9.2
                        have hpost : (fun (u : Unit) => match u with | _ => za ≤ (m_X6_next_h019 td ftp za) ∧ (m_X6_next_h019 td ftp za) ≤ td ∧ (¬ (m_X6_next_h021 td ftp fwo za) = 0 → za < (m_X6_next_h019 td ftp za)) ∧ ((m_X6_next_h021 td ftp fwo za) = 2 → 0 ≤ (m_X6_next_h022 td ftp fwo za) ∧ (m_X6_next_h022 td ftp fwo za) < 6) ∧ ((m_X6_next_h021 td ftp fwo za) = 1 → 100000 ≤ 100000 + (m_X6_next_h022 td ftp fwo za))) () := nx_facts hza htd
                        exact W.vret hx hb hr (fun t ht hW => ⟨⟨(), rfl, hpost, by rw [ht]; exact hP9, va_K.moved hW.alike hK, hD9⟩, hS.F ht⟩) hS.2.2 dX6_next_403
                    · skip
                      refine lv_iconst (v := 3) hx hb dX6_next_165 (by decide +kernel) ?_
                      refine lv_goto (tgt := 195) hx hb dX6_next_166 (by decide +kernel) ?_
                      refine va_put (D := G.1) (ci := 6) (v := .int 3) (ty := .int) (C := RX6) (T := TX6) (N := 42) hx hb hts hiX6 tyX6 tyX6_ok nmX6 hown hK hP hD hS 0 rfl rfl 21 (by decide +kernel) kf117 (fun _ h9 => h9) rfl (by decide +kernel) rfl rfl (Nat.le_of_ble_eq_true rfl) dX6_next_195 (fun H locs hP hD hS => ?_)
                      have hz9 : gPD G A [zo6 h0 (nI pb) kd mo st (nI jg) ro tp (nI td) cd sr (nI tx) (nI ru) him ir ih ss sq ce lw (nI (g_X6_next_103 td ftp za)) (nI (g_X6_next_0 td ftp za)) 3 0 wo he s25 s26 s27 sk na kp s31 s32 s33 s34 gb go fa ga s39 s40 vo, zi G tp 160 ftp, zi G wo 96 fwo] H := ⟨hP, hD⟩
                      have hP := hz9.1
                      have hD := hz9.2
                      refine lv_aload_n hx hb dX6_next_198 rfl (lv_at hl 2 rfl) ?_
                      refine lv_iload_n hx hb dX6_next_199 rfl (lv_at hl 0 rfl) ?_
                      refine lv_iconst (v := 3) hx hb dX6_next_200 (by decide +kernel) ?_
                      refine lv_icmp_ge (tgt := 208) hx hb dX6_next_201 (by decide +kernel) (fun c_157 => ?_) (fun c_157 => ?_)
                      · exact absurd c_157 (c_139)
                      refine lv_iload_n hx hb dX6_next_204 rfl (lv_at hl 0 rfl) ?_
                      refine lv_goto (tgt := 211) hx hb dX6_next_205 (by decide +kernel) ?_
                      refine va_put (D := G.1) (ci := 6) (v := .int (m_X6_wordFrom ftp fwo (g_X6_next_0 td ftp za) (g_X6_next_103 td ftp za))) (ty := .int) (C := RX6) (T := TX6) (N := 42) hx hb hts hiX6 tyX6 tyX6_ok nmX6 hown hK hP hD hS 0 rfl rfl 22 (by decide +kernel) kf120 (fun _ h9 => h9) rfl (by decide +kernel) rfl rfl (Nat.le_of_ble_eq_true rfl) dX6_next_211 (fun H locs hP hD hS => ?_)
                      have hz9 : gPD G A [zo6 h0 (nI pb) kd mo st (nI jg) ro tp (nI td) cd sr (nI tx) (nI ru) him ir ih ss sq ce lw (nI (g_X6_next_103 td ftp za)) (nI (g_X6_next_0 td ftp za)) 3 (m_X6_wordFrom ftp fwo (g_X6_next_0 td ftp za) (g_X6_next_103 td ftp za)) wo he s25 s26 s27 sk na kp s31 s32 s33 s34 gb go fa ga s39 s40 vo, zi G tp 160 ftp, zi G wo 96 fwo] H := ⟨hP, hD⟩
                      have hP := hz9.1
                      have hD := hz9.2
                      refine lv_goto (tgt := 403) hx hb dX6_next_214 (by decide +kernel) ?_
                      have q_158 : m_X6_next_h019 td ftp za = g_X6_next_103 td ftp za := by unfold m_X6_next_h019; rw [if_neg c_2, if_pos p_7]
                      have q_159 : m_X6_next_h020 td ftp za = nI (g_X6_next_0 td ftp za) := rfl
                      have q_160 : m_X6_next_h021 td ftp fwo za = 3 := by unfold m_X6_next_h021; rw [if_neg c_2, if_pos p_7, if_neg c_139]
                      have q_161 : m_X6_next_h022 td ftp fwo za = m_X6_wordFrom ftp fwo (g_X6_next_0 td ftp za) (g_X6_next_103 td ftp za) := by unfold m_X6_next_h022; rw [if_neg c_2, if_pos p_7, if_neg c_139]
                      have hz9 : gPD G A [zo6 h0 (nI pb) kd mo st (nI jg) ro tp (nI td) cd sr (nI tx) (nI ru) him ir ih ss sq ce lw (nI (m_X6_next_h019 td ftp za)) (m_X6_next_h020 td ftp za) (m_X6_next_h021 td ftp fwo za) (m_X6_next_h022 td ftp fwo za) wo he s25 s26 s27 sk na kp s31 s32 s33 s34 gb go fa ga s39 s40 vo, zi G tp 160 ftp, zi G wo 96 fwo] H := ⟨by rw [q_158, q_159, q_160, q_161]; exact hP, by rw [q_158, q_159, q_160, q_161]; exact hD⟩
                      have hP9 := hz9.1
                      have hD9 := hz9.2
                      have hpost : (fun (u : Unit) => match u with | _ => za ≤ (m_X6_next_h019 td ftp za) ∧ (m_X6_next_h019 td ftp za) ≤ td ∧ (¬ (m_X6_next_h021 td ftp fwo za) = 0 → za < (m_X6_next_h019 td ftp za)) ∧ ((m_X6_next_h021 td ftp fwo za) = 2 → 0 ≤ (m_X6_next_h022 td ftp fwo za) ∧ (m_X6_next_h022 td ftp fwo za) < 6) ∧ ((m_X6_next_h021 td ftp fwo za) = 1 → 100000 ≤ 100000 + (m_X6_next_h022 td ftp fwo za))) () := nx_facts hza htd
                      exact W.vret hx hb hr (fun t ht hW => ⟨⟨(), rfl, hpost, by rw [ht]; exact hP9, va_K.moved hW.alike hK, hD9⟩, hS.F ht⟩) hS.2.2 dX6_next_403
                  · skip
                    have p_135 : 97 ≤ (ftp a1) ∧ (ftp a1) ≤ 122 := of_decide_eq_true (bz_ne rfl c_134)
                    refine lv_aload_n hx hb dX6_next_133 rfl (lv_at hl 1 rfl) ?_
                    refine lv_dup hx hb dX6_next_134 rfl ?_
                    refine va_get (D := G.1) (ci := 6) (v := .int (nI a1)) (C := RX6) (T := TX6) (N := 42) hx hb hts hiX6 hown hK hP 0 rfl rfl 19 (by decide +kernel) kf111 (fun _ h9 => h9) rfl dX6_next_135 ?_
                    refine lv_iconst (v := 1) hx hb dX6_next_138 (by decide +kernel) ?_
                    refine lv_iadd hx hb dX6_next_139 ?_
                    refine g_topi (y := nI (a1 + 1)) (nI_add a1 1) ?_
                    refine va_put (D := G.1) (ci := 6) (v := .int (nI (a1 + 1))) (ty := .int) (C := RX6) (T := TX6) (N := 42) hx hb hts hiX6 tyX6 tyX6_ok nmX6 hown hK hP hD hS 0 rfl rfl 19 (by decide +kernel) kf111 (fun _ h9 => h9) rfl (by decide +kernel) rfl rfl (Nat.le_of_ble_eq_true rfl) dX6_next_140 (fun H locs hP hD hS => ?_)
                    have hz9 : gPD G A [zo6 h0 (nI pb) kd mo st (nI jg) ro tp (nI td) cd sr (nI tx) (nI ru) him ir ih ss sq ce lw (nI (a1 + 1)) (nI (g_X6_next_0 td ftp za)) 0 0 wo he s25 s26 s27 sk na kp s31 s32 s33 s34 gb go fa ga s39 s40 vo, zi G tp 160 ftp, zi G wo 96 fwo] H := ⟨hP, hD⟩
                    have hP := hz9.1
                    have hD := hz9.2
                    refine lv_goto (tgt := 103) hx hb dX6_next_143 (by decide +kernel) ?_
                    exact ih9_103 (a1 + 1) (by omega) (Eq.trans (Eq.symm ((congrArg (fun z9 => p_X6_next_103 ftp (z9) a1 ) (show td - a1 = td - (a1 + 1) + 1 by omega)).trans (by show p_X6_next_103 ftp (td - (a1 + 1) + 1) a1  = _; rw [p_X6_next_103, if_pos p_135]))) R103) (by omega) _ _ hP hD hS ls hl
            exact loop_103 (td - (g_X6_next_0 td ftp za) + 1) (g_X6_next_0 td ftp za) (by omega) (rfl) (by omega) _ _ hP hD hS ls hl
        · skip
          have c_2N : (g_X6_next_0 td ftp za) = td := nI_eq1 (a := (g_X6_next_0 td ftp za)) (b := td) (by omega) (by omega) c_2
          have q_163 : m_X6_next_h019 td ftp za = g_X6_next_0 td ftp za := by unfold m_X6_next_h019; rw [if_pos c_2]
          have q_164 : m_X6_next_h020 td ftp za = nI (g_X6_next_0 td ftp za) := rfl
          have q_165 : m_X6_next_h021 td ftp fwo za = 0 := by unfold m_X6_next_h021; rw [if_pos c_2]
          have q_166 : m_X6_next_h022 td ftp fwo za = 0 := by unfold m_X6_next_h022; rw [if_pos c_2]
          have hz9 : gPD G A [zo6 h0 (nI pb) kd mo st (nI jg) ro tp (nI td) cd sr (nI tx) (nI ru) him ir ih ss sq ce lw (nI (m_X6_next_h019 td ftp za)) (m_X6_next_h020 td ftp za) (m_X6_next_h021 td ftp fwo za) (m_X6_next_h022 td ftp fwo za) wo he s25 s26 s27 sk na kp s31 s32 s33 s34 gb go fa ga s39 s40 vo, zi G tp 160 ftp, zi G wo 96 fwo] H := ⟨by rw [q_163, q_164, q_165, q_166]; exact hP, by rw [q_163, q_164, q_165, q_166]; exact hD⟩
          have hP9 := hz9.1
          have hD9 := hz9.2
          have hpost : (fun (u : Unit) => match u with | _ => za ≤ (m_X6_next_h019 td ftp za) ∧ (m_X6_next_h019 td ftp za) ≤ td ∧ (¬ (m_X6_next_h021 td ftp fwo za) = 0 → za < (m_X6_next_h019 td ftp za)) ∧ ((m_X6_next_h021 td ftp fwo za) = 2 → 0 ≤ (m_X6_next_h022 td ftp fwo za) ∧ (m_X6_next_h022 td ftp fwo za) < 6) ∧ ((m_X6_next_h021 td ftp fwo za) = 1 → 100000 ≤ 100000 + (m_X6_next_h022 td ftp fwo za))) () := nx_facts hza htd
          exact W.vret hx hb hr (fun t ht hW => ⟨⟨(), rfl, hpost, by rw [ht]; exact hP9, va_K.moved hW.alike hK, hD9⟩, hS.F ht⟩) hS.2.2 dX6_next_81
      · skip
        have c_1N : a0 < td := nI_le0 (a := td) (b := a0) (by omega) (by omega) c_1
        refine g_aget (D := G.1) (ci := 6) (v := .ref tp) (C := RX6) (T := TX6) (N := 42) hx hb dX6_next_11 rfl (lv_at hl 0 rfl) hts hiX6 hown hK hP 0 rfl rfl 6 (by decide +kernel) kf22 (fun _ h9 => h9) rfl dX6_next_12 ?_
        refine g_aget (D := G.1) (ci := 6) (v := .int (nI a0)) (C := RX6) (T := TX6) (N := 42) hx hb dX6_next_15 rfl (lv_at hl 0 rfl) hts hiX6 hown hK hP 0 rfl rfl 19 (by decide +kernel) kf111 (fun _ h9 => h9) rfl dX6_next_16 ?_
        refine g_iald (D := G.1) hx hb hK hP 1 0 rfl rfl (k := a0) (y := ftp a0) (by omega) rfl rfl dX6_next_19 ?_
        refine lv_bipush (v := 32) hx hb dX6_next_20 (by decide +kernel) ?_
        refine lv_icmp_eq (tgt := 39) hx hb dX6_next_22 (by decide +kernel) (fun c_168 => ?_) (fun c_168 => ?_)
        · skip
          refine lv_aload_n hx hb dX6_next_39 rfl (lv_at hl 0 rfl) ?_
          refine lv_dup hx hb dX6_next_40 rfl ?_
          refine va_get (D := G.1) (ci := 6) (v := .int (nI a0)) (C := RX6) (T := TX6) (N := 42) hx hb hts hiX6 hown hK hP 0 rfl rfl 19 (by decide +kernel) kf111 (fun _ h9 => h9) rfl dX6_next_41 ?_
          refine lv_iconst (v := 1) hx hb dX6_next_44 (by decide +kernel) ?_
          refine lv_iadd hx hb dX6_next_45 ?_
          refine g_topi (y := nI (a0 + 1)) (nI_add a0 1) ?_
          refine va_put (D := G.1) (ci := 6) (v := .int (nI (a0 + 1))) (ty := .int) (C := RX6) (T := TX6) (N := 42) hx hb hts hiX6 tyX6 tyX6_ok nmX6 hown hK hP hD hS 0 rfl rfl 19 (by decide +kernel) kf111 (fun _ h9 => h9) rfl (by decide +kernel) rfl rfl (Nat.le_of_ble_eq_true rfl) dX6_next_46 (fun H locs hP hD hS => ?_)
          have hz9 : gPD G A [zo6 h0 (nI pb) kd mo st (nI jg) ro tp (nI td) cd sr (nI tx) (nI ru) him ir ih ss sq ce lw (nI (a0 + 1)) s20 s21 s22 wo he s25 s26 s27 sk na kp s31 s32 s33 s34 gb go fa ga s39 s40 vo, zi G tp 160 ftp, zi G wo 96 fwo] H := ⟨hP, hD⟩
          have hP := hz9.1
          have hD := hz9.2
          refine lv_goto (tgt := 0) hx hb dX6_next_49 (by decide +kernel) ?_
          exact ih9_0 (a0 + 1) (by omega) (Eq.trans (Eq.symm ((congrArg (fun z9 => p_X6_next_0 ftp (z9) a0 ) (show td - a0 = td - (a0 + 1) + 1 by omega)).trans (by show p_X6_next_0 ftp (td - (a0 + 1) + 1) a0  = _; rw [p_X6_next_0, if_pos c_168]))) R0) (by omega) _ _ hP hD hS ls hl
        · skip
          refine g_aget (D := G.1) (ci := 6) (v := .ref tp) (C := RX6) (T := TX6) (N := 42) hx hb dX6_next_25 rfl (lv_at hl 0 rfl) hts hiX6 hown hK hP 0 rfl rfl 6 (by decide +kernel) kf22 (fun _ h9 => h9) rfl dX6_next_26 ?_
          refine g_aget (D := G.1) (ci := 6) (v := .int (nI a0)) (C := RX6) (T := TX6) (N := 42) hx hb dX6_next_29 rfl (lv_at hl 0 rfl) hts hiX6 hown hK hP 0 rfl rfl 19 (by decide +kernel) kf111 (fun _ h9 => h9) rfl dX6_next_30 ?_
          refine g_iald (D := G.1) hx hb hK hP 1 0 rfl rfl (k := a0) (y := ftp a0) (by omega) rfl rfl dX6_next_33 ?_
          refine lv_bipush (v := 10) hx hb dX6_next_34 (by decide +kernel) ?_
          refine lv_icmp_ne (tgt := 52) hx hb dX6_next_36 (by decide +kernel) (fun c_171 => ?_) (fun c_171 => ?_)
          · skip
            have hF0 : (g_X6_next_0 td ftp za) = a0 := R0.symm.trans ((congrArg (fun z9 => p_X6_next_0 ftp (z9) a0 ) (show td - a0 = td - (a0 + 1) + 1 by omega)).trans (by show p_X6_next_0 ftp (td - (a0 + 1) + 1) a0  = _; rw [p_X6_next_0, if_neg c_168, if_neg c_171]))
            have hE0_0 : a0 = (g_X6_next_0 td ftp za) := by rw [hF0]
            clear hF0 R0
            subst hE0_0
            refine lv_aload_n hx hb dX6_next_52 rfl (lv_at hl 0 rfl) ?_
            refine g_aget (D := G.1) (ci := 6) (v := .int (nI (g_X6_next_0 td ftp za))) (C := RX6) (T := TX6) (N := 42) hx hb dX6_next_53 rfl (lv_at hl 0 rfl) hts hiX6 hown hK hP 0 rfl rfl 19 (by decide +kernel) kf111 (fun _ h9 => h9) rfl dX6_next_54 ?_
            refine va_put (D := G.1) (ci := 6) (v := .int (nI (g_X6_next_0 td ftp za))) (ty := .int) (C := RX6) (T := TX6) (N := 42) hx hb hts hiX6 tyX6 tyX6_ok nmX6 hown hK hP hD hS 0 rfl rfl 20 (by decide +kernel) kf114 (fun _ h9 => h9) rfl (by decide +kernel) rfl rfl (Nat.le_of_ble_eq_true rfl) dX6_next_57 (fun H locs hP hD hS => ?_)
            have hz9 : gPD G A [zo6 h0 (nI pb) kd mo st (nI jg) ro tp (nI td) cd sr (nI tx) (nI ru) him ir ih ss sq ce lw (nI (g_X6_next_0 td ftp za)) (nI (g_X6_next_0 td ftp za)) s21 s22 wo he s25 s26 s27 sk na kp s31 s32 s33 s34 gb go fa ga s39 s40 vo, zi G tp 160 ftp, zi G wo 96 fwo] H := ⟨hP, hD⟩
            have hP := hz9.1
            have hD := hz9.2
            refine lv_aload_n hx hb dX6_next_60 rfl (lv_at hl 0 rfl) ?_
            refine lv_iconst (v := 0) hx hb dX6_next_61 (by decide +kernel) ?_
            refine va_put (D := G.1) (ci := 6) (v := .int 0) (ty := .int) (C := RX6) (T := TX6) (N := 42) hx hb hts hiX6 tyX6 tyX6_ok nmX6 hown hK hP hD hS 0 rfl rfl 21 (by decide +kernel) kf117 (fun _ h9 => h9) rfl (by decide +kernel) rfl rfl (Nat.le_of_ble_eq_true rfl) dX6_next_62 (fun H locs hP hD hS => ?_)
            have hz9 : gPD G A [zo6 h0 (nI pb) kd mo st (nI jg) ro tp (nI td) cd sr (nI tx) (nI ru) him ir ih ss sq ce lw (nI (g_X6_next_0 td ftp za)) (nI (g_X6_next_0 td ftp za)) 0 s22 wo he s25 s26 s27 sk na kp s31 s32 s33 s34 gb go fa ga s39 s40 vo, zi G tp 160 ftp, zi G wo 96 fwo] H := ⟨hP, hD⟩
            have hP := hz9.1
            have hD := hz9.2
            refine lv_aload_n hx hb dX6_next_65 rfl (lv_at hl 0 rfl) ?_
            refine lv_iconst (v := 0) hx hb dX6_next_66 (by decide +kernel) ?_
            refine va_put (D := G.1) (ci := 6) (v := .int 0) (ty := .int) (C := RX6) (T := TX6) (N := 42) hx hb hts hiX6 tyX6 tyX6_ok nmX6 hown hK hP hD hS 0 rfl rfl 22 (by decide +kernel) kf120 (fun _ h9 => h9) rfl (by decide +kernel) rfl rfl (Nat.le_of_ble_eq_true rfl) dX6_next_67 (fun H locs hP hD hS => ?_)
            have hz9 : gPD G A [zo6 h0 (nI pb) kd mo st (nI jg) ro tp (nI td) cd sr (nI tx) (nI ru) him ir ih ss sq ce lw (nI (g_X6_next_0 td ftp za)) (nI (g_X6_next_0 td ftp za)) 0 0 wo he s25 s26 s27 sk na kp s31 s32 s33 s34 gb go fa ga s39 s40 vo, zi G tp 160 ftp, zi G wo 96 fwo] H := ⟨hP, hD⟩
            have hP := hz9.1
            have hD := hz9.2
            refine g_aget (D := G.1) (ci := 6) (v := .int (nI (g_X6_next_0 td ftp za))) (C := RX6) (T := TX6) (N := 42) hx hb dX6_next_70 rfl (lv_at hl 0 rfl) hts hiX6 hown hK hP 0 rfl rfl 19 (by decide +kernel) kf111 (fun _ h9 => h9) rfl dX6_next_71 ?_
            refine g_aget (D := G.1) (ci := 6) (v := .int (nI td)) (C := RX6) (T := TX6) (N := 42) hx hb dX6_next_74 rfl (lv_at hl 0 rfl) hts hiX6 hown hK hP 0 rfl rfl 7 (by decide +kernel) kf80 (fun _ h9 => h9) rfl dX6_next_75 ?_
            refine lv_icmp_ne (tgt := 82) hx hb dX6_next_78 (by decide +kernel) (fun c_172 => ?_) (fun c_172 => ?_)
            · skip
              have c_172N : ¬ (g_X6_next_0 td ftp za) = td := nI_eq0 (a := (g_X6_next_0 td ftp za)) (b := td) (by omega) (by omega) c_172
              refine g_aget (D := G.1) (ci := 6) (v := .ref tp) (C := RX6) (T := TX6) (N := 42) hx hb dX6_next_82 rfl (lv_at hl 0 rfl) hts hiX6 hown hK hP 0 rfl rfl 6 (by decide +kernel) kf22 (fun _ h9 => h9) rfl dX6_next_83 ?_
              refine g_aget (D := G.1) (ci := 6) (v := .int (nI (g_X6_next_0 td ftp za))) (C := RX6) (T := TX6) (N := 42) hx hb dX6_next_86 rfl (lv_at hl 0 rfl) hts hiX6 hown hK hP 0 rfl rfl 19 (by decide +kernel) kf111 (fun _ h9 => h9) rfl dX6_next_87 ?_
              refine g_iald (D := G.1) hx hb hK hP 1 0 rfl rfl (k := g_X6_next_0 td ftp za) (y := ftp (g_X6_next_0 td ftp za)) (by omega) rfl rfl dX6_next_90 ?_
              refine lv_istore_n (lv' := [zI 1 (ftp (g_X6_next_0 td ftp za)), zR 0 h0]) hx hb dX6_next_91 rfl hl (by decide +kernel) rfl (fun ls hl => ?_)
              refine lv_iload_n hx hb dX6_next_92 rfl (lv_at hl 0 rfl) ?_
              refine lv_bipush (v := 97) hx hb dX6_next_93 (by decide +kernel) ?_
              refine lv_bipush (v := 122) hx hb dX6_next_95 (by decide +kernel) ?_
              refine z_calli [] (v := bz (decide (97 ≤ (ftp (g_X6_next_0 td ftp za)) ∧ (ftp (g_X6_next_0 td ftp za)) ≤ 122))) (fun _ _ h => h) (va_runS (As := [.int (ftp (g_X6_next_0 td ftp za)), .int 97, .int 122]) (rest := []) ⟨hx, hb, hml, hown, hts⟩ (c_X6_in l G (ftp (g_X6_next_0 td ftp za)) 97 122 H.size) (va_cwS 3 hts gX6_next_X6_in rfl rfl rfl (by decide +kernel) ⟨Nat.le_of_ble_eq_true rfl, Nat.le_of_ble_eq_true rfl⟩) ⟨gPre_blind, fun U hU hW => gPre_ofF [] hU hW hK hP hD (by decide +kernel) rfl⟩ rfl rfl hl.1 rfl (lv_room (Nat.le_of_ble_eq_true rfl)) dX6_next_97 ⟨Nat.le_of_ble_eq_true rfl, Nat.le_of_ble_eq_true rfl⟩) hS hD hA rfl (fun u t H locs ht hvm hB hz1 hk1 hFq hAq hS => ?_)
              obtain ⟨hP1, hK1, hD1⟩ := hB
              have hP := zKeep hP hD [] hAq hk1 ht hP1 rfl
              refine lv_if_eq (tgt := 217) hx hb dX6_next_100 (by decide +kernel) (fun c_176 => ?_) (fun c_176 => ?_)
              · skip
                have n_178 : ¬ (97 ≤ (ftp (g_X6_next_0 td ftp za)) ∧ (ftp (g_X6_next_0 td ftp za)) ≤ 122) := of_decide_eq_false (bz_eq rfl c_176)
                refine lv_iload_n hx hb dX6_next_217 rfl (lv_at hl 0 rfl) ?_
                refine lv_bipush (v := 48) hx hb dX6_next_218 (by decide +kernel) ?_
                refine lv_bipush (v := 57) hx hb dX6_next_220 (by decide +kernel) ?_
                refine z_calli [] (v := bz (decide (48 ≤ (ftp (g_X6_next_0 td ftp za)) ∧ (ftp (g_X6_next_0 td ftp za)) ≤ 57))) (fun _ _ h => h) (va_runS (As := [.int (ftp (g_X6_next_0 td ftp za)), .int 48, .int 57]) (rest := []) ⟨hx, hb, hml, hown, hts⟩ (c_X6_in l G (ftp (g_X6_next_0 td ftp za)) 48 57 H.size) (va_cwS 3 hts gX6_next_X6_in rfl rfl rfl (by decide +kernel) ⟨Nat.le_of_ble_eq_true rfl, Nat.le_of_ble_eq_true rfl⟩) ⟨gPre_blind, fun U hU hW => gPre_ofF [] hU hW hK hP hD (by decide +kernel) rfl⟩ rfl rfl hl.1 rfl (lv_room (Nat.le_of_ble_eq_true rfl)) dX6_next_222 ⟨Nat.le_of_ble_eq_true rfl, Nat.le_of_ble_eq_true rfl⟩) hS hD hA rfl (fun u t H locs ht hvm hB hz1 hk1 hFq hAq hS => ?_)
                obtain ⟨hP1, hK1, hD1⟩ := hB
                have hP := zKeep hP hD [] hAq hk1 ht hP1 rfl
                refine lv_if_eq (tgt := 326) hx hb dX6_next_225 (by decide +kernel) (fun c_181 => ?_) (fun c_181 => ?_)
                · skip
                  have n_183 : ¬ (48 ≤ (ftp (g_X6_next_0 td ftp za)) ∧ (ftp (g_X6_next_0 td ftp za)) ≤ 57) := of_decide_eq_false (bz_eq rfl c_181)
                  refine lv_iload_n hx hb dX6_next_326 rfl (lv_at hl 0 rfl) ?_
                  refine lv_bipush (v := 40) hx hb dX6_next_327 (by decide +kernel) ?_
                  refine lv_icmp_eq (tgt := 374) hx hb dX6_next_329 (by decide +kernel) (fun c_184 => ?_) (fun c_184 => ?_)
                  · skip
                    refine lv_iconst (v := 1) hx hb dX6_next_374 (by decide +kernel) ?_
                    refine lv_goto (tgt := 379) hx hb dX6_next_375 (by decide +kernel) ?_
                    refine lv_istore_n (lv' := [zI 2 1, zI 1 (ftp (g_X6_next_0 td ftp za)), zR 0 h0]) hx hb dX6_next_379 rfl hl (by decide +kernel) rfl (fun ls hl => ?_)
                    refine lv_aload_n hx hb dX6_next_380 rfl (lv_at hl 2 rfl) ?_
                    refine lv_iload_n hx hb dX6_next_381 rfl (lv_at hl 0 rfl) ?_
                    refine lv_if_eq (tgt := 389) hx hb dX6_next_382 (by decide +kernel) (fun c_185 => ?_) (fun c_185 => ?_)
                    · exact absurd c_185 (by decide +kernel)
                    refine lv_iload_n hx hb dX6_next_385 rfl (lv_at hl 1 rfl) ?_
                    refine lv_goto (tgt := 390) hx hb dX6_next_386 (by decide +kernel) ?_
                    refine va_put (D := G.1) (ci := 6) (v := .int (ftp (g_X6_next_0 td ftp za))) (ty := .int) (C := RX6) (T := TX6) (N := 42) hx hb hts hiX6 tyX6 tyX6_ok nmX6 hown hK hP hD hS 0 rfl rfl 21 (by decide +kernel) kf117 (fun _ h9 => h9) rfl (by decide +kernel) rfl rfl (Nat.le_of_ble_eq_true rfl) dX6_next_390 (fun H locs hP hD hS => ?_)
                    have hz9 : gPD G A [zo6 h0 (nI pb) kd mo st (nI jg) ro tp (nI td) cd sr (nI tx) (nI ru) him ir ih ss sq ce lw (nI (g_X6_next_0 td ftp za)) (nI (g_X6_next_0 td ftp za)) (ftp (g_X6_next_0 td ftp za)) 0 wo he s25 s26 s27 sk na kp s31 s32 s33 s34 gb go fa ga s39 s40 vo, zi G tp 160 ftp, zi G wo 96 fwo] H := ⟨hP, hD⟩
                    have hP := hz9.1
                    have hD := hz9.2
                    refine lv_aload_n hx hb dX6_next_393 rfl (lv_at hl 2 rfl) ?_
                    refine lv_dup hx hb dX6_next_394 rfl ?_
                    refine va_get (D := G.1) (ci := 6) (v := .int (nI (g_X6_next_0 td ftp za))) (C := RX6) (T := TX6) (N := 42) hx hb hts hiX6 hown hK hP 0 rfl rfl 19 (by decide +kernel) kf111 (fun _ h9 => h9) rfl dX6_next_395 ?_
                    refine lv_iconst (v := 1) hx hb dX6_next_398 (by decide +kernel) ?_
                    refine lv_iadd hx hb dX6_next_399 ?_
                    refine g_topi (y := nI ((g_X6_next_0 td ftp za) + 1)) (nI_add (g_X6_next_0 td ftp za) 1) ?_
                    refine va_put (D := G.1) (ci := 6) (v := .int (nI ((g_X6_next_0 td ftp za) + 1))) (ty := .int) (C := RX6) (T := TX6) (N := 42) hx hb hts hiX6 tyX6 tyX6_ok nmX6 hown hK hP hD hS 0 rfl rfl 19 (by decide +kernel) kf111 (fun _ h9 => h9) rfl (by decide +kernel) rfl rfl (Nat.le_of_ble_eq_true rfl) dX6_next_400 (fun H locs hP hD hS => ?_)
                    have hz9 : gPD G A [zo6 h0 (nI pb) kd mo st (nI jg) ro tp (nI td) cd sr (nI tx) (nI ru) him ir ih ss sq ce lw (nI ((g_X6_next_0 td ftp za) + 1)) (nI (g_X6_next_0 td ftp za)) (ftp (g_X6_next_0 td ftp za)) 0 wo he s25 s26 s27 sk na kp s31 s32 s33 s34 gb go fa ga s39 s40 vo, zi G tp 160 ftp, zi G wo 96 fwo] H := ⟨hP, hD⟩
                    have hP := hz9.1
                    have hD := hz9.2
                    have q_187 : m_X6_next_h019 td ftp za = (g_X6_next_0 td ftp za) + 1 := by unfold m_X6_next_h019; rw [if_neg c_172, if_neg n_178, if_neg n_183]
                    have q_188 : m_X6_next_h020 td ftp za = nI (g_X6_next_0 td ftp za) := rfl
                    have q_189 : m_X6_next_h021 td ftp fwo za = ftp (g_X6_next_0 td ftp za) := by unfold m_X6_next_h021; rw [if_neg c_172, if_neg n_178, if_neg n_183, if_pos c_184]
                    have q_190 : m_X6_next_h022 td ftp fwo za = 0 := by unfold m_X6_next_h022; rw [if_neg c_172, if_neg n_178, if_neg n_183]
                    have hz9 : gPD G A [zo6 h0 (nI pb) kd mo st (nI jg) ro tp (nI td) cd sr (nI tx) (nI ru) him ir ih ss sq ce lw (nI (m_X6_next_h019 td ftp za)) (m_X6_next_h020 td ftp za) (m_X6_next_h021 td ftp fwo za) (m_X6_next_h022 td ftp fwo za) wo he s25 s26 s27 sk na kp s31 s32 s33 s34 gb go fa ga s39 s40 vo, zi G tp 160 ftp, zi G wo 96 fwo] H := ⟨by rw [q_187, q_188, q_189, q_190]; exact hP, by rw [q_187, q_188, q_189, q_190]; exact hD⟩
                    have hP9 := hz9.1
                    have hD9 := hz9.2
                    have hpost : (fun (u : Unit) => match u with | _ => za ≤ (m_X6_next_h019 td ftp za) ∧ (m_X6_next_h019 td ftp za) ≤ td ∧ (¬ (m_X6_next_h021 td ftp fwo za) = 0 → za < (m_X6_next_h019 td ftp za)) ∧ ((m_X6_next_h021 td ftp fwo za) = 2 → 0 ≤ (m_X6_next_h022 td ftp fwo za) ∧ (m_X6_next_h022 td ftp fwo za) < 6) ∧ ((m_X6_next_h021 td ftp fwo za) = 1 → 100000 ≤ 100000 + (m_X6_next_h022 td ftp fwo za))) () := nx_facts hza htd
                    exact W.vret hx hb hr (fun t ht hW => ⟨⟨(), rfl, hpost, by rw [ht]; exact hP9, va_K.moved hW.alike hK, hD9⟩, hS.F ht⟩) hS.2.2 dX6_next_403
                  · skip
                    refine lv_iload_n hx hb dX6_next_332 rfl (lv_at hl 0 rfl) ?_
                    refine lv_bipush (v := 41) hx hb dX6_next_333 (by decide +kernel) ?_
                    refine lv_icmp_eq (tgt := 374) hx hb dX6_next_335 (by decide +kernel) (fun c_191 => ?_) (fun c_191 => ?_)
                    · skip
                      refine lv_iconst (v := 1) hx hb dX6_next_374 (by decide +kernel) ?_
                      refine lv_goto (tgt := 379) hx hb dX6_next_375 (by decide +kernel) ?_
                      refine lv_istore_n (lv' := [zI 2 1, zI 1 (ftp (g_X6_next_0 td ftp za)), zR 0 h0]) hx hb dX6_next_379 rfl hl (by decide +kernel) rfl (fun ls hl => ?_)
                      refine lv_aload_n hx hb dX6_next_380 rfl (lv_at hl 2 rfl) ?_
                      refine lv_iload_n hx hb dX6_next_381 rfl (lv_at hl 0 rfl) ?_
                      refine lv_if_eq (tgt := 389) hx hb dX6_next_382 (by decide +kernel) (fun c_192 => ?_) (fun c_192 => ?_)
                      · exact absurd c_192 (by decide +kernel)
                      refine lv_iload_n hx hb dX6_next_385 rfl (lv_at hl 1 rfl) ?_
                      refine lv_goto (tgt := 390) hx hb dX6_next_386 (by decide +kernel) ?_
                      refine va_put (D := G.1) (ci := 6) (v := .int (ftp (g_X6_next_0 td ftp za))) (ty := .int) (C := RX6) (T := TX6) (N := 42) hx hb hts hiX6 tyX6 tyX6_ok nmX6 hown hK hP hD hS 0 rfl rfl 21 (by decide +kernel) kf117 (fun _ h9 => h9) rfl (by decide +kernel) rfl rfl (Nat.le_of_ble_eq_true rfl) dX6_next_390 (fun H locs hP hD hS => ?_)
                      have hz9 : gPD G A [zo6 h0 (nI pb) kd mo st (nI jg) ro tp (nI td) cd sr (nI tx) (nI ru) him ir ih ss sq ce lw (nI (g_X6_next_0 td ftp za)) (nI (g_X6_next_0 td ftp za)) (ftp (g_X6_next_0 td ftp za)) 0 wo he s25 s26 s27 sk na kp s31 s32 s33 s34 gb go fa ga s39 s40 vo, zi G tp 160 ftp, zi G wo 96 fwo] H := ⟨hP, hD⟩
                      have hP := hz9.1
                      have hD := hz9.2
                      refine lv_aload_n hx hb dX6_next_393 rfl (lv_at hl 2 rfl) ?_
                      refine lv_dup hx hb dX6_next_394 rfl ?_
                      refine va_get (D := G.1) (ci := 6) (v := .int (nI (g_X6_next_0 td ftp za))) (C := RX6) (T := TX6) (N := 42) hx hb hts hiX6 hown hK hP 0 rfl rfl 19 (by decide +kernel) kf111 (fun _ h9 => h9) rfl dX6_next_395 ?_
                      refine lv_iconst (v := 1) hx hb dX6_next_398 (by decide +kernel) ?_
                      refine lv_iadd hx hb dX6_next_399 ?_
                      refine g_topi (y := nI ((g_X6_next_0 td ftp za) + 1)) (nI_add (g_X6_next_0 td ftp za) 1) ?_
                      refine va_put (D := G.1) (ci := 6) (v := .int (nI ((g_X6_next_0 td ftp za) + 1))) (ty := .int) (C := RX6) (T := TX6) (N := 42) hx hb hts hiX6 tyX6 tyX6_ok nmX6 hown hK hP hD hS 0 rfl rfl 19 (by decide +kernel) kf111 (fun _ h9 => h9) rfl (by decide +kernel) rfl rfl (Nat.le_of_ble_eq_true rfl) dX6_next_400 (fun H locs hP hD hS => ?_)
                      have hz9 : gPD G A [zo6 h0 (nI pb) kd mo st (nI jg) ro tp (nI td) cd sr (nI tx) (nI ru) him ir ih ss sq ce lw (nI ((g_X6_next_0 td ftp za) + 1)) (nI (g_X6_next_0 td ftp za)) (ftp (g_X6_next_0 td ftp za)) 0 wo he s25 s26 s27 sk na kp s31 s32 s33 s34 gb go fa ga s39 s40 vo, zi G tp 160 ftp, zi G wo 96 fwo] H := ⟨hP, hD⟩
                      have hP := hz9.1
                      have hD := hz9.2
                      have q_194 : m_X6_next_h019 td ftp za = (g_X6_next_0 td ftp za) + 1 := by unfold m_X6_next_h019; rw [if_neg c_172, if_neg n_178, if_neg n_183]
                      have q_195 : m_X6_next_h020 td ftp za = nI (g_X6_next_0 td ftp za) := rfl
                      have q_196 : m_X6_next_h021 td ftp fwo za = ftp (g_X6_next_0 td ftp za) := by unfold m_X6_next_h021; rw [if_neg c_172, if_neg n_178, if_neg n_183, if_neg c_184, if_pos c_191]
                      have q_197 : m_X6_next_h022 td ftp fwo za = 0 := by unfold m_X6_next_h022; rw [if_neg c_172, if_neg n_178, if_neg n_183]
                      have hz9 : gPD G A [zo6 h0 (nI pb) kd mo st (nI jg) ro tp (nI td) cd sr (nI tx) (nI ru) him ir ih ss sq ce lw (nI (m_X6_next_h019 td ftp za)) (m_X6_next_h020 td ftp za) (m_X6_next_h021 td ftp fwo za) (m_X6_next_h022 td ftp fwo za) wo he s25 s26 s27 sk na kp s31 s32 s33 s34 gb go fa ga s39 s40 vo, zi G tp 160 ftp, zi G wo 96 fwo] H := ⟨by rw [q_194, q_195, q_196, q_197]; exact hP, by rw [q_194, q_195, q_196, q_197]; exact hD⟩
                      have hP9 := hz9.1
                      have hD9 := hz9.2
                      have hpost : (fun (u : Unit) => match u with | _ => za ≤ (m_X6_next_h019 td ftp za) ∧ (m_X6_next_h019 td ftp za) ≤ td ∧ (¬ (m_X6_next_h021 td ftp fwo za) = 0 → za < (m_X6_next_h019 td ftp za)) ∧ ((m_X6_next_h021 td ftp fwo za) = 2 → 0 ≤ (m_X6_next_h022 td ftp fwo za) ∧ (m_X6_next_h022 td ftp fwo za) < 6) ∧ ((m_X6_next_h021 td ftp fwo za) = 1 → 100000 ≤ 100000 + (m_X6_next_h022 td ftp fwo za))) () := nx_facts hza htd
                      exact W.vret hx hb hr (fun t ht hW => ⟨⟨(), rfl, hpost, by rw [ht]; exact hP9, va_K.moved hW.alike hK, hD9⟩, hS.F ht⟩) hS.2.2 dX6_next_403
                    · skip
                      refine lv_iload_n hx hb dX6_next_338 rfl (lv_at hl 0 rfl) ?_
                      refine lv_bipush (v := 59) hx hb dX6_next_339 (by decide +kernel) ?_
                      refine lv_icmp_eq (tgt := 374) hx hb dX6_next_341 (by decide +kernel) (fun c_198 => ?_) (fun c_198 => ?_)
                      · skip
                        refine lv_iconst (v := 1) hx hb dX6_next_374 (by decide +kernel) ?_
                        refine lv_goto (tgt := 379) hx hb dX6_next_375 (by decide +kernel) ?_
                        refine lv_istore_n (lv' := [zI 2 1, zI 1 (ftp (g_X6_next_0 td ftp za)), zR 0 h0]) hx hb dX6_next_379 rfl hl (by decide +kernel) rfl (fun ls hl => ?_)
                        refine lv_aload_n hx hb dX6_next_380 rfl (lv_at hl 2 rfl) ?_
                        refine lv_iload_n hx hb dX6_next_381 rfl (lv_at hl 0 rfl) ?_
                        refine lv_if_eq (tgt := 389) hx hb dX6_next_382 (by decide +kernel) (fun c_199 => ?_) (fun c_199 => ?_)
                        · exact absurd c_199 (by decide +kernel)
                        refine lv_iload_n hx hb dX6_next_385 rfl (lv_at hl 1 rfl) ?_
                        refine lv_goto (tgt := 390) hx hb dX6_next_386 (by decide +kernel) ?_
                        refine va_put (D := G.1) (ci := 6) (v := .int (ftp (g_X6_next_0 td ftp za))) (ty := .int) (C := RX6) (T := TX6) (N := 42) hx hb hts hiX6 tyX6 tyX6_ok nmX6 hown hK hP hD hS 0 rfl rfl 21 (by decide +kernel) kf117 (fun _ h9 => h9) rfl (by decide +kernel) rfl rfl (Nat.le_of_ble_eq_true rfl) dX6_next_390 (fun H locs hP hD hS => ?_)
                        have hz9 : gPD G A [zo6 h0 (nI pb) kd mo st (nI jg) ro tp (nI td) cd sr (nI tx) (nI ru) him ir ih ss sq ce lw (nI (g_X6_next_0 td ftp za)) (nI (g_X6_next_0 td ftp za)) (ftp (g_X6_next_0 td ftp za)) 0 wo he s25 s26 s27 sk na kp s31 s32 s33 s34 gb go fa ga s39 s40 vo, zi G tp 160 ftp, zi G wo 96 fwo] H := ⟨hP, hD⟩
                        have hP := hz9.1
                        have hD := hz9.2
                        refine lv_aload_n hx hb dX6_next_393 rfl (lv_at hl 2 rfl) ?_
                        refine lv_dup hx hb dX6_next_394 rfl ?_
                        refine va_get (D := G.1) (ci := 6) (v := .int (nI (g_X6_next_0 td ftp za))) (C := RX6) (T := TX6) (N := 42) hx hb hts hiX6 hown hK hP 0 rfl rfl 19 (by decide +kernel) kf111 (fun _ h9 => h9) rfl dX6_next_395 ?_
                        refine lv_iconst (v := 1) hx hb dX6_next_398 (by decide +kernel) ?_
                        refine lv_iadd hx hb dX6_next_399 ?_
                        refine g_topi (y := nI ((g_X6_next_0 td ftp za) + 1)) (nI_add (g_X6_next_0 td ftp za) 1) ?_
                        refine va_put (D := G.1) (ci := 6) (v := .int (nI ((g_X6_next_0 td ftp za) + 1))) (ty := .int) (C := RX6) (T := TX6) (N := 42) hx hb hts hiX6 tyX6 tyX6_ok nmX6 hown hK hP hD hS 0 rfl rfl 19 (by decide +kernel) kf111 (fun _ h9 => h9) rfl (by decide +kernel) rfl rfl (Nat.le_of_ble_eq_true rfl) dX6_next_400 (fun H locs hP hD hS => ?_)
                        have hz9 : gPD G A [zo6 h0 (nI pb) kd mo st (nI jg) ro tp (nI td) cd sr (nI tx) (nI ru) him ir ih ss sq ce lw (nI ((g_X6_next_0 td ftp za) + 1)) (nI (g_X6_next_0 td ftp za)) (ftp (g_X6_next_0 td ftp za)) 0 wo he s25 s26 s27 sk na kp s31 s32 s33 s34 gb go fa ga s39 s40 vo, zi G tp 160 ftp, zi G wo 96 fwo] H := ⟨hP, hD⟩
                        have hP := hz9.1
                        have hD := hz9.2
                        have q_201 : m_X6_next_h019 td ftp za = (g_X6_next_0 td ftp za) + 1 := by unfold m_X6_next_h019; rw [if_neg c_172, if_neg n_178, if_neg n_183]
                        have q_202 : m_X6_next_h020 td ftp za = nI (g_X6_next_0 td ftp za) := rfl
                        have q_203 : m_X6_next_h021 td ftp fwo za = ftp (g_X6_next_0 td ftp za) := by unfold m_X6_next_h021; rw [if_neg c_172, if_neg n_178, if_neg n_183, if_neg c_184, if_neg c_191, if_pos c_198]
                        have q_204 : m_X6_next_h022 td ftp fwo za = 0 := by unfold m_X6_next_h022; rw [if_neg c_172, if_neg n_178, if_neg n_183]
                        have hz9 : gPD G A [zo6 h0 (nI pb) kd mo st (nI jg) ro tp (nI td) cd sr (nI tx) (nI ru) him ir ih ss sq ce lw (nI (m_X6_next_h019 td ftp za)) (m_X6_next_h020 td ftp za) (m_X6_next_h021 td ftp fwo za) (m_X6_next_h022 td ftp fwo za) wo he s25 s26 s27 sk na kp s31 s32 s33 s34 gb go fa ga s39 s40 vo, zi G tp 160 ftp, zi G wo 96 fwo] H := ⟨by rw [q_201, q_202, q_203, q_204]; exact hP, by rw [q_201, q_202, q_203, q_204]; exact hD⟩
                        have hP9 := hz9.1
                        have hD9 := hz9.2
                        have hpost : (fun (u : Unit) => match u with | _ => za ≤ (m_X6_next_h019 td ftp za) ∧ (m_X6_next_h019 td ftp za) ≤ td ∧ (¬ (m_X6_next_h021 td ftp fwo za) = 0 → za < (m_X6_next_h019 td ftp za)) ∧ ((m_X6_next_h021 td ftp fwo za) = 2 → 0 ≤ (m_X6_next_h022 td ftp fwo za) ∧ (m_X6_next_h022 td ftp fwo za) < 6) ∧ ((m_X6_next_h021 td ftp fwo za) = 1 → 100000 ≤ 100000 + (m_X6_next_h022 td ftp fwo za))) () := nx_facts hza htd
                        exact W.vret hx hb hr (fun t ht hW => ⟨⟨(), rfl, hpost, by rw [ht]; exact hP9, va_K.moved hW.alike hK, hD9⟩, hS.F ht⟩) hS.2.2 dX6_next_403
                      · skip
                        refine lv_iload_n hx hb dX6_next_344 rfl (lv_at hl 0 rfl) ?_
                        refine lv_bipush (v := 43) hx hb dX6_next_345 (by decide +kernel) ?_
                        refine lv_icmp_eq (tgt := 374) hx hb dX6_next_347 (by decide +kernel) (fun c_205 => ?_) (fun c_205 => ?_)
                        · skip
                          refine lv_iconst (v := 1) hx hb dX6_next_374 (by decide +kernel) ?_
                          refine lv_goto (tgt := 379) hx hb dX6_next_375 (by decide +kernel) ?_
                          refine lv_istore_n (lv' := [zI 2 1, zI 1 (ftp (g_X6_next_0 td ftp za)), zR 0 h0]) hx hb dX6_next_379 rfl hl (by decide +kernel) rfl (fun ls hl => ?_)
                          refine lv_aload_n hx hb dX6_next_380 rfl (lv_at hl 2 rfl) ?_
                          refine lv_iload_n hx hb dX6_next_381 rfl (lv_at hl 0 rfl) ?_
                          refine lv_if_eq (tgt := 389) hx hb dX6_next_382 (by decide +kernel) (fun c_206 => ?_) (fun c_206 => ?_)
                          · exact absurd c_206 (by decide +kernel)
                          refine lv_iload_n hx hb dX6_next_385 rfl (lv_at hl 1 rfl) ?_
                          refine lv_goto (tgt := 390) hx hb dX6_next_386 (by decide +kernel) ?_
                          refine va_put (D := G.1) (ci := 6) (v := .int (ftp (g_X6_next_0 td ftp za))) (ty := .int) (C := RX6) (T := TX6) (N := 42) hx hb hts hiX6 tyX6 tyX6_ok nmX6 hown hK hP hD hS 0 rfl rfl 21 (by decide +kernel) kf117 (fun _ h9 => h9) rfl (by decide +kernel) rfl rfl (Nat.le_of_ble_eq_true rfl) dX6_next_390 (fun H locs hP hD hS => ?_)
                          have hz9 : gPD G A [zo6 h0 (nI pb) kd mo st (nI jg) ro tp (nI td) cd sr (nI tx) (nI ru) him ir ih ss sq ce lw (nI (g_X6_next_0 td ftp za)) (nI (g_X6_next_0 td ftp za)) (ftp (g_X6_next_0 td ftp za)) 0 wo he s25 s26 s27 sk na kp s31 s32 s33 s34 gb go fa ga s39 s40 vo, zi G tp 160 ftp, zi G wo 96 fwo] H := ⟨hP, hD⟩
                          have hP := hz9.1
                          have hD := hz9.2
                          refine lv_aload_n hx hb dX6_next_393 rfl (lv_at hl 2 rfl) ?_
                          refine lv_dup hx hb dX6_next_394 rfl ?_
                          refine va_get (D := G.1) (ci := 6) (v := .int (nI (g_X6_next_0 td ftp za))) (C := RX6) (T := TX6) (N := 42) hx hb hts hiX6 hown hK hP 0 rfl rfl 19 (by decide +kernel) kf111 (fun _ h9 => h9) rfl dX6_next_395 ?_
                          refine lv_iconst (v := 1) hx hb dX6_next_398 (by decide +kernel) ?_
                          refine lv_iadd hx hb dX6_next_399 ?_
                          refine g_topi (y := nI ((g_X6_next_0 td ftp za) + 1)) (nI_add (g_X6_next_0 td ftp za) 1) ?_
                          refine va_put (D := G.1) (ci := 6) (v := .int (nI ((g_X6_next_0 td ftp za) + 1))) (ty := .int) (C := RX6) (T := TX6) (N := 42) hx hb hts hiX6 tyX6 tyX6_ok nmX6 hown hK hP hD hS 0 rfl rfl 19 (by decide +kernel) kf111 (fun _ h9 => h9) rfl (by decide +kernel) rfl rfl (Nat.le_of_ble_eq_true rfl) dX6_next_400 (fun H locs hP hD hS => ?_)
                          have hz9 : gPD G A [zo6 h0 (nI pb) kd mo st (nI jg) ro tp (nI td) cd sr (nI tx) (nI ru) him ir ih ss sq ce lw (nI ((g_X6_next_0 td ftp za) + 1)) (nI (g_X6_next_0 td ftp za)) (ftp (g_X6_next_0 td ftp za)) 0 wo he s25 s26 s27 sk na kp s31 s32 s33 s34 gb go fa ga s39 s40 vo, zi G tp 160 ftp, zi G wo 96 fwo] H := ⟨hP, hD⟩
                          have hP := hz9.1
                          have hD := hz9.2
                          have q_208 : m_X6_next_h019 td ftp za = (g_X6_next_0 td ftp za) + 1 := by unfold m_X6_next_h019; rw [if_neg c_172, if_neg n_178, if_neg n_183]
                          have q_209 : m_X6_next_h020 td ftp za = nI (g_X6_next_0 td ftp za) := rfl
                          have q_210 : m_X6_next_h021 td ftp fwo za = ftp (g_X6_next_0 td ftp za) := by unfold m_X6_next_h021; rw [if_neg c_172, if_neg n_178, if_neg n_183, if_neg c_184, if_neg c_191, if_neg c_198, if_pos c_205]
                          have q_211 : m_X6_next_h022 td ftp fwo za = 0 := by unfold m_X6_next_h022; rw [if_neg c_172, if_neg n_178, if_neg n_183]
                          have hz9 : gPD G A [zo6 h0 (nI pb) kd mo st (nI jg) ro tp (nI td) cd sr (nI tx) (nI ru) him ir ih ss sq ce lw (nI (m_X6_next_h019 td ftp za)) (m_X6_next_h020 td ftp za) (m_X6_next_h021 td ftp fwo za) (m_X6_next_h022 td ftp fwo za) wo he s25 s26 s27 sk na kp s31 s32 s33 s34 gb go fa ga s39 s40 vo, zi G tp 160 ftp, zi G wo 96 fwo] H := ⟨by rw [q_208, q_209, q_210, q_211]; exact hP, by rw [q_208, q_209, q_210, q_211]; exact hD⟩
                          have hP9 := hz9.1
                          have hD9 := hz9.2
                          have hpost : (fun (u : Unit) => match u with | _ => za ≤ (m_X6_next_h019 td ftp za) ∧ (m_X6_next_h019 td ftp za) ≤ td ∧ (¬ (m_X6_next_h021 td ftp fwo za) = 0 → za < (m_X6_next_h019 td ftp za)) ∧ ((m_X6_next_h021 td ftp fwo za) = 2 → 0 ≤ (m_X6_next_h022 td ftp fwo za) ∧ (m_X6_next_h022 td ftp fwo za) < 6) ∧ ((m_X6_next_h021 td ftp fwo za) = 1 → 100000 ≤ 100000 + (m_X6_next_h022 td ftp fwo za))) () := nx_facts hza htd
                          exact W.vret hx hb hr (fun t ht hW => ⟨⟨(), rfl, hpost, by rw [ht]; exact hP9, va_K.moved hW.alike hK, hD9⟩, hS.F ht⟩) hS.2.2 dX6_next_403
                        · skip
                          refine lv_iload_n hx hb dX6_next_350 rfl (lv_at hl 0 rfl) ?_
                          refine lv_bipush (v := 45) hx hb dX6_next_351 (by decide +kernel) ?_
                          refine lv_icmp_eq (tgt := 374) hx hb dX6_next_353 (by decide +kernel) (fun c_212 => ?_) (fun c_212 => ?_)
                          · skip
                            refine lv_iconst (v := 1) hx hb dX6_next_374 (by decide +kernel) ?_
                            refine lv_goto (tgt := 379) hx hb dX6_next_375 (by decide +kernel) ?_
                            refine lv_istore_n (lv' := [zI 2 1, zI 1 (ftp (g_X6_next_0 td ftp za)), zR 0 h0]) hx hb dX6_next_379 rfl hl (by decide +kernel) rfl (fun ls hl => ?_)
                            refine lv_aload_n hx hb dX6_next_380 rfl (lv_at hl 2 rfl) ?_
                            refine lv_iload_n hx hb dX6_next_381 rfl (lv_at hl 0 rfl) ?_
                            refine lv_if_eq (tgt := 389) hx hb dX6_next_382 (by decide +kernel) (fun c_213 => ?_) (fun c_213 => ?_)
                            · exact absurd c_213 (by decide +kernel)
                            refine lv_iload_n hx hb dX6_next_385 rfl (lv_at hl 1 rfl) ?_
                            refine lv_goto (tgt := 390) hx hb dX6_next_386 (by decide +kernel) ?_
                            refine va_put (D := G.1) (ci := 6) (v := .int (ftp (g_X6_next_0 td ftp za))) (ty := .int) (C := RX6) (T := TX6) (N := 42) hx hb hts hiX6 tyX6 tyX6_ok nmX6 hown hK hP hD hS 0 rfl rfl 21 (by decide +kernel) kf117 (fun _ h9 => h9) rfl (by decide +kernel) rfl rfl (Nat.le_of_ble_eq_true rfl) dX6_next_390 (fun H locs hP hD hS => ?_)
                            have hz9 : gPD G A [zo6 h0 (nI pb) kd mo st (nI jg) ro tp (nI td) cd sr (nI tx) (nI ru) him ir ih ss sq ce lw (nI (g_X6_next_0 td ftp za)) (nI (g_X6_next_0 td ftp za)) (ftp (g_X6_next_0 td ftp za)) 0 wo he s25 s26 s27 sk na kp s31 s32 s33 s34 gb go fa ga s39 s40 vo, zi G tp 160 ftp, zi G wo 96 fwo] H := ⟨hP, hD⟩
                            have hP := hz9.1
                            have hD := hz9.2
                            refine lv_aload_n hx hb dX6_next_393 rfl (lv_at hl 2 rfl) ?_
                            refine lv_dup hx hb dX6_next_394 rfl ?_
                            refine va_get (D := G.1) (ci := 6) (v := .int (nI (g_X6_next_0 td ftp za))) (C := RX6) (T := TX6) (N := 42) hx hb hts hiX6 hown hK hP 0 rfl rfl 19 (by decide +kernel) kf111 (fun _ h9 => h9) rfl dX6_next_395 ?_
                            refine lv_iconst (v := 1) hx hb dX6_next_398 (by decide +kernel) ?_
                            refine lv_iadd hx hb dX6_next_399 ?_
                            refine g_topi (y := nI ((g_X6_next_0 td ftp za) + 1)) (nI_add (g_X6_next_0 td ftp za) 1) ?_
                            refine va_put (D := G.1) (ci := 6) (v := .int (nI ((g_X6_next_0 td ftp za) + 1))) (ty := .int) (C := RX6) (T := TX6) (N := 42) hx hb hts hiX6 tyX6 tyX6_ok nmX6 hown hK hP hD hS 0 rfl rfl 19 (by decide +kernel) kf111 (fun _ h9 => h9) rfl (by decide +kernel) rfl rfl (Nat.le_of_ble_eq_true rfl) dX6_next_400 (fun H locs hP hD hS => ?_)
                            have hz9 : gPD G A [zo6 h0 (nI pb) kd mo st (nI jg) ro tp (nI td) cd sr (nI tx) (nI ru) him ir ih ss sq ce lw (nI ((g_X6_next_0 td ftp za) + 1)) (nI (g_X6_next_0 td ftp za)) (ftp (g_X6_next_0 td ftp za)) 0 wo he s25 s26 s27 sk na kp s31 s32 s33 s34 gb go fa ga s39 s40 vo, zi G tp 160 ftp, zi G wo 96 fwo] H := ⟨hP, hD⟩
                            have hP := hz9.1
                            have hD := hz9.2
                            have q_215 : m_X6_next_h019 td ftp za = (g_X6_next_0 td ftp za) + 1 := by unfold m_X6_next_h019; rw [if_neg c_172, if_neg n_178, if_neg n_183]
                            have q_216 : m_X6_next_h020 td ftp za = nI (g_X6_next_0 td ftp za) := rfl
                            have q_217 : m_X6_next_h021 td ftp fwo za = ftp (g_X6_next_0 td ftp za) := by unfold m_X6_next_h021; rw [if_neg c_172, if_neg n_178, if_neg n_183, if_neg c_184, if_neg c_191, if_neg c_198, if_neg c_205, if_pos c_212]
                            have q_218 : m_X6_next_h022 td ftp fwo za = 0 := by unfold m_X6_next_h022; rw [if_neg c_172, if_neg n_178, if_neg n_183]
                            have hz9 : gPD G A [zo6 h0 (nI pb) kd mo st (nI jg) ro tp (nI td) cd sr (nI tx) (nI ru) him ir ih ss sq ce lw (nI (m_X6_next_h019 td ftp za)) (m_X6_next_h020 td ftp za) (m_X6_next_h021 td ftp fwo za) (m_X6_next_h022 td ftp fwo za) wo he s25 s26 s27 sk na kp s31 s32 s33 s34 gb go fa ga s39 s40 vo, zi G tp 160 ftp, zi G wo 96 fwo] H := ⟨by rw [q_215, q_216, q_217, q_218]; exact hP, by rw [q_215, q_216, q_217, q_218]; exact hD⟩
                            have hP9 := hz9.1
                            have hD9 := hz9.2
                            have hpost : (fun (u : Unit) => match u with | _ => za ≤ (m_X6_next_h019 td ftp za) ∧ (m_X6_next_h019 td ftp za) ≤ td ∧ (¬ (m_X6_next_h021 td ftp fwo za) = 0 → za < (m_X6_next_h019 td ftp za)) ∧ ((m_X6_next_h021 td ftp fwo za) = 2 → 0 ≤ (m_X6_next_h022 td ftp fwo za) ∧ (m_X6_next_h022 td ftp fwo za) < 6) ∧ ((m_X6_next_h021 td ftp fwo za) = 1 → 100000 ≤ 100000 + (m_X6_next_h022 td ftp fwo za))) () := nx_facts hza htd
                            exact W.vret hx hb hr (fun t ht hW => ⟨⟨(), rfl, hpost, by rw [ht]; exact hP9, va_K.moved hW.alike hK, hD9⟩, hS.F ht⟩) hS.2.2 dX6_next_403
                          · skip
                            refine lv_iload_n hx hb dX6_next_356 rfl (lv_at hl 0 rfl) ?_
                            refine lv_bipush (v := 42) hx hb dX6_next_357 (by decide +kernel) ?_
                            refine lv_icmp_eq (tgt := 374) hx hb dX6_next_359 (by decide +kernel) (fun c_219 => ?_) (fun c_219 => ?_)
                            · skip
                              refine lv_iconst (v := 1) hx hb dX6_next_374 (by decide +kernel) ?_
                              refine lv_goto (tgt := 379) hx hb dX6_next_375 (by decide +kernel) ?_
                              refine lv_istore_n (lv' := [zI 2 1, zI 1 (ftp (g_X6_next_0 td ftp za)), zR 0 h0]) hx hb dX6_next_379 rfl hl (by decide +kernel) rfl (fun ls hl => ?_)
                              refine lv_aload_n hx hb dX6_next_380 rfl (lv_at hl 2 rfl) ?_
                              refine lv_iload_n hx hb dX6_next_381 rfl (lv_at hl 0 rfl) ?_
                              refine lv_if_eq (tgt := 389) hx hb dX6_next_382 (by decide +kernel) (fun c_220 => ?_) (fun c_220 => ?_)
                              · exact absurd c_220 (by decide +kernel)
                              refine lv_iload_n hx hb dX6_next_385 rfl (lv_at hl 1 rfl) ?_
                              refine lv_goto (tgt := 390) hx hb dX6_next_386 (by decide +kernel) ?_
                              refine va_put (D := G.1) (ci := 6) (v := .int (ftp (g_X6_next_0 td ftp za))) (ty := .int) (C := RX6) (T := TX6) (N := 42) hx hb hts hiX6 tyX6 tyX6_ok nmX6 hown hK hP hD hS 0 rfl rfl 21 (by decide +kernel) kf117 (fun _ h9 => h9) rfl (by decide +kernel) rfl rfl (Nat.le_of_ble_eq_true rfl) dX6_next_390 (fun H locs hP hD hS => ?_)
                              have hz9 : gPD G A [zo6 h0 (nI pb) kd mo st (nI jg) ro tp (nI td) cd sr (nI tx) (nI ru) him ir ih ss sq ce lw (nI (g_X6_next_0 td ftp za)) (nI (g_X6_next_0 td ftp za)) (ftp (g_X6_next_0 td ftp za)) 0 wo he s25 s26 s27 sk na kp s31 s32 s33 s34 gb go fa ga s39 s40 vo, zi G tp 160 ftp, zi G wo 96 fwo] H := ⟨hP, hD⟩
                              have hP := hz9.1
                              have hD := hz9.2
                              refine lv_aload_n hx hb dX6_next_393 rfl (lv_at hl 2 rfl) ?_
                              refine lv_dup hx hb dX6_next_394 rfl ?_
                              refine va_get (D := G.1) (ci := 6) (v := .int (nI (g_X6_next_0 td ftp za))) (C := RX6) (T := TX6) (N := 42) hx hb hts hiX6 hown hK hP 0 rfl rfl 19 (by decide +kernel) kf111 (fun _ h9 => h9) rfl dX6_next_395 ?_
                              refine lv_iconst (v := 1) hx hb dX6_next_398 (by decide +kernel) ?_
                              refine lv_iadd hx hb dX6_next_399 ?_
                              refine g_topi (y := nI ((g_X6_next_0 td ftp za) + 1)) (nI_add (g_X6_next_0 td ftp za) 1) ?_
                              refine va_put (D := G.1) (ci := 6) (v := .int (nI ((g_X6_next_0 td ftp za) + 1))) (ty := .int) (C := RX6) (T := TX6) (N := 42) hx hb hts hiX6 tyX6 tyX6_ok nmX6 hown hK hP hD hS 0 rfl rfl 19 (by decide +kernel) kf111 (fun _ h9 => h9) rfl (by decide +kernel) rfl rfl (Nat.le_of_ble_eq_true rfl) dX6_next_400 (fun H locs hP hD hS => ?_)
                              have hz9 : gPD G A [zo6 h0 (nI pb) kd mo st (nI jg) ro tp (nI td) cd sr (nI tx) (nI ru) him ir ih ss sq ce lw (nI ((g_X6_next_0 td ftp za) + 1)) (nI (g_X6_next_0 td ftp za)) (ftp (g_X6_next_0 td ftp za)) 0 wo he s25 s26 s27 sk na kp s31 s32 s33 s34 gb go fa ga s39 s40 vo, zi G tp 160 ftp, zi G wo 96 fwo] H := ⟨hP, hD⟩
                              have hP := hz9.1
                              have hD := hz9.2
                              have q_222 : m_X6_next_h019 td ftp za = (g_X6_next_0 td ftp za) + 1 := by unfold m_X6_next_h019; rw [if_neg c_172, if_neg n_178, if_neg n_183]
                              have q_223 : m_X6_next_h020 td ftp za = nI (g_X6_next_0 td ftp za) := rfl
                              have q_224 : m_X6_next_h021 td ftp fwo za = ftp (g_X6_next_0 td ftp za) := by unfold m_X6_next_h021; rw [if_neg c_172, if_neg n_178, if_neg n_183, if_neg c_184, if_neg c_191, if_neg c_198, if_neg c_205, if_neg c_212, if_pos c_219]
                              have q_225 : m_X6_next_h022 td ftp fwo za = 0 := by unfold m_X6_next_h022; rw [if_neg c_172, if_neg n_178, if_neg n_183]
                              have hz9 : gPD G A [zo6 h0 (nI pb) kd mo st (nI jg) ro tp (nI td) cd sr (nI tx) (nI ru) him ir ih ss sq ce lw (nI (m_X6_next_h019 td ftp za)) (m_X6_next_h020 td ftp za) (m_X6_next_h021 td ftp fwo za) (m_X6_next_h022 td ftp fwo za) wo he s25 s26 s27 sk na kp s31 s32 s33 s34 gb go fa ga s39 s40 vo, zi G tp 160 ftp, zi G wo 96 fwo] H := ⟨by rw [q_222, q_223, q_224, q_225]; exact hP, by rw [q_222, q_223, q_224, q_225]; exact hD⟩
                              have hP9 := hz9.1
                              have hD9 := hz9.2
                              have hpost : (fun (u : Unit) => match u with | _ => za ≤ (m_X6_next_h019 td ftp za) ∧ (m_X6_next_h019 td ftp za) ≤ td ∧ (¬ (m_X6_next_h021 td ftp fwo za) = 0 → za < (m_X6_next_h019 td ftp za)) ∧ ((m_X6_next_h021 td ftp fwo za) = 2 → 0 ≤ (m_X6_next_h022 td ftp fwo za) ∧ (m_X6_next_h022 td ftp fwo za) < 6) ∧ ((m_X6_next_h021 td ftp fwo za) = 1 → 100000 ≤ 100000 + (m_X6_next_h022 td ftp fwo za))) () := nx_facts hza htd
                              exact W.vret hx hb hr (fun t ht hW => ⟨⟨(), rfl, hpost, by rw [ht]; exact hP9, va_K.moved hW.alike hK, hD9⟩, hS.F ht⟩) hS.2.2 dX6_next_403
                            · skip
                              refine lv_iload_n hx hb dX6_next_362 rfl (lv_at hl 0 rfl) ?_
                              refine lv_bipush (v := 60) hx hb dX6_next_363 (by decide +kernel) ?_
                              refine lv_icmp_eq (tgt := 374) hx hb dX6_next_365 (by decide +kernel) (fun c_226 => ?_) (fun c_226 => ?_)
                              · skip
                                refine lv_iconst (v := 1) hx hb dX6_next_374 (by decide +kernel) ?_
                                refine lv_goto (tgt := 379) hx hb dX6_next_375 (by decide +kernel) ?_
                                refine lv_istore_n (lv' := [zI 2 1, zI 1 (ftp (g_X6_next_0 td ftp za)), zR 0 h0]) hx hb dX6_next_379 rfl hl (by decide +kernel) rfl (fun ls hl => ?_)
                                refine lv_aload_n hx hb dX6_next_380 rfl (lv_at hl 2 rfl) ?_
                                refine lv_iload_n hx hb dX6_next_381 rfl (lv_at hl 0 rfl) ?_
                                refine lv_if_eq (tgt := 389) hx hb dX6_next_382 (by decide +kernel) (fun c_227 => ?_) (fun c_227 => ?_)
                                · exact absurd c_227 (by decide +kernel)
                                refine lv_iload_n hx hb dX6_next_385 rfl (lv_at hl 1 rfl) ?_
                                refine lv_goto (tgt := 390) hx hb dX6_next_386 (by decide +kernel) ?_
                                refine va_put (D := G.1) (ci := 6) (v := .int (ftp (g_X6_next_0 td ftp za))) (ty := .int) (C := RX6) (T := TX6) (N := 42) hx hb hts hiX6 tyX6 tyX6_ok nmX6 hown hK hP hD hS 0 rfl rfl 21 (by decide +kernel) kf117 (fun _ h9 => h9) rfl (by decide +kernel) rfl rfl (Nat.le_of_ble_eq_true rfl) dX6_next_390 (fun H locs hP hD hS => ?_)
                                have hz9 : gPD G A [zo6 h0 (nI pb) kd mo st (nI jg) ro tp (nI td) cd sr (nI tx) (nI ru) him ir ih ss sq ce lw (nI (g_X6_next_0 td ftp za)) (nI (g_X6_next_0 td ftp za)) (ftp (g_X6_next_0 td ftp za)) 0 wo he s25 s26 s27 sk na kp s31 s32 s33 s34 gb go fa ga s39 s40 vo, zi G tp 160 ftp, zi G wo 96 fwo] H := ⟨hP, hD⟩
                                have hP := hz9.1
                                have hD := hz9.2
                                refine lv_aload_n hx hb dX6_next_393 rfl (lv_at hl 2 rfl) ?_
                                refine lv_dup hx hb dX6_next_394 rfl ?_
                                refine va_get (D := G.1) (ci := 6) (v := .int (nI (g_X6_next_0 td ftp za))) (C := RX6) (T := TX6) (N := 42) hx hb hts hiX6 hown hK hP 0 rfl rfl 19 (by decide +kernel) kf111 (fun _ h9 => h9) rfl dX6_next_395 ?_
                                refine lv_iconst (v := 1) hx hb dX6_next_398 (by decide +kernel) ?_
                                refine lv_iadd hx hb dX6_next_399 ?_
                                refine g_topi (y := nI ((g_X6_next_0 td ftp za) + 1)) (nI_add (g_X6_next_0 td ftp za) 1) ?_
                                refine va_put (D := G.1) (ci := 6) (v := .int (nI ((g_X6_next_0 td ftp za) + 1))) (ty := .int) (C := RX6) (T := TX6) (N := 42) hx hb hts hiX6 tyX6 tyX6_ok nmX6 hown hK hP hD hS 0 rfl rfl 19 (by decide +kernel) kf111 (fun _ h9 => h9) rfl (by decide +kernel) rfl rfl (Nat.le_of_ble_eq_true rfl) dX6_next_400 (fun H locs hP hD hS => ?_)
                                have hz9 : gPD G A [zo6 h0 (nI pb) kd mo st (nI jg) ro tp (nI td) cd sr (nI tx) (nI ru) him ir ih ss sq ce lw (nI ((g_X6_next_0 td ftp za) + 1)) (nI (g_X6_next_0 td ftp za)) (ftp (g_X6_next_0 td ftp za)) 0 wo he s25 s26 s27 sk na kp s31 s32 s33 s34 gb go fa ga s39 s40 vo, zi G tp 160 ftp, zi G wo 96 fwo] H := ⟨hP, hD⟩
                                have hP := hz9.1
                                have hD := hz9.2
                                have q_229 : m_X6_next_h019 td ftp za = (g_X6_next_0 td ftp za) + 1 := by unfold m_X6_next_h019; rw [if_neg c_172, if_neg n_178, if_neg n_183]
                                have q_230 : m_X6_next_h020 td ftp za = nI (g_X6_next_0 td ftp za) := rfl
                                have q_231 : m_X6_next_h021 td ftp fwo za = ftp (g_X6_next_0 td ftp za) := by unfold m_X6_next_h021; rw [if_neg c_172, if_neg n_178, if_neg n_183, if_neg c_184, if_neg c_191, if_neg c_198, if_neg c_205, if_neg c_212, if_neg c_219, if_pos c_226]
                                have q_232 : m_X6_next_h022 td ftp fwo za = 0 := by unfold m_X6_next_h022; rw [if_neg c_172, if_neg n_178, if_neg n_183]
                                have hz9 : gPD G A [zo6 h0 (nI pb) kd mo st (nI jg) ro tp (nI td) cd sr (nI tx) (nI ru) him ir ih ss sq ce lw (nI (m_X6_next_h019 td ftp za)) (m_X6_next_h020 td ftp za) (m_X6_next_h021 td ftp fwo za) (m_X6_next_h022 td ftp fwo za) wo he s25 s26 s27 sk na kp s31 s32 s33 s34 gb go fa ga s39 s40 vo, zi G tp 160 ftp, zi G wo 96 fwo] H := ⟨by rw [q_229, q_230, q_231, q_232]; exact hP, by rw [q_229, q_230, q_231, q_232]; exact hD⟩
                                have hP9 := hz9.1
                                have hD9 := hz9.2
                                have hpost : (fun (u : Unit) => match u with | _ => za ≤ (m_X6_next_h019 td ftp za) ∧ (m_X6_next_h019 td ftp za) ≤ td ∧ (¬ (m_X6_next_h021 td ftp fwo za) = 0 → za < (m_X6_next_h019 td ftp za)) ∧ ((m_X6_next_h021 td ftp fwo za) = 2 → 0 ≤ (m_X6_next_h022 td ftp fwo za) ∧ (m_X6_next_h022 td ftp fwo za) < 6) ∧ ((m_X6_next_h021 td ftp fwo za) = 1 → 100000 ≤ 100000 + (m_X6_next_h022 td ftp fwo za))) () := nx_facts hza htd
                                exact W.vret hx hb hr (fun t ht hW => ⟨⟨(), rfl, hpost, by rw [ht]; exact hP9, va_K.moved hW.alike hK, hD9⟩, hS.F ht⟩) hS.2.2 dX6_next_403
                              · skip
                                refine lv_iload_n hx hb dX6_next_368 rfl (lv_at hl 0 rfl) ?_
                                refine lv_bipush (v := 61) hx hb dX6_next_369 (by decide +kernel) ?_
                                refine lv_icmp_ne (tgt := 378) hx hb dX6_next_371 (by decide +kernel) (fun c_233 => ?_) (fun c_233 => ?_)
                                · skip
                                  refine lv_iconst (v := 0) hx hb dX6_next_378 (by decide +kernel) ?_
                                  refine lv_istore_n (lv' := [zI 2 0, zI 1 (ftp (g_X6_next_0 td ftp za)), zR 0 h0]) hx hb dX6_next_379 rfl hl (by decide +kernel) rfl (fun ls hl => ?_)
                                  refine lv_aload_n hx hb dX6_next_380 rfl (lv_at hl 2 rfl) ?_
                                  refine lv_iload_n hx hb dX6_next_381 rfl (lv_at hl 0 rfl) ?_
                                  refine lv_if_eq (tgt := 389) hx hb dX6_next_382 (by decide +kernel) (fun c_234 => ?_) (fun c_234 => ?_)
                                  rotate_left
                                  · exact absurd (by decide +kernel) c_234
                                  refine lv_iconst (v := -1) hx hb dX6_next_389 (by decide +kernel) ?_
                                  refine va_put (D := G.1) (ci := 6) (v := .int (-1)) (ty := .int) (C := RX6) (T := TX6) (N := 42) hx hb hts hiX6 tyX6 tyX6_ok nmX6 hown hK hP hD hS 0 rfl rfl 21 (by decide +kernel) kf117 (fun _ h9 => h9) rfl (by decide +kernel) rfl rfl (Nat.le_of_ble_eq_true rfl) dX6_next_390 (fun H locs hP hD hS => ?_)
                                  have hz9 : gPD G A [zo6 h0 (nI pb) kd mo st (nI jg) ro tp (nI td) cd sr (nI tx) (nI ru) him ir ih ss sq ce lw (nI (g_X6_next_0 td ftp za)) (nI (g_X6_next_0 td ftp za)) (-1) 0 wo he s25 s26 s27 sk na kp s31 s32 s33 s34 gb go fa ga s39 s40 vo, zi G tp 160 ftp, zi G wo 96 fwo] H := ⟨hP, hD⟩
                                  have hP := hz9.1
                                  have hD := hz9.2
                                  refine lv_aload_n hx hb dX6_next_393 rfl (lv_at hl 2 rfl) ?_
                                  refine lv_dup hx hb dX6_next_394 rfl ?_
                                  refine va_get (D := G.1) (ci := 6) (v := .int (nI (g_X6_next_0 td ftp za))) (C := RX6) (T := TX6) (N := 42) hx hb hts hiX6 hown hK hP 0 rfl rfl 19 (by decide +kernel) kf111 (fun _ h9 => h9) rfl dX6_next_395 ?_
                                  refine lv_iconst (v := 1) hx hb dX6_next_398 (by decide +kernel) ?_
                                  refine lv_iadd hx hb dX6_next_399 ?_
                                  refine g_topi (y := nI ((g_X6_next_0 td ftp za) + 1)) (nI_add (g_X6_next_0 td ftp za) 1) ?_
                                  refine va_put (D := G.1) (ci := 6) (v := .int (nI ((g_X6_next_0 td ftp za) + 1))) (ty := .int) (C := RX6) (T := TX6) (N := 42) hx hb hts hiX6 tyX6 tyX6_ok nmX6 hown hK hP hD hS 0 rfl rfl 19 (by decide +kernel) kf111 (fun _ h9 => h9) rfl (by decide +kernel) rfl rfl (Nat.le_of_ble_eq_true rfl) dX6_next_400 (fun H locs hP hD hS => ?_)
                                  have hz9 : gPD G A [zo6 h0 (nI pb) kd mo st (nI jg) ro tp (nI td) cd sr (nI tx) (nI ru) him ir ih ss sq ce lw (nI ((g_X6_next_0 td ftp za) + 1)) (nI (g_X6_next_0 td ftp za)) (-1) 0 wo he s25 s26 s27 sk na kp s31 s32 s33 s34 gb go fa ga s39 s40 vo, zi G tp 160 ftp, zi G wo 96 fwo] H := ⟨hP, hD⟩
                                  have hP := hz9.1
                                  have hD := hz9.2
                                  have q_236 : m_X6_next_h019 td ftp za = (g_X6_next_0 td ftp za) + 1 := by unfold m_X6_next_h019; rw [if_neg c_172, if_neg n_178, if_neg n_183]
                                  have q_237 : m_X6_next_h020 td ftp za = nI (g_X6_next_0 td ftp za) := rfl
                                  have q_238 : m_X6_next_h021 td ftp fwo za = -1 := by unfold m_X6_next_h021; rw [if_neg c_172, if_neg n_178, if_neg n_183, if_neg c_184, if_neg c_191, if_neg c_198, if_neg c_205, if_neg c_212, if_neg c_219, if_neg c_226, if_neg c_233]
                                  have q_239 : m_X6_next_h022 td ftp fwo za = 0 := by unfold m_X6_next_h022; rw [if_neg c_172, if_neg n_178, if_neg n_183]
                                  have hz9 : gPD G A [zo6 h0 (nI pb) kd mo st (nI jg) ro tp (nI td) cd sr (nI tx) (nI ru) him ir ih ss sq ce lw (nI (m_X6_next_h019 td ftp za)) (m_X6_next_h020 td ftp za) (m_X6_next_h021 td ftp fwo za) (m_X6_next_h022 td ftp fwo za) wo he s25 s26 s27 sk na kp s31 s32 s33 s34 gb go fa ga s39 s40 vo, zi G tp 160 ftp, zi G wo 96 fwo] H := ⟨by rw [q_236, q_237, q_238, q_239]; exact hP, by rw [q_236, q_237, q_238, q_239]; exact hD⟩
                                  have hP9 := hz9.1
                                  have hD9 := hz9.2
                                  have hpost : (fun (u : Unit) => match u with | _ => za ≤ (m_X6_next_h019 td ftp za) ∧ (m_X6_next_h019 td ftp za) ≤ td ∧ (¬ (m_X6_next_h021 td ftp fwo za) = 0 → za < (m_X6_next_h019 td ftp za)) ∧ ((m_X6_next_h021 td ftp fwo za) = 2 → 0 ≤ (m_X6_next_h022 td ftp fwo za) ∧ (m_X6_next_h022 td ftp fwo za) < 6) ∧ ((m_X6_next_h021 td ftp fwo za) = 1 → 100000 ≤ 100000 + (m_X6_next_h022 td ftp fwo za))) () := nx_facts hza htd
                                  exact W.vret hx hb hr (fun t ht hW => ⟨⟨(), rfl, hpost, by rw [ht]; exact hP9, va_K.moved hW.alike hK, hD9⟩, hS.F ht⟩) hS.2.2 dX6_next_403
                                · skip
                                  refine lv_iconst (v := 1) hx hb dX6_next_374 (by decide +kernel) ?_
                                  refine lv_goto (tgt := 379) hx hb dX6_next_375 (by decide +kernel) ?_
                                  refine lv_istore_n (lv' := [zI 2 1, zI 1 (ftp (g_X6_next_0 td ftp za)), zR 0 h0]) hx hb dX6_next_379 rfl hl (by decide +kernel) rfl (fun ls hl => ?_)
                                  refine lv_aload_n hx hb dX6_next_380 rfl (lv_at hl 2 rfl) ?_
                                  refine lv_iload_n hx hb dX6_next_381 rfl (lv_at hl 0 rfl) ?_
                                  refine lv_if_eq (tgt := 389) hx hb dX6_next_382 (by decide +kernel) (fun c_240 => ?_) (fun c_240 => ?_)
                                  · exact absurd c_240 (by decide +kernel)
                                  refine lv_iload_n hx hb dX6_next_385 rfl (lv_at hl 1 rfl) ?_
                                  refine lv_goto (tgt := 390) hx hb dX6_next_386 (by decide +kernel) ?_
                                  refine va_put (D := G.1) (ci := 6) (v := .int (ftp (g_X6_next_0 td ftp za))) (ty := .int) (C := RX6) (T := TX6) (N := 42) hx hb hts hiX6 tyX6 tyX6_ok nmX6 hown hK hP hD hS 0 rfl rfl 21 (by decide +kernel) kf117 (fun _ h9 => h9) rfl (by decide +kernel) rfl rfl (Nat.le_of_ble_eq_true rfl) dX6_next_390 (fun H locs hP hD hS => ?_)
                                  have hz9 : gPD G A [zo6 h0 (nI pb) kd mo st (nI jg) ro tp (nI td) cd sr (nI tx) (nI ru) him ir ih ss sq ce lw (nI (g_X6_next_0 td ftp za)) (nI (g_X6_next_0 td ftp za)) (ftp (g_X6_next_0 td ftp za)) 0 wo he s25 s26 s27 sk na kp s31 s32 s33 s34 gb go fa ga s39 s40 vo, zi G tp 160 ftp, zi G wo 96 fwo] H := ⟨hP, hD⟩
                                  have hP := hz9.1
                                  have hD := hz9.2
                                  refine lv_aload_n hx hb dX6_next_393 rfl (lv_at hl 2 rfl) ?_
                                  refine lv_dup hx hb dX6_next_394 rfl ?_
                                  refine va_get (D := G.1) (ci := 6) (v := .int (nI (g_X6_next_0 td ftp za))) (C := RX6) (T := TX6) (N := 42) hx hb hts hiX6 hown hK hP 0 rfl rfl 19 (by decide +kernel) kf111 (fun _ h9 => h9) rfl dX6_next_395 ?_
                                  refine lv_iconst (v := 1) hx hb dX6_next_398 (by decide +kernel) ?_
                                  refine lv_iadd hx hb dX6_next_399 ?_
                                  refine g_topi (y := nI ((g_X6_next_0 td ftp za) + 1)) (nI_add (g_X6_next_0 td ftp za) 1) ?_
                                  refine va_put (D := G.1) (ci := 6) (v := .int (nI ((g_X6_next_0 td ftp za) + 1))) (ty := .int) (C := RX6) (T := TX6) (N := 42) hx hb hts hiX6 tyX6 tyX6_ok nmX6 hown hK hP hD hS 0 rfl rfl 19 (by decide +kernel) kf111 (fun _ h9 => h9) rfl (by decide +kernel) rfl rfl (Nat.le_of_ble_eq_true rfl) dX6_next_400 (fun H locs hP hD hS => ?_)
                                  have hz9 : gPD G A [zo6 h0 (nI pb) kd mo st (nI jg) ro tp (nI td) cd sr (nI tx) (nI ru) him ir ih ss sq ce lw (nI ((g_X6_next_0 td ftp za) + 1)) (nI (g_X6_next_0 td ftp za)) (ftp (g_X6_next_0 td ftp za)) 0 wo he s25 s26 s27 sk na kp s31 s32 s33 s34 gb go fa ga s39 s40 vo, zi G tp 160 ftp, zi G wo 96 fwo] H := ⟨hP, hD⟩
                                  have hP := hz9.1
                                  have hD := hz9.2
                                  have q_242 : m_X6_next_h019 td ftp za = (g_X6_next_0 td ftp za) + 1 := by unfold m_X6_next_h019; rw [if_neg c_172, if_neg n_178, if_neg n_183]
                                  have q_243 : m_X6_next_h020 td ftp za = nI (g_X6_next_0 td ftp za) := rfl
                                  have q_244 : m_X6_next_h021 td ftp fwo za = ftp (g_X6_next_0 td ftp za) := by unfold m_X6_next_h021; rw [if_neg c_172, if_neg n_178, if_neg n_183, if_neg c_184, if_neg c_191, if_neg c_198, if_neg c_205, if_neg c_212, if_neg c_219, if_neg c_226, if_pos c_233]
                                  have q_245 : m_X6_next_h022 td ftp fwo za = 0 := by unfold m_X6_next_h022; rw [if_neg c_172, if_neg n_178, if_neg n_183]
                                  have hz9 : gPD G A [zo6 h0 (nI pb) kd mo st (nI jg) ro tp (nI td) cd sr (nI tx) (nI ru) him ir ih ss sq ce lw (nI (m_X6_next_h019 td ftp za)) (m_X6_next_h020 td ftp za) (m_X6_next_h021 td ftp fwo za) (m_X6_next_h022 td ftp fwo za) wo he s25 s26 s27 sk na kp s31 s32 s33 s34 gb go fa ga s39 s40 vo, zi G tp 160 ftp, zi G wo 96 fwo] H := ⟨by rw [q_242, q_243, q_244, q_245]; exact hP, by rw [q_242, q_243, q_244, q_245]; exact hD⟩
                                  have hP9 := hz9.1
                                  have hD9 := hz9.2
                                  have hpost : (fun (u : Unit) => match u with | _ => za ≤ (m_X6_next_h019 td ftp za) ∧ (m_X6_next_h019 td ftp za) ≤ td ∧ (¬ (m_X6_next_h021 td ftp fwo za) = 0 → za < (m_X6_next_h019 td ftp za)) ∧ ((m_X6_next_h021 td ftp fwo za) = 2 → 0 ≤ (m_X6_next_h022 td ftp fwo za) ∧ (m_X6_next_h022 td ftp fwo za) < 6) ∧ ((m_X6_next_h021 td ftp fwo za) = 1 → 100000 ≤ 100000 + (m_X6_next_h022 td ftp fwo za))) () := nx_facts hza htd
                                  exact W.vret hx hb hr (fun t ht hW => ⟨⟨(), rfl, hpost, by rw [ht]; exact hP9, va_K.moved hW.alike hK, hD9⟩, hS.F ht⟩) hS.2.2 dX6_next_403
                · skip
                  have p_182 : 48 ≤ (ftp (g_X6_next_0 td ftp za)) ∧ (ftp (g_X6_next_0 td ftp za)) ≤ 57 := of_decide_eq_true (bz_ne rfl c_181)
                  refine lv_iconst (v := 0) hx hb dX6_next_228 (by decide +kernel) ?_
                  refine lv_istore_n (lv' := [zI 2 0, zI 1 (ftp (g_X6_next_0 td ftp za)), zR 0 h0]) hx hb dX6_next_229 rfl hl (by decide +kernel) rfl (fun ls hl => ?_)
                  have loop_230 : ∀ (n9 : Nat) (a2 : Nat) (n2 : Nat) (z22v : Int32), (a2 ≤ td) → (p_X6_next_230 ftp (td - a2) a2 n2 z22v = (g_X6_next_230 td ftp za)) → (n2 ≤ a2) → (td - a2) < n9 → ∀ (H : Heap) (locs : List Loc), va_P G.1 vwCl [zo6 h0 (nI pb) kd mo st (nI jg) ro tp (nI td) cd sr (nI tx) (nI ru) him ir ih ss sq ce lw (nI a2) (nI (g_X6_next_0 td ftp za)) 0 z22v wo he s25 s26 s27 sk na kp s31 s32 s33 s34 gb go fa ga s39 s40 vo, zi G tp 160 ftp, zi G wo 96 fwo] H → va_D A [zo6 h0 (nI pb) kd mo st (nI jg) ro tp (nI td) cd sr (nI tx) (nI ru) him ir ih ss sq ce lw (nI a2) (nI (g_X6_next_0 td ftp za)) 0 z22v wo he s25 s26 s27 sk na kp s31 s32 s33 s34 gb go fa ga s39 s40 vo, zi G tp 160 ftp, zi G wo 96 fwo] → va_S A s.heap H locs → ∀ ls : Array Slot, lv_has ls 3 [zI 2 (nI n2), zI 1 (ftp (g_X6_next_0 td ftp za)), zR 0 h0] → W p l e (headSpec wsX6_next ({ frames := 1, cells := 0, slots := 0, locals := 25 })).room s m ([.ref h0] : List Value).toArray below meth c H locs 0 0 (MQ below (q_X6_next G h0 kd mo st ro tp cd sr ir ih ss sq ce lw wo he sk na kp gb go fa ga vo pb jg td tx ru him s20 s21 s22 s25 s26 s27 s31 s32 s33 s34 s39 s40 ftp fwo za A) ([.ref h0] : List Value).toArray s 0 0 A) (F0 m 230 ls []) := by
                    intro n9
                    induction n9 with
                    | zero => intro a2 n2 z22v ha2 R230 hn2 hm9_230; exact absurd hm9_230 (Nat.not_lt_zero _)
                    | succ n9 ih9_230 =>
                      intro a2 n2 z22v ha2 R230 hn2 hm9_230 H locs hP hD hS ls hl
                      refine g_aget (D := G.1) (ci := 6) (v := .int (nI a2)) (C := RX6) (T := TX6) (N := 42) hx hb dX6_next_230 rfl (lv_at hl 2 rfl) hts hiX6 hown hK hP 0 rfl rfl 19 (by decide +kernel) kf111 (fun _ h9 => h9) rfl dX6_next_231 ?_
                      refine g_aget (D := G.1) (ci := 6) (v := .int (nI td)) (C := RX6) (T := TX6) (N := 42) hx hb dX6_next_234 rfl (lv_at hl 2 rfl) hts hiX6 hown hK hP 0 rfl rfl 7 (by decide +kernel) kf80 (fun _ h9 => h9) rfl dX6_next_235 ?_
                      refine lv_icmp_ge (tgt := 309) hx hb dX6_next_238 (by decide +kernel) (fun c_246 => ?_) (fun c_246 => ?_)
                      · skip
                        have c_246N : td ≤ a2 := nI_le1 (a := td) (b := a2) (by omega) (by omega) c_246
                        have hF230 : (g_X6_next_230 td ftp za) = (a2, n2, z22v) := by rw [← R230, show td - a2 = 0 by omega]; rfl
                        have hE230_0 : a2 = ((g_X6_next_230 td ftp za).1) := by rw [hF230]
                        have hE230_1 : n2 = ((g_X6_next_230 td ftp za).2.1) := by rw [hF230]
                        have hE230_2 : z22v = ((g_X6_next_230 td ftp za).2.2) := by rw [hF230]
                        clear hF230 R230
                        subst hE230_0
                        subst hE230_1
                        subst hE230_2
                        refine lv_aload_n hx hb dX6_next_309 rfl (lv_at hl 2 rfl) ?_
                        refine lv_iload_n hx hb dX6_next_310 rfl (lv_at hl 0 rfl) ?_
                        refine lv_iconst (v := 4) hx hb dX6_next_311 (by decide +kernel) ?_
                        refine lv_icmp_le (tgt := 319) hx hb dX6_next_312 (by decide +kernel) (fun c_247 => ?_) (fun c_247 => ?_)
                        · skip
                          have c_247N : ((g_X6_next_230 td ftp za).2.1) ≤ 4 := nI_le1 (a := ((g_X6_next_230 td ftp za).2.1)) (b := 4) (by omega) (by omega) c_247
                          refine lv_iconst (v := 1) hx hb dX6_next_319 (by decide +kernel) ?_
                          refine va_put (D := G.1) (ci := 6) (v := .int 1) (ty := .int) (C := RX6) (T := TX6) (N := 42) hx hb hts hiX6 tyX6 tyX6_ok nmX6 hown hK hP hD hS 0 rfl rfl 21 (by decide +kernel) kf117 (fun _ h9 => h9) rfl (by decide +kernel) rfl rfl (Nat.le_of_ble_eq_true rfl) dX6_next_320 (fun H locs hP hD hS => ?_)
                          have hz9 : gPD G A [zo6 h0 (nI pb) kd mo st (nI jg) ro tp (nI td) cd sr (nI tx) (nI ru) him ir ih ss sq ce lw (nI ((g_X6_next_230 td ftp za).1)) (nI (g_X6_next_0 td ftp za)) 1 ((g_X6_next_230 td ftp za).2.2) wo he s25 s26 s27 sk na kp s31 s32 s33 s34 gb go fa ga s39 s40 vo, zi G tp 160 ftp, zi G wo 96 fwo] H := ⟨hP, hD⟩
                          have hP := hz9.1
                          have hD := hz9.2
                          refine lv_goto (tgt := 403) hx hb dX6_next_323 (by decide +kernel) ?_
                          have q_248 : m_X6_next_h019 td ftp za = (g_X6_next_230 td ftp za).1 := by unfold m_X6_next_h019; rw [if_neg c_172, if_neg n_178, if_pos p_182]
                          have q_249 : m_X6_next_h020 td ftp za = nI (g_X6_next_0 td ftp za) := rfl
                          have q_250 : m_X6_next_h021 td ftp fwo za = 1 := by unfold m_X6_next_h021; rw [if_neg c_172, if_neg n_178, if_pos p_182, if_pos c_247]
                          have q_251 : m_X6_next_h022 td ftp fwo za = ((g_X6_next_230 td ftp za).2.2) := by unfold m_X6_next_h022; rw [if_neg c_172, if_neg n_178, if_pos p_182]
                          have hz9 : gPD G A [zo6 h0 (nI pb) kd mo st (nI jg) ro tp (nI td) cd sr (nI tx) (nI ru) him ir ih ss sq ce lw (nI (m_X6_next_h019 td ftp za)) (m_X6_next_h020 td ftp za) (m_X6_next_h021 td ftp fwo za) (m_X6_next_h022 td ftp fwo za) wo he s25 s26 s27 sk na kp s31 s32 s33 s34 gb go fa ga s39 s40 vo, zi G tp 160 ftp, zi G wo 96 fwo] H := ⟨by rw [q_248, q_249, q_250, q_251]; exact hP, by rw [q_248, q_249, q_250, q_251]; exact hD⟩
                          have hP9 := hz9.1
                          have hD9 := hz9.2
                          have hpost : (fun (u : Unit) => match u with | _ => za ≤ (m_X6_next_h019 td ftp za) ∧ (m_X6_next_h019 td ftp za) ≤ td ∧ (¬ (m_X6_next_h021 td ftp fwo za) = 0 → za < (m_X6_next_h019 td ftp za)) ∧ ((m_X6_next_h021 td ftp fwo za) = 2 → 0 ≤ (m_X6_next_h022 td ftp fwo za) ∧ (m_X6_next_h022 td ftp fwo za) < 6) ∧ ((m_X6_next_h021 td ftp fwo za) = 1 → 100000 ≤ 100000 + (m_X6_next_h022 td ftp fwo za))) () := nx_facts hza htd
                          exact W.vret hx hb hr (fun t ht hW => ⟨⟨(), rfl, hpost, by rw [ht]; exact hP9, va_K.moved hW.alike hK, hD9⟩, hS.F ht⟩) hS.2.2 dX6_next_403
                        · skip
                          have c_247N : 4 < ((g_X6_next_230 td ftp za).2.1) := nI_le0 (a := ((g_X6_next_230 td ftp za).2.1)) (b := 4) (by omega) (by omega) c_247
                          refine lv_iconst (v := -1) hx hb dX6_next_315 (by decide +kernel) ?_
                          refine lv_goto (tgt := 320) hx hb dX6_next_316 (by decide +kernel) ?_
                          refine va_put (D := G.1) (ci := 6) (v := .int (-1)) (ty := .int) (C := RX6) (T := TX6) (N := 42) hx hb hts hiX6 tyX6 tyX6_ok nmX6 hown hK hP hD hS 0 rfl rfl 21 (by decide +kernel) kf117 (fun _ h9 => h9) rfl (by decide +kernel) rfl rfl (Nat.le_of_ble_eq_true rfl) dX6_next_320 (fun H locs hP hD hS => ?_)
                          have hz9 : gPD G A [zo6 h0 (nI pb) kd mo st (nI jg) ro tp (nI td) cd sr (nI tx) (nI ru) him ir ih ss sq ce lw (nI ((g_X6_next_230 td ftp za).1)) (nI (g_X6_next_0 td ftp za)) (-1) ((g_X6_next_230 td ftp za).2.2) wo he s25 s26 s27 sk na kp s31 s32 s33 s34 gb go fa ga s39 s40 vo, zi G tp 160 ftp, zi G wo 96 fwo] H := ⟨hP, hD⟩
                          have hP := hz9.1
                          have hD := hz9.2
                          refine lv_goto (tgt := 403) hx hb dX6_next_323 (by decide +kernel) ?_
                          have q_252 : m_X6_next_h019 td ftp za = (g_X6_next_230 td ftp za).1 := by unfold m_X6_next_h019; rw [if_neg c_172, if_neg n_178, if_pos p_182]
                          have q_253 : m_X6_next_h020 td ftp za = nI (g_X6_next_0 td ftp za) := rfl
                          have q_254 : m_X6_next_h021 td ftp fwo za = -1 := by unfold m_X6_next_h021; rw [if_neg c_172, if_neg n_178, if_pos p_182, if_neg c_247]
                          have q_255 : m_X6_next_h022 td ftp fwo za = ((g_X6_next_230 td ftp za).2.2) := by unfold m_X6_next_h022; rw [if_neg c_172, if_neg n_178, if_pos p_182]
                          have hz9 : gPD G A [zo6 h0 (nI pb) kd mo st (nI jg) ro tp (nI td) cd sr (nI tx) (nI ru) him ir ih ss sq ce lw (nI (m_X6_next_h019 td ftp za)) (m_X6_next_h020 td ftp za) (m_X6_next_h021 td ftp fwo za) (m_X6_next_h022 td ftp fwo za) wo he s25 s26 s27 sk na kp s31 s32 s33 s34 gb go fa ga s39 s40 vo, zi G tp 160 ftp, zi G wo 96 fwo] H := ⟨by rw [q_252, q_253, q_254, q_255]; exact hP, by rw [q_252, q_253, q_254, q_255]; exact hD⟩
                          have hP9 := hz9.1
                          have hD9 := hz9.2
                          have hpost : (fun (u : Unit) => match u with | _ => za ≤ (m_X6_next_h019 td ftp za) ∧ (m_X6_next_h019 td ftp za) ≤ td ∧ (¬ (m_X6_next_h021 td ftp fwo za) = 0 → za < (m_X6_next_h019 td ftp za)) ∧ ((m_X6_next_h021 td ftp fwo za) = 2 → 0 ≤ (m_X6_next_h022 td ftp fwo za) ∧ (m_X6_next_h022 td ftp fwo za) < 6) ∧ ((m_X6_next_h021 td ftp fwo za) = 1 → 100000 ≤ 100000 + (m_X6_next_h022 td ftp fwo za))) () := nx_facts hza htd
                          exact W.vret hx hb hr (fun t ht hW => ⟨⟨(), rfl, hpost, by rw [ht]; exact hP9, va_K.moved hW.alike hK, hD9⟩, hS.F ht⟩) hS.2.2 dX6_next_403
                      · skip
                        have c_246N : a2 < td := nI_le0 (a := td) (b := a2) (by omega) (by omega) c_246
                        refine g_aget (D := G.1) (ci := 6) (v := .ref tp) (C := RX6) (T := TX6) (N := 42) hx hb dX6_next_241 rfl (lv_at hl 2 rfl) hts hiX6 hown hK hP 0 rfl rfl 6 (by decide +kernel) kf22 (fun _ h9 => h9) rfl dX6_next_242 ?_
                        refine g_aget (D := G.1) (ci := 6) (v := .int (nI a2)) (C := RX6) (T := TX6) (N := 42) hx hb dX6_next_245 rfl (lv_at hl 2 rfl) hts hiX6 hown hK hP 0 rfl rfl 19 (by decide +kernel) kf111 (fun _ h9 => h9) rfl dX6_next_246 ?_
                        refine g_iald (D := G.1) hx hb hK hP 1 0 rfl rfl (k := a2) (y := ftp a2) (by omega) rfl rfl dX6_next_249 ?_
                        refine lv_bipush (v := 48) hx hb dX6_next_250 (by decide +kernel) ?_
                        refine lv_bipush (v := 57) hx hb dX6_next_252 (by decide +kernel) ?_
                        refine z_calli [] (v := bz (decide (48 ≤ (ftp a2) ∧ (ftp a2) ≤ 57))) (fun _ _ h => h) (va_runS (As := [.int (ftp a2), .int 48, .int 57]) (rest := []) ⟨hx, hb, hml, hown, hts⟩ (c_X6_in l G (ftp a2) 48 57 H.size) (va_cwS 3 hts gX6_next_X6_in rfl rfl rfl (by decide +kernel) ⟨Nat.le_of_ble_eq_true rfl, Nat.le_of_ble_eq_true rfl⟩) ⟨gPre_blind, fun U hU hW => gPre_ofF [] hU hW hK hP hD (by decide +kernel) rfl⟩ rfl rfl hl.1 rfl (lv_room (Nat.le_of_ble_eq_true rfl)) dX6_next_254 ⟨Nat.le_of_ble_eq_true rfl, Nat.le_of_ble_eq_true rfl⟩) hS hD hA rfl (fun u t H locs ht hvm hB hz1 hk1 hFq hAq hS => ?_)
                        obtain ⟨hP1, hK1, hD1⟩ := hB
                        have hP := zKeep hP hD [] hAq hk1 ht hP1 rfl
                        refine lv_if_eq (tgt := 309) hx hb dX6_next_257 (by decide +kernel) (fun c_259 => ?_) (fun c_259 => ?_)
                        · skip
                          have n_261 : ¬ (48 ≤ (ftp a2) ∧ (ftp a2) ≤ 57) := of_decide_eq_false (bz_eq rfl c_259)
                          have hF230 : (g_X6_next_230 td ftp za) = (a2, n2, z22v) := R230.symm.trans ((congrArg (fun z9 => p_X6_next_230 ftp (z9) a2 n2 z22v) (show td - a2 = td - (a2 + 1) + 1 by omega)).trans (by show p_X6_next_230 ftp (td - (a2 + 1) + 1) a2 n2 z22v = _; rw [p_X6_next_230, if_neg n_261]))
                          have hE230_0 : a2 = ((g_X6_next_230 td ftp za).1) := by rw [hF230]
                          have hE230_1 : n2 = ((g_X6_next_230 td ftp za).2.1) := by rw [hF230]
                          have hE230_2 : z22v = ((g_X6_next_230 td ftp za).2.2) := by rw [hF230]
                          clear hF230 R230
                          subst hE230_0
                          subst hE230_1
                          subst hE230_2
                          refine lv_aload_n hx hb dX6_next_309 rfl (lv_at hl 2 rfl) ?_
                          refine lv_iload_n hx hb dX6_next_310 rfl (lv_at hl 0 rfl) ?_
                          refine lv_iconst (v := 4) hx hb dX6_next_311 (by decide +kernel) ?_
                          refine lv_icmp_le (tgt := 319) hx hb dX6_next_312 (by decide +kernel) (fun c_262 => ?_) (fun c_262 => ?_)
                          · skip
                            have c_262N : ((g_X6_next_230 td ftp za).2.1) ≤ 4 := nI_le1 (a := ((g_X6_next_230 td ftp za).2.1)) (b := 4) (by omega) (by omega) c_262
                            refine lv_iconst (v := 1) hx hb dX6_next_319 (by decide +kernel) ?_
                            refine va_put (D := G.1) (ci := 6) (v := .int 1) (ty := .int) (C := RX6) (T := TX6) (N := 42) hx hb hts hiX6 tyX6 tyX6_ok nmX6 hown hK hP hD hS 0 rfl rfl 21 (by decide +kernel) kf117 (fun _ h9 => h9) rfl (by decide +kernel) rfl rfl (Nat.le_of_ble_eq_true rfl) dX6_next_320 (fun H locs hP hD hS => ?_)
                            have hz9 : gPD G A [zo6 h0 (nI pb) kd mo st (nI jg) ro tp (nI td) cd sr (nI tx) (nI ru) him ir ih ss sq ce lw (nI ((g_X6_next_230 td ftp za).1)) (nI (g_X6_next_0 td ftp za)) 1 ((g_X6_next_230 td ftp za).2.2) wo he s25 s26 s27 sk na kp s31 s32 s33 s34 gb go fa ga s39 s40 vo, zi G tp 160 ftp, zi G wo 96 fwo] H := ⟨hP, hD⟩
                            have hP := hz9.1
                            have hD := hz9.2
                            refine lv_goto (tgt := 403) hx hb dX6_next_323 (by decide +kernel) ?_
                            have q_263 : m_X6_next_h019 td ftp za = (g_X6_next_230 td ftp za).1 := by unfold m_X6_next_h019; rw [if_neg c_172, if_neg n_178, if_pos p_182]
                            have q_264 : m_X6_next_h020 td ftp za = nI (g_X6_next_0 td ftp za) := rfl
                            have q_265 : m_X6_next_h021 td ftp fwo za = 1 := by unfold m_X6_next_h021; rw [if_neg c_172, if_neg n_178, if_pos p_182, if_pos c_262]
                            have q_266 : m_X6_next_h022 td ftp fwo za = ((g_X6_next_230 td ftp za).2.2) := by unfold m_X6_next_h022; rw [if_neg c_172, if_neg n_178, if_pos p_182]
                            have hz9 : gPD G A [zo6 h0 (nI pb) kd mo st (nI jg) ro tp (nI td) cd sr (nI tx) (nI ru) him ir ih ss sq ce lw (nI (m_X6_next_h019 td ftp za)) (m_X6_next_h020 td ftp za) (m_X6_next_h021 td ftp fwo za) (m_X6_next_h022 td ftp fwo za) wo he s25 s26 s27 sk na kp s31 s32 s33 s34 gb go fa ga s39 s40 vo, zi G tp 160 ftp, zi G wo 96 fwo] H := ⟨by rw [q_263, q_264, q_265, q_266]; exact hP, by rw [q_263, q_264, q_265, q_266]; exact hD⟩
                            have hP9 := hz9.1
                            have hD9 := hz9.2
                            have hpost : (fun (u : Unit) => match u with | _ => za ≤ (m_X6_next_h019 td ftp za) ∧ (m_X6_next_h019 td ftp za) ≤ td ∧ (¬ (m_X6_next_h021 td ftp fwo za) = 0 → za < (m_X6_next_h019 td ftp za)) ∧ ((m_X6_next_h021 td ftp fwo za) = 2 → 0 ≤ (m_X6_next_h022 td ftp fwo za) ∧ (m_X6_next_h022 td ftp fwo za) < 6) ∧ ((m_X6_next_h021 td ftp fwo za) = 1 → 100000 ≤ 100000 + (m_X6_next_h022 td ftp fwo za))) () := nx_facts hza htd
                            exact W.vret hx hb hr (fun t ht hW => ⟨⟨(), rfl, hpost, by rw [ht]; exact hP9, va_K.moved hW.alike hK, hD9⟩, hS.F ht⟩) hS.2.2 dX6_next_403
                          · skip
                            have c_262N : 4 < ((g_X6_next_230 td ftp za).2.1) := nI_le0 (a := ((g_X6_next_230 td ftp za).2.1)) (b := 4) (by omega) (by omega) c_262
                            refine lv_iconst (v := -1) hx hb dX6_next_315 (by decide +kernel) ?_
                            refine lv_goto (tgt := 320) hx hb dX6_next_316 (by decide +kernel) ?_
                            refine va_put (D := G.1) (ci := 6) (v := .int (-1)) (ty := .int) (C := RX6) (T := TX6) (N := 42) hx hb hts hiX6 tyX6 tyX6_ok nmX6 hown hK hP hD hS 0 rfl rfl 21 (by decide +kernel) kf117 (fun _ h9 => h9) rfl (by decide +kernel) rfl rfl (Nat.le_of_ble_eq_true rfl) dX6_next_320 (fun H locs hP hD hS => ?_)
                            have hz9 : gPD G A [zo6 h0 (nI pb) kd mo st (nI jg) ro tp (nI td) cd sr (nI tx) (nI ru) him ir ih ss sq ce lw (nI ((g_X6_next_230 td ftp za).1)) (nI (g_X6_next_0 td ftp za)) (-1) ((g_X6_next_230 td ftp za).2.2) wo he s25 s26 s27 sk na kp s31 s32 s33 s34 gb go fa ga s39 s40 vo, zi G tp 160 ftp, zi G wo 96 fwo] H := ⟨hP, hD⟩
                            have hP := hz9.1
                            have hD := hz9.2
                            refine lv_goto (tgt := 403) hx hb dX6_next_323 (by decide +kernel) ?_
                            have q_267 : m_X6_next_h019 td ftp za = (g_X6_next_230 td ftp za).1 := by unfold m_X6_next_h019; rw [if_neg c_172, if_neg n_178, if_pos p_182]
                            have q_268 : m_X6_next_h020 td ftp za = nI (g_X6_next_0 td ftp za) := rfl
                            have q_269 : m_X6_next_h021 td ftp fwo za = -1 := by unfold m_X6_next_h021; rw [if_neg c_172, if_neg n_178, if_pos p_182, if_neg c_262]
                            have q_270 : m_X6_next_h022 td ftp fwo za = ((g_X6_next_230 td ftp za).2.2) := by unfold m_X6_next_h022; rw [if_neg c_172, if_neg n_178, if_pos p_182]
                            have hz9 : gPD G A [zo6 h0 (nI pb) kd mo st (nI jg) ro tp (nI td) cd sr (nI tx) (nI ru) him ir ih ss sq ce lw (nI (m_X6_next_h019 td ftp za)) (m_X6_next_h020 td ftp za) (m_X6_next_h021 td ftp fwo za) (m_X6_next_h022 td ftp fwo za) wo he s25 s26 s27 sk na kp s31 s32 s33 s34 gb go fa ga s39 s40 vo, zi G tp 160 ftp, zi G wo 96 fwo] H := ⟨by rw [q_267, q_268, q_269, q_270]; exact hP, by rw [q_267, q_268, q_269, q_270]; exact hD⟩
                            have hP9 := hz9.1
                            have hD9 := hz9.2
                            have hpost : (fun (u : Unit) => match u with | _ => za ≤ (m_X6_next_h019 td ftp za) ∧ (m_X6_next_h019 td ftp za) ≤ td ∧ (¬ (m_X6_next_h021 td ftp fwo za) = 0 → za < (m_X6_next_h019 td ftp za)) ∧ ((m_X6_next_h021 td ftp fwo za) = 2 → 0 ≤ (m_X6_next_h022 td ftp fwo za) ∧ (m_X6_next_h022 td ftp fwo za) < 6) ∧ ((m_X6_next_h021 td ftp fwo za) = 1 → 100000 ≤ 100000 + (m_X6_next_h022 td ftp fwo za))) () := nx_facts hza htd
                            exact W.vret hx hb hr (fun t ht hW => ⟨⟨(), rfl, hpost, by rw [ht]; exact hP9, va_K.moved hW.alike hK, hD9⟩, hS.F ht⟩) hS.2.2 dX6_next_403
                        · skip
                          have p_260 : 48 ≤ (ftp a2) ∧ (ftp a2) ≤ 57 := of_decide_eq_true (bz_ne rfl c_259)
                          refine lv_aload_n hx hb dX6_next_260 rfl (lv_at hl 2 rfl) ?_
                          refine lv_iload_n hx hb dX6_next_261 rfl (lv_at hl 0 rfl) ?_
                          refine lv_iconst (v := 4) hx hb dX6_next_262 (by decide +kernel) ?_
                          refine lv_icmp_ge (tgt := 289) hx hb dX6_next_263 (by decide +kernel) (fun c_271 => ?_) (fun c_271 => ?_)
                          · skip
                            have c_271N : 4 ≤ n2 := nI_le1 (a := 4) (b := n2) (by omega) (by omega) c_271
                            refine lv_iconst (v := 0) hx hb dX6_next_289 (by decide +kernel) ?_
                            refine va_put (D := G.1) (ci := 6) (v := .int 0) (ty := .int) (C := RX6) (T := TX6) (N := 42) hx hb hts hiX6 tyX6 tyX6_ok nmX6 hown hK hP hD hS 0 rfl rfl 22 (by decide +kernel) kf120 (fun _ h9 => h9) rfl (by decide +kernel) rfl rfl (Nat.le_of_ble_eq_true rfl) dX6_next_290 (fun H locs hP hD hS => ?_)
                            have hz9 : gPD G A [zo6 h0 (nI pb) kd mo st (nI jg) ro tp (nI td) cd sr (nI tx) (nI ru) him ir ih ss sq ce lw (nI a2) (nI (g_X6_next_0 td ftp za)) 0 0 wo he s25 s26 s27 sk na kp s31 s32 s33 s34 gb go fa ga s39 s40 vo, zi G tp 160 ftp, zi G wo 96 fwo] H := ⟨hP, hD⟩
                            have hP := hz9.1
                            have hD := hz9.2
                            refine lv_iinc (v := nI (n2 + 1)) (lv' := [zI 2 (nI (n2 + 1)), zI 1 (ftp (g_X6_next_0 td ftp za)), zR 0 h0]) hx hb dX6_next_293 hl (k := 0) rfl (nI_add n2 1) (by decide +kernel) rfl (fun ls hl => ?_)
                            refine lv_aload_n hx hb dX6_next_296 rfl (lv_at hl 2 rfl) ?_
                            refine lv_dup hx hb dX6_next_297 rfl ?_
                            refine va_get (D := G.1) (ci := 6) (v := .int (nI a2)) (C := RX6) (T := TX6) (N := 42) hx hb hts hiX6 hown hK hP 0 rfl rfl 19 (by decide +kernel) kf111 (fun _ h9 => h9) rfl dX6_next_298 ?_
                            refine lv_iconst (v := 1) hx hb dX6_next_301 (by decide +kernel) ?_
                            refine lv_iadd hx hb dX6_next_302 ?_
                            refine g_topi (y := nI (a2 + 1)) (nI_add a2 1) ?_
                            refine va_put (D := G.1) (ci := 6) (v := .int (nI (a2 + 1))) (ty := .int) (C := RX6) (T := TX6) (N := 42) hx hb hts hiX6 tyX6 tyX6_ok nmX6 hown hK hP hD hS 0 rfl rfl 19 (by decide +kernel) kf111 (fun _ h9 => h9) rfl (by decide +kernel) rfl rfl (Nat.le_of_ble_eq_true rfl) dX6_next_303 (fun H locs hP hD hS => ?_)
                            have hz9 : gPD G A [zo6 h0 (nI pb) kd mo st (nI jg) ro tp (nI td) cd sr (nI tx) (nI ru) him ir ih ss sq ce lw (nI (a2 + 1)) (nI (g_X6_next_0 td ftp za)) 0 0 wo he s25 s26 s27 sk na kp s31 s32 s33 s34 gb go fa ga s39 s40 vo, zi G tp 160 ftp, zi G wo 96 fwo] H := ⟨hP, hD⟩
                            have hP := hz9.1
                            have hD := hz9.2
                            refine lv_goto (tgt := 230) hx hb dX6_next_306 (by decide +kernel) ?_
                            exact ih9_230 (a2 + 1) (n2 + 1) 0 (by omega) (Eq.trans (Eq.symm ((congrArg (fun z9 => p_X6_next_230 ftp (z9) a2 n2 z22v) (show td - a2 = td - (a2 + 1) + 1 by omega)).trans (by show p_X6_next_230 ftp (td - (a2 + 1) + 1) a2 n2 z22v = _; rw [p_X6_next_230, if_pos p_260, if_pos c_271]))) R230) (by omega) (by omega) _ _ hP hD hS ls hl
                          · skip
                            have c_271N : n2 < 4 := nI_le0 (a := 4) (b := n2) (by omega) (by omega) c_271
                            refine lv_bipush (v := 10) hx hb dX6_next_266 (by decide +kernel) ?_
                            refine g_aget (D := G.1) (ci := 6) (v := .int z22v) (C := RX6) (T := TX6) (N := 42) hx hb dX6_next_268 rfl (lv_at hl 2 rfl) hts hiX6 hown hK hP 0 rfl rfl 22 (by decide +kernel) kf120 (fun _ h9 => h9) rfl dX6_next_269 ?_
                            refine lv_imul hx hb dX6_next_272 ?_
                            refine g_aget (D := G.1) (ci := 6) (v := .ref tp) (C := RX6) (T := TX6) (N := 42) hx hb dX6_next_273 rfl (lv_at hl 2 rfl) hts hiX6 hown hK hP 0 rfl rfl 6 (by decide +kernel) kf22 (fun _ h9 => h9) rfl dX6_next_274 ?_
                            refine g_aget (D := G.1) (ci := 6) (v := .int (nI a2)) (C := RX6) (T := TX6) (N := 42) hx hb dX6_next_277 rfl (lv_at hl 2 rfl) hts hiX6 hown hK hP 0 rfl rfl 19 (by decide +kernel) kf111 (fun _ h9 => h9) rfl dX6_next_278 ?_
                            refine g_iald (D := G.1) hx hb hK hP 1 0 rfl rfl (k := a2) (y := ftp a2) (by omega) rfl rfl dX6_next_281 ?_
                            refine lv_iadd hx hb dX6_next_282 ?_
                            refine lv_bipush (v := 48) hx hb dX6_next_283 (by decide +kernel) ?_
                            refine lv_isub hx hb dX6_next_285 ?_
                            refine lv_goto (tgt := 290) hx hb dX6_next_286 (by decide +kernel) ?_
                            refine va_put (D := G.1) (ci := 6) (v := .int (((10 * z22v) + (ftp a2)) - 48)) (ty := .int) (C := RX6) (T := TX6) (N := 42) hx hb hts hiX6 tyX6 tyX6_ok nmX6 hown hK hP hD hS 0 rfl rfl 22 (by decide +kernel) kf120 (fun _ h9 => h9) rfl (by decide +kernel) rfl rfl (Nat.le_of_ble_eq_true rfl) dX6_next_290 (fun H locs hP hD hS => ?_)
                            have hz9 : gPD G A [zo6 h0 (nI pb) kd mo st (nI jg) ro tp (nI td) cd sr (nI tx) (nI ru) him ir ih ss sq ce lw (nI a2) (nI (g_X6_next_0 td ftp za)) 0 (((10 * z22v) + (ftp a2)) - 48) wo he s25 s26 s27 sk na kp s31 s32 s33 s34 gb go fa ga s39 s40 vo, zi G tp 160 ftp, zi G wo 96 fwo] H := ⟨hP, hD⟩
                            have hP := hz9.1
                            have hD := hz9.2
                            refine lv_iinc (v := nI (n2 + 1)) (lv' := [zI 2 (nI (n2 + 1)), zI 1 (ftp (g_X6_next_0 td ftp za)), zR 0 h0]) hx hb dX6_next_293 hl (k := 0) rfl (nI_add n2 1) (by decide +kernel) rfl (fun ls hl => ?_)
                            refine lv_aload_n hx hb dX6_next_296 rfl (lv_at hl 2 rfl) ?_
                            refine lv_dup hx hb dX6_next_297 rfl ?_
                            refine va_get (D := G.1) (ci := 6) (v := .int (nI a2)) (C := RX6) (T := TX6) (N := 42) hx hb hts hiX6 hown hK hP 0 rfl rfl 19 (by decide +kernel) kf111 (fun _ h9 => h9) rfl dX6_next_298 ?_
                            refine lv_iconst (v := 1) hx hb dX6_next_301 (by decide +kernel) ?_
                            refine lv_iadd hx hb dX6_next_302 ?_
                            refine g_topi (y := nI (a2 + 1)) (nI_add a2 1) ?_
                            refine va_put (D := G.1) (ci := 6) (v := .int (nI (a2 + 1))) (ty := .int) (C := RX6) (T := TX6) (N := 42) hx hb hts hiX6 tyX6 tyX6_ok nmX6 hown hK hP hD hS 0 rfl rfl 19 (by decide +kernel) kf111 (fun _ h9 => h9) rfl (by decide +kernel) rfl rfl (Nat.le_of_ble_eq_true rfl) dX6_next_303 (fun H locs hP hD hS => ?_)
                            have hz9 : gPD G A [zo6 h0 (nI pb) kd mo st (nI jg) ro tp (nI td) cd sr (nI tx) (nI ru) him ir ih ss sq ce lw (nI (a2 + 1)) (nI (g_X6_next_0 td ftp za)) 0 (((10 * z22v) + (ftp a2)) - 48) wo he s25 s26 s27 sk na kp s31 s32 s33 s34 gb go fa ga s39 s40 vo, zi G tp 160 ftp, zi G wo 96 fwo] H := ⟨hP, hD⟩
                            have hP := hz9.1
                            have hD := hz9.2
                            refine lv_goto (tgt := 230) hx hb dX6_next_306 (by decide +kernel) ?_
                            exact ih9_230 (a2 + 1) (n2 + 1) (((10 * z22v) + (ftp a2)) - 48) (by omega) (Eq.trans (Eq.symm ((congrArg (fun z9 => p_X6_next_230 ftp (z9) a2 n2 z22v) (show td - a2 = td - (a2 + 1) + 1 by omega)).trans (by show p_X6_next_230 ftp (td - (a2 + 1) + 1) a2 n2 z22v = _; rw [p_X6_next_230, if_pos p_260, if_neg c_271]))) R230) (by omega) (by omega) _ _ hP hD hS ls hl
                  exact loop_230 (td - (g_X6_next_0 td ftp za) + 1) (g_X6_next_0 td ftp za) 0 0 (by omega) (rfl) (Nat.zero_le _) (by omega) _ _ hP hD hS ls hl
              · skip
                have p_177 : 97 ≤ (ftp (g_X6_next_0 td ftp za)) ∧ (ftp (g_X6_next_0 td ftp za)) ≤ 122 := of_decide_eq_true (bz_ne rfl c_176)
                have loop_103 : ∀ (n9 : Nat) (a1 : Nat), (a1 ≤ td) → (p_X6_next_103 ftp (td - a1) a1  = (g_X6_next_103 td ftp za)) → (td - a1) < n9 → ∀ (H : Heap) (locs : List Loc), va_P G.1 vwCl [zo6 h0 (nI pb) kd mo st (nI jg) ro tp (nI td) cd sr (nI tx) (nI ru) him ir ih ss sq ce lw (nI a1) (nI (g_X6_next_0 td ftp za)) 0 0 wo he s25 s26 s27 sk na kp s31 s32 s33 s34 gb go fa ga s39 s40 vo, zi G tp 160 ftp, zi G wo 96 fwo] H → va_D A [zo6 h0 (nI pb) kd mo st (nI jg) ro tp (nI td) cd sr (nI tx) (nI ru) him ir ih ss sq ce lw (nI a1) (nI (g_X6_next_0 td ftp za)) 0 0 wo he s25 s26 s27 sk na kp s31 s32 s33 s34 gb go fa ga s39 s40 vo, zi G tp 160 ftp, zi G wo 96 fwo] → va_S A s.heap H locs → ∀ ls : Array Slot, lv_has ls 3 [zI 1 (ftp (g_X6_next_0 td ftp za)), zR 0 h0] → W p l e (headSpec wsX6_next ({ frames := 1, cells := 0, slots := 0, locals := 25 })).room s m ([.ref h0] : List Value).toArray below meth c H locs 0 0 (MQ below (q_X6_next G h0 kd mo st ro tp cd sr ir ih ss sq ce lw wo he sk na kp gb go fa ga vo pb jg td tx ru him s20 s21 s22 s25 s26 s27 s31 s32 s33 s34 s39 s40 ftp fwo za A) ([.ref h0] : List Value).toArray s 0 0 A) (F0 m 103 ls []) := by
                  intro n9
                  induction n9 with
                  | zero => intro a1 ha1 R103 hm9_103; exact absurd hm9_103 (Nat.not_lt_zero _)
                  | succ n9 ih9_103 =>
                    intro a1 ha1 R103 hm9_103 H locs hP hD hS ls hl
                    refine g_aget (D := G.1) (ci := 6) (v := .int (nI a1)) (C := RX6) (T := TX6) (N := 42) hx hb dX6_next_103 rfl (lv_at hl 1 rfl) hts hiX6 hown hK hP 0 rfl rfl 19 (by decide +kernel) kf111 (fun _ h9 => h9) rfl dX6_next_104 ?_
                    refine g_aget (D := G.1) (ci := 6) (v := .int (nI td)) (C := RX6) (T := TX6) (N := 42) hx hb dX6_next_107 rfl (lv_at hl 1 rfl) hts hiX6 hown hK hP 0 rfl rfl 7 (by decide +kernel) kf80 (fun _ h9 => h9) rfl dX6_next_108 ?_
                    refine lv_icmp_ge (tgt := 146) hx hb dX6_next_111 (by decide +kernel) (fun c_275 => ?_) (fun c_275 => ?_)
                    · skip
                      have c_275N : td ≤ a1 := nI_le1 (a := td) (b := a1) (by omega) (by omega) c_275
                      have hF103 : (g_X6_next_103 td ftp za) = a1 := by rw [← R103, show td - a1 = 0 by omega]; rfl
                      have hE103_0 : a1 = (g_X6_next_103 td ftp za) := by rw [hF103]
                      clear hF103 R103
                      subst hE103_0
                      refine lv_aload_n hx hb dX6_next_146 rfl (lv_at hl 1 rfl) ?_
                      refine g_aget (D := G.1) (ci := 6) (v := .int (nI (g_X6_next_0 td ftp za))) (C := RX6) (T := TX6) (N := 42) hx hb dX6_next_147 rfl (lv_at hl 1 rfl) hts hiX6 hown hK hP 0 rfl rfl 20 (by decide +kernel) kf114 (fun _ h9 => h9) rfl dX6_next_148 ?_
                      refine g_aget (D := G.1) (ci := 6) (v := .int (nI (g_X6_next_103 td ftp za))) (C := RX6) (T := TX6) (N := 42) hx hb dX6_next_151 rfl (lv_at hl 1 rfl) hts hiX6 hown hK hP 0 rfl rfl 19 (by decide +kernel) kf111 (fun _ h9 => h9) rfl dX6_next_152 ?_
                      refine z_calli [0, 1, 2] (v := m_X6_wordFrom ftp fwo (g_X6_next_0 td ftp za) (g_X6_next_103 td ftp za)) (fun _ _ h => h) (va_runV (As := [.int (nI (g_X6_next_0 td ftp za)), .int (nI (g_X6_next_103 td ftp za))]) (rest := []) ⟨hx, hb, hml, hown, hts⟩ (c_X6_wordFrom l G h0 kd mo st ro tp cd sr ir ih ss sq ce lw wo he sk na kp gb go fa ga vo pb jg td tx ru him (nI (g_X6_next_103 td ftp za)) (nI (g_X6_next_0 td ftp za)) 0 0 s25 s26 s27 s31 s32 s33 s34 s39 s40 ftp fwo (g_X6_next_0 td ftp za) (g_X6_next_103 td ftp za) H.size (⟨(n1_le (ftp := ftp) (td - g_X6_next_0 td ftp za) (g_X6_next_0 td ftp za)).1, by omega⟩)) (cwV 2 hts gX6_next_X6_wordFrom rfl rfl rfl (by decide +kernel) ⟨Nat.le_of_ble_eq_true rfl, Nat.le_of_ble_eq_true rfl⟩) ⟨gPre_blind, va_recv (q := (RX6, TX6, 42)) hK hP (ci := 6) (q0 := 0) rfl rfl, fun U hU hW => gPre_of hU hW hK hP hD⟩ rfl rfl hl.1 rfl (lv_room (Nat.le_of_ble_eq_true rfl)) dX6_next_155 ⟨Nat.le_of_ble_eq_true rfl, Nat.le_of_ble_eq_true rfl⟩) hS hD hA rfl (fun u t H locs ht hvm hB hz1 hk1 hFq hAq hS => ?_)
                      obtain ⟨hP1, hK1, hD1⟩ := hB
                      have hP := zKeep hP hD [0, 1, 2] hAq hk1 ht hP1 rfl
                      refine lv_istore_n (lv' := [zI 2 (m_X6_wordFrom ftp fwo (g_X6_next_0 td ftp za) (g_X6_next_103 td ftp za)), zI 1 (ftp (g_X6_next_0 td ftp za)), zR 0 h0]) hx hb dX6_next_158 rfl hl (by decide +kernel) rfl (fun ls hl => ?_)
                      refine lv_aload_n hx hb dX6_next_159 rfl (lv_at hl 2 rfl) ?_
                      refine lv_iload_n hx hb dX6_next_160 rfl (lv_at hl 0 rfl) ?_
                      refine lv_iconst (v := 3) hx hb dX6_next_161 (by decide +kernel) ?_
                      refine lv_icmp_ge (tgt := 169) hx hb dX6_next_162 (by decide +kernel) (fun c_278 => ?_) (fun c_278 => ?_)
                      · skip
                        refine lv_iload_n hx hb dX6_next_169 rfl (lv_at hl 0 rfl) ?_
                        refine lv_bipush (v := 9) hx hb dX6_next_170 (by decide +kernel) ?_
                        refine lv_icmp_ge (tgt := 179) hx hb dX6_next_172 (by decide +kernel) (fun c_279 => ?_) (fun c_279 => ?_)
                        · skip
                          refine lv_iload_n hx hb dX6_next_179 rfl (lv_at hl 0 rfl) ?_
                          refine lv_bipush (v := 12) hx hb dX6_next_180 (by decide +kernel) ?_
                          refine lv_icmp_ne (tgt := 189) hx hb dX6_next_182 (by decide +kernel) (fun c_280 => ?_) (fun c_280 => ?_)
                          · skip
                            refine lv_iconst (v := 4) hx hb dX6_next_189 (by decide +kernel) ?_
                            refine lv_iload_n hx hb dX6_next_190 rfl (lv_at hl 0 rfl) ?_
                            refine lv_iadd hx hb dX6_next_191 ?_
                            refine lv_bipush (v := 9) hx hb dX6_next_192 (by decide +kernel) ?_
                            refine lv_isub hx hb dX6_next_194 ?_
                            refine va_put (D := G.1) (ci := 6) (v := .int ((4 + (m_X6_wordFrom ftp fwo (g_X6_next_0 td ftp za) (g_X6_next_103 td ftp za))) - 9)) (ty := .int) (C := RX6) (T := TX6) (N := 42) hx hb hts hiX6 tyX6 tyX6_ok nmX6 hown hK hP hD hS 0 rfl rfl 21 (by decide +kernel) kf117 (fun _ h9 => h9) rfl (by decide +kernel) rfl rfl (Nat.le_of_ble_eq_true rfl) dX6_next_195 (fun H locs hP hD hS => ?_)
                            have hz9 : gPD G A [zo6 h0 (nI pb) kd mo st (nI jg) ro tp (nI td) cd sr (nI tx) (nI ru) him ir ih ss sq ce lw (nI (g_X6_next_103 td ftp za)) (nI (g_X6_next_0 td ftp za)) ((4 + (m_X6_wordFrom ftp fwo (g_X6_next_0 td ftp za) (g_X6_next_103 td ftp za))) - 9) 0 wo he s25 s26 s27 sk na kp s31 s32 s33 s34 gb go fa ga s39 s40 vo, zi G tp 160 ftp, zi G wo 96 fwo] H := ⟨hP, hD⟩
                            have hP := hz9.1
                            have hD := hz9.2
                            refine lv_aload_n hx hb dX6_next_198 rfl (lv_at hl 2 rfl) ?_
                            refine lv_iload_n hx hb dX6_next_199 rfl (lv_at hl 0 rfl) ?_
                            refine lv_iconst (v := 3) hx hb dX6_next_200 (by decide +kernel) ?_
                            refine lv_icmp_ge (tgt := 208) hx hb dX6_next_201 (by decide +kernel) (fun c_281 => ?_) (fun c_281 => ?_)
                            rotate_left
                            · exact absurd (c_278) c_281
                            refine lv_iload_n hx hb dX6_next_208 rfl (lv_at hl 0 rfl) ?_
                            refine lv_iconst (v := 3) hx hb dX6_next_209 (by decide +kernel) ?_
                            refine lv_isub hx hb dX6_next_210 ?_
                            refine va_put (D := G.1) (ci := 6) (v := .int ((m_X6_wordFrom ftp fwo (g_X6_next_0 td ftp za) (g_X6_next_103 td ftp za)) - 3)) (ty := .int) (C := RX6) (T := TX6) (N := 42) hx hb hts hiX6 tyX6 tyX6_ok nmX6 hown hK hP hD hS 0 rfl rfl 22 (by decide +kernel) kf120 (fun _ h9 => h9) rfl (by decide +kernel) rfl rfl (Nat.le_of_ble_eq_true rfl) dX6_next_211 (fun H locs hP hD hS => ?_)
                            have hz9 : gPD G A [zo6 h0 (nI pb) kd mo st (nI jg) ro tp (nI td) cd sr (nI tx) (nI ru) him ir ih ss sq ce lw (nI (g_X6_next_103 td ftp za)) (nI (g_X6_next_0 td ftp za)) ((4 + (m_X6_wordFrom ftp fwo (g_X6_next_0 td ftp za) (g_X6_next_103 td ftp za))) - 9) ((m_X6_wordFrom ftp fwo (g_X6_next_0 td ftp za) (g_X6_next_103 td ftp za)) - 3) wo he s25 s26 s27 sk na kp s31 s32 s33 s34 gb go fa ga s39 s40 vo, zi G tp 160 ftp, zi G wo 96 fwo] H := ⟨hP, hD⟩
                            have hP := hz9.1
                            have hD := hz9.2
                            refine lv_goto (tgt := 403) hx hb dX6_next_214 (by decide +kernel) ?_
                            have q_282 : m_X6_next_h019 td ftp za = g_X6_next_103 td ftp za := by unfold m_X6_next_h019; rw [if_neg c_172, if_pos p_177]
                            have q_283 : m_X6_next_h020 td ftp za = nI (g_X6_next_0 td ftp za) := rfl
                            have q_284 : m_X6_next_h021 td ftp fwo za = (4 + (m_X6_wordFrom ftp fwo (g_X6_next_0 td ftp za) (g_X6_next_103 td ftp za))) - 9 := by unfold m_X6_next_h021; rw [if_neg c_172, if_pos p_177, if_pos c_278, if_pos c_279, if_neg c_280]
                            have q_285 : m_X6_next_h022 td ftp fwo za = (m_X6_wordFrom ftp fwo (g_X6_next_0 td ftp za) (g_X6_next_103 td ftp za)) - 3 := by unfold m_X6_next_h022; rw [if_neg c_172, if_pos p_177, if_pos c_278]
                            have hz9 : gPD G A [zo6 h0 (nI pb) kd mo st (nI jg) ro tp (nI td) cd sr (nI tx) (nI ru) him ir ih ss sq ce lw (nI (m_X6_next_h019 td ftp za)) (m_X6_next_h020 td ftp za) (m_X6_next_h021 td ftp fwo za) (m_X6_next_h022 td ftp fwo za) wo he s25 s26 s27 sk na kp s31 s32 s33 s34 gb go fa ga s39 s40 vo, zi G tp 160 ftp, zi G wo 96 fwo] H := ⟨by rw [q_282, q_283, q_284, q_285]; exact hP, by rw [q_282, q_283, q_284, q_285]; exact hD⟩
                            have hP9 := hz9.1
                            have hD9 := hz9.2
                            have hpost : (fun (u : Unit) => match u with | _ => za ≤ (m_X6_next_h019 td ftp za) ∧ (m_X6_next_h019 td ftp za) ≤ td ∧ (¬ (m_X6_next_h021 td ftp fwo za) = 0 → za < (m_X6_next_h019 td ftp za)) ∧ ((m_X6_next_h021 td ftp fwo za) = 2 → 0 ≤ (m_X6_next_h022 td ftp fwo za) ∧ (m_X6_next_h022 td ftp fwo za) < 6) ∧ ((m_X6_next_h021 td ftp fwo za) = 1 → 100000 ≤ 100000 + (m_X6_next_h022 td ftp fwo za))) () := nx_facts hza htd
                            exact W.vret hx hb hr (fun t ht hW => ⟨⟨(), rfl, hpost, by rw [ht]; exact hP9, va_K.moved hW.alike hK, hD9⟩, hS.F ht⟩) hS.2.2 dX6_next_403
                          · skip
                            refine lv_iconst (v := -1) hx hb dX6_next_185 (by decide +kernel) ?_
                            refine lv_goto (tgt := 195) hx hb dX6_next_186 (by decide +kernel) ?_
                            refine va_put (D := G.1) (ci := 6) (v := .int (-1)) (ty := .int) (C := RX6) (T := TX6) (N := 42) hx hb hts hiX6 tyX6 tyX6_ok nmX6 hown hK hP hD hS 0 rfl rfl 21 (by decide +kernel) kf117 (fun _ h9 => h9) rfl (by decide +kernel) rfl rfl (Nat.le_of_ble_eq_true rfl) dX6_next_195 (fun H locs hP hD hS => ?_)
                            have hz9 : gPD G A [zo6 h0 (nI pb) kd mo st (nI jg) ro tp (nI td) cd sr (nI tx) (nI ru) him ir ih ss sq ce lw (nI (g_X6_next_103 td ftp za)) (nI (g_X6_next_0 td ftp za)) (-1) 0 wo he s25 s26 s27 sk na kp s31 s32 s33 s34 gb go fa ga s39 s40 vo, zi G tp 160 ftp, zi G wo 96 fwo] H := ⟨hP, hD⟩
                            have hP := hz9.1
                            have hD := hz9.2
                            refine lv_aload_n hx hb dX6_next_198 rfl (lv_at hl 2 rfl) ?_
                            refine lv_iload_n hx hb dX6_next_199 rfl (lv_at hl 0 rfl) ?_
                            refine lv_iconst (v := 3) hx hb dX6_next_200 (by decide +kernel) ?_
                            refine lv_icmp_ge (tgt := 208) hx hb dX6_next_201 (by decide +kernel) (fun c_286 => ?_) (fun c_286 => ?_)
                            rotate_left
                            · exact absurd (c_278) c_286
                            refine lv_iload_n hx hb dX6_next_208 rfl (lv_at hl 0 rfl) ?_
                            refine lv_iconst (v := 3) hx hb dX6_next_209 (by decide +kernel) ?_
                            refine lv_isub hx hb dX6_next_210 ?_
                            refine va_put (D := G.1) (ci := 6) (v := .int ((m_X6_wordFrom ftp fwo (g_X6_next_0 td ftp za) (g_X6_next_103 td ftp za)) - 3)) (ty := .int) (C := RX6) (T := TX6) (N := 42) hx hb hts hiX6 tyX6 tyX6_ok nmX6 hown hK hP hD hS 0 rfl rfl 22 (by decide +kernel) kf120 (fun _ h9 => h9) rfl (by decide +kernel) rfl rfl (Nat.le_of_ble_eq_true rfl) dX6_next_211 (fun H locs hP hD hS => ?_)
                            have hz9 : gPD G A [zo6 h0 (nI pb) kd mo st (nI jg) ro tp (nI td) cd sr (nI tx) (nI ru) him ir ih ss sq ce lw (nI (g_X6_next_103 td ftp za)) (nI (g_X6_next_0 td ftp za)) (-1) ((m_X6_wordFrom ftp fwo (g_X6_next_0 td ftp za) (g_X6_next_103 td ftp za)) - 3) wo he s25 s26 s27 sk na kp s31 s32 s33 s34 gb go fa ga s39 s40 vo, zi G tp 160 ftp, zi G wo 96 fwo] H := ⟨hP, hD⟩
                            have hP := hz9.1
                            have hD := hz9.2
                            refine lv_goto (tgt := 403) hx hb dX6_next_214 (by decide +kernel) ?_
                            have q_287 : m_X6_next_h019 td ftp za = g_X6_next_103 td ftp za := by unfold m_X6_next_h019; rw [if_neg c_172, if_pos p_177]
                            have q_288 : m_X6_next_h020 td ftp za = nI (g_X6_next_0 td ftp za) := rfl
                            have q_289 : m_X6_next_h021 td ftp fwo za = -1 := by unfold m_X6_next_h021; rw [if_neg c_172, if_pos p_177, if_pos c_278, if_pos c_279, if_pos c_280]
                            have q_290 : m_X6_next_h022 td ftp fwo za = (m_X6_wordFrom ftp fwo (g_X6_next_0 td ftp za) (g_X6_next_103 td ftp za)) - 3 := by unfold m_X6_next_h022; rw [if_neg c_172, if_pos p_177, if_pos c_278]
                            have hz9 : gPD G A [zo6 h0 (nI pb) kd mo st (nI jg) ro tp (nI td) cd sr (nI tx) (nI ru) him ir ih ss sq ce lw (nI (m_X6_next_h019 td ftp za)) (m_X6_next_h020 td ftp za) (m_X6_next_h021 td ftp fwo za) (m_X6_next_h022 td ftp fwo za) wo he s25 s26 s27 sk na kp s31 s32 s33 s34 gb go fa ga s39 s40 vo, zi G tp 160 ftp, zi G wo 96 fwo] H := ⟨by rw [q_287, q_288, q_289, q_290]; exact hP, by rw [q_287, q_288, q_289, q_290]; exact hD⟩
                            have hP9 := hz9.1
                            have hD9 := hz9.2
                            have hpost : (fun (u : Unit) => match u with | _ => za ≤ (m_X6_next_h019 td ftp za) ∧ (m_X6_next_h019 td ftp za) ≤ td ∧ (¬ (m_X6_next_h021 td ftp fwo za) = 0 → za < (m_X6_next_h019 td ftp za)) ∧ ((m_X6_next_h021 td ftp fwo za) = 2 → 0 ≤ (m_X6_next_h022 td ftp fwo za) ∧ (m_X6_next_h022 td ftp fwo za) < 6) ∧ ((m_X6_next_h021 td ftp fwo za) = 1 → 100000 ≤ 100000 + (m_X6_next_h022 td ftp fwo za))) () := nx_facts hza htd
                            exact W.vret hx hb hr (fun t ht hW => ⟨⟨(), rfl, hpost, by rw [ht]; exact hP9, va_K.moved hW.alike hK, hD9⟩, hS.F ht⟩) hS.2.2 dX6_next_403
                        · skip
                          refine lv_iconst (v := 2) hx hb dX6_next_175 (by decide +kernel) ?_
                          refine lv_goto (tgt := 195) hx hb dX6_next_176 (by decide +kernel) ?_
                          refine va_put (D := G.1) (ci := 6) (v := .int 2) (ty := .int) (C := RX6) (T := TX6) (N := 42) hx hb hts hiX6 tyX6 tyX6_ok nmX6 hown hK hP hD hS 0 rfl rfl 21 (by decide +kernel) kf117 (fun _ h9 => h9) rfl (by decide +kernel) rfl rfl (Nat.le_of_ble_eq_true rfl) dX6_next_195 (fun H locs hP hD hS => ?_)
                          have hz9 : gPD G A [zo6 h0 (nI pb) kd mo st (nI jg) ro tp (nI td) cd sr (nI tx) (nI ru) him ir ih ss sq ce lw (nI (g_X6_next_103 td ftp za)) (nI (g_X6_next_0 td ftp za)) 2 0 wo he s25 s26 s27 sk na kp s31 s32 s33 s34 gb go fa ga s39 s40 vo, zi G tp 160 ftp, zi G wo 96 fwo] H := ⟨hP, hD⟩
                          have hP := hz9.1
                          have hD := hz9.2
                          refine lv_aload_n hx hb dX6_next_198 rfl (lv_at hl 2 rfl) ?_
                          refine lv_iload_n hx hb dX6_next_199 rfl (lv_at hl 0 rfl) ?_
                          refine lv_iconst (v := 3) hx hb dX6_next_200 (by decide +kernel) ?_
                          refine lv_icmp_ge (tgt := 208) hx hb dX6_next_201 (by decide +kernel) (fun c_291 => ?_) (fun c_291 => ?_)
                          rotate_left
                          · exact absurd (c_278) c_291
                          refine lv_iload_n hx hb dX6_next_208 rfl (lv_at hl 0 rfl) ?_
                          refine lv_iconst (v := 3) hx hb dX6_next_209 (by decide +kernel) ?_
                          refine lv_isub hx hb dX6_next_210 ?_
                          refine va_put (D := G.1) (ci := 6) (v := .int ((m_X6_wordFrom ftp fwo (g_X6_next_0 td ftp za) (g_X6_next_103 td ftp za)) - 3)) (ty := .int) (C := RX6) (T := TX6) (N := 42) hx hb hts hiX6 tyX6 tyX6_ok nmX6 hown hK hP hD hS 0 rfl rfl 22 (by decide +kernel) kf120 (fun _ h9 => h9) rfl (by decide +kernel) rfl rfl (Nat.le_of_ble_eq_true rfl) dX6_next_211 (fun H locs hP hD hS => ?_)
                          have hz9 : gPD G A [zo6 h0 (nI pb) kd mo st (nI jg) ro tp (nI td) cd sr (nI tx) (nI ru) him ir ih ss sq ce lw (nI (g_X6_next_103 td ftp za)) (nI (g_X6_next_0 td ftp za)) 2 ((m_X6_wordFrom ftp fwo (g_X6_next_0 td ftp za) (g_X6_next_103 td ftp za)) - 3) wo he s25 s26 s27 sk na kp s31 s32 s33 s34 gb go fa ga s39 s40 vo, zi G tp 160 ftp, zi G wo 96 fwo] H := ⟨hP, hD⟩
                          have hP := hz9.1
                          have hD := hz9.2
                          refine lv_goto (tgt := 403) hx hb dX6_next_214 (by decide +kernel) ?_
                          have q_292 : m_X6_next_h019 td ftp za = g_X6_next_103 td ftp za := by unfold m_X6_next_h019; rw [if_neg c_172, if_pos p_177]
                          have q_293 : m_X6_next_h020 td ftp za = nI (g_X6_next_0 td ftp za) := rfl
                          have q_294 : m_X6_next_h021 td ftp fwo za = 2 := by unfold m_X6_next_h021; rw [if_neg c_172, if_pos p_177, if_pos c_278, if_neg c_279]
                          have q_295 : m_X6_next_h022 td ftp fwo za = (m_X6_wordFrom ftp fwo (g_X6_next_0 td ftp za) (g_X6_next_103 td ftp za)) - 3 := by unfold m_X6_next_h022; rw [if_neg c_172, if_pos p_177, if_pos c_278]
                          have hz9 : gPD G A [zo6 h0 (nI pb) kd mo st (nI jg) ro tp (nI td) cd sr (nI tx) (nI ru) him ir ih ss sq ce lw (nI (m_X6_next_h019 td ftp za)) (m_X6_next_h020 td ftp za) (m_X6_next_h021 td ftp fwo za) (m_X6_next_h022 td ftp fwo za) wo he s25 s26 s27 sk na kp s31 s32 s33 s34 gb go fa ga s39 s40 vo, zi G tp 160 ftp, zi G wo 96 fwo] H := ⟨by rw [q_292, q_293, q_294, q_295]; exact hP, by rw [q_292, q_293, q_294, q_295]; exact hD⟩
                          have hP9 := hz9.1
                          have hD9 := hz9.2
                          have hpost : (fun (u : Unit) => match u with | _ => za ≤ (m_X6_next_h019 td ftp za) ∧ (m_X6_next_h019 td ftp za) ≤ td ∧ (¬ (m_X6_next_h021 td ftp fwo za) = 0 → za < (m_X6_next_h019 td ftp za)) ∧ ((m_X6_next_h021 td ftp fwo za) = 2 → 0 ≤ (m_X6_next_h022 td ftp fwo za) ∧ (m_X6_next_h022 td ftp fwo za) < 6) ∧ ((m_X6_next_h021 td ftp fwo za) = 1 → 100000 ≤ 100000 + (m_X6_next_h022 td ftp fwo za))) () := nx_facts hza htd
                          exact W.vret hx hb hr (fun t ht hW => ⟨⟨(), rfl, hpost, by rw [ht]; exact hP9, va_K.moved hW.alike hK, hD9⟩, hS.F ht⟩) hS.2.2 dX6_next_403
                      · skip
                        refine lv_iconst (v := 3) hx hb dX6_next_165 (by decide +kernel) ?_
                        refine lv_goto (tgt := 195) hx hb dX6_next_166 (by decide +kernel) ?_
                        refine va_put (D := G.1) (ci := 6) (v := .int 3) (ty := .int) (C := RX6) (T := TX6) (N := 42) hx hb hts hiX6 tyX6 tyX6_ok nmX6 hown hK hP hD hS 0 rfl rfl 21 (by decide +kernel) kf117 (fun _ h9 => h9) rfl (by decide +kernel) rfl rfl (Nat.le_of_ble_eq_true rfl) dX6_next_195 (fun H locs hP hD hS => ?_)
                        have hz9 : gPD G A [zo6 h0 (nI pb) kd mo st (nI jg) ro tp (nI td) cd sr (nI tx) (nI ru) him ir ih ss sq ce lw (nI (g_X6_next_103 td ftp za)) (nI (g_X6_next_0 td ftp za)) 3 0 wo he s25 s26 s27 sk na kp s31 s32 s33 s34 gb go fa ga s39 s40 vo, zi G tp 160 ftp, zi G wo 96 fwo] H := ⟨hP, hD⟩
                        have hP := hz9.1
                        have hD := hz9.2
                        refine lv_aload_n hx hb dX6_next_198 rfl (lv_at hl 2 rfl) ?_
                        refine lv_iload_n hx hb dX6_next_199 rfl (lv_at hl 0 rfl) ?_
                        refine lv_iconst (v := 3) hx hb dX6_next_200 (by decide +kernel) ?_
                        refine lv_icmp_ge (tgt := 208) hx hb dX6_next_201 (by decide +kernel) (fun c_296 => ?_) (fun c_296 => ?_)
                        · exact absurd c_296 (c_278)
                        refine lv_iload_n hx hb dX6_next_204 rfl (lv_at hl 0 rfl) ?_
                        refine lv_goto (tgt := 211) hx hb dX6_next_205 (by decide +kernel) ?_
                        refine va_put (D := G.1) (ci := 6) (v := .int (m_X6_wordFrom ftp fwo (g_X6_next_0 td ftp za) (g_X6_next_103 td ftp za))) (ty := .int) (C := RX6) (T := TX6) (N := 42) hx hb hts hiX6 tyX6 tyX6_ok nmX6 hown hK hP hD hS 0 rfl rfl 22 (by decide +kernel) kf120 (fun _ h9 => h9) rfl (by decide +kernel) rfl rfl (Nat.le_of_ble_eq_true rfl) dX6_next_211 (fun H locs hP hD hS => ?_)
                        have hz9 : gPD G A [zo6 h0 (nI pb) kd mo st (nI jg) ro tp (nI td) cd sr (nI tx) (nI ru) him ir ih ss sq ce lw (nI (g_X6_next_103 td ftp za)) (nI (g_X6_next_0 td ftp za)) 3 (m_X6_wordFrom ftp fwo (g_X6_next_0 td ftp za) (g_X6_next_103 td ftp za)) wo he s25 s26 s27 sk na kp s31 s32 s33 s34 gb go fa ga s39 s40 vo, zi G tp 160 ftp, zi G wo 96 fwo] H := ⟨hP, hD⟩
                        have hP := hz9.1
                        have hD := hz9.2
                        refine lv_goto (tgt := 403) hx hb dX6_next_214 (by decide +kernel) ?_
                        have q_297 : m_X6_next_h019 td ftp za = g_X6_next_103 td ftp za := by unfold m_X6_next_h019; rw [if_neg c_172, if_pos p_177]
                        have q_298 : m_X6_next_h020 td ftp za = nI (g_X6_next_0 td ftp za) := rfl
                        have q_299 : m_X6_next_h021 td ftp fwo za = 3 := by unfold m_X6_next_h021; rw [if_neg c_172, if_pos p_177, if_neg c_278]
                        have q_300 : m_X6_next_h022 td ftp fwo za = m_X6_wordFrom ftp fwo (g_X6_next_0 td ftp za) (g_X6_next_103 td ftp za) := by unfold m_X6_next_h022; rw [if_neg c_172, if_pos p_177, if_neg c_278]
                        have hz9 : gPD G A [zo6 h0 (nI pb) kd mo st (nI jg) ro tp (nI td) cd sr (nI tx) (nI ru) him ir ih ss sq ce lw (nI (m_X6_next_h019 td ftp za)) (m_X6_next_h020 td ftp za) (m_X6_next_h021 td ftp fwo za) (m_X6_next_h022 td ftp fwo za) wo he s25 s26 s27 sk na kp s31 s32 s33 s34 gb go fa ga s39 s40 vo, zi G tp 160 ftp, zi G wo 96 fwo] H := ⟨by rw [q_297, q_298, q_299, q_300]; exact hP, by rw [q_297, q_298, q_299, q_300]; exact hD⟩
                        have hP9 := hz9.1
                        have hD9 := hz9.2
                        have hpost : (fun (u : Unit) => match u with | _ => za ≤ (m_X6_next_h019 td ftp za) ∧ (m_X6_next_h019 td ftp za) ≤ td ∧ (¬ (m_X6_next_h021 td ftp fwo za) = 0 → za < (m_X6_next_h019 td ftp za)) ∧ ((m_X6_next_h021 td ftp fwo za) = 2 → 0 ≤ (m_X6_next_h022 td ftp fwo za) ∧ (m_X6_next_h022 td ftp fwo za) < 6) ∧ ((m_X6_next_h021 td ftp fwo za) = 1 → 100000 ≤ 100000 + (m_X6_next_h022 td ftp fwo za))) () := nx_facts hza htd
                        exact W.vret hx hb hr (fun t ht hW => ⟨⟨(), rfl, hpost, by rw [ht]; exact hP9, va_K.moved hW.alike hK, hD9⟩, hS.F ht⟩) hS.2.2 dX6_next_403
                    · skip
                      have c_275N : a1 < td := nI_le0 (a := td) (b := a1) (by omega) (by omega) c_275
                      refine g_aget (D := G.1) (ci := 6) (v := .ref tp) (C := RX6) (T := TX6) (N := 42) hx hb dX6_next_114 rfl (lv_at hl 1 rfl) hts hiX6 hown hK hP 0 rfl rfl 6 (by decide +kernel) kf22 (fun _ h9 => h9) rfl dX6_next_115 ?_
                      refine g_aget (D := G.1) (ci := 6) (v := .int (nI a1)) (C := RX6) (T := TX6) (N := 42) hx hb dX6_next_118 rfl (lv_at hl 1 rfl) hts hiX6 hown hK hP 0 rfl rfl 19 (by decide +kernel) kf111 (fun _ h9 => h9) rfl dX6_next_119 ?_
                      refine g_iald (D := G.1) hx hb hK hP 1 0 rfl rfl (k := a1) (y := ftp a1) (by omega) rfl rfl dX6_next_122 ?_
                      refine lv_bipush (v := 97) hx hb dX6_next_123 (by decide +kernel) ?_
                      refine lv_bipush (v := 122) hx hb dX6_next_125 (by decide +kernel) ?_
                      refine z_calli [] (v := bz (decide (97 ≤ (ftp a1) ∧ (ftp a1) ≤ 122))) (fun _ _ h => h) (va_runS (As := [.int (ftp a1), .int 97, .int 122]) (rest := []) ⟨hx, hb, hml, hown, hts⟩ (c_X6_in l G (ftp a1) 97 122 H.size) (va_cwS 3 hts gX6_next_X6_in rfl rfl rfl (by decide +kernel) ⟨Nat.le_of_ble_eq_true rfl, Nat.le_of_ble_eq_true rfl⟩) ⟨gPre_blind, fun U hU hW => gPre_ofF [] hU hW hK hP hD (by decide +kernel) rfl⟩ rfl rfl hl.1 rfl (lv_room (Nat.le_of_ble_eq_true rfl)) dX6_next_127 ⟨Nat.le_of_ble_eq_true rfl, Nat.le_of_ble_eq_true rfl⟩) hS hD hA rfl (fun u t H locs ht hvm hB hz1 hk1 hFq hAq hS => ?_)
                      obtain ⟨hP1, hK1, hD1⟩ := hB
                      have hP := zKeep hP hD [] hAq hk1 ht hP1 rfl
                      refine lv_if_eq (tgt := 146) hx hb dX6_next_130 (by decide +kernel) (fun c_304 => ?_) (fun c_304 => ?_)
                      · skip
                        have n_306 : ¬ (97 ≤ (ftp a1) ∧ (ftp a1) ≤ 122) := of_decide_eq_false (bz_eq rfl c_304)
                        have hF103 : (g_X6_next_103 td ftp za) = a1 := R103.symm.trans ((congrArg (fun z9 => p_X6_next_103 ftp (z9) a1 ) (show td - a1 = td - (a1 + 1) + 1 by omega)).trans (by show p_X6_next_103 ftp (td - (a1 + 1) + 1) a1  = _; rw [p_X6_next_103, if_neg n_306]))
                        have hE103_0 : a1 = (g_X6_next_103 td ftp za) := by rw [hF103]
                        clear hF103 R103
                        subst hE103_0
                        refine lv_aload_n hx hb dX6_next_146 rfl (lv_at hl 1 rfl) ?_
                        refine g_aget (D := G.1) (ci := 6) (v := .int (nI (g_X6_next_0 td ftp za))) (C := RX6) (T := TX6) (N := 42) hx hb dX6_next_147 rfl (lv_at hl 1 rfl) hts hiX6 hown hK hP 0 rfl rfl 20 (by decide +kernel) kf114 (fun _ h9 => h9) rfl dX6_next_148 ?_
                        refine g_aget (D := G.1) (ci := 6) (v := .int (nI (g_X6_next_103 td ftp za))) (C := RX6) (T := TX6) (N := 42) hx hb dX6_next_151 rfl (lv_at hl 1 rfl) hts hiX6 hown hK hP 0 rfl rfl 19 (by decide +kernel) kf111 (fun _ h9 => h9) rfl dX6_next_152 ?_
                        refine z_calli [0, 1, 2] (v := m_X6_wordFrom ftp fwo (g_X6_next_0 td ftp za) (g_X6_next_103 td ftp za)) (fun _ _ h => h) (va_runV (As := [.int (nI (g_X6_next_0 td ftp za)), .int (nI (g_X6_next_103 td ftp za))]) (rest := []) ⟨hx, hb, hml, hown, hts⟩ (c_X6_wordFrom l G h0 kd mo st ro tp cd sr ir ih ss sq ce lw wo he sk na kp gb go fa ga vo pb jg td tx ru him (nI (g_X6_next_103 td ftp za)) (nI (g_X6_next_0 td ftp za)) 0 0 s25 s26 s27 s31 s32 s33 s34 s39 s40 ftp fwo (g_X6_next_0 td ftp za) (g_X6_next_103 td ftp za) H.size (⟨(n1_le (ftp := ftp) (td - g_X6_next_0 td ftp za) (g_X6_next_0 td ftp za)).1, by omega⟩)) (cwV 2 hts gX6_next_X6_wordFrom rfl rfl rfl (by decide +kernel) ⟨Nat.le_of_ble_eq_true rfl, Nat.le_of_ble_eq_true rfl⟩) ⟨gPre_blind, va_recv (q := (RX6, TX6, 42)) hK hP (ci := 6) (q0 := 0) rfl rfl, fun U hU hW => gPre_of hU hW hK hP hD⟩ rfl rfl hl.1 rfl (lv_room (Nat.le_of_ble_eq_true rfl)) dX6_next_155 ⟨Nat.le_of_ble_eq_true rfl, Nat.le_of_ble_eq_true rfl⟩) hS hD hA rfl (fun u t H locs ht hvm hB hz1 hk1 hFq hAq hS => ?_)
                        obtain ⟨hP1, hK1, hD1⟩ := hB
                        have hP := zKeep hP hD [0, 1, 2] hAq hk1 ht hP1 rfl
                        refine lv_istore_n (lv' := [zI 2 (m_X6_wordFrom ftp fwo (g_X6_next_0 td ftp za) (g_X6_next_103 td ftp za)), zI 1 (ftp (g_X6_next_0 td ftp za)), zR 0 h0]) hx hb dX6_next_158 rfl hl (by decide +kernel) rfl (fun ls hl => ?_)
                        refine lv_aload_n hx hb dX6_next_159 rfl (lv_at hl 2 rfl) ?_
                        refine lv_iload_n hx hb dX6_next_160 rfl (lv_at hl 0 rfl) ?_
                        refine lv_iconst (v := 3) hx hb dX6_next_161 (by decide +kernel) ?_
                        refine lv_icmp_ge (tgt := 169) hx hb dX6_next_162 (by decide +kernel) (fun c_309 => ?_) (fun c_309 => ?_)
                        · skip
                          refine lv_iload_n hx hb dX6_next_169 rfl (lv_at hl 0 rfl) ?_
                          refine lv_bipush (v := 9) hx hb dX6_next_170 (by decide +kernel) ?_
                          refine lv_icmp_ge (tgt := 179) hx hb dX6_next_172 (by decide +kernel) (fun c_310 => ?_) (fun c_310 => ?_)
                          · skip
                            refine lv_iload_n hx hb dX6_next_179 rfl (lv_at hl 0 rfl) ?_
                            refine lv_bipush (v := 12) hx hb dX6_next_180 (by decide +kernel) ?_
                            refine lv_icmp_ne (tgt := 189) hx hb dX6_next_182 (by decide +kernel) (fun c_311 => ?_) (fun c_311 => ?_)
                            · skip
                              refine lv_iconst (v := 4) hx hb dX6_next_189 (by decide +kernel) ?_
                              refine lv_iload_n hx hb dX6_next_190 rfl (lv_at hl 0 rfl) ?_
                              refine lv_iadd hx hb dX6_next_191 ?_
                              refine lv_bipush (v := 9) hx hb dX6_next_192 (by decide +kernel) ?_
                              refine lv_isub hx hb dX6_next_194 ?_
                              refine va_put (D := G.1) (ci := 6) (v := .int ((4 + (m_X6_wordFrom ftp fwo (g_X6_next_0 td ftp za) (g_X6_next_103 td ftp za))) - 9)) (ty := .int) (C := RX6) (T := TX6) (N := 42) hx hb hts hiX6 tyX6 tyX6_ok nmX6 hown hK hP hD hS 0 rfl rfl 21 (by decide +kernel) kf117 (fun _ h9 => h9) rfl (by decide +kernel) rfl rfl (Nat.le_of_ble_eq_true rfl) dX6_next_195 (fun H locs hP hD hS => ?_)
                              have hz9 : gPD G A [zo6 h0 (nI pb) kd mo st (nI jg) ro tp (nI td) cd sr (nI tx) (nI ru) him ir ih ss sq ce lw (nI (g_X6_next_103 td ftp za)) (nI (g_X6_next_0 td ftp za)) ((4 + (m_X6_wordFrom ftp fwo (g_X6_next_0 td ftp za) (g_X6_next_103 td ftp za))) - 9) 0 wo he s25 s26 s27 sk na kp s31 s32 s33 s34 gb go fa ga s39 s40 vo, zi G tp 160 ftp, zi G wo 96 fwo] H := ⟨hP, hD⟩
                              have hP := hz9.1
                              have hD := hz9.2
                              refine lv_aload_n hx hb dX6_next_198 rfl (lv_at hl 2 rfl) ?_
                              refine lv_iload_n hx hb dX6_next_199 rfl (lv_at hl 0 rfl) ?_
                              refine lv_iconst (v := 3) hx hb dX6_next_200 (by decide +kernel) ?_
                              refine lv_icmp_ge (tgt := 208) hx hb dX6_next_201 (by decide +kernel) (fun c_312 => ?_) (fun c_312 => ?_)
                              rotate_left
                              · exact absurd (c_309) c_312
                              refine lv_iload_n hx hb dX6_next_208 rfl (lv_at hl 0 rfl) ?_
                              refine lv_iconst (v := 3) hx hb dX6_next_209 (by decide +kernel) ?_
                              refine lv_isub hx hb dX6_next_210 ?_
                              refine va_put (D := G.1) (ci := 6) (v := .int ((m_X6_wordFrom ftp fwo (g_X6_next_0 td ftp za) (g_X6_next_103 td ftp za)) - 3)) (ty := .int) (C := RX6) (T := TX6) (N := 42) hx hb hts hiX6 tyX6 tyX6_ok nmX6 hown hK hP hD hS 0 rfl rfl 22 (by decide +kernel) kf120 (fun _ h9 => h9) rfl (by decide +kernel) rfl rfl (Nat.le_of_ble_eq_true rfl) dX6_next_211 (fun H locs hP hD hS => ?_)
                              have hz9 : gPD G A [zo6 h0 (nI pb) kd mo st (nI jg) ro tp (nI td) cd sr (nI tx) (nI ru) him ir ih ss sq ce lw (nI (g_X6_next_103 td ftp za)) (nI (g_X6_next_0 td ftp za)) ((4 + (m_X6_wordFrom ftp fwo (g_X6_next_0 td ftp za) (g_X6_next_103 td ftp za))) - 9) ((m_X6_wordFrom ftp fwo (g_X6_next_0 td ftp za) (g_X6_next_103 td ftp za)) - 3) wo he s25 s26 s27 sk na kp s31 s32 s33 s34 gb go fa ga s39 s40 vo, zi G tp 160 ftp, zi G wo 96 fwo] H := ⟨hP, hD⟩
                              have hP := hz9.1
                              have hD := hz9.2
                              refine lv_goto (tgt := 403) hx hb dX6_next_214 (by decide +kernel) ?_
                              have q_313 : m_X6_next_h019 td ftp za = g_X6_next_103 td ftp za := by unfold m_X6_next_h019; rw [if_neg c_172, if_pos p_177]
                              have q_314 : m_X6_next_h020 td ftp za = nI (g_X6_next_0 td ftp za) := rfl
                              have q_315 : m_X6_next_h021 td ftp fwo za = (4 + (m_X6_wordFrom ftp fwo (g_X6_next_0 td ftp za) (g_X6_next_103 td ftp za))) - 9 := by unfold m_X6_next_h021; rw [if_neg c_172, if_pos p_177, if_pos c_309, if_pos c_310, if_neg c_311]
                              have q_316 : m_X6_next_h022 td ftp fwo za = (m_X6_wordFrom ftp fwo (g_X6_next_0 td ftp za) (g_X6_next_103 td ftp za)) - 3 := by unfold m_X6_next_h022; rw [if_neg c_172, if_pos p_177, if_pos c_309]
                              have hz9 : gPD G A [zo6 h0 (nI pb) kd mo st (nI jg) ro tp (nI td) cd sr (nI tx) (nI ru) him ir ih ss sq ce lw (nI (m_X6_next_h019 td ftp za)) (m_X6_next_h020 td ftp za) (m_X6_next_h021 td ftp fwo za) (m_X6_next_h022 td ftp fwo za) wo he s25 s26 s27 sk na kp s31 s32 s33 s34 gb go fa ga s39 s40 vo, zi G tp 160 ftp, zi G wo 96 fwo] H := ⟨by rw [q_313, q_314, q_315, q_316]; exact hP, by rw [q_313, q_314, q_315, q_316]; exact hD⟩
                              have hP9 := hz9.1
                              have hD9 := hz9.2
                              have hpost : (fun (u : Unit) => match u with | _ => za ≤ (m_X6_next_h019 td ftp za) ∧ (m_X6_next_h019 td ftp za) ≤ td ∧ (¬ (m_X6_next_h021 td ftp fwo za) = 0 → za < (m_X6_next_h019 td ftp za)) ∧ ((m_X6_next_h021 td ftp fwo za) = 2 → 0 ≤ (m_X6_next_h022 td ftp fwo za) ∧ (m_X6_next_h022 td ftp fwo za) < 6) ∧ ((m_X6_next_h021 td ftp fwo za) = 1 → 100000 ≤ 100000 + (m_X6_next_h022 td ftp fwo za))) () := nx_facts hza htd
                              exact W.vret hx hb hr (fun t ht hW => ⟨⟨(), rfl, hpost, by rw [ht]; exact hP9, va_K.moved hW.alike hK, hD9⟩, hS.F ht⟩) hS.2.2 dX6_next_403
                            · skip
                              refine lv_iconst (v := -1) hx hb dX6_next_185 (by decide +kernel) ?_
                              refine lv_goto (tgt := 195) hx hb dX6_next_186 (by decide +kernel) ?_
                              refine va_put (D := G.1) (ci := 6) (v := .int (-1)) (ty := .int) (C := RX6) (T := TX6) (N := 42) hx hb hts hiX6 tyX6 tyX6_ok nmX6 hown hK hP hD hS 0 rfl rfl 21 (by decide +kernel) kf117 (fun _ h9 => h9) rfl (by decide +kernel) rfl rfl (Nat.le_of_ble_eq_true rfl) dX6_next_195 (fun H locs hP hD hS => ?_)
                              have hz9 : gPD G A [zo6 h0 (nI pb) kd mo st (nI jg) ro tp (nI td) cd sr (nI tx) (nI ru) him ir ih ss sq ce lw (nI (g_X6_next_103 td ftp za)) (nI (g_X6_next_0 td ftp za)) (-1) 0 wo he s25 s26 s27 sk na kp s31 s32 s33 s34 gb go fa ga s39 s40 vo, zi G tp 160 ftp, zi G wo 96 fwo] H := ⟨hP, hD⟩
                              have hP := hz9.1
                              have hD := hz9.2
                              refine lv_aload_n hx hb dX6_next_198 rfl (lv_at hl 2 rfl) ?_
                              refine lv_iload_n hx hb dX6_next_199 rfl (lv_at hl 0 rfl) ?_
                              refine lv_iconst (v := 3) hx hb dX6_next_200 (by decide +kernel) ?_
                              refine lv_icmp_ge (tgt := 208) hx hb dX6_next_201 (by decide +kernel) (fun c_317 => ?_) (fun c_317 => ?_)
                              rotate_left
                              · exact absurd (c_309) c_317
                              refine lv_iload_n hx hb dX6_next_208 rfl (lv_at hl 0 rfl) ?_
                              refine lv_iconst (v := 3) hx hb dX6_next_209 (by decide +kernel) ?_
                              refine lv_isub hx hb dX6_next_210 ?_
                              refine va_put (D := G.1) (ci := 6) (v := .int ((m_X6_wordFrom ftp fwo (g_X6_next_0 td ftp za) (g_X6_next_103 td ftp za)) - 3)) (ty := .int) (C := RX6) (T := TX6) (N := 42) hx hb hts hiX6 tyX6 tyX6_ok nmX6 hown hK hP hD hS 0 rfl rfl 22 (by decide +kernel) kf120 (fun _ h9 => h9) rfl (by decide +kernel) rfl rfl (Nat.le_of_ble_eq_true rfl) dX6_next_211 (fun H locs hP hD hS => ?_)
                              have hz9 : gPD G A [zo6 h0 (nI pb) kd mo st (nI jg) ro tp (nI td) cd sr (nI tx) (nI ru) him ir ih ss sq ce lw (nI (g_X6_next_103 td ftp za)) (nI (g_X6_next_0 td ftp za)) (-1) ((m_X6_wordFrom ftp fwo (g_X6_next_0 td ftp za) (g_X6_next_103 td ftp za)) - 3) wo he s25 s26 s27 sk na kp s31 s32 s33 s34 gb go fa ga s39 s40 vo, zi G tp 160 ftp, zi G wo 96 fwo] H := ⟨hP, hD⟩
                              have hP := hz9.1
                              have hD := hz9.2
                              refine lv_goto (tgt := 403) hx hb dX6_next_214 (by decide +kernel) ?_
                              have q_318 : m_X6_next_h019 td ftp za = g_X6_next_103 td ftp za := by unfold m_X6_next_h019; rw [if_neg c_172, if_pos p_177]
                              have q_319 : m_X6_next_h020 td ftp za = nI (g_X6_next_0 td ftp za) := rfl
                              have q_320 : m_X6_next_h021 td ftp fwo za = -1 := by unfold m_X6_next_h021; rw [if_neg c_172, if_pos p_177, if_pos c_309, if_pos c_310, if_pos c_311]
                              have q_321 : m_X6_next_h022 td ftp fwo za = (m_X6_wordFrom ftp fwo (g_X6_next_0 td ftp za) (g_X6_next_103 td ftp za)) - 3 := by unfold m_X6_next_h022; rw [if_neg c_172, if_pos p_177, if_pos c_309]
                              have hz9 : gPD G A [zo6 h0 (nI pb) kd mo st (nI jg) ro tp (nI td) cd sr (nI tx) (nI ru) him ir ih ss sq ce lw (nI (m_X6_next_h019 td ftp za)) (m_X6_next_h020 td ftp za) (m_X6_next_h021 td ftp fwo za) (m_X6_next_h022 td ftp fwo za) wo he s25 s26 s27 sk na kp s31 s32 s33 s34 gb go fa ga s39 s40 vo, zi G tp 160 ftp, zi G wo 96 fwo] H := ⟨by rw [q_318, q_319, q_320, q_321]; exact hP, by rw [q_318, q_319, q_320, q_321]; exact hD⟩
                              have hP9 := hz9.1
                              have hD9 := hz9.2
                              have hpost : (fun (u : Unit) => match u with | _ => za ≤ (m_X6_next_h019 td ftp za) ∧ (m_X6_next_h019 td ftp za) ≤ td ∧ (¬ (m_X6_next_h021 td ftp fwo za) = 0 → za < (m_X6_next_h019 td ftp za)) ∧ ((m_X6_next_h021 td ftp fwo za) = 2 → 0 ≤ (m_X6_next_h022 td ftp fwo za) ∧ (m_X6_next_h022 td ftp fwo za) < 6) ∧ ((m_X6_next_h021 td ftp fwo za) = 1 → 100000 ≤ 100000 + (m_X6_next_h022 td ftp fwo za))) () := nx_facts hza htd
                              exact W.vret hx hb hr (fun t ht hW => ⟨⟨(), rfl, hpost, by rw [ht]; exact hP9, va_K.moved hW.alike hK, hD9⟩, hS.F ht⟩) hS.2.2 dX6_next_403
                          · skip
                            refine lv_iconst (v := 2) hx hb dX6_next_175 (by decide +kernel) ?_
                            refine lv_goto (tgt := 195) hx hb dX6_next_176 (by decide +kernel) ?_
                            refine va_put (D := G.1) (ci := 6) (v := .int 2) (ty := .int) (C := RX6) (T := TX6) (N := 42) hx hb hts hiX6 tyX6 tyX6_ok nmX6 hown hK hP hD hS 0 rfl rfl 21 (by decide +kernel) kf117 (fun _ h9 => h9) rfl (by decide +kernel) rfl rfl (Nat.le_of_ble_eq_true rfl) dX6_next_195 (fun H locs hP hD hS => ?_)
                            have hz9 : gPD G A [zo6 h0 (nI pb) kd mo st (nI jg) ro tp (nI td) cd sr (nI tx) (nI ru) him ir ih ss sq ce lw (nI (g_X6_next_103 td ftp za)) (nI (g_X6_next_0 td ftp za)) 2 0 wo he s25 s26 s27 sk na kp s31 s32 s33 s34 gb go fa ga s39 s40 vo, zi G tp 160 ftp, zi G wo 96 fwo] H := ⟨hP, hD⟩
                            have hP := hz9.1
                            have hD := hz9.2
                            refine lv_aload_n hx hb dX6_next_198 rfl (lv_at hl 2 rfl) ?_
                            refine lv_iload_n hx hb dX6_next_199 rfl (lv_at hl 0 rfl) ?_
                            refine lv_iconst (v := 3) hx hb dX6_next_200 (by decide +kernel) ?_
                            refine lv_icmp_ge (tgt := 208) hx hb dX6_next_201 (by decide +kernel) (fun c_322 => ?_) (fun c_322 => ?_)
                            rotate_left
                            · exact absurd (c_309) c_322
                            refine lv_iload_n hx hb dX6_next_208 rfl (lv_at hl 0 rfl) ?_
                            refine lv_iconst (v := 3) hx hb dX6_next_209 (by decide +kernel) ?_
                            refine lv_isub hx hb dX6_next_210 ?_
                            refine va_put (D := G.1) (ci := 6) (v := .int ((m_X6_wordFrom ftp fwo (g_X6_next_0 td ftp za) (g_X6_next_103 td ftp za)) - 3)) (ty := .int) (C := RX6) (T := TX6) (N := 42) hx hb hts hiX6 tyX6 tyX6_ok nmX6 hown hK hP hD hS 0 rfl rfl 22 (by decide +kernel) kf120 (fun _ h9 => h9) rfl (by decide +kernel) rfl rfl (Nat.le_of_ble_eq_true rfl) dX6_next_211 (fun H locs hP hD hS => ?_)
                            have hz9 : gPD G A [zo6 h0 (nI pb) kd mo st (nI jg) ro tp (nI td) cd sr (nI tx) (nI ru) him ir ih ss sq ce lw (nI (g_X6_next_103 td ftp za)) (nI (g_X6_next_0 td ftp za)) 2 ((m_X6_wordFrom ftp fwo (g_X6_next_0 td ftp za) (g_X6_next_103 td ftp za)) - 3) wo he s25 s26 s27 sk na kp s31 s32 s33 s34 gb go fa ga s39 s40 vo, zi G tp 160 ftp, zi G wo 96 fwo] H := ⟨hP, hD⟩
                            have hP := hz9.1
                            have hD := hz9.2
                            refine lv_goto (tgt := 403) hx hb dX6_next_214 (by decide +kernel) ?_
                            have q_323 : m_X6_next_h019 td ftp za = g_X6_next_103 td ftp za := by unfold m_X6_next_h019; rw [if_neg c_172, if_pos p_177]
                            have q_324 : m_X6_next_h020 td ftp za = nI (g_X6_next_0 td ftp za) := rfl
                            have q_325 : m_X6_next_h021 td ftp fwo za = 2 := by unfold m_X6_next_h021; rw [if_neg c_172, if_pos p_177, if_pos c_309, if_neg c_310]
                            have q_326 : m_X6_next_h022 td ftp fwo za = (m_X6_wordFrom ftp fwo (g_X6_next_0 td ftp za) (g_X6_next_103 td ftp za)) - 3 := by unfold m_X6_next_h022; rw [if_neg c_172, if_pos p_177, if_pos c_309]
                            have hz9 : gPD G A [zo6 h0 (nI pb) kd mo st (nI jg) ro tp (nI td) cd sr (nI tx) (nI ru) him ir ih ss sq ce lw (nI (m_X6_next_h019 td ftp za)) (m_X6_next_h020 td ftp za) (m_X6_next_h021 td ftp fwo za) (m_X6_next_h022 td ftp fwo za) wo he s25 s26 s27 sk na kp s31 s32 s33 s34 gb go fa ga s39 s40 vo, zi G tp 160 ftp, zi G wo 96 fwo] H := ⟨by rw [q_323, q_324, q_325, q_326]; exact hP, by rw [q_323, q_324, q_325, q_326]; exact hD⟩
                            have hP9 := hz9.1
                            have hD9 := hz9.2
                            have hpost : (fun (u : Unit) => match u with | _ => za ≤ (m_X6_next_h019 td ftp za) ∧ (m_X6_next_h019 td ftp za) ≤ td ∧ (¬ (m_X6_next_h021 td ftp fwo za) = 0 → za < (m_X6_next_h019 td ftp za)) ∧ ((m_X6_next_h021 td ftp fwo za) = 2 → 0 ≤ (m_X6_next_h022 td ftp fwo za) ∧ (m_X6_next_h022 td ftp fwo za) < 6) ∧ ((m_X6_next_h021 td ftp fwo za) = 1 → 100000 ≤ 100000 + (m_X6_next_h022 td ftp fwo za))) () := nx_facts hza htd
                            exact W.vret hx hb hr (fun t ht hW => ⟨⟨(), rfl, hpost, by rw [ht]; exact hP9, va_K.moved hW.alike hK, hD9⟩, hS.F ht⟩) hS.2.2 dX6_next_403
                        · skip
                          refine lv_iconst (v := 3) hx hb dX6_next_165 (by decide +kernel) ?_
                          refine lv_goto (tgt := 195) hx hb dX6_next_166 (by decide +kernel) ?_
                          refine va_put (D := G.1) (ci := 6) (v := .int 3) (ty := .int) (C := RX6) (T := TX6) (N := 42) hx hb hts hiX6 tyX6 tyX6_ok nmX6 hown hK hP hD hS 0 rfl rfl 21 (by decide +kernel) kf117 (fun _ h9 => h9) rfl (by decide +kernel) rfl rfl (Nat.le_of_ble_eq_true rfl) dX6_next_195 (fun H locs hP hD hS => ?_)
                          have hz9 : gPD G A [zo6 h0 (nI pb) kd mo st (nI jg) ro tp (nI td) cd sr (nI tx) (nI ru) him ir ih ss sq ce lw (nI (g_X6_next_103 td ftp za)) (nI (g_X6_next_0 td ftp za)) 3 0 wo he s25 s26 s27 sk na kp s31 s32 s33 s34 gb go fa ga s39 s40 vo, zi G tp 160 ftp, zi G wo 96 fwo] H := ⟨hP, hD⟩
                          have hP := hz9.1
                          have hD := hz9.2
                          refine lv_aload_n hx hb dX6_next_198 rfl (lv_at hl 2 rfl) ?_
                          refine lv_iload_n hx hb dX6_next_199 rfl (lv_at hl 0 rfl) ?_
                          refine lv_iconst (v := 3) hx hb dX6_next_200 (by decide +kernel) ?_
                          refine lv_icmp_ge (tgt := 208) hx hb dX6_next_201 (by decide +kernel) (fun c_327 => ?_) (fun c_327 => ?_)
                          · exact absurd c_327 (c_309)
                          refine lv_iload_n hx hb dX6_next_204 rfl (lv_at hl 0 rfl) ?_
                          refine lv_goto (tgt := 211) hx hb dX6_next_205 (by decide +kernel) ?_
                          refine va_put (D := G.1) (ci := 6) (v := .int (m_X6_wordFrom ftp fwo (g_X6_next_0 td ftp za) (g_X6_next_103 td ftp za))) (ty := .int) (C := RX6) (T := TX6) (N := 42) hx hb hts hiX6 tyX6 tyX6_ok nmX6 hown hK hP hD hS 0 rfl rfl 22 (by decide +kernel) kf120 (fun _ h9 => h9) rfl (by decide +kernel) rfl rfl (Nat.le_of_ble_eq_true rfl) dX6_next_211 (fun H locs hP hD hS => ?_)
                          have hz9 : gPD G A [zo6 h0 (nI pb) kd mo st (nI jg) ro tp (nI td) cd sr (nI tx) (nI ru) him ir ih ss sq ce lw (nI (g_X6_next_103 td ftp za)) (nI (g_X6_next_0 td ftp za)) 3 (m_X6_wordFrom ftp fwo (g_X6_next_0 td ftp za) (g_X6_next_103 td ftp za)) wo he s25 s26 s27 sk na kp s31 s32 s33 s34 gb go fa ga s39 s40 vo, zi G tp 160 ftp, zi G wo 96 fwo] H := ⟨hP, hD⟩
                          have hP := hz9.1
                          have hD := hz9.2
                          refine lv_goto (tgt := 403) hx hb dX6_next_214 (by decide +kernel) ?_
                          have q_328 : m_X6_next_h019 td ftp za = g_X6_next_103 td ftp za := by unfold m_X6_next_h019; rw [if_neg c_172, if_pos p_177]
                          have q_329 : m_X6_next_h020 td ftp za = nI (g_X6_next_0 td ftp za) := rfl
                          have q_330 : m_X6_next_h021 td ftp fwo za = 3 := by unfold m_X6_next_h021; rw [if_neg c_172, if_pos p_177, if_neg c_309]
                          have q_331 : m_X6_next_h022 td ftp fwo za = m_X6_wordFrom ftp fwo (g_X6_next_0 td ftp za) (g_X6_next_103 td ftp za) := by unfold m_X6_next_h022; rw [if_neg c_172, if_pos p_177, if_neg c_309]
                          have hz9 : gPD G A [zo6 h0 (nI pb) kd mo st (nI jg) ro tp (nI td) cd sr (nI tx) (nI ru) him ir ih ss sq ce lw (nI (m_X6_next_h019 td ftp za)) (m_X6_next_h020 td ftp za) (m_X6_next_h021 td ftp fwo za) (m_X6_next_h022 td ftp fwo za) wo he s25 s26 s27 sk na kp s31 s32 s33 s34 gb go fa ga s39 s40 vo, zi G tp 160 ftp, zi G wo 96 fwo] H := ⟨by rw [q_328, q_329, q_330, q_331]; exact hP, by rw [q_328, q_329, q_330, q_331]; exact hD⟩
                          have hP9 := hz9.1
                          have hD9 := hz9.2
                          have hpost : (fun (u : Unit) => match u with | _ => za ≤ (m_X6_next_h019 td ftp za) ∧ (m_X6_next_h019 td ftp za) ≤ td ∧ (¬ (m_X6_next_h021 td ftp fwo za) = 0 → za < (m_X6_next_h019 td ftp za)) ∧ ((m_X6_next_h021 td ftp fwo za) = 2 → 0 ≤ (m_X6_next_h022 td ftp fwo za) ∧ (m_X6_next_h022 td ftp fwo za) < 6) ∧ ((m_X6_next_h021 td ftp fwo za) = 1 → 100000 ≤ 100000 + (m_X6_next_h022 td ftp fwo za))) () := nx_facts hza htd
                          exact W.vret hx hb hr (fun t ht hW => ⟨⟨(), rfl, hpost, by rw [ht]; exact hP9, va_K.moved hW.alike hK, hD9⟩, hS.F ht⟩) hS.2.2 dX6_next_403
                      · skip
                        have p_305 : 97 ≤ (ftp a1) ∧ (ftp a1) ≤ 122 := of_decide_eq_true (bz_ne rfl c_304)
                        refine lv_aload_n hx hb dX6_next_133 rfl (lv_at hl 1 rfl) ?_
                        refine lv_dup hx hb dX6_next_134 rfl ?_
                        refine va_get (D := G.1) (ci := 6) (v := .int (nI a1)) (C := RX6) (T := TX6) (N := 42) hx hb hts hiX6 hown hK hP 0 rfl rfl 19 (by decide +kernel) kf111 (fun _ h9 => h9) rfl dX6_next_135 ?_
                        refine lv_iconst (v := 1) hx hb dX6_next_138 (by decide +kernel) ?_
                        refine lv_iadd hx hb dX6_next_139 ?_
                        refine g_topi (y := nI (a1 + 1)) (nI_add a1 1) ?_
                        refine va_put (D := G.1) (ci := 6) (v := .int (nI (a1 + 1))) (ty := .int) (C := RX6) (T := TX6) (N := 42) hx hb hts hiX6 tyX6 tyX6_ok nmX6 hown hK hP hD hS 0 rfl rfl 19 (by decide +kernel) kf111 (fun _ h9 => h9) rfl (by decide +kernel) rfl rfl (Nat.le_of_ble_eq_true rfl) dX6_next_140 (fun H locs hP hD hS => ?_)
                        have hz9 : gPD G A [zo6 h0 (nI pb) kd mo st (nI jg) ro tp (nI td) cd sr (nI tx) (nI ru) him ir ih ss sq ce lw (nI (a1 + 1)) (nI (g_X6_next_0 td ftp za)) 0 0 wo he s25 s26 s27 sk na kp s31 s32 s33 s34 gb go fa ga s39 s40 vo, zi G tp 160 ftp, zi G wo 96 fwo] H := ⟨hP, hD⟩
                        have hP := hz9.1
                        have hD := hz9.2
                        refine lv_goto (tgt := 103) hx hb dX6_next_143 (by decide +kernel) ?_
                        exact ih9_103 (a1 + 1) (by omega) (Eq.trans (Eq.symm ((congrArg (fun z9 => p_X6_next_103 ftp (z9) a1 ) (show td - a1 = td - (a1 + 1) + 1 by omega)).trans (by show p_X6_next_103 ftp (td - (a1 + 1) + 1) a1  = _; rw [p_X6_next_103, if_pos p_305]))) R103) (by omega) _ _ hP hD hS ls hl
                exact loop_103 (td - (g_X6_next_0 td ftp za) + 1) (g_X6_next_0 td ftp za) (by omega) (rfl) (by omega) _ _ hP hD hS ls hl
            · skip
              have c_172N : (g_X6_next_0 td ftp za) = td := nI_eq1 (a := (g_X6_next_0 td ftp za)) (b := td) (by omega) (by omega) c_172
              have q_333 : m_X6_next_h019 td ftp za = g_X6_next_0 td ftp za := by unfold m_X6_next_h019; rw [if_pos c_172]
              have q_334 : m_X6_next_h020 td ftp za = nI (g_X6_next_0 td ftp za) := rfl
              have q_335 : m_X6_next_h021 td ftp fwo za = 0 := by unfold m_X6_next_h021; rw [if_pos c_172]
              have q_336 : m_X6_next_h022 td ftp fwo za = 0 := by unfold m_X6_next_h022; rw [if_pos c_172]
              have hz9 : gPD G A [zo6 h0 (nI pb) kd mo st (nI jg) ro tp (nI td) cd sr (nI tx) (nI ru) him ir ih ss sq ce lw (nI (m_X6_next_h019 td ftp za)) (m_X6_next_h020 td ftp za) (m_X6_next_h021 td ftp fwo za) (m_X6_next_h022 td ftp fwo za) wo he s25 s26 s27 sk na kp s31 s32 s33 s34 gb go fa ga s39 s40 vo, zi G tp 160 ftp, zi G wo 96 fwo] H := ⟨by rw [q_333, q_334, q_335, q_336]; exact hP, by rw [q_333, q_334, q_335, q_336]; exact hD⟩
              have hP9 := hz9.1
              have hD9 := hz9.2
              have hpost : (fun (u : Unit) => match u with | _ => za ≤ (m_X6_next_h019 td ftp za) ∧ (m_X6_next_h019 td ftp za) ≤ td ∧ (¬ (m_X6_next_h021 td ftp fwo za) = 0 → za < (m_X6_next_h019 td ftp za)) ∧ ((m_X6_next_h021 td ftp fwo za) = 2 → 0 ≤ (m_X6_next_h022 td ftp fwo za) ∧ (m_X6_next_h022 td ftp fwo za) < 6) ∧ ((m_X6_next_h021 td ftp fwo za) = 1 → 100000 ≤ 100000 + (m_X6_next_h022 td ftp fwo za))) () := nx_facts hza htd
              exact W.vret hx hb hr (fun t ht hW => ⟨⟨(), rfl, hpost, by rw [ht]; exact hP9, va_K.moved hW.alike hK, hD9⟩, hS.F ht⟩) hS.2.2 dX6_next_81
          · skip
            refine lv_aload_n hx hb dX6_next_39 rfl (lv_at hl 0 rfl) ?_
            refine lv_dup hx hb dX6_next_40 rfl ?_
            refine va_get (D := G.1) (ci := 6) (v := .int (nI a0)) (C := RX6) (T := TX6) (N := 42) hx hb hts hiX6 hown hK hP 0 rfl rfl 19 (by decide +kernel) kf111 (fun _ h9 => h9) rfl dX6_next_41 ?_
            refine lv_iconst (v := 1) hx hb dX6_next_44 (by decide +kernel) ?_
            refine lv_iadd hx hb dX6_next_45 ?_
            refine g_topi (y := nI (a0 + 1)) (nI_add a0 1) ?_
            refine va_put (D := G.1) (ci := 6) (v := .int (nI (a0 + 1))) (ty := .int) (C := RX6) (T := TX6) (N := 42) hx hb hts hiX6 tyX6 tyX6_ok nmX6 hown hK hP hD hS 0 rfl rfl 19 (by decide +kernel) kf111 (fun _ h9 => h9) rfl (by decide +kernel) rfl rfl (Nat.le_of_ble_eq_true rfl) dX6_next_46 (fun H locs hP hD hS => ?_)
            have hz9 : gPD G A [zo6 h0 (nI pb) kd mo st (nI jg) ro tp (nI td) cd sr (nI tx) (nI ru) him ir ih ss sq ce lw (nI (a0 + 1)) s20 s21 s22 wo he s25 s26 s27 sk na kp s31 s32 s33 s34 gb go fa ga s39 s40 vo, zi G tp 160 ftp, zi G wo 96 fwo] H := ⟨hP, hD⟩
            have hP := hz9.1
            have hD := hz9.2
            refine lv_goto (tgt := 0) hx hb dX6_next_49 (by decide +kernel) ?_
            exact ih9_0 (a0 + 1) (by omega) (Eq.trans (Eq.symm ((congrArg (fun z9 => p_X6_next_0 ftp (z9) a0 ) (show td - a0 = td - (a0 + 1) + 1 by omega)).trans (by show p_X6_next_0 ftp (td - (a0 + 1) + 1) a0  = _; rw [p_X6_next_0, if_neg c_168, if_pos c_171]))) R0) (by omega) _ _ hP hD hS ls hl
  exact loop_0 (td - za + 1) za (by omega) (rfl) (by omega) _ _ hP hD hS ls hl
noncomputable def m_X6_signOf (s21 : Int32) : Int32 := if s21 = 4 then 11 else (if s21 = 5 then 12 else (if s21 = 60 then 14 else (if s21 = 61 then 15 else (if s21 = 43 then 16 else (if s21 = 45 then 17 else (if s21 = 42 then 18 else -1))))))
abbrev q_X6_signOf (G : gG) (h0 kd mo st ro tp cd sr ir ih ss sq ce lw wo he sk na kp gb go fa ga vo : Nat) (pb : Nat) (jg : Nat) (td : Nat) (tx : Nat) (ru : Nat) (him : Int32) (s19 : Int32) (s20 : Int32) (s21 : Int32) (s22 : Int32) (s25 : Int32) (s26 : Int32) (s27 : Int32) (s31 : Int32) (s32 : Int32) (s33 : Int32) (s34 : Int32) (s39 : Int32) (s40 : Int32) (A : Nat → Prop) : Array Value → State → Outcome → State → Prop := va_Qi (fun (r : Int32) (u : Unit) => match u with | _ => r = m_X6_signOf s21) (fun (u : Unit) t => match u with | _ => va_P G.1 vwCl [zo6 h0 (nI pb) kd mo st (nI jg) ro tp (nI td) cd sr (nI tx) (nI ru) him ir ih ss sq ce lw s19 s20 s21 s22 wo he s25 s26 s27 sk na kp s31 s32 s33 s34 gb go fa ga s39 s40 vo] t.heap ∧ gK G t ∧ va_D A [zo6 h0 (nI pb) kd mo st (nI jg) ro tp (nI td) cd sr (nI tx) (nI ru) him ir ih ss sq ce lw s19 s20 s21 s22 wo he s25 s26 s27 sk na kp s31 s32 s33 s34 gb go fa ga s39 s40 vo]) A
set_option maxHeartbeats 4000000 in
set_option maxRecDepth 100000 in
theorem c_X6_signOf (l : Launch) (G : gG) (h0 kd mo st ro tp cd sr ir ih ss sq ce lw wo he sk na kp gb go fa ga vo : Nat) (pb : Nat) (jg : Nat) (td : Nat) (tx : Nat) (ru : Nat) (him : Int32) (s19 : Int32) (s20 : Int32) (s21 : Int32) (s22 : Int32) (s25 : Int32) (s26 : Int32) (s27 : Int32) (s31 : Int32) (s32 : Int32) (s33 : Int32) (s34 : Int32) (s39 : Int32) (s40 : Int32) (sz : Nat) : Met l yX6_signOf wsX6_signOf ({ frames := 0, cells := 0, slots := 0, locals := 0 }) (gPre G [.ref h0] [zo6 h0 (nI pb) kd mo st (nI jg) ro tp (nI td) cd sr (nI tx) (nI ru) him ir ih ss sq ce lw s19 s20 s21 s22 wo he s25 s26 s27 sk na kp s31 s32 s33 s34 gb go fa ga s39 s40 vo] sz) (q_X6_signOf G h0 kd mo st ro tp cd sr ir ih ss sq ce lw wo he sk na kp gb go fa ga vo pb jg td tx ru him s19 s20 s21 s22 s25 s26 s27 s31 s32 s33 s34 s39 s40 (va_A [zo6 h0 (nI pb) kd mo st (nI jg) ro tp (nI td) cd sr (nI tx) (nI ru) him ir ih ss sq ce lw s19 s20 s21 s22 wo he s25 s26 s27 sk na kp s31 s32 s33 s34 gb go fa ga s39 s40 vo] sz)) 0 0 (va_A [zo6 h0 (nI pb) kd mo st (nI jg) ro tp (nI td) cd sr (nI tx) (nI ru) him ir ih ss sq ce lw s19 s20 s21 s22 wo he s25 s26 s27 sk na kp s31 s32 s33 s34 gb go fa ga s39 s40 vo] sz) := by
  refine Met.ofW (cc := cX6_signOf) (maxL := 1) (ret := (some .int)) (by decide +kernel) rfl ?_
  intro p e s m args below meth c s₁ B hml hv
  obtain ⟨rfl, hsz, hP, hK, hD0⟩ := hv
  have hx := B.exec
  have hb := B.bytes
  have hr := B.returns
  have hts := atoms_spec (ws := wsX6_signOf) B.pre
  have hown : s.vm.findClass RX6 = some m.cls := findClass_of_methodNamed B.named
  have hlocks := B.notSynchronized
  subst hsz
  have hD := hD0.self (sz := s.heap.size)
  generalize hAe : va_A [zo6 h0 (nI pb) kd mo st (nI jg) ro tp (nI td) cd sr (nI tx) (nI ru) him ir ih ss sq ce lw s19 s20 s21 s22 wo he s25 s26 s27 sk na kp s31 s32 s33 s34 gb go fa ga s39 s40 vo] s.heap.size = A at hD ⊢
  have hA : ∀ q : Nat, s.heap.size ≤ q → A q := fun q h => by rw [← hAe]; exact Or.inr h
  have hS : va_S A s.heap s.heap [] := va_S.rf
  have hz9 : gPD G A [zo6 h0 (nI pb) kd mo st (nI jg) ro tp (nI td) cd sr (nI tx) (nI ru) him ir ih ss sq ce lw s19 s20 s21 s22 wo he s25 s26 s27 sk na kp s31 s32 s33 s34 gb go fa ga s39 s40 vo] s.heap := ⟨hP, hD⟩
  have hP := hz9.1
  have hD := hz9.2
  have hl := lv_entry ([.ref h0]) (n := 1) (Nat.le_of_ble_eq_true rfl)
  rw [lg_entry_eq]
  generalize (lg_sl ([.ref h0]) ++ List.replicate (1 - (lg_sl ([.ref h0])).length) Slot.unset).toArray = ls at hl ⊢
  have hl : lv_has ls 1 [zR 0 h0] := hl
  have kf117 := hts (.fieldLink RX6 117 "PebbleInShoeModel" "token" "I") (by decide +kernel)
  have hiX6 := (by decide +kernel : ∀ w ∈ wsX60, w ∈ wsX6_signOf)
  refine g_aget (D := G.1) (ci := 6) (v := .int s21) (C := RX6) (T := TX6) (N := 42) hx hb dX6_signOf_0 rfl (lv_at hl 0 rfl) hts hiX6 hown hK hP 0 rfl rfl 21 (by decide +kernel) kf117 (fun _ h9 => h9) rfl dX6_signOf_1 ?_
  refine lv_iconst (v := 4) hx hb dX6_signOf_4 (by decide +kernel) ?_
  refine lv_icmp_ne (tgt := 13) hx hb dX6_signOf_5 (by decide +kernel) (fun c_1 => ?_) (fun c_1 => ?_)
  · skip
    refine g_aget (D := G.1) (ci := 6) (v := .int s21) (C := RX6) (T := TX6) (N := 42) hx hb dX6_signOf_13 rfl (lv_at hl 0 rfl) hts hiX6 hown hK hP 0 rfl rfl 21 (by decide +kernel) kf117 (fun _ h9 => h9) rfl dX6_signOf_14 ?_
    refine lv_iconst (v := 5) hx hb dX6_signOf_17 (by decide +kernel) ?_
    refine lv_icmp_ne (tgt := 26) hx hb dX6_signOf_18 (by decide +kernel) (fun c_2 => ?_) (fun c_2 => ?_)
    · skip
      refine g_aget (D := G.1) (ci := 6) (v := .int s21) (C := RX6) (T := TX6) (N := 42) hx hb dX6_signOf_26 rfl (lv_at hl 0 rfl) hts hiX6 hown hK hP 0 rfl rfl 21 (by decide +kernel) kf117 (fun _ h9 => h9) rfl dX6_signOf_27 ?_
      refine lv_bipush (v := 60) hx hb dX6_signOf_30 (by decide +kernel) ?_
      refine lv_icmp_ne (tgt := 40) hx hb dX6_signOf_32 (by decide +kernel) (fun c_3 => ?_) (fun c_3 => ?_)
      · skip
        refine g_aget (D := G.1) (ci := 6) (v := .int s21) (C := RX6) (T := TX6) (N := 42) hx hb dX6_signOf_40 rfl (lv_at hl 0 rfl) hts hiX6 hown hK hP 0 rfl rfl 21 (by decide +kernel) kf117 (fun _ h9 => h9) rfl dX6_signOf_41 ?_
        refine lv_bipush (v := 61) hx hb dX6_signOf_44 (by decide +kernel) ?_
        refine lv_icmp_ne (tgt := 54) hx hb dX6_signOf_46 (by decide +kernel) (fun c_4 => ?_) (fun c_4 => ?_)
        · skip
          refine g_aget (D := G.1) (ci := 6) (v := .int s21) (C := RX6) (T := TX6) (N := 42) hx hb dX6_signOf_54 rfl (lv_at hl 0 rfl) hts hiX6 hown hK hP 0 rfl rfl 21 (by decide +kernel) kf117 (fun _ h9 => h9) rfl dX6_signOf_55 ?_
          refine lv_bipush (v := 43) hx hb dX6_signOf_58 (by decide +kernel) ?_
          refine lv_icmp_ne (tgt := 68) hx hb dX6_signOf_60 (by decide +kernel) (fun c_5 => ?_) (fun c_5 => ?_)
          · skip
            refine g_aget (D := G.1) (ci := 6) (v := .int s21) (C := RX6) (T := TX6) (N := 42) hx hb dX6_signOf_68 rfl (lv_at hl 0 rfl) hts hiX6 hown hK hP 0 rfl rfl 21 (by decide +kernel) kf117 (fun _ h9 => h9) rfl dX6_signOf_69 ?_
            refine lv_bipush (v := 45) hx hb dX6_signOf_72 (by decide +kernel) ?_
            refine lv_icmp_ne (tgt := 82) hx hb dX6_signOf_74 (by decide +kernel) (fun c_6 => ?_) (fun c_6 => ?_)
            · skip
              refine g_aget (D := G.1) (ci := 6) (v := .int s21) (C := RX6) (T := TX6) (N := 42) hx hb dX6_signOf_82 rfl (lv_at hl 0 rfl) hts hiX6 hown hK hP 0 rfl rfl 21 (by decide +kernel) kf117 (fun _ h9 => h9) rfl dX6_signOf_83 ?_
              refine lv_bipush (v := 42) hx hb dX6_signOf_86 (by decide +kernel) ?_
              refine lv_icmp_ne (tgt := 96) hx hb dX6_signOf_88 (by decide +kernel) (fun c_7 => ?_) (fun c_7 => ?_)
              · skip
                refine lv_iconst (v := -1) hx hb dX6_signOf_96 (by decide +kernel) ?_
                have hpost : (fun (r : Int32) (u : Unit) => match u with | _ => r = m_X6_signOf s21) (-1) () := (show m_X6_signOf s21 = (-1) from by unfold m_X6_signOf; rw [if_neg c_1, if_neg c_2, if_neg c_3, if_neg c_4, if_neg c_5, if_neg c_6, if_neg c_7]).symm
                exact W.iret (v := (-1)) hx hb hr (fun t ht hW => ⟨⟨(-1), (), rfl, hpost, by rw [ht]; exact hP, va_K.moved hW.alike hK, hD⟩, hS.F ht⟩) hS.2.2 dX6_signOf_97
              · skip
                refine lv_bipush (v := 18) hx hb dX6_signOf_91 (by decide +kernel) ?_
                refine lv_goto (tgt := 97) hx hb dX6_signOf_93 (by decide +kernel) ?_
                have hpost : (fun (r : Int32) (u : Unit) => match u with | _ => r = m_X6_signOf s21) 18 () := (show m_X6_signOf s21 = 18 from by unfold m_X6_signOf; rw [if_neg c_1, if_neg c_2, if_neg c_3, if_neg c_4, if_neg c_5, if_neg c_6, if_pos c_7]).symm
                exact W.iret (v := 18) hx hb hr (fun t ht hW => ⟨⟨18, (), rfl, hpost, by rw [ht]; exact hP, va_K.moved hW.alike hK, hD⟩, hS.F ht⟩) hS.2.2 dX6_signOf_97
            · skip
              refine lv_bipush (v := 17) hx hb dX6_signOf_77 (by decide +kernel) ?_
              refine lv_goto (tgt := 97) hx hb dX6_signOf_79 (by decide +kernel) ?_
              have hpost : (fun (r : Int32) (u : Unit) => match u with | _ => r = m_X6_signOf s21) 17 () := (show m_X6_signOf s21 = 17 from by unfold m_X6_signOf; rw [if_neg c_1, if_neg c_2, if_neg c_3, if_neg c_4, if_neg c_5, if_pos c_6]).symm
              exact W.iret (v := 17) hx hb hr (fun t ht hW => ⟨⟨17, (), rfl, hpost, by rw [ht]; exact hP, va_K.moved hW.alike hK, hD⟩, hS.F ht⟩) hS.2.2 dX6_signOf_97
          · skip
            refine lv_bipush (v := 16) hx hb dX6_signOf_63 (by decide +kernel) ?_
            refine lv_goto (tgt := 97) hx hb dX6_signOf_65 (by decide +kernel) ?_
            have hpost : (fun (r : Int32) (u : Unit) => match u with | _ => r = m_X6_signOf s21) 16 () := (show m_X6_signOf s21 = 16 from by unfold m_X6_signOf; rw [if_neg c_1, if_neg c_2, if_neg c_3, if_neg c_4, if_pos c_5]).symm
            exact W.iret (v := 16) hx hb hr (fun t ht hW => ⟨⟨16, (), rfl, hpost, by rw [ht]; exact hP, va_K.moved hW.alike hK, hD⟩, hS.F ht⟩) hS.2.2 dX6_signOf_97
        · skip
          refine lv_bipush (v := 15) hx hb dX6_signOf_49 (by decide +kernel) ?_
          refine lv_goto (tgt := 97) hx hb dX6_signOf_51 (by decide +kernel) ?_
          have hpost : (fun (r : Int32) (u : Unit) => match u with | _ => r = m_X6_signOf s21) 15 () := (show m_X6_signOf s21 = 15 from by unfold m_X6_signOf; rw [if_neg c_1, if_neg c_2, if_neg c_3, if_pos c_4]).symm
          exact W.iret (v := 15) hx hb hr (fun t ht hW => ⟨⟨15, (), rfl, hpost, by rw [ht]; exact hP, va_K.moved hW.alike hK, hD⟩, hS.F ht⟩) hS.2.2 dX6_signOf_97
      · skip
        refine lv_bipush (v := 14) hx hb dX6_signOf_35 (by decide +kernel) ?_
        refine lv_goto (tgt := 97) hx hb dX6_signOf_37 (by decide +kernel) ?_
        have hpost : (fun (r : Int32) (u : Unit) => match u with | _ => r = m_X6_signOf s21) 14 () := (show m_X6_signOf s21 = 14 from by unfold m_X6_signOf; rw [if_neg c_1, if_neg c_2, if_pos c_3]).symm
        exact W.iret (v := 14) hx hb hr (fun t ht hW => ⟨⟨14, (), rfl, hpost, by rw [ht]; exact hP, va_K.moved hW.alike hK, hD⟩, hS.F ht⟩) hS.2.2 dX6_signOf_97
    · skip
      refine lv_bipush (v := 12) hx hb dX6_signOf_21 (by decide +kernel) ?_
      refine lv_goto (tgt := 97) hx hb dX6_signOf_23 (by decide +kernel) ?_
      have hpost : (fun (r : Int32) (u : Unit) => match u with | _ => r = m_X6_signOf s21) 12 () := (show m_X6_signOf s21 = 12 from by unfold m_X6_signOf; rw [if_neg c_1, if_pos c_2]).symm
      exact W.iret (v := 12) hx hb hr (fun t ht hW => ⟨⟨12, (), rfl, hpost, by rw [ht]; exact hP, va_K.moved hW.alike hK, hD⟩, hS.F ht⟩) hS.2.2 dX6_signOf_97
  · skip
    refine lv_bipush (v := 11) hx hb dX6_signOf_8 (by decide +kernel) ?_
    refine lv_goto (tgt := 97) hx hb dX6_signOf_10 (by decide +kernel) ?_
    have hpost : (fun (r : Int32) (u : Unit) => match u with | _ => r = m_X6_signOf s21) 11 () := (show m_X6_signOf s21 = 11 from by unfold m_X6_signOf; rw [if_pos c_1]).symm
    exact W.iret (v := 11) hx hb hr (fun t ht hW => ⟨⟨11, (), rfl, hpost, by rw [ht]; exact hP, va_K.moved hW.alike hK, hD⟩, hS.F ht⟩) hS.2.2 dX6_signOf_97
abbrev q_X6_puts (G : gG) (h0 kd mo st ro tp cd sr ir ih ss sq ce lw wo he sk na kp gb go fa ga vo : Nat) (pb : Nat) (jg : Nat) (td : Nat) (tx : Nat) (ru : Nat) (him : Int32) (s19 : Int32) (s20 : Int32) (s21 : Int32) (s22 : Int32) (s25 : Int32) (s26 : Int32) (s31 : Int32) (s32 : Int32) (s33 : Int32) (s34 : Int32) (s39 : Int32) (s40 : Int32) (fcd : Nat → Int32) (v0 : Int32) (ou : Nat) (A : Nat → Prop) : Array Value → State → Outcome → State → Prop := va_Qv (fun (u : Unit) => match u with | _ => True) (fun (u : Unit) t => match u with | _ => va_P G.1 vwCl [zo6 h0 (nI pb) kd mo st (nI jg) ro tp (nI td) cd sr (nI tx) (nI ru) him ir ih ss sq ce lw s19 s20 s21 s22 wo he s25 s26 (nI ((ou + 1))) sk na kp s31 s32 s33 s34 gb go fa ga s39 s40 vo, zi G cd 1200 (upd fcd ((200 * tx) + ou) v0)] t.heap ∧ gK G t ∧ va_D A [zo6 h0 (nI pb) kd mo st (nI jg) ro tp (nI td) cd sr (nI tx) (nI ru) him ir ih ss sq ce lw s19 s20 s21 s22 wo he s25 s26 (nI ((ou + 1))) sk na kp s31 s32 s33 s34 gb go fa ga s39 s40 vo, zi G cd 1200 (upd fcd ((200 * tx) + ou) v0)]) A
set_option maxHeartbeats 4000000 in
set_option maxRecDepth 100000 in
theorem c_X6_puts (l : Launch) (G : gG) (h0 kd mo st ro tp cd sr ir ih ss sq ce lw wo he sk na kp gb go fa ga vo : Nat) (pb : Nat) (jg : Nat) (td : Nat) (tx : Nat) (ru : Nat) (him : Int32) (s19 : Int32) (s20 : Int32) (s21 : Int32) (s22 : Int32) (s25 : Int32) (s26 : Int32) (s31 : Int32) (s32 : Int32) (s33 : Int32) (s34 : Int32) (s39 : Int32) (s40 : Int32) (fcd : Nat → Int32) (v0 : Int32) (ou : Nat) (sz : Nat) (hou : ou < 200) (htx : tx < 6) : Met l yX6_puts wsX6_puts ({ frames := 0, cells := 0, slots := 0, locals := 0 }) (gPre G [.ref h0, .int v0] [zo6 h0 (nI pb) kd mo st (nI jg) ro tp (nI td) cd sr (nI tx) (nI ru) him ir ih ss sq ce lw s19 s20 s21 s22 wo he s25 s26 (nI ou) sk na kp s31 s32 s33 s34 gb go fa ga s39 s40 vo, zi G cd 1200 fcd] sz) (q_X6_puts G h0 kd mo st ro tp cd sr ir ih ss sq ce lw wo he sk na kp gb go fa ga vo pb jg td tx ru him s19 s20 s21 s22 s25 s26 s31 s32 s33 s34 s39 s40 fcd v0 ou (va_A [zo6 h0 (nI pb) kd mo st (nI jg) ro tp (nI td) cd sr (nI tx) (nI ru) him ir ih ss sq ce lw s19 s20 s21 s22 wo he s25 s26 (nI ou) sk na kp s31 s32 s33 s34 gb go fa ga s39 s40 vo, zi G cd 1200 fcd] sz)) 0 0 (va_A [zo6 h0 (nI pb) kd mo st (nI jg) ro tp (nI td) cd sr (nI tx) (nI ru) him ir ih ss sq ce lw s19 s20 s21 s22 wo he s25 s26 (nI ou) sk na kp s31 s32 s33 s34 gb go fa ga s39 s40 vo, zi G cd 1200 fcd] sz) := by
  refine Met.ofW (cc := cX6_puts) (maxL := 2) (ret := none) (by decide +kernel) rfl ?_
  intro p e s m args below meth c s₁ B hml hv
  obtain ⟨rfl, hsz, hP, hK, hD0⟩ := hv
  have hx := B.exec
  have hb := B.bytes
  have hr := B.returns
  have hts := atoms_spec (ws := wsX6_puts) B.pre
  have hown : s.vm.findClass RX6 = some m.cls := findClass_of_methodNamed B.named
  have hlocks := B.notSynchronized
  subst hsz
  have hD := hD0.self (sz := s.heap.size)
  generalize hAe : va_A [zo6 h0 (nI pb) kd mo st (nI jg) ro tp (nI td) cd sr (nI tx) (nI ru) him ir ih ss sq ce lw s19 s20 s21 s22 wo he s25 s26 (nI ou) sk na kp s31 s32 s33 s34 gb go fa ga s39 s40 vo, zi G cd 1200 fcd] s.heap.size = A at hD ⊢
  have hA : ∀ q : Nat, s.heap.size ≤ q → A q := fun q h => by rw [← hAe]; exact Or.inr h
  have hS : va_S A s.heap s.heap [] := va_S.rf
  have hz9 : gPD G A [zo6 h0 (nI pb) kd mo st (nI jg) ro tp (nI td) cd sr (nI tx) (nI ru) him ir ih ss sq ce lw s19 s20 s21 s22 wo he s25 s26 (nI ou) sk na kp s31 s32 s33 s34 gb go fa ga s39 s40 vo, zi G cd 1200 fcd] s.heap := ⟨hP, hD⟩
  have hP := hz9.1
  have hD := hz9.2
  have hl := lv_entry ([.ref h0, .int v0]) (n := 2) (Nat.le_of_ble_eq_true rfl)
  rw [lg_entry_eq]
  generalize (lg_sl ([.ref h0, .int v0]) ++ List.replicate (2 - (lg_sl ([.ref h0, .int v0])).length) Slot.unset).toArray = ls at hl ⊢
  have hl : lv_has ls 2 [zR 0 h0, zI 1 v0] := hl
  have kf25 := hts (.fieldLink RX6 25 "PebbleInShoeModel" "codes" "[I") (by decide +kernel)
  have hiX6 := (by decide +kernel : ∀ w ∈ wsX60, w ∈ wsX6_puts)
  have kf98 := hts (.fieldLink RX6 98 "PebbleInShoeModel" "texts" "I") (by decide +kernel)
  have kf127 := hts (.fieldLink RX6 127 "PebbleInShoeModel" "out" "I") (by decide +kernel)
  refine g_aget (D := G.1) (ci := 6) (v := .ref cd) (C := RX6) (T := TX6) (N := 42) hx hb dX6_puts_0 rfl (lv_at hl 0 rfl) hts hiX6 hown hK hP 0 rfl rfl 8 (by decide +kernel) kf25 (fun _ h9 => h9) rfl dX6_puts_1 ?_
  refine lv_sipush (v := 200) hx hb dX6_puts_4 (by decide +kernel) ?_
  refine g_aget (D := G.1) (ci := 6) (v := .int (nI tx)) (C := RX6) (T := TX6) (N := 42) hx hb dX6_puts_7 rfl (lv_at hl 0 rfl) hts hiX6 hown hK hP 0 rfl rfl 10 (by decide +kernel) kf98 (fun _ h9 => h9) rfl dX6_puts_8 ?_
  refine lv_imul hx hb dX6_puts_11 ?_
  refine g_topi (y := nI (200 * tx)) (pk_mul 200 tx) ?_
  refine g_aget (D := G.1) (ci := 6) (v := .int (nI ou)) (C := RX6) (T := TX6) (N := 42) hx hb dX6_puts_12 rfl (lv_at hl 0 rfl) hts hiX6 hown hK hP 0 rfl rfl 27 (by decide +kernel) kf127 (fun _ h9 => h9) rfl dX6_puts_13 ?_
  refine lv_iadd hx hb dX6_puts_16 ?_
  refine g_topi (y := nI ((200 * tx) + ou)) (nI_add (200 * tx) ou) ?_
  refine lv_iload_n hx hb dX6_puts_17 rfl (lv_at hl 1 rfl) ?_
  refine g_iast (D := G.1) hx hb hK hP hD hS 1 0 rfl rfl (k := (200 * tx) + ou) (x := v0) (by omega) rfl dX6_puts_18 (fun H locs hP hD hS => ?_)
  have hz9 : gPD G A [zo6 h0 (nI pb) kd mo st (nI jg) ro tp (nI td) cd sr (nI tx) (nI ru) him ir ih ss sq ce lw s19 s20 s21 s22 wo he s25 s26 (nI ou) sk na kp s31 s32 s33 s34 gb go fa ga s39 s40 vo, zi G cd 1200 (upd fcd ((200 * tx) + ou) v0)] H := ⟨hP, hD⟩
  have hP := hz9.1
  have hD := hz9.2
  refine lv_aload_n hx hb dX6_puts_19 rfl (lv_at hl 0 rfl) ?_
  refine lv_dup hx hb dX6_puts_20 rfl ?_
  refine va_get (D := G.1) (ci := 6) (v := .int (nI ou)) (C := RX6) (T := TX6) (N := 42) hx hb hts hiX6 hown hK hP 0 rfl rfl 27 (by decide +kernel) kf127 (fun _ h9 => h9) rfl dX6_puts_21 ?_
  refine lv_iconst (v := 1) hx hb dX6_puts_24 (by decide +kernel) ?_
  refine lv_iadd hx hb dX6_puts_25 ?_
  refine g_topi (y := nI (ou + 1)) (nI_add ou 1) ?_
  refine va_put (D := G.1) (ci := 6) (v := .int (nI (ou + 1))) (ty := .int) (C := RX6) (T := TX6) (N := 42) hx hb hts hiX6 tyX6 tyX6_ok nmX6 hown hK hP hD hS 0 rfl rfl 27 (by decide +kernel) kf127 (fun _ h9 => h9) rfl (by decide +kernel) rfl rfl (Nat.le_of_ble_eq_true rfl) dX6_puts_26 (fun H locs hP hD hS => ?_)
  have hz9 : gPD G A [zo6 h0 (nI pb) kd mo st (nI jg) ro tp (nI td) cd sr (nI tx) (nI ru) him ir ih ss sq ce lw s19 s20 s21 s22 wo he s25 s26 (nI (ou + 1)) sk na kp s31 s32 s33 s34 gb go fa ga s39 s40 vo, zi G cd 1200 (upd fcd ((200 * tx) + ou) v0)] H := ⟨hP, hD⟩
  have hP := hz9.1
  have hD := hz9.2
  have hpost : (fun (u : Unit) => match u with | _ => True) () := trivial
  exact W.vret hx hb hr (fun t ht hW => ⟨⟨(), rfl, hpost, by rw [ht]; exact hP, va_K.moved hW.alike hK, hD⟩, hS.F ht⟩) hS.2.2 dX6_puts_29
abbrev q_X6_holds (G : gG) (h0 kd mo st ro tp cd sr ir ih ss sq ce lw wo he sk na kp gb go fa ga vo : Nat) (pb : Nat) (jg : Nat) (td : Nat) (tx : Nat) (ru : Nat) (him : Int32) (s19 : Int32) (s20 : Int32) (s21 : Int32) (s22 : Int32) (s26 : Int32) (s27 : Int32) (s31 : Int32) (s32 : Int32) (s33 : Int32) (s34 : Int32) (s39 : Int32) (s40 : Int32) (fhe : Nat → Int32) (v0 : Int32) (hm : Nat) (A : Nat → Prop) : Array Value → State → Outcome → State → Prop := va_Qv (fun (u : Unit) => match u with | _ => True) (fun (u : Unit) t => match u with | _ => va_P G.1 vwCl [zo6 h0 (nI pb) kd mo st (nI jg) ro tp (nI td) cd sr (nI tx) (nI ru) him ir ih ss sq ce lw s19 s20 s21 s22 wo he (nI ((hm + 1))) s26 s27 sk na kp s31 s32 s33 s34 gb go fa ga s39 s40 vo, zi G he 200 (upd fhe hm v0)] t.heap ∧ gK G t ∧ va_D A [zo6 h0 (nI pb) kd mo st (nI jg) ro tp (nI td) cd sr (nI tx) (nI ru) him ir ih ss sq ce lw s19 s20 s21 s22 wo he (nI ((hm + 1))) s26 s27 sk na kp s31 s32 s33 s34 gb go fa ga s39 s40 vo, zi G he 200 (upd fhe hm v0)]) A
set_option maxHeartbeats 4000000 in
set_option maxRecDepth 100000 in
theorem c_X6_holds (l : Launch) (G : gG) (h0 kd mo st ro tp cd sr ir ih ss sq ce lw wo he sk na kp gb go fa ga vo : Nat) (pb : Nat) (jg : Nat) (td : Nat) (tx : Nat) (ru : Nat) (him : Int32) (s19 : Int32) (s20 : Int32) (s21 : Int32) (s22 : Int32) (s26 : Int32) (s27 : Int32) (s31 : Int32) (s32 : Int32) (s33 : Int32) (s34 : Int32) (s39 : Int32) (s40 : Int32) (fhe : Nat → Int32) (v0 : Int32) (hm : Nat) (sz : Nat) (hhm : hm < 200) : Met l yX6_holds wsX6_holds ({ frames := 0, cells := 0, slots := 0, locals := 0 }) (gPre G [.ref h0, .int v0] [zo6 h0 (nI pb) kd mo st (nI jg) ro tp (nI td) cd sr (nI tx) (nI ru) him ir ih ss sq ce lw s19 s20 s21 s22 wo he (nI hm) s26 s27 sk na kp s31 s32 s33 s34 gb go fa ga s39 s40 vo, zi G he 200 fhe] sz) (q_X6_holds G h0 kd mo st ro tp cd sr ir ih ss sq ce lw wo he sk na kp gb go fa ga vo pb jg td tx ru him s19 s20 s21 s22 s26 s27 s31 s32 s33 s34 s39 s40 fhe v0 hm (va_A [zo6 h0 (nI pb) kd mo st (nI jg) ro tp (nI td) cd sr (nI tx) (nI ru) him ir ih ss sq ce lw s19 s20 s21 s22 wo he (nI hm) s26 s27 sk na kp s31 s32 s33 s34 gb go fa ga s39 s40 vo, zi G he 200 fhe] sz)) 0 0 (va_A [zo6 h0 (nI pb) kd mo st (nI jg) ro tp (nI td) cd sr (nI tx) (nI ru) him ir ih ss sq ce lw s19 s20 s21 s22 wo he (nI hm) s26 s27 sk na kp s31 s32 s33 s34 gb go fa ga s39 s40 vo, zi G he 200 fhe] sz) := by
  refine Met.ofW (cc := cX6_holds) (maxL := 2) (ret := none) (by decide +kernel) rfl ?_
  intro p e s m args below meth c s₁ B hml hv
  obtain ⟨rfl, hsz, hP, hK, hD0⟩ := hv
  have hx := B.exec
  have hb := B.bytes
  have hr := B.returns
  have hts := atoms_spec (ws := wsX6_holds) B.pre
  have hown : s.vm.findClass RX6 = some m.cls := findClass_of_methodNamed B.named
  have hlocks := B.notSynchronized
  subst hsz
  have hD := hD0.self (sz := s.heap.size)
  generalize hAe : va_A [zo6 h0 (nI pb) kd mo st (nI jg) ro tp (nI td) cd sr (nI tx) (nI ru) him ir ih ss sq ce lw s19 s20 s21 s22 wo he (nI hm) s26 s27 sk na kp s31 s32 s33 s34 gb go fa ga s39 s40 vo, zi G he 200 fhe] s.heap.size = A at hD ⊢
  have hA : ∀ q : Nat, s.heap.size ≤ q → A q := fun q h => by rw [← hAe]; exact Or.inr h
  have hS : va_S A s.heap s.heap [] := va_S.rf
  have hz9 : gPD G A [zo6 h0 (nI pb) kd mo st (nI jg) ro tp (nI td) cd sr (nI tx) (nI ru) him ir ih ss sq ce lw s19 s20 s21 s22 wo he (nI hm) s26 s27 sk na kp s31 s32 s33 s34 gb go fa ga s39 s40 vo, zi G he 200 fhe] s.heap := ⟨hP, hD⟩
  have hP := hz9.1
  have hD := hz9.2
  have hl := lv_entry ([.ref h0, .int v0]) (n := 2) (Nat.le_of_ble_eq_true rfl)
  rw [lg_entry_eq]
  generalize (lg_sl ([.ref h0, .int v0]) ++ List.replicate (2 - (lg_sl ([.ref h0, .int v0])).length) Slot.unset).toArray = ls at hl ⊢
  have hl : lv_has ls 2 [zR 0 h0, zI 1 v0] := hl
  have kf52 := hts (.fieldLink RX6 52 "PebbleInShoeModel" "held" "[I") (by decide +kernel)
  have hiX6 := (by decide +kernel : ∀ w ∈ wsX60, w ∈ wsX6_holds)
  have kf130 := hts (.fieldLink RX6 130 "PebbleInShoeModel" "heldMany" "I") (by decide +kernel)
  refine g_aget (D := G.1) (ci := 6) (v := .ref he) (C := RX6) (T := TX6) (N := 42) hx hb dX6_holds_0 rfl (lv_at hl 0 rfl) hts hiX6 hown hK hP 0 rfl rfl 24 (by decide +kernel) kf52 (fun _ h9 => h9) rfl dX6_holds_1 ?_
  refine g_aget (D := G.1) (ci := 6) (v := .int (nI hm)) (C := RX6) (T := TX6) (N := 42) hx hb dX6_holds_4 rfl (lv_at hl 0 rfl) hts hiX6 hown hK hP 0 rfl rfl 25 (by decide +kernel) kf130 (fun _ h9 => h9) rfl dX6_holds_5 ?_
  refine lv_iload_n hx hb dX6_holds_8 rfl (lv_at hl 1 rfl) ?_
  refine g_iast (D := G.1) hx hb hK hP hD hS 1 0 rfl rfl (k := hm) (x := v0) (by omega) rfl dX6_holds_9 (fun H locs hP hD hS => ?_)
  have hz9 : gPD G A [zo6 h0 (nI pb) kd mo st (nI jg) ro tp (nI td) cd sr (nI tx) (nI ru) him ir ih ss sq ce lw s19 s20 s21 s22 wo he (nI hm) s26 s27 sk na kp s31 s32 s33 s34 gb go fa ga s39 s40 vo, zi G he 200 (upd fhe hm v0)] H := ⟨hP, hD⟩
  have hP := hz9.1
  have hD := hz9.2
  refine lv_aload_n hx hb dX6_holds_10 rfl (lv_at hl 0 rfl) ?_
  refine lv_dup hx hb dX6_holds_11 rfl ?_
  refine va_get (D := G.1) (ci := 6) (v := .int (nI hm)) (C := RX6) (T := TX6) (N := 42) hx hb hts hiX6 hown hK hP 0 rfl rfl 25 (by decide +kernel) kf130 (fun _ h9 => h9) rfl dX6_holds_12 ?_
  refine lv_iconst (v := 1) hx hb dX6_holds_15 (by decide +kernel) ?_
  refine lv_iadd hx hb dX6_holds_16 ?_
  refine g_topi (y := nI (hm + 1)) (nI_add hm 1) ?_
  refine va_put (D := G.1) (ci := 6) (v := .int (nI (hm + 1))) (ty := .int) (C := RX6) (T := TX6) (N := 42) hx hb hts hiX6 tyX6 tyX6_ok nmX6 hown hK hP hD hS 0 rfl rfl 25 (by decide +kernel) kf130 (fun _ h9 => h9) rfl (by decide +kernel) rfl rfl (Nat.le_of_ble_eq_true rfl) dX6_holds_17 (fun H locs hP hD hS => ?_)
  have hz9 : gPD G A [zo6 h0 (nI pb) kd mo st (nI jg) ro tp (nI td) cd sr (nI tx) (nI ru) him ir ih ss sq ce lw s19 s20 s21 s22 wo he (nI (hm + 1)) s26 s27 sk na kp s31 s32 s33 s34 gb go fa ga s39 s40 vo, zi G he 200 (upd fhe hm v0)] H := ⟨hP, hD⟩
  have hP := hz9.1
  have hD := hz9.2
  have hpost : (fun (u : Unit) => match u with | _ => True) () := trivial
  exact W.vret hx hb hr (fun t ht hW => ⟨⟨(), rfl, hpost, by rw [ht]; exact hP, va_K.moved hW.alike hK, hD⟩, hS.F ht⟩) hS.2.2 dX6_holds_20
noncomputable def m_X6_opensOne (s26 : Int32) : Int32 := if s26 = 5 then 0 else 1
noncomputable def m_X6_opensOne_h025 (s26 : Int32) (hm : Nat) : Nat := if s26 = 5 then hm else (hm + 1)
noncomputable def m_X6_opensOne_h026 (s26 : Int32) : Int32 := if s26 = 5 then s26 else (s26 + 1)
noncomputable def m_X6_opensOne_he (s26 : Int32) (fhe : Nat → Int32) (v0 : Int32) (hm : Nat) : Nat → Int32 := if s26 = 5 then fhe else (upd fhe hm v0)
abbrev q_X6_opensOne (G : gG) (h0 kd mo st ro tp cd sr ir ih ss sq ce lw wo he sk na kp gb go fa ga vo : Nat) (pb : Nat) (jg : Nat) (td : Nat) (tx : Nat) (ru : Nat) (him : Int32) (s19 : Int32) (s20 : Int32) (s21 : Int32) (s22 : Int32) (s26 : Int32) (s27 : Int32) (s31 : Int32) (s32 : Int32) (s33 : Int32) (s34 : Int32) (s39 : Int32) (s40 : Int32) (fhe : Nat → Int32) (v0 : Int32) (hm : Nat) (A : Nat → Prop) : Array Value → State → Outcome → State → Prop := va_Qi (fun (r : Int32) (u : Unit) => match u with | _ => r = m_X6_opensOne s26) (fun (u : Unit) t => match u with | _ => va_P G.1 vwCl [zo6 h0 (nI pb) kd mo st (nI jg) ro tp (nI td) cd sr (nI tx) (nI ru) him ir ih ss sq ce lw s19 s20 s21 s22 wo he (nI (m_X6_opensOne_h025 s26 hm)) (m_X6_opensOne_h026 s26) s27 sk na kp s31 s32 s33 s34 gb go fa ga s39 s40 vo, zi G he 200 (m_X6_opensOne_he s26 fhe v0 hm)] t.heap ∧ gK G t ∧ va_D A [zo6 h0 (nI pb) kd mo st (nI jg) ro tp (nI td) cd sr (nI tx) (nI ru) him ir ih ss sq ce lw s19 s20 s21 s22 wo he (nI (m_X6_opensOne_h025 s26 hm)) (m_X6_opensOne_h026 s26) s27 sk na kp s31 s32 s33 s34 gb go fa ga s39 s40 vo, zi G he 200 (m_X6_opensOne_he s26 fhe v0 hm)]) A
set_option maxHeartbeats 4000000 in
set_option maxRecDepth 100000 in
theorem c_X6_opensOne (l : Launch) (G : gG) (h0 kd mo st ro tp cd sr ir ih ss sq ce lw wo he sk na kp gb go fa ga vo : Nat) (pb : Nat) (jg : Nat) (td : Nat) (tx : Nat) (ru : Nat) (him : Int32) (s19 : Int32) (s20 : Int32) (s21 : Int32) (s22 : Int32) (s26 : Int32) (s27 : Int32) (s31 : Int32) (s32 : Int32) (s33 : Int32) (s34 : Int32) (s39 : Int32) (s40 : Int32) (fhe : Nat → Int32) (v0 : Int32) (hm : Nat) (sz : Nat) (hhm : hm < 200) : Met l yX6_opensOne wsX6_opensOne ({ frames := 1, cells := 0, slots := 0, locals := 21 }) (gPre G [.ref h0, .int v0] [zo6 h0 (nI pb) kd mo st (nI jg) ro tp (nI td) cd sr (nI tx) (nI ru) him ir ih ss sq ce lw s19 s20 s21 s22 wo he (nI hm) s26 s27 sk na kp s31 s32 s33 s34 gb go fa ga s39 s40 vo, zi G he 200 fhe] sz) (q_X6_opensOne G h0 kd mo st ro tp cd sr ir ih ss sq ce lw wo he sk na kp gb go fa ga vo pb jg td tx ru him s19 s20 s21 s22 s26 s27 s31 s32 s33 s34 s39 s40 fhe v0 hm (va_A [zo6 h0 (nI pb) kd mo st (nI jg) ro tp (nI td) cd sr (nI tx) (nI ru) him ir ih ss sq ce lw s19 s20 s21 s22 wo he (nI hm) s26 s27 sk na kp s31 s32 s33 s34 gb go fa ga s39 s40 vo, zi G he 200 fhe] sz)) 0 0 (va_A [zo6 h0 (nI pb) kd mo st (nI jg) ro tp (nI td) cd sr (nI tx) (nI ru) him ir ih ss sq ce lw s19 s20 s21 s22 wo he (nI hm) s26 s27 sk na kp s31 s32 s33 s34 gb go fa ga s39 s40 vo, zi G he 200 fhe] sz) := by
  refine Met.ofW (cc := cX6_opensOne) (maxL := 2) (ret := (some .boolean)) (by decide +kernel) rfl ?_
  intro p e s m args below meth c s₁ B hml hv
  obtain ⟨rfl, hsz, hP, hK, hD0⟩ := hv
  have hx := B.exec
  have hb := B.bytes
  have hr := B.returns
  have hts := atoms_spec (ws := wsX6_opensOne) B.pre
  have hown : s.vm.findClass RX6 = some m.cls := findClass_of_methodNamed B.named
  have hlocks := B.notSynchronized
  subst hsz
  have hD := hD0.self (sz := s.heap.size)
  generalize hAe : va_A [zo6 h0 (nI pb) kd mo st (nI jg) ro tp (nI td) cd sr (nI tx) (nI ru) him ir ih ss sq ce lw s19 s20 s21 s22 wo he (nI hm) s26 s27 sk na kp s31 s32 s33 s34 gb go fa ga s39 s40 vo, zi G he 200 fhe] s.heap.size = A at hD ⊢
  have hA : ∀ q : Nat, s.heap.size ≤ q → A q := fun q h => by rw [← hAe]; exact Or.inr h
  have hS : va_S A s.heap s.heap [] := va_S.rf
  have hz9 : gPD G A [zo6 h0 (nI pb) kd mo st (nI jg) ro tp (nI td) cd sr (nI tx) (nI ru) him ir ih ss sq ce lw s19 s20 s21 s22 wo he (nI hm) s26 s27 sk na kp s31 s32 s33 s34 gb go fa ga s39 s40 vo, zi G he 200 fhe] s.heap := ⟨hP, hD⟩
  have hP := hz9.1
  have hD := hz9.2
  have hl := lv_entry ([.ref h0, .int v0]) (n := 2) (Nat.le_of_ble_eq_true rfl)
  rw [lg_entry_eq]
  generalize (lg_sl ([.ref h0, .int v0]) ++ List.replicate (2 - (lg_sl ([.ref h0, .int v0])).length) Slot.unset).toArray = ls at hl ⊢
  have hl : lv_has ls 2 [zR 0 h0, zI 1 v0] := hl
  have kf137 := hts (.fieldLink RX6 137 "PebbleInShoeModel" "opens" "I") (by decide +kernel)
  have hiX6 := (by decide +kernel : ∀ w ∈ wsX60, w ∈ wsX6_opensOne)
  refine g_aget (D := G.1) (ci := 6) (v := .int s26) (C := RX6) (T := TX6) (N := 42) hx hb dX6_opensOne_0 rfl (lv_at hl 0 rfl) hts hiX6 hown hK hP 0 rfl rfl 26 (by decide +kernel) kf137 (fun _ h9 => h9) rfl dX6_opensOne_1 ?_
  refine lv_iconst (v := 5) hx hb dX6_opensOne_4 (by decide +kernel) ?_
  refine lv_icmp_ne (tgt := 10) hx hb dX6_opensOne_5 (by decide +kernel) (fun c_1 => ?_) (fun c_1 => ?_)
  · skip
    refine lv_aload_n hx hb dX6_opensOne_10 rfl (lv_at hl 0 rfl) ?_
    refine lv_dup hx hb dX6_opensOne_11 rfl ?_
    refine va_get (D := G.1) (ci := 6) (v := .int s26) (C := RX6) (T := TX6) (N := 42) hx hb hts hiX6 hown hK hP 0 rfl rfl 26 (by decide +kernel) kf137 (fun _ h9 => h9) rfl dX6_opensOne_12 ?_
    refine lv_iconst (v := 1) hx hb dX6_opensOne_15 (by decide +kernel) ?_
    refine lv_iadd hx hb dX6_opensOne_16 ?_
    refine va_put (D := G.1) (ci := 6) (v := .int (s26 + 1)) (ty := .int) (C := RX6) (T := TX6) (N := 42) hx hb hts hiX6 tyX6 tyX6_ok nmX6 hown hK hP hD hS 0 rfl rfl 26 (by decide +kernel) kf137 (fun _ h9 => h9) rfl (by decide +kernel) rfl rfl (Nat.le_of_ble_eq_true rfl) dX6_opensOne_17 (fun H locs hP hD hS => ?_)
    have hz9 : gPD G A [zo6 h0 (nI pb) kd mo st (nI jg) ro tp (nI td) cd sr (nI tx) (nI ru) him ir ih ss sq ce lw s19 s20 s21 s22 wo he (nI hm) (s26 + 1) s27 sk na kp s31 s32 s33 s34 gb go fa ga s39 s40 vo, zi G he 200 fhe] H := ⟨hP, hD⟩
    have hP := hz9.1
    have hD := hz9.2
    refine lv_aload_n hx hb dX6_opensOne_20 rfl (lv_at hl 0 rfl) ?_
    refine lv_iload_n hx hb dX6_opensOne_21 rfl (lv_at hl 1 rfl) ?_
    refine z_callv [0, 1] (va_runV (As := [.int v0]) (rest := []) ⟨hx, hb, hml, hown, hts⟩ (c_X6_holds l G h0 kd mo st ro tp cd sr ir ih ss sq ce lw wo he sk na kp gb go fa ga vo pb jg td tx ru him s19 s20 s21 s22 (s26 + 1) s27 s31 s32 s33 s34 s39 s40 fhe v0 hm H.size (by first | exact hhm | assumption | omega)) (cwV 1 hts gX6_opensOne_X6_holds rfl rfl rfl (by decide +kernel) ⟨Nat.le_of_ble_eq_true rfl, Nat.le_of_ble_eq_true rfl⟩) ⟨gPre_blind, va_recv (q := (RX6, TX6, 42)) hK hP (ci := 6) (q0 := 0) rfl rfl, fun U hU hW => gPre_of hU hW hK hP hD⟩ rfl rfl hl.1 rfl (lv_room (Nat.le_of_ble_eq_true rfl)) dX6_opensOne_22 ⟨Nat.le_of_ble_eq_true rfl, Nat.le_of_ble_eq_true rfl⟩) hS hD hA rfl (fun u t H locs ht hvm w_3 hB hz1 hk1 hFq hAq hS => ?_)
    obtain ⟨hP1, hK1, hD1⟩ := hB
    have hz9 : gPD G A [zo6 h0 (nI pb) kd mo st (nI jg) ro tp (nI td) cd sr (nI tx) (nI ru) him ir ih ss sq ce lw s19 s20 s21 s22 wo he (nI ((hm + 1))) (s26 + 1) s27 sk na kp s31 s32 s33 s34 gb go fa ga s39 s40 vo, zi G he 200 (upd fhe hm v0)] H := zFill hP hD [0, 1] [1, 2] hAq hk1 hFq ht hP1 hD1 rfl (by decide +kernel)
    have hP := hz9.1
    have hD := hz9.2
    refine lv_iconst (v := 1) hx hb dX6_opensOne_25 (by decide +kernel) ?_
    have q_4 : m_X6_opensOne_h025 s26 hm = hm + 1 := by unfold m_X6_opensOne_h025; rw [if_neg c_1]
    have q_5 : m_X6_opensOne_h026 s26 = (s26 + 1) := by unfold m_X6_opensOne_h026; rw [if_neg c_1]
    have q_6 : m_X6_opensOne_he s26 fhe v0 hm = (upd fhe hm v0) := by unfold m_X6_opensOne_he; rw [if_neg c_1]
    have hz9 : gPD G A [zo6 h0 (nI pb) kd mo st (nI jg) ro tp (nI td) cd sr (nI tx) (nI ru) him ir ih ss sq ce lw s19 s20 s21 s22 wo he (nI (m_X6_opensOne_h025 s26 hm)) (m_X6_opensOne_h026 s26) s27 sk na kp s31 s32 s33 s34 gb go fa ga s39 s40 vo, zi G he 200 (m_X6_opensOne_he s26 fhe v0 hm)] H := ⟨by rw [q_4, q_5, q_6]; exact hP, by rw [q_4, q_5, q_6]; exact hD⟩
    have hP9 := hz9.1
    have hD9 := hz9.2
    have hpost : (fun (r : Int32) (u : Unit) => match u with | _ => r = m_X6_opensOne s26) 1 () := (show m_X6_opensOne s26 = 1 from by unfold m_X6_opensOne; rw [if_neg c_1]).symm
    exact W.zret (v := 1) hx hb hr (rfl) (fun t ht hW => ⟨⟨1, (), rfl, hpost, by rw [ht]; exact hP9, va_K.moved hW.alike hK, hD9⟩, hS.F ht⟩) hS.2.2 dX6_opensOne_26
  · skip
    refine lv_iconst (v := 0) hx hb dX6_opensOne_8 (by decide +kernel) ?_
    have q_7 : m_X6_opensOne_h025 s26 hm = hm := by unfold m_X6_opensOne_h025; rw [if_pos c_1]
    have q_8 : m_X6_opensOne_h026 s26 = s26 := by unfold m_X6_opensOne_h026; rw [if_pos c_1]
    have q_9 : m_X6_opensOne_he s26 fhe v0 hm = fhe := by unfold m_X6_opensOne_he; rw [if_pos c_1]
    have hz9 : gPD G A [zo6 h0 (nI pb) kd mo st (nI jg) ro tp (nI td) cd sr (nI tx) (nI ru) him ir ih ss sq ce lw s19 s20 s21 s22 wo he (nI (m_X6_opensOne_h025 s26 hm)) (m_X6_opensOne_h026 s26) s27 sk na kp s31 s32 s33 s34 gb go fa ga s39 s40 vo, zi G he 200 (m_X6_opensOne_he s26 fhe v0 hm)] s.heap := ⟨by rw [q_7, q_8, q_9]; exact hP, by rw [q_7, q_8, q_9]; exact hD⟩
    have hP9 := hz9.1
    have hD9 := hz9.2
    have hpost : (fun (r : Int32) (u : Unit) => match u with | _ => r = m_X6_opensOne s26) 0 () := (show m_X6_opensOne s26 = 0 from by unfold m_X6_opensOne; rw [if_pos c_1]).symm
    exact W.zret (v := 0) hx hb hr (rfl) (fun t ht hW => ⟨⟨0, (), rfl, hpost, by rw [ht]; exact hP9, va_K.moved hW.alike hK, hD9⟩, hS.F ht⟩) hS.2.2 dX6_opensOne_9
noncomputable def p_X6_unwinds_0 (tx : Nat) (fhe : Nat → Int32) (v0 : Int32) (hm : Nat) : Nat → Nat → (Nat → Int32) → Int32 → Nat → Nat × (Nat → Int32) × Int32 × Nat
  | 0, u0, y0cd, z26u, ou6 => (u0, y0cd, z26u, ou6)
  | q9 + 1, u0, y0cd, z26u, ou6 => if (m_X6_rank (fhe ((hm - u0) - 1))) < v0 then (u0, y0cd, z26u, ou6) else (if (fhe ((hm - u0) - 1)) = 13 then p_X6_unwinds_0 tx fhe v0 hm q9 (u0 + 1) (upd y0cd ((200 * tx) + ou6) (fhe ((hm - u0) - 1))) (z26u - 1) (ou6 + 1) else (if (fhe ((hm - u0) - 1)) = 19 then p_X6_unwinds_0 tx fhe v0 hm q9 (u0 + 1) (upd y0cd ((200 * tx) + ou6) (fhe ((hm - u0) - 1))) (z26u - 1) (ou6 + 1) else p_X6_unwinds_0 tx fhe v0 hm q9 (u0 + 1) (upd y0cd ((200 * tx) + ou6) (fhe ((hm - u0) - 1))) (z26u - 0) (ou6 + 1)))
noncomputable def g_X6_unwinds_0 (tx : Nat) (s26 : Int32) (fcd : Nat → Int32) (fhe : Nat → Int32) (v0 : Int32) (hm : Nat) (ou : Nat) : Nat × (Nat → Int32) × Int32 × Nat := p_X6_unwinds_0 tx fhe v0 hm (hm - 0) 0 fcd s26 ou
noncomputable def m_X6_unwinds_h025 (tx : Nat) (s26 : Int32) (fcd : Nat → Int32) (fhe : Nat → Int32) (v0 : Int32) (hm : Nat) (ou : Nat) : Nat := (hm - ((g_X6_unwinds_0 tx s26 fcd fhe v0 hm ou).1))
noncomputable def m_X6_unwinds_h026 (tx : Nat) (s26 : Int32) (fcd : Nat → Int32) (fhe : Nat → Int32) (v0 : Int32) (hm : Nat) (ou : Nat) : Int32 := ((g_X6_unwinds_0 tx s26 fcd fhe v0 hm ou).2.2.1)
noncomputable def m_X6_unwinds_h027 (tx : Nat) (s26 : Int32) (fcd : Nat → Int32) (fhe : Nat → Int32) (v0 : Int32) (hm : Nat) (ou : Nat) : Nat := ((g_X6_unwinds_0 tx s26 fcd fhe v0 hm ou).2.2.2)
noncomputable def m_X6_unwinds_cd (tx : Nat) (s26 : Int32) (fcd : Nat → Int32) (fhe : Nat → Int32) (v0 : Int32) (hm : Nat) (ou : Nat) : Nat → Int32 := ((g_X6_unwinds_0 tx s26 fcd fhe v0 hm ou).2.1)
theorem uw_inv {tx : Nat} {fhe : Nat → Int32} {v0 : Int32} {hm : Nat} : ∀ (q u : Nat) (cd : Nat → Int32) (z : Int32) (o : Nat), u + q = hm → u ≤ (p_X6_unwinds_0 tx fhe v0 hm q u cd z o).1 ∧ (p_X6_unwinds_0 tx fhe v0 hm q u cd z o).1 ≤ hm ∧ (p_X6_unwinds_0 tx fhe v0 hm q u cd z o).2.2.2 + u = o + (p_X6_unwinds_0 tx fhe v0 hm q u cd z o).1
  | 0, u, cd, z, o, h => ⟨Nat.le_refl _, by show u ≤ hm; omega, rfl⟩
  | q + 1, u, cd, z, o, h => by
    rw [p_X6_unwinds_0]
    by_cases c1 : (m_X6_rank (fhe ((hm - u) - 1))) < v0
    · rw [if_pos c1]; exact ⟨Nat.le_refl _, by show u ≤ hm; omega, rfl⟩
    · rw [if_neg c1]
      by_cases c2 : (fhe ((hm - u) - 1)) = 13
      · rw [if_pos c2]
        obtain ⟨h1, h2, h3⟩ := uw_inv (tx := tx) (fhe := fhe) (v0 := v0) (hm := hm) q (u + 1) (upd cd ((200 * tx) + o) (fhe ((hm - u) - 1))) (z - 1) (o + 1) (by omega)
        exact ⟨by omega, h2, by omega⟩
      · rw [if_neg c2]
        by_cases c3 : (fhe ((hm - u) - 1)) = 19
        · rw [if_pos c3]
          obtain ⟨h1, h2, h3⟩ := uw_inv (tx := tx) (fhe := fhe) (v0 := v0) (hm := hm) q (u + 1) (upd cd ((200 * tx) + o) (fhe ((hm - u) - 1))) (z - 1) (o + 1) (by omega)
          exact ⟨by omega, h2, by omega⟩
        · rw [if_neg c3]
          obtain ⟨h1, h2, h3⟩ := uw_inv (tx := tx) (fhe := fhe) (v0 := v0) (hm := hm) q (u + 1) (upd cd ((200 * tx) + o) (fhe ((hm - u) - 1))) (z - 0) (o + 1) (by omega)
          exact ⟨by omega, h2, by omega⟩
theorem uw_facts {tx : Nat} {s26 : Int32} {fcd fhe : Nat → Int32} {v0 : Int32} {hm ou : Nat} : m_X6_unwinds_h025 tx s26 fcd fhe v0 hm ou ≤ hm ∧ m_X6_unwinds_h027 tx s26 fcd fhe v0 hm ou + m_X6_unwinds_h025 tx s26 fcd fhe v0 hm ou = ou + hm := by
  have h := uw_inv (tx := tx) (fhe := fhe) (v0 := v0) (hm := hm) (hm - 0) 0 fcd s26 ou (by omega)
  have h2 : (g_X6_unwinds_0 tx s26 fcd fhe v0 hm ou).1 ≤ hm ∧ (g_X6_unwinds_0 tx s26 fcd fhe v0 hm ou).2.2.2 + 0 = ou + (g_X6_unwinds_0 tx s26 fcd fhe v0 hm ou).1 := h.2
  refine ⟨Nat.sub_le _ _, ?_⟩
  show (g_X6_unwinds_0 tx s26 fcd fhe v0 hm ou).2.2.2 + (hm - (g_X6_unwinds_0 tx s26 fcd fhe v0 hm ou).1) = ou + hm
  omega
theorem uw_top {tx : Nat} {fhe : Nat → Int32} {v0 : Int32} {hm : Nat} : ∀ (q u : Nat) (cd : Nat → Int32) (z : Int32) (o : Nat), u + q = hm → (p_X6_unwinds_0 tx fhe v0 hm q u cd z o).1 < hm → m_X6_rank (fhe ((hm - (p_X6_unwinds_0 tx fhe v0 hm q u cd z o).1) - 1)) < v0
  | 0, u, cd, z, o, h, h2 => absurd h2 (by show ¬ u < hm; omega)
  | q + 1, u, cd, z, o, h, h2 => by
    rw [p_X6_unwinds_0] at h2 ⊢
    by_cases c1 : (m_X6_rank (fhe ((hm - u) - 1))) < v0
    · rw [if_pos c1] at h2 ⊢; exact c1
    · rw [if_neg c1] at h2 ⊢
      by_cases c2 : (fhe ((hm - u) - 1)) = 13
      · rw [if_pos c2] at h2 ⊢; exact uw_top q (u + 1) _ _ _ (by omega) h2
      · rw [if_neg c2] at h2 ⊢
        by_cases c3 : (fhe ((hm - u) - 1)) = 19
        · rw [if_pos c3] at h2 ⊢; exact uw_top q (u + 1) _ _ _ (by omega) h2
        · rw [if_neg c3] at h2 ⊢; exact uw_top q (u + 1) _ _ _ (by omega) h2
abbrev q_X6_unwinds (G : gG) (h0 kd mo st ro tp cd sr ir ih ss sq ce lw wo he sk na kp gb go fa ga vo : Nat) (pb : Nat) (jg : Nat) (td : Nat) (tx : Nat) (ru : Nat) (him : Int32) (s19 : Int32) (s20 : Int32) (s21 : Int32) (s22 : Int32) (s26 : Int32) (s31 : Int32) (s32 : Int32) (s33 : Int32) (s34 : Int32) (s39 : Int32) (s40 : Int32) (fcd : Nat → Int32) (fhe : Nat → Int32) (v0 : Int32) (hm : Nat) (ou : Nat) (A : Nat → Prop) : Array Value → State → Outcome → State → Prop := va_Qv (fun (u : Unit) => match u with | _ => (m_X6_unwinds_h025 tx s26 fcd fhe v0 hm ou) ≤ hm ∧ (m_X6_unwinds_h027 tx s26 fcd fhe v0 hm ou) + (m_X6_unwinds_h025 tx s26 fcd fhe v0 hm ou) = ou + hm) (fun (u : Unit) t => match u with | _ => va_P G.1 vwCl [zo6 h0 (nI pb) kd mo st (nI jg) ro tp (nI td) cd sr (nI tx) (nI ru) him ir ih ss sq ce lw s19 s20 s21 s22 wo he (nI (m_X6_unwinds_h025 tx s26 fcd fhe v0 hm ou)) (m_X6_unwinds_h026 tx s26 fcd fhe v0 hm ou) (nI (m_X6_unwinds_h027 tx s26 fcd fhe v0 hm ou)) sk na kp s31 s32 s33 s34 gb go fa ga s39 s40 vo, zi G cd 1200 (m_X6_unwinds_cd tx s26 fcd fhe v0 hm ou), zi G he 200 fhe] t.heap ∧ gK G t ∧ va_D A [zo6 h0 (nI pb) kd mo st (nI jg) ro tp (nI td) cd sr (nI tx) (nI ru) him ir ih ss sq ce lw s19 s20 s21 s22 wo he (nI (m_X6_unwinds_h025 tx s26 fcd fhe v0 hm ou)) (m_X6_unwinds_h026 tx s26 fcd fhe v0 hm ou) (nI (m_X6_unwinds_h027 tx s26 fcd fhe v0 hm ou)) sk na kp s31 s32 s33 s34 gb go fa ga s39 s40 vo, zi G cd 1200 (m_X6_unwinds_cd tx s26 fcd fhe v0 hm ou), zi G he 200 fhe]) A
set_option maxHeartbeats 4000000 in
set_option maxRecDepth 100000 in
theorem c_X6_unwinds (l : Launch) (G : gG) (h0 kd mo st ro tp cd sr ir ih ss sq ce lw wo he sk na kp gb go fa ga vo : Nat) (pb : Nat) (jg : Nat) (td : Nat) (tx : Nat) (ru : Nat) (him : Int32) (s19 : Int32) (s20 : Int32) (s21 : Int32) (s22 : Int32) (s26 : Int32) (s31 : Int32) (s32 : Int32) (s33 : Int32) (s34 : Int32) (s39 : Int32) (s40 : Int32) (fcd : Nat → Int32) (fhe : Nat → Int32) (v0 : Int32) (hm : Nat) (ou : Nat) (sz : Nat) (hom : ou + hm < 200) (htx : tx < 6) : Met l yX6_unwinds wsX6_unwinds ({ frames := 1, cells := 0, slots := 0, locals := 21 }) (gPre G [.ref h0, .int v0] [zo6 h0 (nI pb) kd mo st (nI jg) ro tp (nI td) cd sr (nI tx) (nI ru) him ir ih ss sq ce lw s19 s20 s21 s22 wo he (nI hm) s26 (nI ou) sk na kp s31 s32 s33 s34 gb go fa ga s39 s40 vo, zi G cd 1200 fcd, zi G he 200 fhe] sz) (q_X6_unwinds G h0 kd mo st ro tp cd sr ir ih ss sq ce lw wo he sk na kp gb go fa ga vo pb jg td tx ru him s19 s20 s21 s22 s26 s31 s32 s33 s34 s39 s40 fcd fhe v0 hm ou (va_A [zo6 h0 (nI pb) kd mo st (nI jg) ro tp (nI td) cd sr (nI tx) (nI ru) him ir ih ss sq ce lw s19 s20 s21 s22 wo he (nI hm) s26 (nI ou) sk na kp s31 s32 s33 s34 gb go fa ga s39 s40 vo, zi G cd 1200 fcd, zi G he 200 fhe] sz)) 0 0 (va_A [zo6 h0 (nI pb) kd mo st (nI jg) ro tp (nI td) cd sr (nI tx) (nI ru) him ir ih ss sq ce lw s19 s20 s21 s22 wo he (nI hm) s26 (nI ou) sk na kp s31 s32 s33 s34 gb go fa ga s39 s40 vo, zi G cd 1200 fcd, zi G he 200 fhe] sz) := by
  refine Met.ofW (cc := cX6_unwinds) (maxL := 3) (ret := none) (by decide +kernel) rfl ?_
  intro p e s m args below meth c s₁ B hml hv
  obtain ⟨rfl, hsz, hP, hK, hD0⟩ := hv
  have hx := B.exec
  have hb := B.bytes
  have hr := B.returns
  have hts := atoms_spec (ws := wsX6_unwinds) B.pre
  have hown : s.vm.findClass RX6 = some m.cls := findClass_of_methodNamed B.named
  have hlocks := B.notSynchronized
  subst hsz
  have hD := hD0.self (sz := s.heap.size)
  generalize hAe : va_A [zo6 h0 (nI pb) kd mo st (nI jg) ro tp (nI td) cd sr (nI tx) (nI ru) him ir ih ss sq ce lw s19 s20 s21 s22 wo he (nI hm) s26 (nI ou) sk na kp s31 s32 s33 s34 gb go fa ga s39 s40 vo, zi G cd 1200 fcd, zi G he 200 fhe] s.heap.size = A at hD ⊢
  have hA : ∀ q : Nat, s.heap.size ≤ q → A q := fun q h => by rw [← hAe]; exact Or.inr h
  have hS : va_S A s.heap s.heap [] := va_S.rf
  have hz9 : gPD G A [zo6 h0 (nI pb) kd mo st (nI jg) ro tp (nI td) cd sr (nI tx) (nI ru) him ir ih ss sq ce lw s19 s20 s21 s22 wo he (nI hm) s26 (nI ou) sk na kp s31 s32 s33 s34 gb go fa ga s39 s40 vo, zi G cd 1200 fcd, zi G he 200 fhe] s.heap := ⟨hP, hD⟩
  have hP := hz9.1
  have hD := hz9.2
  have hl := lv_entry ([.ref h0, .int v0]) (n := 3) (Nat.le_of_ble_eq_true rfl)
  rw [lg_entry_eq]
  generalize (lg_sl ([.ref h0, .int v0]) ++ List.replicate (3 - (lg_sl ([.ref h0, .int v0])).length) Slot.unset).toArray = ls at hl ⊢
  have hl : lv_has ls 3 [zR 0 h0, zI 1 v0] := hl
  have kf130 := hts (.fieldLink RX6 130 "PebbleInShoeModel" "heldMany" "I") (by decide +kernel)
  have hiX6 := (by decide +kernel : ∀ w ∈ wsX60, w ∈ wsX6_unwinds)
  have kf52 := hts (.fieldLink RX6 52 "PebbleInShoeModel" "held" "[I") (by decide +kernel)
  have kf137 := hts (.fieldLink RX6 137 "PebbleInShoeModel" "opens" "I") (by decide +kernel)
  have loop_0 : ∀ (n9 : Nat) (u0 : Nat) (y0cd : Nat → Int32) (z26u : Int32) (ou6 : Nat), (u0 ≤ hm) → (p_X6_unwinds_0 tx fhe v0 hm (hm - u0) u0 y0cd z26u ou6 = (g_X6_unwinds_0 tx s26 fcd fhe v0 hm ou)) → (ou6 = ou + u0) → (hm - u0) < n9 → ∀ (H : Heap) (locs : List Loc), va_P G.1 vwCl [zo6 h0 (nI pb) kd mo st (nI jg) ro tp (nI td) cd sr (nI tx) (nI ru) him ir ih ss sq ce lw s19 s20 s21 s22 wo he (nI (hm - u0)) z26u (nI ou6) sk na kp s31 s32 s33 s34 gb go fa ga s39 s40 vo, zi G cd 1200 y0cd, zi G he 200 fhe] H → va_D A [zo6 h0 (nI pb) kd mo st (nI jg) ro tp (nI td) cd sr (nI tx) (nI ru) him ir ih ss sq ce lw s19 s20 s21 s22 wo he (nI (hm - u0)) z26u (nI ou6) sk na kp s31 s32 s33 s34 gb go fa ga s39 s40 vo, zi G cd 1200 y0cd, zi G he 200 fhe] → va_S A s.heap H locs → ∀ ls : Array Slot, lv_has ls 3 [zR 0 h0, zI 1 v0] → W p l e (headSpec wsX6_unwinds ({ frames := 1, cells := 0, slots := 0, locals := 21 })).room s m ([.ref h0, .int v0] : List Value).toArray below meth c H locs 0 0 (MQ below (q_X6_unwinds G h0 kd mo st ro tp cd sr ir ih ss sq ce lw wo he sk na kp gb go fa ga vo pb jg td tx ru him s19 s20 s21 s22 s26 s31 s32 s33 s34 s39 s40 fcd fhe v0 hm ou A) ([.ref h0, .int v0] : List Value).toArray s 0 0 A) (F0 m 0 ls []) := by
    intro n9
    induction n9 with
    | zero => intro u0 y0cd z26u ou6 hu0 R0 hou6 hm9_0; exact absurd hm9_0 (Nat.not_lt_zero _)
    | succ n9 ih9_0 =>
      intro u0 y0cd z26u ou6 hu0 R0 hou6 hm9_0 H locs hP hD hS ls hl
      refine g_aget (D := G.1) (ci := 6) (v := .int (nI (hm - u0))) (C := RX6) (T := TX6) (N := 42) hx hb dX6_unwinds_0 rfl (lv_at hl 0 rfl) hts hiX6 hown hK hP 0 rfl rfl 25 (by decide +kernel) kf130 (fun _ h9 => h9) rfl dX6_unwinds_1 ?_
      refine lv_if_le (tgt := 79) hx hb dX6_unwinds_4 (by decide +kernel) (fun c_1 => ?_) (fun c_1 => ?_)
      · skip
        have c_1N : (hm - u0) ≤ 0 := nI_le1 (a := (hm - u0)) (b := 0) (by omega) (by omega) c_1
        have hF0 : (g_X6_unwinds_0 tx s26 fcd fhe v0 hm ou) = (u0, y0cd, z26u, ou6) := by rw [← R0, show hm - u0 = 0 by omega]; rfl
        have hE0_0 : u0 = ((g_X6_unwinds_0 tx s26 fcd fhe v0 hm ou).1) := by rw [hF0]
        have hE0_1 : y0cd = ((g_X6_unwinds_0 tx s26 fcd fhe v0 hm ou).2.1) := by rw [hF0]
        have hE0_2 : z26u = ((g_X6_unwinds_0 tx s26 fcd fhe v0 hm ou).2.2.1) := by rw [hF0]
        have hE0_3 : ou6 = ((g_X6_unwinds_0 tx s26 fcd fhe v0 hm ou).2.2.2) := by rw [hF0]
        clear hF0 R0
        subst hE0_0
        subst hE0_1
        subst hE0_2
        subst hE0_3
        have q_2 : m_X6_unwinds_h025 tx s26 fcd fhe v0 hm ou = hm - ((g_X6_unwinds_0 tx s26 fcd fhe v0 hm ou).1) := rfl
        have q_3 : m_X6_unwinds_h026 tx s26 fcd fhe v0 hm ou = ((g_X6_unwinds_0 tx s26 fcd fhe v0 hm ou).2.2.1) := rfl
        have q_4 : m_X6_unwinds_h027 tx s26 fcd fhe v0 hm ou = (g_X6_unwinds_0 tx s26 fcd fhe v0 hm ou).2.2.2 := rfl
        have q_5 : m_X6_unwinds_cd tx s26 fcd fhe v0 hm ou = ((g_X6_unwinds_0 tx s26 fcd fhe v0 hm ou).2.1) := rfl
        have hz9 : gPD G A [zo6 h0 (nI pb) kd mo st (nI jg) ro tp (nI td) cd sr (nI tx) (nI ru) him ir ih ss sq ce lw s19 s20 s21 s22 wo he (nI (m_X6_unwinds_h025 tx s26 fcd fhe v0 hm ou)) (m_X6_unwinds_h026 tx s26 fcd fhe v0 hm ou) (nI (m_X6_unwinds_h027 tx s26 fcd fhe v0 hm ou)) sk na kp s31 s32 s33 s34 gb go fa ga s39 s40 vo, zi G cd 1200 (m_X6_unwinds_cd tx s26 fcd fhe v0 hm ou), zi G he 200 fhe] H := ⟨by rw [q_2, q_3, q_4, q_5]; exact hP, by rw [q_2, q_3, q_4, q_5]; exact hD⟩
        have hP9 := hz9.1
        have hD9 := hz9.2
        have hpost : (fun (u : Unit) => match u with | _ => (m_X6_unwinds_h025 tx s26 fcd fhe v0 hm ou) ≤ hm ∧ (m_X6_unwinds_h027 tx s26 fcd fhe v0 hm ou) + (m_X6_unwinds_h025 tx s26 fcd fhe v0 hm ou) = ou + hm) () := uw_facts
        exact W.vret hx hb hr (fun t ht hW => ⟨⟨(), rfl, hpost, by rw [ht]; exact hP9, va_K.moved hW.alike hK, hD9⟩, hS.F ht⟩) hS.2.2 dX6_unwinds_79
      · skip
        have c_1N : 0 < (hm - u0) := nI_le0 (a := (hm - u0)) (b := 0) (by omega) (by omega) c_1
        refine g_aget (D := G.1) (ci := 6) (v := .ref he) (C := RX6) (T := TX6) (N := 42) hx hb dX6_unwinds_7 rfl (lv_at hl 0 rfl) hts hiX6 hown hK hP 0 rfl rfl 24 (by decide +kernel) kf52 (fun _ h9 => h9) rfl dX6_unwinds_8 ?_
        refine g_aget (D := G.1) (ci := 6) (v := .int (nI (hm - u0))) (C := RX6) (T := TX6) (N := 42) hx hb dX6_unwinds_11 rfl (lv_at hl 0 rfl) hts hiX6 hown hK hP 0 rfl rfl 25 (by decide +kernel) kf130 (fun _ h9 => h9) rfl dX6_unwinds_12 ?_
        refine lv_iconst (v := 1) hx hb dX6_unwinds_15 (by decide +kernel) ?_
        refine lv_isub hx hb dX6_unwinds_16 ?_
        refine g_topi (y := nI ((hm - u0) - 1)) (pk_sub (a := (hm - u0)) (b := 1) (by omega)) ?_
        refine g_iald (D := G.1) hx hb hK hP 2 0 rfl rfl (k := (hm - u0) - 1) (y := fhe ((hm - u0) - 1)) (by omega) rfl rfl dX6_unwinds_17 ?_
        refine z_calli [] (v := m_X6_rank (fhe ((hm - u0) - 1))) (fun _ _ h => h) (va_runS (As := [.int (fhe ((hm - u0) - 1))]) (rest := []) ⟨hx, hb, hml, hown, hts⟩ (c_X6_rank l G (fhe ((hm - u0) - 1)) H.size) (va_cwS 1 hts gX6_unwinds_X6_rank rfl rfl rfl (by decide +kernel) ⟨Nat.le_of_ble_eq_true rfl, Nat.le_of_ble_eq_true rfl⟩) ⟨gPre_blind, fun U hU hW => gPre_ofF [] hU hW hK hP hD (by decide +kernel) rfl⟩ rfl rfl hl.1 rfl (lv_room (Nat.le_of_ble_eq_true rfl)) dX6_unwinds_18 ⟨Nat.le_of_ble_eq_true rfl, Nat.le_of_ble_eq_true rfl⟩) hS hD hA rfl (fun u t H locs ht hvm hB hz1 hk1 hFq hAq hS => ?_)
        obtain ⟨hP1, hK1, hD1⟩ := hB
        have hP := zKeep hP hD [] hAq hk1 ht hP1 rfl
        refine lv_iload_n hx hb dX6_unwinds_21 rfl (lv_at hl 1 rfl) ?_
        refine lv_icmp_lt (tgt := 79) hx hb dX6_unwinds_22 (by decide +kernel) (fun c_10 => ?_) (fun c_10 => ?_)
        · skip
          have hF0 : (g_X6_unwinds_0 tx s26 fcd fhe v0 hm ou) = (u0, y0cd, z26u, ou6) := R0.symm.trans ((congrArg (fun z9 => p_X6_unwinds_0 tx fhe v0 hm (z9) u0 y0cd z26u ou6) (show hm - u0 = hm - (u0 + 1) + 1 by omega)).trans (by show p_X6_unwinds_0 tx fhe v0 hm (hm - (u0 + 1) + 1) u0 y0cd z26u ou6 = _; rw [p_X6_unwinds_0, if_pos c_10]))
          have hE0_0 : u0 = ((g_X6_unwinds_0 tx s26 fcd fhe v0 hm ou).1) := by rw [hF0]
          have hE0_1 : y0cd = ((g_X6_unwinds_0 tx s26 fcd fhe v0 hm ou).2.1) := by rw [hF0]
          have hE0_2 : z26u = ((g_X6_unwinds_0 tx s26 fcd fhe v0 hm ou).2.2.1) := by rw [hF0]
          have hE0_3 : ou6 = ((g_X6_unwinds_0 tx s26 fcd fhe v0 hm ou).2.2.2) := by rw [hF0]
          clear hF0 R0
          subst hE0_0
          subst hE0_1
          subst hE0_2
          subst hE0_3
          have q_11 : m_X6_unwinds_h025 tx s26 fcd fhe v0 hm ou = hm - ((g_X6_unwinds_0 tx s26 fcd fhe v0 hm ou).1) := rfl
          have q_12 : m_X6_unwinds_h026 tx s26 fcd fhe v0 hm ou = ((g_X6_unwinds_0 tx s26 fcd fhe v0 hm ou).2.2.1) := rfl
          have q_13 : m_X6_unwinds_h027 tx s26 fcd fhe v0 hm ou = (g_X6_unwinds_0 tx s26 fcd fhe v0 hm ou).2.2.2 := rfl
          have q_14 : m_X6_unwinds_cd tx s26 fcd fhe v0 hm ou = ((g_X6_unwinds_0 tx s26 fcd fhe v0 hm ou).2.1) := rfl
          have hz9 : gPD G A [zo6 h0 (nI pb) kd mo st (nI jg) ro tp (nI td) cd sr (nI tx) (nI ru) him ir ih ss sq ce lw s19 s20 s21 s22 wo he (nI (m_X6_unwinds_h025 tx s26 fcd fhe v0 hm ou)) (m_X6_unwinds_h026 tx s26 fcd fhe v0 hm ou) (nI (m_X6_unwinds_h027 tx s26 fcd fhe v0 hm ou)) sk na kp s31 s32 s33 s34 gb go fa ga s39 s40 vo, zi G cd 1200 (m_X6_unwinds_cd tx s26 fcd fhe v0 hm ou), zi G he 200 fhe] H := ⟨by rw [q_11, q_12, q_13, q_14]; exact hP, by rw [q_11, q_12, q_13, q_14]; exact hD⟩
          have hP9 := hz9.1
          have hD9 := hz9.2
          have hpost : (fun (u : Unit) => match u with | _ => (m_X6_unwinds_h025 tx s26 fcd fhe v0 hm ou) ≤ hm ∧ (m_X6_unwinds_h027 tx s26 fcd fhe v0 hm ou) + (m_X6_unwinds_h025 tx s26 fcd fhe v0 hm ou) = ou + hm) () := uw_facts
          exact W.vret hx hb hr (fun t ht hW => ⟨⟨(), rfl, hpost, by rw [ht]; exact hP9, va_K.moved hW.alike hK, hD9⟩, hS.F ht⟩) hS.2.2 dX6_unwinds_79
        · skip
          refine lv_aload_n hx hb dX6_unwinds_25 rfl (lv_at hl 0 rfl) ?_
          refine lv_dup hx hb dX6_unwinds_26 rfl ?_
          refine va_get (D := G.1) (ci := 6) (v := .int (nI (hm - u0))) (C := RX6) (T := TX6) (N := 42) hx hb hts hiX6 hown hK hP 0 rfl rfl 25 (by decide +kernel) kf130 (fun _ h9 => h9) rfl dX6_unwinds_27 ?_
          refine lv_iconst (v := 1) hx hb dX6_unwinds_30 (by decide +kernel) ?_
          refine lv_isub hx hb dX6_unwinds_31 ?_
          refine g_topi (y := nI ((hm - u0) - 1)) (pk_sub (a := (hm - u0)) (b := 1) (by omega)) ?_
          refine va_put (D := G.1) (ci := 6) (v := .int (nI ((hm - u0) - 1))) (ty := .int) (C := RX6) (T := TX6) (N := 42) hx hb hts hiX6 tyX6 tyX6_ok nmX6 hown hK hP hD hS 0 rfl rfl 25 (by decide +kernel) kf130 (fun _ h9 => h9) rfl (by decide +kernel) rfl rfl (Nat.le_of_ble_eq_true rfl) dX6_unwinds_32 (fun H locs hP hD hS => ?_)
          have hz9 : gPD G A [zo6 h0 (nI pb) kd mo st (nI jg) ro tp (nI td) cd sr (nI tx) (nI ru) him ir ih ss sq ce lw s19 s20 s21 s22 wo he (nI ((hm - u0) - 1)) z26u (nI ou6) sk na kp s31 s32 s33 s34 gb go fa ga s39 s40 vo, zi G cd 1200 y0cd, zi G he 200 fhe] H := ⟨hP, hD⟩
          have hP := hz9.1
          have hD := hz9.2
          refine g_aget (D := G.1) (ci := 6) (v := .ref he) (C := RX6) (T := TX6) (N := 42) hx hb dX6_unwinds_35 rfl (lv_at hl 0 rfl) hts hiX6 hown hK hP 0 rfl rfl 24 (by decide +kernel) kf52 (fun _ h9 => h9) rfl dX6_unwinds_36 ?_
          refine g_aget (D := G.1) (ci := 6) (v := .int (nI ((hm - u0) - 1))) (C := RX6) (T := TX6) (N := 42) hx hb dX6_unwinds_39 rfl (lv_at hl 0 rfl) hts hiX6 hown hK hP 0 rfl rfl 25 (by decide +kernel) kf130 (fun _ h9 => h9) rfl dX6_unwinds_40 ?_
          refine g_iald (D := G.1) hx hb hK hP 2 0 rfl rfl (k := (hm - u0) - 1) (y := fhe ((hm - u0) - 1)) (by omega) rfl rfl dX6_unwinds_43 ?_
          refine lv_istore_n (lv' := [zI 2 (fhe ((hm - u0) - 1)), zR 0 h0, zI 1 v0]) hx hb dX6_unwinds_44 rfl hl (by decide +kernel) rfl (fun ls hl => ?_)
          refine lv_aload_n hx hb dX6_unwinds_45 rfl (lv_at hl 1 rfl) ?_
          refine lv_dup hx hb dX6_unwinds_46 rfl ?_
          refine va_get (D := G.1) (ci := 6) (v := .int z26u) (C := RX6) (T := TX6) (N := 42) hx hb hts hiX6 hown hK hP 0 rfl rfl 26 (by decide +kernel) kf137 (fun _ h9 => h9) rfl dX6_unwinds_47 ?_
          refine lv_iload_n hx hb dX6_unwinds_50 rfl (lv_at hl 0 rfl) ?_
          refine lv_bipush (v := 13) hx hb dX6_unwinds_51 (by decide +kernel) ?_
          refine lv_icmp_eq (tgt := 62) hx hb dX6_unwinds_53 (by decide +kernel) (fun c_17 => ?_) (fun c_17 => ?_)
          · skip
            refine lv_iconst (v := 1) hx hb dX6_unwinds_62 (by decide +kernel) ?_
            refine lv_goto (tgt := 67) hx hb dX6_unwinds_63 (by decide +kernel) ?_
            refine lv_isub hx hb dX6_unwinds_67 ?_
            refine va_put (D := G.1) (ci := 6) (v := .int (z26u - 1)) (ty := .int) (C := RX6) (T := TX6) (N := 42) hx hb hts hiX6 tyX6 tyX6_ok nmX6 hown hK hP hD hS 0 rfl rfl 26 (by decide +kernel) kf137 (fun _ h9 => h9) rfl (by decide +kernel) rfl rfl (Nat.le_of_ble_eq_true rfl) dX6_unwinds_68 (fun H locs hP hD hS => ?_)
            have hz9 : gPD G A [zo6 h0 (nI pb) kd mo st (nI jg) ro tp (nI td) cd sr (nI tx) (nI ru) him ir ih ss sq ce lw s19 s20 s21 s22 wo he (nI ((hm - u0) - 1)) (z26u - 1) (nI ou6) sk na kp s31 s32 s33 s34 gb go fa ga s39 s40 vo, zi G cd 1200 y0cd, zi G he 200 fhe] H := ⟨hP, hD⟩
            have hP := hz9.1
            have hD := hz9.2
            refine lv_aload_n hx hb dX6_unwinds_71 rfl (lv_at hl 1 rfl) ?_
            refine lv_iload_n hx hb dX6_unwinds_72 rfl (lv_at hl 0 rfl) ?_
            refine z_callv [0, 1] (va_runV (As := [.int (fhe ((hm - u0) - 1))]) (rest := []) ⟨hx, hb, hml, hown, hts⟩ (c_X6_puts l G h0 kd mo st ro tp cd sr ir ih ss sq ce lw wo he sk na kp gb go fa ga vo pb jg td tx ru him s19 s20 s21 s22 (nI ((hm - u0) - 1)) (z26u - 1) s31 s32 s33 s34 s39 s40 y0cd (fhe ((hm - u0) - 1)) ou6 H.size (by omega) (by first | exact htx | assumption | omega)) (cwV 1 hts gX6_unwinds_X6_puts rfl rfl rfl (by decide +kernel) ⟨Nat.le_of_ble_eq_true rfl, Nat.le_of_ble_eq_true rfl⟩) ⟨gPre_blind, va_recv (q := (RX6, TX6, 42)) hK hP (ci := 6) (q0 := 0) rfl rfl, fun U hU hW => gPre_ofF [0, 1] hU hW hK hP hD (by decide +kernel) rfl⟩ rfl rfl hl.1 rfl (lv_room (Nat.le_of_ble_eq_true rfl)) dX6_unwinds_73 ⟨Nat.le_of_ble_eq_true rfl, Nat.le_of_ble_eq_true rfl⟩) hS hD hA rfl (fun u t H locs ht hvm w_19 hB hz1 hk1 hFq hAq hS => ?_)
            obtain ⟨hP1, hK1, hD1⟩ := hB
            have hz9 : gPD G A [zo6 h0 (nI pb) kd mo st (nI jg) ro tp (nI td) cd sr (nI tx) (nI ru) him ir ih ss sq ce lw s19 s20 s21 s22 wo he (nI ((hm - u0) - 1)) (z26u - 1) (nI ((ou6 + 1))) sk na kp s31 s32 s33 s34 gb go fa ga s39 s40 vo, zi G cd 1200 (upd y0cd ((200 * tx) + ou6) (fhe ((hm - u0) - 1))), zi G he 200 fhe] H := zFill hP hD [0, 1] [1, 2] hAq hk1 hFq ht hP1 hD1 rfl (by decide +kernel)
            have hP := hz9.1
            have hD := hz9.2
            refine lv_goto (tgt := 0) hx hb dX6_unwinds_76 (by decide +kernel) ?_
            exact ih9_0 (u0 + 1) (upd y0cd ((200 * tx) + ou6) (fhe ((hm - u0) - 1))) (z26u - 1) (ou6 + 1) (by omega) (Eq.trans (Eq.symm ((congrArg (fun z9 => p_X6_unwinds_0 tx fhe v0 hm (z9) u0 y0cd z26u ou6) (show hm - u0 = hm - (u0 + 1) + 1 by omega)).trans (by show p_X6_unwinds_0 tx fhe v0 hm (hm - (u0 + 1) + 1) u0 y0cd z26u ou6 = _; rw [p_X6_unwinds_0, if_neg c_10, if_pos c_17]))) R0) (by show ou6 + 1 = ou + (u0 + 1); omega) (by omega) _ _ hP hD hS ls (lv_sub hl [1, 2] rfl)
          · skip
            refine lv_iload_n hx hb dX6_unwinds_56 rfl (lv_at hl 0 rfl) ?_
            refine lv_bipush (v := 19) hx hb dX6_unwinds_57 (by decide +kernel) ?_
            refine lv_icmp_ne (tgt := 66) hx hb dX6_unwinds_59 (by decide +kernel) (fun c_20 => ?_) (fun c_20 => ?_)
            · skip
              refine lv_iconst (v := 0) hx hb dX6_unwinds_66 (by decide +kernel) ?_
              refine lv_isub hx hb dX6_unwinds_67 ?_
              refine va_put (D := G.1) (ci := 6) (v := .int (z26u - 0)) (ty := .int) (C := RX6) (T := TX6) (N := 42) hx hb hts hiX6 tyX6 tyX6_ok nmX6 hown hK hP hD hS 0 rfl rfl 26 (by decide +kernel) kf137 (fun _ h9 => h9) rfl (by decide +kernel) rfl rfl (Nat.le_of_ble_eq_true rfl) dX6_unwinds_68 (fun H locs hP hD hS => ?_)
              have hz9 : gPD G A [zo6 h0 (nI pb) kd mo st (nI jg) ro tp (nI td) cd sr (nI tx) (nI ru) him ir ih ss sq ce lw s19 s20 s21 s22 wo he (nI ((hm - u0) - 1)) (z26u - 0) (nI ou6) sk na kp s31 s32 s33 s34 gb go fa ga s39 s40 vo, zi G cd 1200 y0cd, zi G he 200 fhe] H := ⟨hP, hD⟩
              have hP := hz9.1
              have hD := hz9.2
              refine lv_aload_n hx hb dX6_unwinds_71 rfl (lv_at hl 1 rfl) ?_
              refine lv_iload_n hx hb dX6_unwinds_72 rfl (lv_at hl 0 rfl) ?_
              refine z_callv [0, 1] (va_runV (As := [.int (fhe ((hm - u0) - 1))]) (rest := []) ⟨hx, hb, hml, hown, hts⟩ (c_X6_puts l G h0 kd mo st ro tp cd sr ir ih ss sq ce lw wo he sk na kp gb go fa ga vo pb jg td tx ru him s19 s20 s21 s22 (nI ((hm - u0) - 1)) (z26u - 0) s31 s32 s33 s34 s39 s40 y0cd (fhe ((hm - u0) - 1)) ou6 H.size (by omega) (by first | exact htx | assumption | omega)) (cwV 1 hts gX6_unwinds_X6_puts rfl rfl rfl (by decide +kernel) ⟨Nat.le_of_ble_eq_true rfl, Nat.le_of_ble_eq_true rfl⟩) ⟨gPre_blind, va_recv (q := (RX6, TX6, 42)) hK hP (ci := 6) (q0 := 0) rfl rfl, fun U hU hW => gPre_ofF [0, 1] hU hW hK hP hD (by decide +kernel) rfl⟩ rfl rfl hl.1 rfl (lv_room (Nat.le_of_ble_eq_true rfl)) dX6_unwinds_73 ⟨Nat.le_of_ble_eq_true rfl, Nat.le_of_ble_eq_true rfl⟩) hS hD hA rfl (fun u t H locs ht hvm w_22 hB hz1 hk1 hFq hAq hS => ?_)
              obtain ⟨hP1, hK1, hD1⟩ := hB
              have hz9 : gPD G A [zo6 h0 (nI pb) kd mo st (nI jg) ro tp (nI td) cd sr (nI tx) (nI ru) him ir ih ss sq ce lw s19 s20 s21 s22 wo he (nI ((hm - u0) - 1)) (z26u - 0) (nI ((ou6 + 1))) sk na kp s31 s32 s33 s34 gb go fa ga s39 s40 vo, zi G cd 1200 (upd y0cd ((200 * tx) + ou6) (fhe ((hm - u0) - 1))), zi G he 200 fhe] H := zFill hP hD [0, 1] [1, 2] hAq hk1 hFq ht hP1 hD1 rfl (by decide +kernel)
              have hP := hz9.1
              have hD := hz9.2
              refine lv_goto (tgt := 0) hx hb dX6_unwinds_76 (by decide +kernel) ?_
              exact ih9_0 (u0 + 1) (upd y0cd ((200 * tx) + ou6) (fhe ((hm - u0) - 1))) (z26u - 0) (ou6 + 1) (by omega) (Eq.trans (Eq.symm ((congrArg (fun z9 => p_X6_unwinds_0 tx fhe v0 hm (z9) u0 y0cd z26u ou6) (show hm - u0 = hm - (u0 + 1) + 1 by omega)).trans (by show p_X6_unwinds_0 tx fhe v0 hm (hm - (u0 + 1) + 1) u0 y0cd z26u ou6 = _; rw [p_X6_unwinds_0, if_neg c_10, if_neg c_17, if_neg c_20]))) R0) (by show ou6 + 1 = ou + (u0 + 1); omega) (by omega) _ _ hP hD hS ls (lv_sub hl [1, 2] rfl)
            · skip
              refine lv_iconst (v := 1) hx hb dX6_unwinds_62 (by decide +kernel) ?_
              refine lv_goto (tgt := 67) hx hb dX6_unwinds_63 (by decide +kernel) ?_
              refine lv_isub hx hb dX6_unwinds_67 ?_
              refine va_put (D := G.1) (ci := 6) (v := .int (z26u - 1)) (ty := .int) (C := RX6) (T := TX6) (N := 42) hx hb hts hiX6 tyX6 tyX6_ok nmX6 hown hK hP hD hS 0 rfl rfl 26 (by decide +kernel) kf137 (fun _ h9 => h9) rfl (by decide +kernel) rfl rfl (Nat.le_of_ble_eq_true rfl) dX6_unwinds_68 (fun H locs hP hD hS => ?_)
              have hz9 : gPD G A [zo6 h0 (nI pb) kd mo st (nI jg) ro tp (nI td) cd sr (nI tx) (nI ru) him ir ih ss sq ce lw s19 s20 s21 s22 wo he (nI ((hm - u0) - 1)) (z26u - 1) (nI ou6) sk na kp s31 s32 s33 s34 gb go fa ga s39 s40 vo, zi G cd 1200 y0cd, zi G he 200 fhe] H := ⟨hP, hD⟩
              have hP := hz9.1
              have hD := hz9.2
              refine lv_aload_n hx hb dX6_unwinds_71 rfl (lv_at hl 1 rfl) ?_
              refine lv_iload_n hx hb dX6_unwinds_72 rfl (lv_at hl 0 rfl) ?_
              refine z_callv [0, 1] (va_runV (As := [.int (fhe ((hm - u0) - 1))]) (rest := []) ⟨hx, hb, hml, hown, hts⟩ (c_X6_puts l G h0 kd mo st ro tp cd sr ir ih ss sq ce lw wo he sk na kp gb go fa ga vo pb jg td tx ru him s19 s20 s21 s22 (nI ((hm - u0) - 1)) (z26u - 1) s31 s32 s33 s34 s39 s40 y0cd (fhe ((hm - u0) - 1)) ou6 H.size (by omega) (by first | exact htx | assumption | omega)) (cwV 1 hts gX6_unwinds_X6_puts rfl rfl rfl (by decide +kernel) ⟨Nat.le_of_ble_eq_true rfl, Nat.le_of_ble_eq_true rfl⟩) ⟨gPre_blind, va_recv (q := (RX6, TX6, 42)) hK hP (ci := 6) (q0 := 0) rfl rfl, fun U hU hW => gPre_ofF [0, 1] hU hW hK hP hD (by decide +kernel) rfl⟩ rfl rfl hl.1 rfl (lv_room (Nat.le_of_ble_eq_true rfl)) dX6_unwinds_73 ⟨Nat.le_of_ble_eq_true rfl, Nat.le_of_ble_eq_true rfl⟩) hS hD hA rfl (fun u t H locs ht hvm w_24 hB hz1 hk1 hFq hAq hS => ?_)
              obtain ⟨hP1, hK1, hD1⟩ := hB
              have hz9 : gPD G A [zo6 h0 (nI pb) kd mo st (nI jg) ro tp (nI td) cd sr (nI tx) (nI ru) him ir ih ss sq ce lw s19 s20 s21 s22 wo he (nI ((hm - u0) - 1)) (z26u - 1) (nI ((ou6 + 1))) sk na kp s31 s32 s33 s34 gb go fa ga s39 s40 vo, zi G cd 1200 (upd y0cd ((200 * tx) + ou6) (fhe ((hm - u0) - 1))), zi G he 200 fhe] H := zFill hP hD [0, 1] [1, 2] hAq hk1 hFq ht hP1 hD1 rfl (by decide +kernel)
              have hP := hz9.1
              have hD := hz9.2
              refine lv_goto (tgt := 0) hx hb dX6_unwinds_76 (by decide +kernel) ?_
              exact ih9_0 (u0 + 1) (upd y0cd ((200 * tx) + ou6) (fhe ((hm - u0) - 1))) (z26u - 1) (ou6 + 1) (by omega) (Eq.trans (Eq.symm ((congrArg (fun z9 => p_X6_unwinds_0 tx fhe v0 hm (z9) u0 y0cd z26u ou6) (show hm - u0 = hm - (u0 + 1) + 1 by omega)).trans (by show p_X6_unwinds_0 tx fhe v0 hm (hm - (u0 + 1) + 1) u0 y0cd z26u ou6 = _; rw [p_X6_unwinds_0, if_neg c_10, if_neg c_17, if_pos c_20]))) R0) (by show ou6 + 1 = ou + (u0 + 1); omega) (by omega) _ _ hP hD hS ls (lv_sub hl [1, 2] rfl)
  exact loop_0 (hm - 0 + 1) 0 fcd s26 ou (by omega) (rfl) (rfl) (by omega) _ _ hP hD hS ls hl
