noncomputable def m_X6_count (pb : Nat) (jg : Nat) (td : Nat) (tx : Nat) (ru : Nat) (v0 : Int32) : Int32 := if v0 = 0 then nI pb else (if v0 = 1 then nI jg else (if v0 = 2 then nI tx else (if v0 = 3 then nI ru else (if v0 = 4 then nI td else -2))))
abbrev q_X6_count (G : gG) (h0 kd mo st ro tp cd sr ir ih ss sq ce lw wo he sk na kp gb go fa ga vo : Nat) (pb : Nat) (jg : Nat) (td : Nat) (tx : Nat) (ru : Nat) (him : Int32) (s19 : Int32) (s20 : Int32) (s21 : Int32) (s22 : Int32) (s25 : Int32) (s26 : Int32) (s27 : Int32) (s31 : Int32) (s32 : Int32) (s33 : Int32) (s34 : Int32) (s39 : Int32) (s40 : Int32) (v0 : Int32) (A : Nat → Prop) : Array Value → State → Outcome → State → Prop := va_Qi (fun (r : Int32) (u : Unit) => match u with | _ => r = m_X6_count pb jg td tx ru v0) (fun (u : Unit) t => match u with | _ => va_P G.1 vwCl [zo6 h0 (nI pb) kd mo st (nI jg) ro tp (nI td) cd sr (nI tx) (nI ru) him ir ih ss sq ce lw s19 s20 s21 s22 wo he s25 s26 s27 sk na kp s31 s32 s33 s34 gb go fa ga s39 s40 vo] t.heap ∧ gK G t ∧ va_D A [zo6 h0 (nI pb) kd mo st (nI jg) ro tp (nI td) cd sr (nI tx) (nI ru) him ir ih ss sq ce lw s19 s20 s21 s22 wo he s25 s26 s27 sk na kp s31 s32 s33 s34 gb go fa ga s39 s40 vo]) A
set_option maxHeartbeats 4000000 in
set_option maxRecDepth 100000 in
theorem c_X6_count (l : Launch) (G : gG) (h0 kd mo st ro tp cd sr ir ih ss sq ce lw wo he sk na kp gb go fa ga vo : Nat) (pb : Nat) (jg : Nat) (td : Nat) (tx : Nat) (ru : Nat) (him : Int32) (s19 : Int32) (s20 : Int32) (s21 : Int32) (s22 : Int32) (s25 : Int32) (s26 : Int32) (s27 : Int32) (s31 : Int32) (s32 : Int32) (s33 : Int32) (s34 : Int32) (s39 : Int32) (s40 : Int32) (v0 : Int32) (sz : Nat) (hpb : pb ≤ 6) (hjg : jg ≤ 4) (htx : tx ≤ 6) (hru : ru < tx) : Met l yX6_count wsX6_count ({ frames := 0, cells := 0, slots := 0, locals := 0 }) (gPre G [.ref h0, .int v0] [zo6 h0 (nI pb) kd mo st (nI jg) ro tp (nI td) cd sr (nI tx) (nI ru) him ir ih ss sq ce lw s19 s20 s21 s22 wo he s25 s26 s27 sk na kp s31 s32 s33 s34 gb go fa ga s39 s40 vo] sz) (q_X6_count G h0 kd mo st ro tp cd sr ir ih ss sq ce lw wo he sk na kp gb go fa ga vo pb jg td tx ru him s19 s20 s21 s22 s25 s26 s27 s31 s32 s33 s34 s39 s40 v0 (va_A [zo6 h0 (nI pb) kd mo st (nI jg) ro tp (nI td) cd sr (nI tx) (nI ru) him ir ih ss sq ce lw s19 s20 s21 s22 wo he s25 s26 s27 sk na kp s31 s32 s33 s34 gb go fa ga s39 s40 vo] sz)) 0 0 (va_A [zo6 h0 (nI pb) kd mo st (nI jg) ro tp (nI td) cd sr (nI tx) (nI ru) him ir ih ss sq ce lw s19 s20 s21 s22 wo he s25 s26 s27 sk na kp s31 s32 s33 s34 gb go fa ga s39 s40 vo] sz) := by
  refine Met.ofW (cc := cX6_count) (maxL := 2) (ret := (some .int)) (by decide +kernel) rfl ?_
  intro p e s m args below meth c s₁ B hml hv
  obtain ⟨rfl, hsz, hP, hK, hD0⟩ := hv
  have hx := B.exec
  have hb := B.bytes
  have hr := B.returns
  have hts := atoms_spec (ws := wsX6_count) B.pre
  have hown : s.vm.findClass RX6 = some m.cls := findClass_of_methodNamed B.named
  have hlocks := B.notSynchronized
  subst hsz
  have hD := hD0.self (sz := s.heap.size)
  generalize hAe : va_A [zo6 h0 (nI pb) kd mo st (nI jg) ro tp (nI td) cd sr (nI tx) (nI ru) him ir ih ss sq ce lw s19 s20 s21 s22 wo he s25 s26 s27 sk na kp s31 s32 s33 s34 gb go fa ga s39 s40 vo] s.heap.size = A at hD ⊢
  have hA : ∀ q : Nat, s.heap.size ≤ q → A q := fun q h => by rw [← hAe]; exact Or.inr h
  have hS : va_S A s.heap s.heap [] := va_S.rf
  have hz9 : gPD G A [zo6 h0 (nI pb) kd mo st (nI jg) ro tp (nI td) cd sr (nI tx) (nI ru) him ir ih ss sq ce lw s19 s20 s21 s22 wo he s25 s26 s27 sk na kp s31 s32 s33 s34 gb go fa ga s39 s40 vo] s.heap := ⟨hP, hD⟩
  have hP := hz9.1
  have hD := hz9.2
  have hl := lv_entry ([.ref h0, .int v0]) (n := 2) (Nat.le_of_ble_eq_true rfl)
  rw [lg_entry_eq]
  generalize (lg_sl ([.ref h0, .int v0]) ++ List.replicate (2 - (lg_sl ([.ref h0, .int v0])).length) Slot.unset).toArray = ls at hl ⊢
  have hl : lv_has ls 2 [zR 0 h0, zI 1 v0] := hl
  have kf88 := hts (.fieldLink RX6 88 "PebbleInShoeModel" "pebbles" "I") (by decide +kernel)
  have hiX6 := (by decide +kernel : ∀ w ∈ wsX60, w ∈ wsX6_count)
  have kf95 := hts (.fieldLink RX6 95 "PebbleInShoeModel" "judges" "I") (by decide +kernel)
  have kf98 := hts (.fieldLink RX6 98 "PebbleInShoeModel" "texts" "I") (by decide +kernel)
  have kf101 := hts (.fieldLink RX6 101 "PebbleInShoeModel" "rule" "I") (by decide +kernel)
  have kf80 := hts (.fieldLink RX6 80 "PebbleInShoeModel" "taped" "I") (by decide +kernel)
  refine lv_iload_n hx hb dX6_count_0 rfl (lv_at hl 1 rfl) ?_
  by_cases s_1 : v0 = 0
  · skip
    refine lv_tableIn (off := 35) (tgt := 36) hx hb dX6_count_1 (by rw [s_1]; decide) (by rw [s_1]; decide) (by rw [s_1]; decide) (by decide +kernel) ?_
    refine g_aget (D := G.1) (ci := 6) (v := .int (nI pb)) (C := RX6) (T := TX6) (N := 42) hx hb dX6_count_36 rfl (lv_at hl 0 rfl) hts hiX6 hown hK hP 0 rfl rfl 0 (by decide +kernel) kf88 (fun _ h9 => h9) rfl dX6_count_37 ?_
    have hpost : (fun (r : Int32) (u : Unit) => match u with | _ => r = m_X6_count pb jg td tx ru v0) (nI pb) () := (show m_X6_count pb jg td tx ru v0 = (nI pb) from by unfold m_X6_count; rw [if_pos s_1]).symm
    exact W.iret (v := (nI pb)) hx hb hr (fun t ht hW => ⟨⟨(nI pb), (), rfl, hpost, by rw [ht]; exact hP, va_K.moved hW.alike hK, hD⟩, hS.F ht⟩) hS.2.2 dX6_count_40
  by_cases s_2 : v0 = 1
  · skip
    refine lv_tableIn (off := 40) (tgt := 41) hx hb dX6_count_1 (by rw [s_2]; decide) (by rw [s_2]; decide) (by rw [s_2]; decide) (by decide +kernel) ?_
    refine g_aget (D := G.1) (ci := 6) (v := .int (nI jg)) (C := RX6) (T := TX6) (N := 42) hx hb dX6_count_41 rfl (lv_at hl 0 rfl) hts hiX6 hown hK hP 0 rfl rfl 4 (by decide +kernel) kf95 (fun _ h9 => h9) rfl dX6_count_42 ?_
    have hpost : (fun (r : Int32) (u : Unit) => match u with | _ => r = m_X6_count pb jg td tx ru v0) (nI jg) () := (show m_X6_count pb jg td tx ru v0 = (nI jg) from by unfold m_X6_count; rw [if_neg s_1, if_pos s_2]).symm
    exact W.iret (v := (nI jg)) hx hb hr (fun t ht hW => ⟨⟨(nI jg), (), rfl, hpost, by rw [ht]; exact hP, va_K.moved hW.alike hK, hD⟩, hS.F ht⟩) hS.2.2 dX6_count_45
  by_cases s_3 : v0 = 2
  · skip
    refine lv_tableIn (off := 45) (tgt := 46) hx hb dX6_count_1 (by rw [s_3]; decide) (by rw [s_3]; decide) (by rw [s_3]; decide) (by decide +kernel) ?_
    refine g_aget (D := G.1) (ci := 6) (v := .int (nI tx)) (C := RX6) (T := TX6) (N := 42) hx hb dX6_count_46 rfl (lv_at hl 0 rfl) hts hiX6 hown hK hP 0 rfl rfl 10 (by decide +kernel) kf98 (fun _ h9 => h9) rfl dX6_count_47 ?_
    have hpost : (fun (r : Int32) (u : Unit) => match u with | _ => r = m_X6_count pb jg td tx ru v0) (nI tx) () := (show m_X6_count pb jg td tx ru v0 = (nI tx) from by unfold m_X6_count; rw [if_neg s_1, if_neg s_2, if_pos s_3]).symm
    exact W.iret (v := (nI tx)) hx hb hr (fun t ht hW => ⟨⟨(nI tx), (), rfl, hpost, by rw [ht]; exact hP, va_K.moved hW.alike hK, hD⟩, hS.F ht⟩) hS.2.2 dX6_count_50
  by_cases s_4 : v0 = 3
  · skip
    refine lv_tableIn (off := 50) (tgt := 51) hx hb dX6_count_1 (by rw [s_4]; decide) (by rw [s_4]; decide) (by rw [s_4]; decide) (by decide +kernel) ?_
    refine g_aget (D := G.1) (ci := 6) (v := .int (nI ru)) (C := RX6) (T := TX6) (N := 42) hx hb dX6_count_51 rfl (lv_at hl 0 rfl) hts hiX6 hown hK hP 0 rfl rfl 11 (by decide +kernel) kf101 (fun _ h9 => h9) rfl dX6_count_52 ?_
    have hpost : (fun (r : Int32) (u : Unit) => match u with | _ => r = m_X6_count pb jg td tx ru v0) (nI ru) () := (show m_X6_count pb jg td tx ru v0 = (nI ru) from by unfold m_X6_count; rw [if_neg s_1, if_neg s_2, if_neg s_3, if_pos s_4]).symm
    exact W.iret (v := (nI ru)) hx hb hr (fun t ht hW => ⟨⟨(nI ru), (), rfl, hpost, by rw [ht]; exact hP, va_K.moved hW.alike hK, hD⟩, hS.F ht⟩) hS.2.2 dX6_count_55
  by_cases s_5 : v0 = 4
  · skip
    refine lv_tableIn (off := 55) (tgt := 56) hx hb dX6_count_1 (by rw [s_5]; decide) (by rw [s_5]; decide) (by rw [s_5]; decide) (by decide +kernel) ?_
    refine g_aget (D := G.1) (ci := 6) (v := .int (nI td)) (C := RX6) (T := TX6) (N := 42) hx hb dX6_count_56 rfl (lv_at hl 0 rfl) hts hiX6 hown hK hP 0 rfl rfl 7 (by decide +kernel) kf80 (fun _ h9 => h9) rfl dX6_count_57 ?_
    have hpost : (fun (r : Int32) (u : Unit) => match u with | _ => r = m_X6_count pb jg td tx ru v0) (nI td) () := (show m_X6_count pb jg td tx ru v0 = (nI td) from by unfold m_X6_count; rw [if_neg s_1, if_neg s_2, if_neg s_3, if_neg s_4, if_pos s_5]).symm
    exact W.iret (v := (nI td)) hx hb hr (fun t ht hW => ⟨⟨(nI td), (), rfl, hpost, by rw [ht]; exact hP, va_K.moved hW.alike hK, hD⟩, hS.F ht⟩) hS.2.2 dX6_count_60
  have s_1T := lv_neT (a := 0) s_1 (by decide +kernel)
  have s_2T := lv_neT (a := 1) s_2 (by decide +kernel)
  have s_3T := lv_neT (a := 2) s_3 (by decide +kernel)
  have s_4T := lv_neT (a := 3) s_4 (by decide +kernel)
  have s_5T := lv_neT (a := 4) s_5 (by decide +kernel)
  refine lv_tableOut (tgt := 61) hx hb dX6_count_1 (by omega) (by decide +kernel) ?_
  refine lv_bipush (v := -2) hx hb dX6_count_61 (by decide +kernel) ?_
  have hpost : (fun (r : Int32) (u : Unit) => match u with | _ => r = m_X6_count pb jg td tx ru v0) (-2) () := (show m_X6_count pb jg td tx ru v0 = (-2) from by unfold m_X6_count; rw [if_neg s_1, if_neg s_2, if_neg s_3, if_neg s_4, if_neg s_5]).symm
  exact W.iret (v := (-2)) hx hb hr (fun t ht hW => ⟨⟨(-2), (), rfl, hpost, by rw [ht]; exact hP, va_K.moved hW.alike hK, hD⟩, hS.F ht⟩) hS.2.2 dX6_count_63
noncomputable def m_X6_judge (jg : Nat) (v0 : Int32) : Int32 := if 0 ≤ v0 ∧ v0 ≤ 20 then (if (nI jg) = 4 then -4 else nI ((jg + 1) - 1)) else -2
noncomputable def m_X6_judge_h04 (jg : Nat) (v0 : Int32) : Nat := if 0 ≤ v0 ∧ v0 ≤ 20 then (if (nI jg) = 4 then jg else (jg + 1)) else jg
noncomputable def m_X6_judge_ro (jg : Nat) (fro : Nat → Int32) (v0 : Int32) : Nat → Int32 := if 0 ≤ v0 ∧ v0 ≤ 20 then (if (nI jg) = 4 then fro else upd (upd (upd fro (3 * jg) (nI (nC v0))) ((3 * jg) + 1) 0) ((3 * jg) + 2) 0) else fro
abbrev q_X6_judge (G : gG) (h0 kd mo st ro tp cd sr ir ih ss sq ce lw wo he sk na kp gb go fa ga vo : Nat) (pb : Nat) (jg : Nat) (td : Nat) (tx : Nat) (ru : Nat) (him : Int32) (s19 : Int32) (s20 : Int32) (s21 : Int32) (s22 : Int32) (s25 : Int32) (s26 : Int32) (s27 : Int32) (s31 : Int32) (s32 : Int32) (s33 : Int32) (s34 : Int32) (s39 : Int32) (s40 : Int32) (fro : Nat → Int32) (v0 : Int32) (A : Nat → Prop) : Array Value → State → Outcome → State → Prop := va_Qi (fun (r : Int32) (u : Unit) => match u with | _ => r = m_X6_judge jg v0) (fun (u : Unit) t => match u with | _ => va_P G.1 vwCl [zo6 h0 (nI pb) kd mo st (nI (m_X6_judge_h04 jg v0)) ro tp (nI td) cd sr (nI tx) (nI ru) him ir ih ss sq ce lw s19 s20 s21 s22 wo he s25 s26 s27 sk na kp s31 s32 s33 s34 gb go fa ga s39 s40 vo, zi G ro 12 (m_X6_judge_ro jg fro v0)] t.heap ∧ gK G t ∧ va_D A [zo6 h0 (nI pb) kd mo st (nI (m_X6_judge_h04 jg v0)) ro tp (nI td) cd sr (nI tx) (nI ru) him ir ih ss sq ce lw s19 s20 s21 s22 wo he s25 s26 s27 sk na kp s31 s32 s33 s34 gb go fa ga s39 s40 vo, zi G ro 12 (m_X6_judge_ro jg fro v0)]) A
set_option maxHeartbeats 4000000 in
set_option maxRecDepth 100000 in
theorem c_X6_judge (l : Launch) (G : gG) (h0 kd mo st ro tp cd sr ir ih ss sq ce lw wo he sk na kp gb go fa ga vo : Nat) (pb : Nat) (jg : Nat) (td : Nat) (tx : Nat) (ru : Nat) (him : Int32) (s19 : Int32) (s20 : Int32) (s21 : Int32) (s22 : Int32) (s25 : Int32) (s26 : Int32) (s27 : Int32) (s31 : Int32) (s32 : Int32) (s33 : Int32) (s34 : Int32) (s39 : Int32) (s40 : Int32) (fro : Nat → Int32) (v0 : Int32) (sz : Nat) (hpb : pb ≤ 6) (hjg : jg ≤ 4) (htx : tx ≤ 6) (hru : ru < tx) : Met l yX6_judge wsX6_judge ({ frames := 1, cells := 0, slots := 0, locals := 22 }) (gPre G [.ref h0, .int v0] [zo6 h0 (nI pb) kd mo st (nI jg) ro tp (nI td) cd sr (nI tx) (nI ru) him ir ih ss sq ce lw s19 s20 s21 s22 wo he s25 s26 s27 sk na kp s31 s32 s33 s34 gb go fa ga s39 s40 vo, zi G ro 12 fro] sz) (q_X6_judge G h0 kd mo st ro tp cd sr ir ih ss sq ce lw wo he sk na kp gb go fa ga vo pb jg td tx ru him s19 s20 s21 s22 s25 s26 s27 s31 s32 s33 s34 s39 s40 fro v0 (va_A [zo6 h0 (nI pb) kd mo st (nI jg) ro tp (nI td) cd sr (nI tx) (nI ru) him ir ih ss sq ce lw s19 s20 s21 s22 wo he s25 s26 s27 sk na kp s31 s32 s33 s34 gb go fa ga s39 s40 vo, zi G ro 12 fro] sz)) 0 0 (va_A [zo6 h0 (nI pb) kd mo st (nI jg) ro tp (nI td) cd sr (nI tx) (nI ru) him ir ih ss sq ce lw s19 s20 s21 s22 wo he s25 s26 s27 sk na kp s31 s32 s33 s34 gb go fa ga s39 s40 vo, zi G ro 12 fro] sz) := by
  refine Met.ofW (cc := cX6_judge) (maxL := 2) (ret := (some .int)) (by decide +kernel) rfl ?_
  intro p e s m args below meth c s₁ B hml hv
  obtain ⟨rfl, hsz, hP, hK, hD0⟩ := hv
  have hx := B.exec
  have hb := B.bytes
  have hr := B.returns
  have hts := atoms_spec (ws := wsX6_judge) B.pre
  have hown : s.vm.findClass RX6 = some m.cls := findClass_of_methodNamed B.named
  have hlocks := B.notSynchronized
  subst hsz
  have hD := hD0.self (sz := s.heap.size)
  generalize hAe : va_A [zo6 h0 (nI pb) kd mo st (nI jg) ro tp (nI td) cd sr (nI tx) (nI ru) him ir ih ss sq ce lw s19 s20 s21 s22 wo he s25 s26 s27 sk na kp s31 s32 s33 s34 gb go fa ga s39 s40 vo, zi G ro 12 fro] s.heap.size = A at hD ⊢
  have hA : ∀ q : Nat, s.heap.size ≤ q → A q := fun q h => by rw [← hAe]; exact Or.inr h
  have hS : va_S A s.heap s.heap [] := va_S.rf
  have hz9 : gPD G A [zo6 h0 (nI pb) kd mo st (nI jg) ro tp (nI td) cd sr (nI tx) (nI ru) him ir ih ss sq ce lw s19 s20 s21 s22 wo he s25 s26 s27 sk na kp s31 s32 s33 s34 gb go fa ga s39 s40 vo, zi G ro 12 fro] s.heap := ⟨hP, hD⟩
  have hP := hz9.1
  have hD := hz9.2
  have hl := lv_entry ([.ref h0, .int v0]) (n := 2) (Nat.le_of_ble_eq_true rfl)
  rw [lg_entry_eq]
  generalize (lg_sl ([.ref h0, .int v0]) ++ List.replicate (2 - (lg_sl ([.ref h0, .int v0])).length) Slot.unset).toArray = ls at hl ⊢
  have hl : lv_has ls 2 [zR 0 h0, zI 1 v0] := hl
  have kf95 := hts (.fieldLink RX6 95 "PebbleInShoeModel" "judges" "I") (by decide +kernel)
  have hiX6 := (by decide +kernel : ∀ w ∈ wsX60, w ∈ wsX6_judge)
  have kf19 := hts (.fieldLink RX6 19 "PebbleInShoeModel" "rows" "[I") (by decide +kernel)
  refine lv_iload_n hx hb dX6_judge_0 rfl (lv_at hl 1 rfl) ?_
  refine lv_iconst (v := 0) hx hb dX6_judge_1 (by decide +kernel) ?_
  refine lv_bipush (v := 20) hx hb dX6_judge_2 (by decide +kernel) ?_
  refine z_calli [] (v := bz (decide (0 ≤ v0 ∧ v0 ≤ 20))) (fun _ _ h => h) (va_runS (As := [.int v0, .int 0, .int 20]) (rest := []) ⟨hx, hb, hml, hown, hts⟩ (c_X6_in l G v0 0 20 s.heap.size) (va_cwS 3 hts gX6_judge_X6_in rfl rfl rfl (by decide +kernel) ⟨Nat.le_of_ble_eq_true rfl, Nat.le_of_ble_eq_true rfl⟩) ⟨gPre_blind, fun U hU hW => gPre_ofF [] hU hW hK hP hD (by decide +kernel) rfl⟩ rfl rfl hl.1 rfl (lv_room (Nat.le_of_ble_eq_true rfl)) dX6_judge_4 ⟨Nat.le_of_ble_eq_true rfl, Nat.le_of_ble_eq_true rfl⟩) hS hD hA rfl (fun u t H locs ht hvm hB hz1 hk1 hFq hAq hS => ?_)
  obtain ⟨hP1, hK1, hD1⟩ := hB
  have hP := zKeep hP hD [] hAq hk1 ht hP1 rfl
  refine lv_if_ne (tgt := 13) hx hb dX6_judge_7 (by decide +kernel) (fun c_3 => ?_) (fun c_3 => ?_)
  · skip
    have p_4 : 0 ≤ v0 ∧ v0 ≤ 20 := of_decide_eq_true (bz_ne rfl c_3)
    have hv_6 : v0 = nI (nC v0) := nC_eq p_4.1
    have hk_7 : nC v0 ≤ 20 := nC_le (n := 20) (by omega) p_4
    refine g_aget (D := G.1) (ci := 6) (v := .int (nI jg)) (C := RX6) (T := TX6) (N := 42) hx hb dX6_judge_13 rfl (lv_at hl 0 rfl) hts hiX6 hown hK hP 0 rfl rfl 4 (by decide +kernel) kf95 (fun _ h9 => h9) rfl dX6_judge_14 ?_
    refine lv_iconst (v := 4) hx hb dX6_judge_17 (by decide +kernel) ?_
    refine lv_icmp_ne (tgt := 24) hx hb dX6_judge_18 (by decide +kernel) (fun c_8 => ?_) (fun c_8 => ?_)
    · skip
      have c_8N : ¬ jg = 4 := nI_eq0 (a := jg) (b := 4) (by omega) (by omega) c_8
      refine g_aget (D := G.1) (ci := 6) (v := .ref ro) (C := RX6) (T := TX6) (N := 42) hx hb dX6_judge_24 rfl (lv_at hl 0 rfl) hts hiX6 hown hK hP 0 rfl rfl 5 (by decide +kernel) kf19 (fun _ h9 => h9) rfl dX6_judge_25 ?_
      refine lv_iconst (v := 3) hx hb dX6_judge_28 (by decide +kernel) ?_
      refine g_aget (D := G.1) (ci := 6) (v := .int (nI jg)) (C := RX6) (T := TX6) (N := 42) hx hb dX6_judge_29 rfl (lv_at hl 0 rfl) hts hiX6 hown hK hP 0 rfl rfl 4 (by decide +kernel) kf95 (fun _ h9 => h9) rfl dX6_judge_30 ?_
      refine lv_imul hx hb dX6_judge_33 ?_
      refine g_topi (y := nI (3 * jg)) (pk_mul 3 jg) ?_
      refine lv_iload_n hx hb dX6_judge_34 rfl (lv_at hl 1 rfl) ?_
      refine g_topi (y := nI (nC v0)) hv_6 ?_
      refine g_iast (D := G.1) hx hb hK hP hD hS 1 0 rfl rfl (k := 3 * jg) (x := (nI (nC v0))) (by omega) rfl dX6_judge_35 (fun H locs hP hD hS => ?_)
      have hz9 : gPD G A [zo6 h0 (nI pb) kd mo st (nI jg) ro tp (nI td) cd sr (nI tx) (nI ru) him ir ih ss sq ce lw s19 s20 s21 s22 wo he s25 s26 s27 sk na kp s31 s32 s33 s34 gb go fa ga s39 s40 vo, zi G ro 12 (upd fro (3 * jg) (nI (nC v0)))] H := ⟨hP, hD⟩
      have hP := hz9.1
      have hD := hz9.2
      refine g_aget (D := G.1) (ci := 6) (v := .ref ro) (C := RX6) (T := TX6) (N := 42) hx hb dX6_judge_36 rfl (lv_at hl 0 rfl) hts hiX6 hown hK hP 0 rfl rfl 5 (by decide +kernel) kf19 (fun _ h9 => h9) rfl dX6_judge_37 ?_
      refine lv_iconst (v := 3) hx hb dX6_judge_40 (by decide +kernel) ?_
      refine g_aget (D := G.1) (ci := 6) (v := .int (nI jg)) (C := RX6) (T := TX6) (N := 42) hx hb dX6_judge_41 rfl (lv_at hl 0 rfl) hts hiX6 hown hK hP 0 rfl rfl 4 (by decide +kernel) kf95 (fun _ h9 => h9) rfl dX6_judge_42 ?_
      refine lv_imul hx hb dX6_judge_45 ?_
      refine g_topi (y := nI (3 * jg)) (pk_mul 3 jg) ?_
      refine lv_iconst (v := 1) hx hb dX6_judge_46 (by decide +kernel) ?_
      refine lv_iadd hx hb dX6_judge_47 ?_
      refine g_topi (y := nI ((3 * jg) + 1)) (nI_add (3 * jg) 1) ?_
      refine lv_iconst (v := 0) hx hb dX6_judge_48 (by decide +kernel) ?_
      refine g_iast (D := G.1) hx hb hK hP hD hS 1 0 rfl rfl (k := (3 * jg) + 1) (x := 0) (by omega) rfl dX6_judge_49 (fun H locs hP hD hS => ?_)
      have hz9 : gPD G A [zo6 h0 (nI pb) kd mo st (nI jg) ro tp (nI td) cd sr (nI tx) (nI ru) him ir ih ss sq ce lw s19 s20 s21 s22 wo he s25 s26 s27 sk na kp s31 s32 s33 s34 gb go fa ga s39 s40 vo, zi G ro 12 (upd (upd fro (3 * jg) (nI (nC v0))) ((3 * jg) + 1) 0)] H := ⟨hP, hD⟩
      have hP := hz9.1
      have hD := hz9.2
      refine g_aget (D := G.1) (ci := 6) (v := .ref ro) (C := RX6) (T := TX6) (N := 42) hx hb dX6_judge_50 rfl (lv_at hl 0 rfl) hts hiX6 hown hK hP 0 rfl rfl 5 (by decide +kernel) kf19 (fun _ h9 => h9) rfl dX6_judge_51 ?_
      refine lv_iconst (v := 3) hx hb dX6_judge_54 (by decide +kernel) ?_
      refine g_aget (D := G.1) (ci := 6) (v := .int (nI jg)) (C := RX6) (T := TX6) (N := 42) hx hb dX6_judge_55 rfl (lv_at hl 0 rfl) hts hiX6 hown hK hP 0 rfl rfl 4 (by decide +kernel) kf95 (fun _ h9 => h9) rfl dX6_judge_56 ?_
      refine lv_imul hx hb dX6_judge_59 ?_
      refine g_topi (y := nI (3 * jg)) (pk_mul 3 jg) ?_
      refine lv_iconst (v := 2) hx hb dX6_judge_60 (by decide +kernel) ?_
      refine lv_iadd hx hb dX6_judge_61 ?_
      refine g_topi (y := nI ((3 * jg) + 2)) (nI_add (3 * jg) 2) ?_
      refine lv_iconst (v := 0) hx hb dX6_judge_62 (by decide +kernel) ?_
      refine g_iast (D := G.1) hx hb hK hP hD hS 1 0 rfl rfl (k := (3 * jg) + 2) (x := 0) (by omega) rfl dX6_judge_63 (fun H locs hP hD hS => ?_)
      have hz9 : gPD G A [zo6 h0 (nI pb) kd mo st (nI jg) ro tp (nI td) cd sr (nI tx) (nI ru) him ir ih ss sq ce lw s19 s20 s21 s22 wo he s25 s26 s27 sk na kp s31 s32 s33 s34 gb go fa ga s39 s40 vo, zi G ro 12 (upd (upd (upd fro (3 * jg) (nI (nC v0))) ((3 * jg) + 1) 0) ((3 * jg) + 2) 0)] H := ⟨hP, hD⟩
      have hP := hz9.1
      have hD := hz9.2
      refine lv_aload_n hx hb dX6_judge_64 rfl (lv_at hl 0 rfl) ?_
      refine lv_dup hx hb dX6_judge_65 rfl ?_
      refine va_get (D := G.1) (ci := 6) (v := .int (nI jg)) (C := RX6) (T := TX6) (N := 42) hx hb hts hiX6 hown hK hP 0 rfl rfl 4 (by decide +kernel) kf95 (fun _ h9 => h9) rfl dX6_judge_66 ?_
      refine lv_iconst (v := 1) hx hb dX6_judge_69 (by decide +kernel) ?_
      refine lv_iadd hx hb dX6_judge_70 ?_
      refine g_topi (y := nI (jg + 1)) (nI_add jg 1) ?_
      refine va_put (D := G.1) (ci := 6) (v := .int (nI (jg + 1))) (ty := .int) (C := RX6) (T := TX6) (N := 42) hx hb hts hiX6 tyX6 tyX6_ok nmX6 hown hK hP hD hS 0 rfl rfl 4 (by decide +kernel) kf95 (fun _ h9 => h9) rfl (by decide +kernel) rfl rfl (Nat.le_of_ble_eq_true rfl) dX6_judge_71 (fun H locs hP hD hS => ?_)
      have hz9 : gPD G A [zo6 h0 (nI pb) kd mo st (nI (jg + 1)) ro tp (nI td) cd sr (nI tx) (nI ru) him ir ih ss sq ce lw s19 s20 s21 s22 wo he s25 s26 s27 sk na kp s31 s32 s33 s34 gb go fa ga s39 s40 vo, zi G ro 12 (upd (upd (upd fro (3 * jg) (nI (nC v0))) ((3 * jg) + 1) 0) ((3 * jg) + 2) 0)] H := ⟨hP, hD⟩
      have hP := hz9.1
      have hD := hz9.2
      refine g_aget (D := G.1) (ci := 6) (v := .int (nI (jg + 1))) (C := RX6) (T := TX6) (N := 42) hx hb dX6_judge_74 rfl (lv_at hl 0 rfl) hts hiX6 hown hK hP 0 rfl rfl 4 (by decide +kernel) kf95 (fun _ h9 => h9) rfl dX6_judge_75 ?_
      refine lv_iconst (v := 1) hx hb dX6_judge_78 (by decide +kernel) ?_
      refine lv_isub hx hb dX6_judge_79 ?_
      refine g_topi (y := nI ((jg + 1) - 1)) (pk_sub (a := (jg + 1)) (b := 1) (by omega)) ?_
      have q_17 : m_X6_judge_h04 jg v0 = jg + 1 := by unfold m_X6_judge_h04; rw [if_pos p_4, if_neg c_8]
      have q_18 : m_X6_judge_ro jg fro v0 = upd (upd (upd fro (3 * jg) (nI (nC v0))) ((3 * jg) + 1) 0) ((3 * jg) + 2) 0 := by unfold m_X6_judge_ro; rw [if_pos p_4, if_neg c_8]
      have hz9 : gPD G A [zo6 h0 (nI pb) kd mo st (nI (m_X6_judge_h04 jg v0)) ro tp (nI td) cd sr (nI tx) (nI ru) him ir ih ss sq ce lw s19 s20 s21 s22 wo he s25 s26 s27 sk na kp s31 s32 s33 s34 gb go fa ga s39 s40 vo, zi G ro 12 (m_X6_judge_ro jg fro v0)] H := ⟨by rw [q_17, q_18]; exact hP, by rw [q_17, q_18]; exact hD⟩
      have hP9 := hz9.1
      have hD9 := hz9.2
      have hpost : (fun (r : Int32) (u : Unit) => match u with | _ => r = m_X6_judge jg v0) (nI ((jg + 1) - 1)) () := (show m_X6_judge jg v0 = (nI ((jg + 1) - 1)) from by unfold m_X6_judge; rw [if_pos p_4, if_neg c_8]).symm
      exact W.iret (v := (nI ((jg + 1) - 1))) hx hb hr (fun t ht hW => ⟨⟨(nI ((jg + 1) - 1)), (), rfl, hpost, by rw [ht]; exact hP9, va_K.moved hW.alike hK, hD9⟩, hS.F ht⟩) hS.2.2 dX6_judge_80
    · skip
      have c_8N : jg = 4 := nI_eq1 (a := jg) (b := 4) (by omega) (by omega) c_8
      refine lv_bipush (v := -4) hx hb dX6_judge_21 (by decide +kernel) ?_
      have q_19 : m_X6_judge_h04 jg v0 = jg := by unfold m_X6_judge_h04; rw [if_pos p_4, if_pos c_8]
      have q_20 : m_X6_judge_ro jg fro v0 = fro := by unfold m_X6_judge_ro; rw [if_pos p_4, if_pos c_8]
      have hz9 : gPD G A [zo6 h0 (nI pb) kd mo st (nI (m_X6_judge_h04 jg v0)) ro tp (nI td) cd sr (nI tx) (nI ru) him ir ih ss sq ce lw s19 s20 s21 s22 wo he s25 s26 s27 sk na kp s31 s32 s33 s34 gb go fa ga s39 s40 vo, zi G ro 12 (m_X6_judge_ro jg fro v0)] H := ⟨by rw [q_19, q_20]; exact hP, by rw [q_19, q_20]; exact hD⟩
      have hP9 := hz9.1
      have hD9 := hz9.2
      have hpost : (fun (r : Int32) (u : Unit) => match u with | _ => r = m_X6_judge jg v0) (-4) () := (show m_X6_judge jg v0 = (-4) from by unfold m_X6_judge; rw [if_pos p_4, if_pos c_8]).symm
      exact W.iret (v := (-4)) hx hb hr (fun t ht hW => ⟨⟨(-4), (), rfl, hpost, by rw [ht]; exact hP9, va_K.moved hW.alike hK, hD9⟩, hS.F ht⟩) hS.2.2 dX6_judge_23
  · skip
    have n_5 : ¬ (0 ≤ v0 ∧ v0 ≤ 20) := of_decide_eq_false (bz_eq rfl c_3)
    refine lv_bipush (v := -2) hx hb dX6_judge_10 (by decide +kernel) ?_
    have q_21 : m_X6_judge_h04 jg v0 = jg := by unfold m_X6_judge_h04; rw [if_neg n_5]
    have q_22 : m_X6_judge_ro jg fro v0 = fro := by unfold m_X6_judge_ro; rw [if_neg n_5]
    have hz9 : gPD G A [zo6 h0 (nI pb) kd mo st (nI (m_X6_judge_h04 jg v0)) ro tp (nI td) cd sr (nI tx) (nI ru) him ir ih ss sq ce lw s19 s20 s21 s22 wo he s25 s26 s27 sk na kp s31 s32 s33 s34 gb go fa ga s39 s40 vo, zi G ro 12 (m_X6_judge_ro jg fro v0)] H := ⟨by rw [q_21, q_22]; exact hP, by rw [q_21, q_22]; exact hD⟩
    have hP9 := hz9.1
    have hD9 := hz9.2
    have hpost : (fun (r : Int32) (u : Unit) => match u with | _ => r = m_X6_judge jg v0) (-2) () := (show m_X6_judge jg v0 = (-2) from by unfold m_X6_judge; rw [if_neg n_5]).symm
    exact W.iret (v := (-2)) hx hb hr (fun t ht hW => ⟨⟨(-2), (), rfl, hpost, by rw [ht]; exact hP9, va_K.moved hW.alike hK, hD9⟩, hS.F ht⟩) hS.2.2 dX6_judge_12
noncomputable def m_X6_shoe (jg : Nat) (fro : Nat → Int32) (v0 : Int32) (v1 : Int32) (v2 : Int32) : Int32 := if (mHas jg v0) = true then (if 0 ≤ v1 ∧ v1 ≤ 1 then (if (nI (nC v1)) = 0 then (if 0 ≤ v2 ∧ v2 ≤ 20 then fro ((3 * (nC v0)) + (nC v1)) else -7) else (if 0 ≤ v2 ∧ v2 ≤ 999 then fro ((3 * (nC v0)) + (nC v1)) else -7)) else -7) else -5
noncomputable def m_X6_shoe_ro (jg : Nat) (fro : Nat → Int32) (v0 : Int32) (v1 : Int32) (v2 : Int32) : Nat → Int32 := if (mHas jg v0) = true then (if 0 ≤ v1 ∧ v1 ≤ 1 then (if (nI (nC v1)) = 0 then (if 0 ≤ v2 ∧ v2 ≤ 20 then upd fro ((3 * (nC v0)) + (nC v1)) (nI (nC v2)) else fro) else (if 0 ≤ v2 ∧ v2 ≤ 999 then upd fro ((3 * (nC v0)) + (nC v1)) (nI (nC v2)) else fro)) else fro) else fro
abbrev q_X6_shoe (G : gG) (h0 kd mo st ro tp cd sr ir ih ss sq ce lw wo he sk na kp gb go fa ga vo : Nat) (pb : Nat) (jg : Nat) (td : Nat) (tx : Nat) (ru : Nat) (him : Int32) (s19 : Int32) (s20 : Int32) (s21 : Int32) (s22 : Int32) (s25 : Int32) (s26 : Int32) (s27 : Int32) (s31 : Int32) (s32 : Int32) (s33 : Int32) (s34 : Int32) (s39 : Int32) (s40 : Int32) (fro : Nat → Int32) (v0 : Int32) (v1 : Int32) (v2 : Int32) (A : Nat → Prop) : Array Value → State → Outcome → State → Prop := va_Qi (fun (r : Int32) (u : Unit) => match u with | _ => r = m_X6_shoe jg fro v0 v1 v2) (fun (u : Unit) t => match u with | _ => va_P G.1 vwCl [zo6 h0 (nI pb) kd mo st (nI jg) ro tp (nI td) cd sr (nI tx) (nI ru) him ir ih ss sq ce lw s19 s20 s21 s22 wo he s25 s26 s27 sk na kp s31 s32 s33 s34 gb go fa ga s39 s40 vo, zi G ro 12 (m_X6_shoe_ro jg fro v0 v1 v2)] t.heap ∧ gK G t ∧ va_D A [zo6 h0 (nI pb) kd mo st (nI jg) ro tp (nI td) cd sr (nI tx) (nI ru) him ir ih ss sq ce lw s19 s20 s21 s22 wo he s25 s26 s27 sk na kp s31 s32 s33 s34 gb go fa ga s39 s40 vo, zi G ro 12 (m_X6_shoe_ro jg fro v0 v1 v2)]) A
set_option maxHeartbeats 4000000 in
set_option maxRecDepth 100000 in
theorem c_X6_shoe (l : Launch) (G : gG) (h0 kd mo st ro tp cd sr ir ih ss sq ce lw wo he sk na kp gb go fa ga vo : Nat) (pb : Nat) (jg : Nat) (td : Nat) (tx : Nat) (ru : Nat) (him : Int32) (s19 : Int32) (s20 : Int32) (s21 : Int32) (s22 : Int32) (s25 : Int32) (s26 : Int32) (s27 : Int32) (s31 : Int32) (s32 : Int32) (s33 : Int32) (s34 : Int32) (s39 : Int32) (s40 : Int32) (fro : Nat → Int32) (v0 : Int32) (v1 : Int32) (v2 : Int32) (sz : Nat) (hpb : pb ≤ 6) (hjg : jg ≤ 4) (htx : tx ≤ 6) (hru : ru < tx) : Met l yX6_shoe wsX6_shoe ({ frames := 2, cells := 0, slots := 0, locals := 43 }) (gPre G [.ref h0, .int v0, .int v1, .int v2] [zo6 h0 (nI pb) kd mo st (nI jg) ro tp (nI td) cd sr (nI tx) (nI ru) him ir ih ss sq ce lw s19 s20 s21 s22 wo he s25 s26 s27 sk na kp s31 s32 s33 s34 gb go fa ga s39 s40 vo, zi G ro 12 fro] sz) (q_X6_shoe G h0 kd mo st ro tp cd sr ir ih ss sq ce lw wo he sk na kp gb go fa ga vo pb jg td tx ru him s19 s20 s21 s22 s25 s26 s27 s31 s32 s33 s34 s39 s40 fro v0 v1 v2 (va_A [zo6 h0 (nI pb) kd mo st (nI jg) ro tp (nI td) cd sr (nI tx) (nI ru) him ir ih ss sq ce lw s19 s20 s21 s22 wo he s25 s26 s27 sk na kp s31 s32 s33 s34 gb go fa ga s39 s40 vo, zi G ro 12 fro] sz)) 0 0 (va_A [zo6 h0 (nI pb) kd mo st (nI jg) ro tp (nI td) cd sr (nI tx) (nI ru) him ir ih ss sq ce lw s19 s20 s21 s22 wo he s25 s26 s27 sk na kp s31 s32 s33 s34 gb go fa ga s39 s40 vo, zi G ro 12 fro] sz) := by
  refine Met.ofW (cc := cX6_shoe) (maxL := 5) (ret := (some .int)) (by decide +kernel) rfl ?_
  intro p e s m args below meth c s₁ B hml hv
  obtain ⟨rfl, hsz, hP, hK, hD0⟩ := hv
  have hx := B.exec
  have hb := B.bytes
  have hr := B.returns
  have hts := atoms_spec (ws := wsX6_shoe) B.pre
  have hown : s.vm.findClass RX6 = some m.cls := findClass_of_methodNamed B.named
  have hlocks := B.notSynchronized
  subst hsz
  have hD := hD0.self (sz := s.heap.size)
  generalize hAe : va_A [zo6 h0 (nI pb) kd mo st (nI jg) ro tp (nI td) cd sr (nI tx) (nI ru) him ir ih ss sq ce lw s19 s20 s21 s22 wo he s25 s26 s27 sk na kp s31 s32 s33 s34 gb go fa ga s39 s40 vo, zi G ro 12 fro] s.heap.size = A at hD ⊢
  have hA : ∀ q : Nat, s.heap.size ≤ q → A q := fun q h => by rw [← hAe]; exact Or.inr h
  have hS : va_S A s.heap s.heap [] := va_S.rf
  have hz9 : gPD G A [zo6 h0 (nI pb) kd mo st (nI jg) ro tp (nI td) cd sr (nI tx) (nI ru) him ir ih ss sq ce lw s19 s20 s21 s22 wo he s25 s26 s27 sk na kp s31 s32 s33 s34 gb go fa ga s39 s40 vo, zi G ro 12 fro] s.heap := ⟨hP, hD⟩
  have hP := hz9.1
  have hD := hz9.2
  have hl := lv_entry ([.ref h0, .int v0, .int v1, .int v2]) (n := 5) (Nat.le_of_ble_eq_true rfl)
  rw [lg_entry_eq]
  generalize (lg_sl ([.ref h0, .int v0, .int v1, .int v2]) ++ List.replicate (5 - (lg_sl ([.ref h0, .int v0, .int v1, .int v2])).length) Slot.unset).toArray = ls at hl ⊢
  have hl : lv_has ls 5 [zR 0 h0, zI 1 v0, zI 2 v1, zI 3 v2] := hl
  have kf19 := hts (.fieldLink RX6 19 "PebbleInShoeModel" "rows" "[I") (by decide +kernel)
  have hiX6 := (by decide +kernel : ∀ w ∈ wsX60, w ∈ wsX6_shoe)
  refine lv_aload_n hx hb dX6_shoe_0 rfl (lv_at hl 0 rfl) ?_
  refine lv_iload_n hx hb dX6_shoe_1 rfl (lv_at hl 1 rfl) ?_
  refine z_calli [0] (v := bz (mHas jg v0)) (fun _ _ h => h) (va_runV (As := [.int v0]) (rest := []) ⟨hx, hb, hml, hown, hts⟩ (c_X6_isJudge l G h0 kd mo st ro tp cd sr ir ih ss sq ce lw wo he sk na kp gb go fa ga vo pb jg td tx ru him s19 s20 s21 s22 s25 s26 s27 s31 s32 s33 s34 s39 s40 v0 s.heap.size (by first | exact hpb | assumption | omega) (by first | exact hjg | assumption | omega) (by first | exact htx | assumption | omega) (by first | exact hru | assumption | omega)) (cwV 1 hts gX6_shoe_X6_isJudge rfl rfl rfl (by decide +kernel) ⟨Nat.le_of_ble_eq_true rfl, Nat.le_of_ble_eq_true rfl⟩) ⟨gPre_blind, va_recv (q := (RX6, TX6, 42)) hK hP (ci := 6) (q0 := 0) rfl rfl, fun U hU hW => gPre_ofF [0] hU hW hK hP hD (by decide +kernel) rfl⟩ rfl rfl hl.1 rfl (lv_room (Nat.le_of_ble_eq_true rfl)) dX6_shoe_2 ⟨Nat.le_of_ble_eq_true rfl, Nat.le_of_ble_eq_true rfl⟩) hS hD hA rfl (fun u t H locs ht hvm hB hz1 hk1 hFq hAq hS => ?_)
  obtain ⟨hP1, hK1, hD1⟩ := hB
  have hP := zKeep hP hD [0] hAq hk1 ht hP1 rfl
  refine lv_if_ne (tgt := 11) hx hb dX6_shoe_5 (by decide +kernel) (fun c_3 => ?_) (fun c_3 => ?_)
  · skip
    have p_4 : (mHas jg v0) = true := bz_ne rfl c_3
    have hv_6 : v0 = nI (nC v0) := mHas_eq p_4
    have hk_7 : nC v0 < jg := mHas_lt (by omega) p_4
    refine lv_iload_n hx hb dX6_shoe_11 rfl (lv_at hl 2 rfl) ?_
    refine lv_iconst (v := 0) hx hb dX6_shoe_12 (by decide +kernel) ?_
    refine lv_iconst (v := 1) hx hb dX6_shoe_13 (by decide +kernel) ?_
    refine z_calli [] (v := bz (decide (0 ≤ v1 ∧ v1 ≤ 1))) (fun _ _ h => h) (va_runS (As := [.int v1, .int 0, .int 1]) (rest := []) ⟨hx, hb, hml, hown, hts⟩ (c_X6_in l G v1 0 1 H.size) (va_cwS 3 hts gX6_shoe_X6_in rfl rfl rfl (by decide +kernel) ⟨Nat.le_of_ble_eq_true rfl, Nat.le_of_ble_eq_true rfl⟩) ⟨gPre_blind, fun U hU hW => gPre_ofF [] hU hW hK hP hD (by decide +kernel) rfl⟩ rfl rfl hl.1 rfl (lv_room (Nat.le_of_ble_eq_true rfl)) dX6_shoe_14 ⟨Nat.le_of_ble_eq_true rfl, Nat.le_of_ble_eq_true rfl⟩) hS hD hA rfl (fun u t H locs ht hvm hB hz1 hk1 hFq hAq hS => ?_)
    obtain ⟨hP1, hK1, hD1⟩ := hB
    have hP := zKeep hP hD [] hAq hk1 ht hP1 rfl
    refine lv_if_eq (tgt := 40) hx hb dX6_shoe_17 (by decide +kernel) (fun c_10 => ?_) (fun c_10 => ?_)
    · skip
      have n_12 : ¬ (0 ≤ v1 ∧ v1 ≤ 1) := of_decide_eq_false (bz_eq rfl c_10)
      refine lv_bipush (v := -7) hx hb dX6_shoe_40 (by decide +kernel) ?_
      have q_15 : m_X6_shoe_ro jg fro v0 v1 v2 = fro := by unfold m_X6_shoe_ro; rw [if_pos p_4, if_neg n_12]
      have hz9 : gPD G A [zo6 h0 (nI pb) kd mo st (nI jg) ro tp (nI td) cd sr (nI tx) (nI ru) him ir ih ss sq ce lw s19 s20 s21 s22 wo he s25 s26 s27 sk na kp s31 s32 s33 s34 gb go fa ga s39 s40 vo, zi G ro 12 (m_X6_shoe_ro jg fro v0 v1 v2)] H := ⟨by rw [q_15]; exact hP, by rw [q_15]; exact hD⟩
      have hP9 := hz9.1
      have hD9 := hz9.2
      have hpost : (fun (r : Int32) (u : Unit) => match u with | _ => r = m_X6_shoe jg fro v0 v1 v2) (-7) () := (show m_X6_shoe jg fro v0 v1 v2 = (-7) from by unfold m_X6_shoe; rw [if_pos p_4, if_neg n_12]).symm
      exact W.iret (v := (-7)) hx hb hr (fun t ht hW => ⟨⟨(-7), (), rfl, hpost, by rw [ht]; exact hP9, va_K.moved hW.alike hK, hD9⟩, hS.F ht⟩) hS.2.2 dX6_shoe_42
    · skip
      have p_11 : 0 ≤ v1 ∧ v1 ≤ 1 := of_decide_eq_true (bz_ne rfl c_10)
      have hv_13 : v1 = nI (nC v1) := nC_eq p_11.1
      have hk_14 : nC v1 ≤ 1 := nC_le (n := 1) (by omega) p_11
      refine lv_iload_n hx hb dX6_shoe_20 rfl (lv_at hl 3 rfl) ?_
      refine lv_iconst (v := 0) hx hb dX6_shoe_21 (by decide +kernel) ?_
      refine lv_iload_n hx hb dX6_shoe_22 rfl (lv_at hl 2 rfl) ?_
      refine g_topi (y := nI (nC v1)) hv_13 ?_
      refine lv_if_ne (tgt := 31) hx hb dX6_shoe_23 (by decide +kernel) (fun c_17 => ?_) (fun c_17 => ?_)
      · skip
        have c_17N : ¬ (nC v1) = 0 := nI_eq0 (a := (nC v1)) (b := 0) (by omega) (by omega) c_17
        refine lv_sipush (v := 999) hx hb dX6_shoe_31 (by decide +kernel) ?_
        refine z_calli [] (v := bz (decide (0 ≤ v2 ∧ v2 ≤ 999))) (fun _ _ h => h) (va_runS (As := [.int v2, .int 0, .int 999]) (rest := []) ⟨hx, hb, hml, hown, hts⟩ (c_X6_in l G v2 0 999 H.size) (va_cwS 3 hts gX6_shoe_X6_in rfl rfl rfl (by decide +kernel) ⟨Nat.le_of_ble_eq_true rfl, Nat.le_of_ble_eq_true rfl⟩) ⟨gPre_blind, fun U hU hW => gPre_ofF [] hU hW hK hP hD (by decide +kernel) rfl⟩ rfl rfl hl.1 rfl (lv_room (Nat.le_of_ble_eq_true rfl)) dX6_shoe_34 ⟨Nat.le_of_ble_eq_true rfl, Nat.le_of_ble_eq_true rfl⟩) hS hD hA rfl (fun u t H locs ht hvm hB hz1 hk1 hFq hAq hS => ?_)
        obtain ⟨hP1, hK1, hD1⟩ := hB
        have hP := zKeep hP hD [] hAq hk1 ht hP1 rfl
        refine lv_if_ne (tgt := 43) hx hb dX6_shoe_37 (by decide +kernel) (fun c_20 => ?_) (fun c_20 => ?_)
        · skip
          have p_21 : 0 ≤ v2 ∧ v2 ≤ 999 := of_decide_eq_true (bz_ne rfl c_20)
          have hv_23 : v2 = nI (nC v2) := nC_eq p_21.1
          have hk_24 : nC v2 ≤ 999 := nC_le (n := 999) (by omega) p_21
          refine g_aget (D := G.1) (ci := 6) (v := .ref ro) (C := RX6) (T := TX6) (N := 42) hx hb dX6_shoe_43 rfl (lv_at hl 0 rfl) hts hiX6 hown hK hP 0 rfl rfl 5 (by decide +kernel) kf19 (fun _ h9 => h9) rfl dX6_shoe_44 ?_
          refine lv_iconst (v := 3) hx hb dX6_shoe_47 (by decide +kernel) ?_
          refine lv_iload_n hx hb dX6_shoe_48 rfl (lv_at hl 1 rfl) ?_
          refine g_topi (y := nI (nC v0)) hv_6 ?_
          refine lv_imul hx hb dX6_shoe_49 ?_
          refine g_topi (y := nI (3 * (nC v0))) (pk_mul 3 (nC v0)) ?_
          refine lv_iload_n hx hb dX6_shoe_50 rfl (lv_at hl 2 rfl) ?_
          refine g_topi (y := nI (nC v1)) hv_13 ?_
          refine lv_iadd hx hb dX6_shoe_51 ?_
          refine g_topi (y := nI ((3 * (nC v0)) + (nC v1))) (nI_add (3 * (nC v0)) (nC v1)) ?_
          refine g_iald (D := G.1) hx hb hK hP 1 0 rfl rfl (k := (3 * (nC v0)) + (nC v1)) (y := fro ((3 * (nC v0)) + (nC v1))) (by omega) rfl rfl dX6_shoe_52 ?_
          refine lv_istore (lv' := [zI 4 (fro ((3 * (nC v0)) + (nC v1))), zR 0 h0, zI 1 v0, zI 2 v1, zI 3 v2]) hx hb dX6_shoe_53 hl (by decide +kernel) rfl (fun ls hl => ?_)
          refine g_aget (D := G.1) (ci := 6) (v := .ref ro) (C := RX6) (T := TX6) (N := 42) hx hb dX6_shoe_55 rfl (lv_at hl 1 rfl) hts hiX6 hown hK hP 0 rfl rfl 5 (by decide +kernel) kf19 (fun _ h9 => h9) rfl dX6_shoe_56 ?_
          refine lv_iconst (v := 3) hx hb dX6_shoe_59 (by decide +kernel) ?_
          refine lv_iload_n hx hb dX6_shoe_60 rfl (lv_at hl 2 rfl) ?_
          refine g_topi (y := nI (nC v0)) hv_6 ?_
          refine lv_imul hx hb dX6_shoe_61 ?_
          refine g_topi (y := nI (3 * (nC v0))) (pk_mul 3 (nC v0)) ?_
          refine lv_iload_n hx hb dX6_shoe_62 rfl (lv_at hl 3 rfl) ?_
          refine g_topi (y := nI (nC v1)) hv_13 ?_
          refine lv_iadd hx hb dX6_shoe_63 ?_
          refine g_topi (y := nI ((3 * (nC v0)) + (nC v1))) (nI_add (3 * (nC v0)) (nC v1)) ?_
          refine lv_iload_n hx hb dX6_shoe_64 rfl (lv_at hl 4 rfl) ?_
          refine g_topi (y := nI (nC v2)) hv_23 ?_
          refine g_iast (D := G.1) hx hb hK hP hD hS 1 0 rfl rfl (k := (3 * (nC v0)) + (nC v1)) (x := (nI (nC v2))) (by omega) rfl dX6_shoe_65 (fun H locs hP hD hS => ?_)
          have hz9 : gPD G A [zo6 h0 (nI pb) kd mo st (nI jg) ro tp (nI td) cd sr (nI tx) (nI ru) him ir ih ss sq ce lw s19 s20 s21 s22 wo he s25 s26 s27 sk na kp s31 s32 s33 s34 gb go fa ga s39 s40 vo, zi G ro 12 (upd fro ((3 * (nC v0)) + (nC v1)) (nI (nC v2)))] H := ⟨hP, hD⟩
          have hP := hz9.1
          have hD := hz9.2
          refine lv_iload hx hb dX6_shoe_66 (lv_at hl 0 rfl) ?_
          have q_35 : m_X6_shoe_ro jg fro v0 v1 v2 = upd fro ((3 * (nC v0)) + (nC v1)) (nI (nC v2)) := by unfold m_X6_shoe_ro; rw [if_pos p_4, if_pos p_11, if_neg c_17, if_pos p_21]
          have hz9 : gPD G A [zo6 h0 (nI pb) kd mo st (nI jg) ro tp (nI td) cd sr (nI tx) (nI ru) him ir ih ss sq ce lw s19 s20 s21 s22 wo he s25 s26 s27 sk na kp s31 s32 s33 s34 gb go fa ga s39 s40 vo, zi G ro 12 (m_X6_shoe_ro jg fro v0 v1 v2)] H := ⟨by rw [q_35]; exact hP, by rw [q_35]; exact hD⟩
          have hP9 := hz9.1
          have hD9 := hz9.2
          have hpost : (fun (r : Int32) (u : Unit) => match u with | _ => r = m_X6_shoe jg fro v0 v1 v2) (fro ((3 * (nC v0)) + (nC v1))) () := (show m_X6_shoe jg fro v0 v1 v2 = (fro ((3 * (nC v0)) + (nC v1))) from by unfold m_X6_shoe; rw [if_pos p_4, if_pos p_11, if_neg c_17, if_pos p_21]).symm
          exact W.iret (v := (fro ((3 * (nC v0)) + (nC v1)))) hx hb hr (fun t ht hW => ⟨⟨(fro ((3 * (nC v0)) + (nC v1))), (), rfl, hpost, by rw [ht]; exact hP9, va_K.moved hW.alike hK, hD9⟩, hS.F ht⟩) hS.2.2 dX6_shoe_68
        · skip
          have n_22 : ¬ (0 ≤ v2 ∧ v2 ≤ 999) := of_decide_eq_false (bz_eq rfl c_20)
          refine lv_bipush (v := -7) hx hb dX6_shoe_40 (by decide +kernel) ?_
          have q_36 : m_X6_shoe_ro jg fro v0 v1 v2 = fro := by unfold m_X6_shoe_ro; rw [if_pos p_4, if_pos p_11, if_neg c_17, if_neg n_22]
          have hz9 : gPD G A [zo6 h0 (nI pb) kd mo st (nI jg) ro tp (nI td) cd sr (nI tx) (nI ru) him ir ih ss sq ce lw s19 s20 s21 s22 wo he s25 s26 s27 sk na kp s31 s32 s33 s34 gb go fa ga s39 s40 vo, zi G ro 12 (m_X6_shoe_ro jg fro v0 v1 v2)] H := ⟨by rw [q_36]; exact hP, by rw [q_36]; exact hD⟩
          have hP9 := hz9.1
          have hD9 := hz9.2
          have hpost : (fun (r : Int32) (u : Unit) => match u with | _ => r = m_X6_shoe jg fro v0 v1 v2) (-7) () := (show m_X6_shoe jg fro v0 v1 v2 = (-7) from by unfold m_X6_shoe; rw [if_pos p_4, if_pos p_11, if_neg c_17, if_neg n_22]).symm
          exact W.iret (v := (-7)) hx hb hr (fun t ht hW => ⟨⟨(-7), (), rfl, hpost, by rw [ht]; exact hP9, va_K.moved hW.alike hK, hD9⟩, hS.F ht⟩) hS.2.2 dX6_shoe_42
      · skip
        have c_17N : (nC v1) = 0 := nI_eq1 (a := (nC v1)) (b := 0) (by omega) (by omega) c_17
        refine lv_bipush (v := 20) hx hb dX6_shoe_26 (by decide +kernel) ?_
        refine lv_goto (tgt := 34) hx hb dX6_shoe_28 (by decide +kernel) ?_
        refine z_calli [] (v := bz (decide (0 ≤ v2 ∧ v2 ≤ 20))) (fun _ _ h => h) (va_runS (As := [.int v2, .int 0, .int 20]) (rest := []) ⟨hx, hb, hml, hown, hts⟩ (c_X6_in l G v2 0 20 H.size) (va_cwS 3 hts gX6_shoe_X6_in rfl rfl rfl (by decide +kernel) ⟨Nat.le_of_ble_eq_true rfl, Nat.le_of_ble_eq_true rfl⟩) ⟨gPre_blind, fun U hU hW => gPre_ofF [] hU hW hK hP hD (by decide +kernel) rfl⟩ rfl rfl hl.1 rfl (lv_room (Nat.le_of_ble_eq_true rfl)) dX6_shoe_34 ⟨Nat.le_of_ble_eq_true rfl, Nat.le_of_ble_eq_true rfl⟩) hS hD hA rfl (fun u t H locs ht hvm hB hz1 hk1 hFq hAq hS => ?_)
        obtain ⟨hP1, hK1, hD1⟩ := hB
        have hP := zKeep hP hD [] hAq hk1 ht hP1 rfl
        refine lv_if_ne (tgt := 43) hx hb dX6_shoe_37 (by decide +kernel) (fun c_39 => ?_) (fun c_39 => ?_)
        · skip
          have p_40 : 0 ≤ v2 ∧ v2 ≤ 20 := of_decide_eq_true (bz_ne rfl c_39)
          have hv_42 : v2 = nI (nC v2) := nC_eq p_40.1
          have hk_43 : nC v2 ≤ 20 := nC_le (n := 20) (by omega) p_40
          refine g_aget (D := G.1) (ci := 6) (v := .ref ro) (C := RX6) (T := TX6) (N := 42) hx hb dX6_shoe_43 rfl (lv_at hl 0 rfl) hts hiX6 hown hK hP 0 rfl rfl 5 (by decide +kernel) kf19 (fun _ h9 => h9) rfl dX6_shoe_44 ?_
          refine lv_iconst (v := 3) hx hb dX6_shoe_47 (by decide +kernel) ?_
          refine lv_iload_n hx hb dX6_shoe_48 rfl (lv_at hl 1 rfl) ?_
          refine g_topi (y := nI (nC v0)) hv_6 ?_
          refine lv_imul hx hb dX6_shoe_49 ?_
          refine g_topi (y := nI (3 * (nC v0))) (pk_mul 3 (nC v0)) ?_
          refine lv_iload_n hx hb dX6_shoe_50 rfl (lv_at hl 2 rfl) ?_
          refine g_topi (y := nI (nC v1)) hv_13 ?_
          refine lv_iadd hx hb dX6_shoe_51 ?_
          refine g_topi (y := nI ((3 * (nC v0)) + (nC v1))) (nI_add (3 * (nC v0)) (nC v1)) ?_
          refine g_iald (D := G.1) hx hb hK hP 1 0 rfl rfl (k := (3 * (nC v0)) + (nC v1)) (y := fro ((3 * (nC v0)) + (nC v1))) (by omega) rfl rfl dX6_shoe_52 ?_
          refine lv_istore (lv' := [zI 4 (fro ((3 * (nC v0)) + (nC v1))), zR 0 h0, zI 1 v0, zI 2 v1, zI 3 v2]) hx hb dX6_shoe_53 hl (by decide +kernel) rfl (fun ls hl => ?_)
          refine g_aget (D := G.1) (ci := 6) (v := .ref ro) (C := RX6) (T := TX6) (N := 42) hx hb dX6_shoe_55 rfl (lv_at hl 1 rfl) hts hiX6 hown hK hP 0 rfl rfl 5 (by decide +kernel) kf19 (fun _ h9 => h9) rfl dX6_shoe_56 ?_
          refine lv_iconst (v := 3) hx hb dX6_shoe_59 (by decide +kernel) ?_
          refine lv_iload_n hx hb dX6_shoe_60 rfl (lv_at hl 2 rfl) ?_
          refine g_topi (y := nI (nC v0)) hv_6 ?_
          refine lv_imul hx hb dX6_shoe_61 ?_
          refine g_topi (y := nI (3 * (nC v0))) (pk_mul 3 (nC v0)) ?_
          refine lv_iload_n hx hb dX6_shoe_62 rfl (lv_at hl 3 rfl) ?_
          refine g_topi (y := nI (nC v1)) hv_13 ?_
          refine lv_iadd hx hb dX6_shoe_63 ?_
          refine g_topi (y := nI ((3 * (nC v0)) + (nC v1))) (nI_add (3 * (nC v0)) (nC v1)) ?_
          refine lv_iload_n hx hb dX6_shoe_64 rfl (lv_at hl 4 rfl) ?_
          refine g_topi (y := nI (nC v2)) hv_42 ?_
          refine g_iast (D := G.1) hx hb hK hP hD hS 1 0 rfl rfl (k := (3 * (nC v0)) + (nC v1)) (x := (nI (nC v2))) (by omega) rfl dX6_shoe_65 (fun H locs hP hD hS => ?_)
          have hz9 : gPD G A [zo6 h0 (nI pb) kd mo st (nI jg) ro tp (nI td) cd sr (nI tx) (nI ru) him ir ih ss sq ce lw s19 s20 s21 s22 wo he s25 s26 s27 sk na kp s31 s32 s33 s34 gb go fa ga s39 s40 vo, zi G ro 12 (upd fro ((3 * (nC v0)) + (nC v1)) (nI (nC v2)))] H := ⟨hP, hD⟩
          have hP := hz9.1
          have hD := hz9.2
          refine lv_iload hx hb dX6_shoe_66 (lv_at hl 0 rfl) ?_
          have q_54 : m_X6_shoe_ro jg fro v0 v1 v2 = upd fro ((3 * (nC v0)) + (nC v1)) (nI (nC v2)) := by unfold m_X6_shoe_ro; rw [if_pos p_4, if_pos p_11, if_pos c_17, if_pos p_40]
          have hz9 : gPD G A [zo6 h0 (nI pb) kd mo st (nI jg) ro tp (nI td) cd sr (nI tx) (nI ru) him ir ih ss sq ce lw s19 s20 s21 s22 wo he s25 s26 s27 sk na kp s31 s32 s33 s34 gb go fa ga s39 s40 vo, zi G ro 12 (m_X6_shoe_ro jg fro v0 v1 v2)] H := ⟨by rw [q_54]; exact hP, by rw [q_54]; exact hD⟩
          have hP9 := hz9.1
          have hD9 := hz9.2
          have hpost : (fun (r : Int32) (u : Unit) => match u with | _ => r = m_X6_shoe jg fro v0 v1 v2) (fro ((3 * (nC v0)) + (nC v1))) () := (show m_X6_shoe jg fro v0 v1 v2 = (fro ((3 * (nC v0)) + (nC v1))) from by unfold m_X6_shoe; rw [if_pos p_4, if_pos p_11, if_pos c_17, if_pos p_40]).symm
          exact W.iret (v := (fro ((3 * (nC v0)) + (nC v1)))) hx hb hr (fun t ht hW => ⟨⟨(fro ((3 * (nC v0)) + (nC v1))), (), rfl, hpost, by rw [ht]; exact hP9, va_K.moved hW.alike hK, hD9⟩, hS.F ht⟩) hS.2.2 dX6_shoe_68
        · skip
          have n_41 : ¬ (0 ≤ v2 ∧ v2 ≤ 20) := of_decide_eq_false (bz_eq rfl c_39)
          refine lv_bipush (v := -7) hx hb dX6_shoe_40 (by decide +kernel) ?_
          have q_55 : m_X6_shoe_ro jg fro v0 v1 v2 = fro := by unfold m_X6_shoe_ro; rw [if_pos p_4, if_pos p_11, if_pos c_17, if_neg n_41]
          have hz9 : gPD G A [zo6 h0 (nI pb) kd mo st (nI jg) ro tp (nI td) cd sr (nI tx) (nI ru) him ir ih ss sq ce lw s19 s20 s21 s22 wo he s25 s26 s27 sk na kp s31 s32 s33 s34 gb go fa ga s39 s40 vo, zi G ro 12 (m_X6_shoe_ro jg fro v0 v1 v2)] H := ⟨by rw [q_55]; exact hP, by rw [q_55]; exact hD⟩
          have hP9 := hz9.1
          have hD9 := hz9.2
          have hpost : (fun (r : Int32) (u : Unit) => match u with | _ => r = m_X6_shoe jg fro v0 v1 v2) (-7) () := (show m_X6_shoe jg fro v0 v1 v2 = (-7) from by unfold m_X6_shoe; rw [if_pos p_4, if_pos p_11, if_pos c_17, if_neg n_41]).symm
          exact W.iret (v := (-7)) hx hb hr (fun t ht hW => ⟨⟨(-7), (), rfl, hpost, by rw [ht]; exact hP9, va_K.moved hW.alike hK, hD9⟩, hS.F ht⟩) hS.2.2 dX6_shoe_42
  · skip
    have n_5 : (mHas jg v0) = false := bz_eq rfl c_3
    have n_5N : ¬ ((mHas jg v0) = true) := by rw [n_5]; decide
    refine lv_bipush (v := -5) hx hb dX6_shoe_8 (by decide +kernel) ?_
    have q_56 : m_X6_shoe_ro jg fro v0 v1 v2 = fro := by unfold m_X6_shoe_ro; rw [if_neg n_5N]
    have hz9 : gPD G A [zo6 h0 (nI pb) kd mo st (nI jg) ro tp (nI td) cd sr (nI tx) (nI ru) him ir ih ss sq ce lw s19 s20 s21 s22 wo he s25 s26 s27 sk na kp s31 s32 s33 s34 gb go fa ga s39 s40 vo, zi G ro 12 (m_X6_shoe_ro jg fro v0 v1 v2)] H := ⟨by rw [q_56]; exact hP, by rw [q_56]; exact hD⟩
    have hP9 := hz9.1
    have hD9 := hz9.2
    have hpost : (fun (r : Int32) (u : Unit) => match u with | _ => r = m_X6_shoe jg fro v0 v1 v2) (-5) () := (show m_X6_shoe jg fro v0 v1 v2 = (-5) from by unfold m_X6_shoe; rw [if_neg n_5N]).symm
    exact W.iret (v := (-5)) hx hb hr (fun t ht hW => ⟨⟨(-5), (), rfl, hpost, by rw [ht]; exact hP9, va_K.moved hW.alike hK, hD9⟩, hS.F ht⟩) hS.2.2 dX6_shoe_10
noncomputable def m_X6_bench (jg : Nat) (fro : Nat → Int32) (v0 : Int32) (v1 : Int32) : Int32 := if (mHas jg v0) = true then (if 0 ≤ v1 ∧ v1 ≤ 2 then fro ((3 * (nC v0)) + (nC v1)) else -7) else -5
abbrev q_X6_bench (G : gG) (h0 kd mo st ro tp cd sr ir ih ss sq ce lw wo he sk na kp gb go fa ga vo : Nat) (pb : Nat) (jg : Nat) (td : Nat) (tx : Nat) (ru : Nat) (him : Int32) (s19 : Int32) (s20 : Int32) (s21 : Int32) (s22 : Int32) (s25 : Int32) (s26 : Int32) (s27 : Int32) (s31 : Int32) (s32 : Int32) (s33 : Int32) (s34 : Int32) (s39 : Int32) (s40 : Int32) (fro : Nat → Int32) (v0 : Int32) (v1 : Int32) (A : Nat → Prop) : Array Value → State → Outcome → State → Prop := va_Qi (fun (r : Int32) (u : Unit) => match u with | _ => r = m_X6_bench jg fro v0 v1) (fun (u : Unit) t => match u with | _ => va_P G.1 vwCl [zo6 h0 (nI pb) kd mo st (nI jg) ro tp (nI td) cd sr (nI tx) (nI ru) him ir ih ss sq ce lw s19 s20 s21 s22 wo he s25 s26 s27 sk na kp s31 s32 s33 s34 gb go fa ga s39 s40 vo, zi G ro 12 fro] t.heap ∧ gK G t ∧ va_D A [zo6 h0 (nI pb) kd mo st (nI jg) ro tp (nI td) cd sr (nI tx) (nI ru) him ir ih ss sq ce lw s19 s20 s21 s22 wo he s25 s26 s27 sk na kp s31 s32 s33 s34 gb go fa ga s39 s40 vo, zi G ro 12 fro]) A
set_option maxHeartbeats 4000000 in
set_option maxRecDepth 100000 in
theorem c_X6_bench (l : Launch) (G : gG) (h0 kd mo st ro tp cd sr ir ih ss sq ce lw wo he sk na kp gb go fa ga vo : Nat) (pb : Nat) (jg : Nat) (td : Nat) (tx : Nat) (ru : Nat) (him : Int32) (s19 : Int32) (s20 : Int32) (s21 : Int32) (s22 : Int32) (s25 : Int32) (s26 : Int32) (s27 : Int32) (s31 : Int32) (s32 : Int32) (s33 : Int32) (s34 : Int32) (s39 : Int32) (s40 : Int32) (fro : Nat → Int32) (v0 : Int32) (v1 : Int32) (sz : Nat) (hpb : pb ≤ 6) (hjg : jg ≤ 4) (htx : tx ≤ 6) (hru : ru < tx) : Met l yX6_bench wsX6_bench ({ frames := 2, cells := 0, slots := 0, locals := 43 }) (gPre G [.ref h0, .int v0, .int v1] [zo6 h0 (nI pb) kd mo st (nI jg) ro tp (nI td) cd sr (nI tx) (nI ru) him ir ih ss sq ce lw s19 s20 s21 s22 wo he s25 s26 s27 sk na kp s31 s32 s33 s34 gb go fa ga s39 s40 vo, zi G ro 12 fro] sz) (q_X6_bench G h0 kd mo st ro tp cd sr ir ih ss sq ce lw wo he sk na kp gb go fa ga vo pb jg td tx ru him s19 s20 s21 s22 s25 s26 s27 s31 s32 s33 s34 s39 s40 fro v0 v1 (va_A [zo6 h0 (nI pb) kd mo st (nI jg) ro tp (nI td) cd sr (nI tx) (nI ru) him ir ih ss sq ce lw s19 s20 s21 s22 wo he s25 s26 s27 sk na kp s31 s32 s33 s34 gb go fa ga s39 s40 vo, zi G ro 12 fro] sz)) 0 0 (va_A [zo6 h0 (nI pb) kd mo st (nI jg) ro tp (nI td) cd sr (nI tx) (nI ru) him ir ih ss sq ce lw s19 s20 s21 s22 wo he s25 s26 s27 sk na kp s31 s32 s33 s34 gb go fa ga s39 s40 vo, zi G ro 12 fro] sz) := by
  refine Met.ofW (cc := cX6_bench) (maxL := 3) (ret := (some .int)) (by decide +kernel) rfl ?_
  intro p e s m args below meth c s₁ B hml hv
  obtain ⟨rfl, hsz, hP, hK, hD0⟩ := hv
  have hx := B.exec
  have hb := B.bytes
  have hr := B.returns
  have hts := atoms_spec (ws := wsX6_bench) B.pre
  have hown : s.vm.findClass RX6 = some m.cls := findClass_of_methodNamed B.named
  have hlocks := B.notSynchronized
  subst hsz
  have hD := hD0.self (sz := s.heap.size)
  generalize hAe : va_A [zo6 h0 (nI pb) kd mo st (nI jg) ro tp (nI td) cd sr (nI tx) (nI ru) him ir ih ss sq ce lw s19 s20 s21 s22 wo he s25 s26 s27 sk na kp s31 s32 s33 s34 gb go fa ga s39 s40 vo, zi G ro 12 fro] s.heap.size = A at hD ⊢
  have hA : ∀ q : Nat, s.heap.size ≤ q → A q := fun q h => by rw [← hAe]; exact Or.inr h
  have hS : va_S A s.heap s.heap [] := va_S.rf
  have hz9 : gPD G A [zo6 h0 (nI pb) kd mo st (nI jg) ro tp (nI td) cd sr (nI tx) (nI ru) him ir ih ss sq ce lw s19 s20 s21 s22 wo he s25 s26 s27 sk na kp s31 s32 s33 s34 gb go fa ga s39 s40 vo, zi G ro 12 fro] s.heap := ⟨hP, hD⟩
  have hP := hz9.1
  have hD := hz9.2
  have hl := lv_entry ([.ref h0, .int v0, .int v1]) (n := 3) (Nat.le_of_ble_eq_true rfl)
  rw [lg_entry_eq]
  generalize (lg_sl ([.ref h0, .int v0, .int v1]) ++ List.replicate (3 - (lg_sl ([.ref h0, .int v0, .int v1])).length) Slot.unset).toArray = ls at hl ⊢
  have hl : lv_has ls 3 [zR 0 h0, zI 1 v0, zI 2 v1] := hl
  have kf19 := hts (.fieldLink RX6 19 "PebbleInShoeModel" "rows" "[I") (by decide +kernel)
  have hiX6 := (by decide +kernel : ∀ w ∈ wsX60, w ∈ wsX6_bench)
  refine lv_aload_n hx hb dX6_bench_0 rfl (lv_at hl 0 rfl) ?_
  refine lv_iload_n hx hb dX6_bench_1 rfl (lv_at hl 1 rfl) ?_
  refine z_calli [0] (v := bz (mHas jg v0)) (fun _ _ h => h) (va_runV (As := [.int v0]) (rest := []) ⟨hx, hb, hml, hown, hts⟩ (c_X6_isJudge l G h0 kd mo st ro tp cd sr ir ih ss sq ce lw wo he sk na kp gb go fa ga vo pb jg td tx ru him s19 s20 s21 s22 s25 s26 s27 s31 s32 s33 s34 s39 s40 v0 s.heap.size (by first | exact hpb | assumption | omega) (by first | exact hjg | assumption | omega) (by first | exact htx | assumption | omega) (by first | exact hru | assumption | omega)) (cwV 1 hts gX6_bench_X6_isJudge rfl rfl rfl (by decide +kernel) ⟨Nat.le_of_ble_eq_true rfl, Nat.le_of_ble_eq_true rfl⟩) ⟨gPre_blind, va_recv (q := (RX6, TX6, 42)) hK hP (ci := 6) (q0 := 0) rfl rfl, fun U hU hW => gPre_ofF [0] hU hW hK hP hD (by decide +kernel) rfl⟩ rfl rfl hl.1 rfl (lv_room (Nat.le_of_ble_eq_true rfl)) dX6_bench_2 ⟨Nat.le_of_ble_eq_true rfl, Nat.le_of_ble_eq_true rfl⟩) hS hD hA rfl (fun u t H locs ht hvm hB hz1 hk1 hFq hAq hS => ?_)
  obtain ⟨hP1, hK1, hD1⟩ := hB
  have hP := zKeep hP hD [0] hAq hk1 ht hP1 rfl
  refine lv_if_ne (tgt := 11) hx hb dX6_bench_5 (by decide +kernel) (fun c_3 => ?_) (fun c_3 => ?_)
  · skip
    have p_4 : (mHas jg v0) = true := bz_ne rfl c_3
    have hv_6 : v0 = nI (nC v0) := mHas_eq p_4
    have hk_7 : nC v0 < jg := mHas_lt (by omega) p_4
    refine lv_iload_n hx hb dX6_bench_11 rfl (lv_at hl 2 rfl) ?_
    refine lv_iconst (v := 0) hx hb dX6_bench_12 (by decide +kernel) ?_
    refine lv_iconst (v := 2) hx hb dX6_bench_13 (by decide +kernel) ?_
    refine z_calli [] (v := bz (decide (0 ≤ v1 ∧ v1 ≤ 2))) (fun _ _ h => h) (va_runS (As := [.int v1, .int 0, .int 2]) (rest := []) ⟨hx, hb, hml, hown, hts⟩ (c_X6_in l G v1 0 2 H.size) (va_cwS 3 hts gX6_bench_X6_in rfl rfl rfl (by decide +kernel) ⟨Nat.le_of_ble_eq_true rfl, Nat.le_of_ble_eq_true rfl⟩) ⟨gPre_blind, fun U hU hW => gPre_ofF [] hU hW hK hP hD (by decide +kernel) rfl⟩ rfl rfl hl.1 rfl (lv_room (Nat.le_of_ble_eq_true rfl)) dX6_bench_14 ⟨Nat.le_of_ble_eq_true rfl, Nat.le_of_ble_eq_true rfl⟩) hS hD hA rfl (fun u t H locs ht hvm hB hz1 hk1 hFq hAq hS => ?_)
    obtain ⟨hP1, hK1, hD1⟩ := hB
    have hP := zKeep hP hD [] hAq hk1 ht hP1 rfl
    refine lv_if_eq (tgt := 33) hx hb dX6_bench_17 (by decide +kernel) (fun c_10 => ?_) (fun c_10 => ?_)
    · skip
      have n_12 : ¬ (0 ≤ v1 ∧ v1 ≤ 2) := of_decide_eq_false (bz_eq rfl c_10)
      refine lv_bipush (v := -7) hx hb dX6_bench_33 (by decide +kernel) ?_
      have hpost : (fun (r : Int32) (u : Unit) => match u with | _ => r = m_X6_bench jg fro v0 v1) (-7) () := (show m_X6_bench jg fro v0 v1 = (-7) from by unfold m_X6_bench; rw [if_pos p_4, if_neg n_12]).symm
      exact W.iret (v := (-7)) hx hb hr (fun t ht hW => ⟨⟨(-7), (), rfl, hpost, by rw [ht]; exact hP, va_K.moved hW.alike hK, hD⟩, hS.F ht⟩) hS.2.2 dX6_bench_35
    · skip
      have p_11 : 0 ≤ v1 ∧ v1 ≤ 2 := of_decide_eq_true (bz_ne rfl c_10)
      have hv_13 : v1 = nI (nC v1) := nC_eq p_11.1
      have hk_14 : nC v1 ≤ 2 := nC_le (n := 2) (by omega) p_11
      refine g_aget (D := G.1) (ci := 6) (v := .ref ro) (C := RX6) (T := TX6) (N := 42) hx hb dX6_bench_20 rfl (lv_at hl 0 rfl) hts hiX6 hown hK hP 0 rfl rfl 5 (by decide +kernel) kf19 (fun _ h9 => h9) rfl dX6_bench_21 ?_
      refine lv_iconst (v := 3) hx hb dX6_bench_24 (by decide +kernel) ?_
      refine lv_iload_n hx hb dX6_bench_25 rfl (lv_at hl 1 rfl) ?_
      refine g_topi (y := nI (nC v0)) hv_6 ?_
      refine lv_imul hx hb dX6_bench_26 ?_
      refine g_topi (y := nI (3 * (nC v0))) (pk_mul 3 (nC v0)) ?_
      refine lv_iload_n hx hb dX6_bench_27 rfl (lv_at hl 2 rfl) ?_
      refine g_topi (y := nI (nC v1)) hv_13 ?_
      refine lv_iadd hx hb dX6_bench_28 ?_
      refine g_topi (y := nI ((3 * (nC v0)) + (nC v1))) (nI_add (3 * (nC v0)) (nC v1)) ?_
      refine g_iald (D := G.1) hx hb hK hP 1 0 rfl rfl (k := (3 * (nC v0)) + (nC v1)) (y := fro ((3 * (nC v0)) + (nC v1))) (by omega) rfl rfl dX6_bench_29 ?_
      refine lv_goto (tgt := 35) hx hb dX6_bench_30 (by decide +kernel) ?_
      have hpost : (fun (r : Int32) (u : Unit) => match u with | _ => r = m_X6_bench jg fro v0 v1) (fro ((3 * (nC v0)) + (nC v1))) () := (show m_X6_bench jg fro v0 v1 = (fro ((3 * (nC v0)) + (nC v1))) from by unfold m_X6_bench; rw [if_pos p_4, if_pos p_11]).symm
      exact W.iret (v := (fro ((3 * (nC v0)) + (nC v1)))) hx hb hr (fun t ht hW => ⟨⟨(fro ((3 * (nC v0)) + (nC v1))), (), rfl, hpost, by rw [ht]; exact hP, va_K.moved hW.alike hK, hD⟩, hS.F ht⟩) hS.2.2 dX6_bench_35
  · skip
    have n_5 : (mHas jg v0) = false := bz_eq rfl c_3
    have n_5N : ¬ ((mHas jg v0) = true) := by rw [n_5]; decide
    refine lv_bipush (v := -5) hx hb dX6_bench_8 (by decide +kernel) ?_
    have hpost : (fun (r : Int32) (u : Unit) => match u with | _ => r = m_X6_bench jg fro v0 v1) (-5) () := (show m_X6_bench jg fro v0 v1 = (-5) from by unfold m_X6_bench; rw [if_neg n_5N]).symm
    exact W.iret (v := (-5)) hx hb hr (fun t ht hW => ⟨⟨(-5), (), rfl, hpost, by rw [ht]; exact hP, va_K.moved hW.alike hK, hD⟩, hS.F ht⟩) hS.2.2 dX6_bench_10
noncomputable def m_X6_asks (pb : Nat) (jg : Nat) (ru : Nat) (fst : Nat → Int32) (fro : Nat → Int32) (fmo : Nat → Int32) (fcd : Nat → Int32) (fsr : Nat → Nat) (v0 : Int32) (v1 : Int32) (v2 : Int32) : Int32 := if 0 ≤ v0 ∧ v0 ≤ 2 then (if (mHas jg v1) = true then (if (mHas pb v2) = true then m_X6_asksOf ru fst fro fmo fcd fsr (nC v0) (nC v1) (nC v2) else -2) else -2) else -2
abbrev q_X6_asks (G : gG) (h0 kd mo st ro tp cd sr ir ih ss sq ce lw wo he sk na kp gb go fa ga vo : Nat) (pb : Nat) (jg : Nat) (td : Nat) (tx : Nat) (ru : Nat) (him : Int32) (s19 : Int32) (s20 : Int32) (s21 : Int32) (s22 : Int32) (s25 : Int32) (s26 : Int32) (s27 : Int32) (s31 : Int32) (s32 : Int32) (s33 : Int32) (s34 : Int32) (s39 : Int32) (s40 : Int32) (fst : Nat → Int32) (fro : Nat → Int32) (fmo : Nat → Int32) (fcd : Nat → Int32) (fsr : Nat → Nat) (fsk : Nat → Int32) (fna : Nat → Int32) (v0 : Int32) (v1 : Int32) (v2 : Int32) (A : Nat → Prop) : Array Value → State → Outcome → State → Prop := va_Qi (fun (r : Int32) (u : (Nat → Int32) × (Nat → Int32)) => match u with | (ysk, yna) => r = m_X6_asks pb jg ru fst fro fmo fcd fsr v0 v1 v2) (fun (u : (Nat → Int32) × (Nat → Int32)) t => match u with | (ysk, yna) => va_P G.1 vwCl [zo6 h0 (nI pb) kd mo st (nI jg) ro tp (nI td) cd sr (nI tx) (nI ru) him ir ih ss sq ce lw s19 s20 s21 s22 wo he s25 s26 s27 sk na kp s31 s32 s33 s34 gb go fa ga s39 s40 vo, zi G st 12 fst, zi G ro 12 fro, zi G mo 6 fmo, zi G cd 1200 fcd, zi G sr 24 (nF fsr), zi G sk 200 ysk, zi G na 6 yna] t.heap ∧ gK G t ∧ va_D A [zo6 h0 (nI pb) kd mo st (nI jg) ro tp (nI td) cd sr (nI tx) (nI ru) him ir ih ss sq ce lw s19 s20 s21 s22 wo he s25 s26 s27 sk na kp s31 s32 s33 s34 gb go fa ga s39 s40 vo, zi G st 12 fst, zi G ro 12 fro, zi G mo 6 fmo, zi G cd 1200 fcd, zi G sr 24 (nF fsr), zi G sk 200 ysk, zi G na 6 yna]) A
set_option maxHeartbeats 4000000 in
set_option maxRecDepth 100000 in
theorem c_X6_asks (l : Launch) (G : gG) (h0 kd mo st ro tp cd sr ir ih ss sq ce lw wo he sk na kp gb go fa ga vo : Nat) (pb : Nat) (jg : Nat) (td : Nat) (tx : Nat) (ru : Nat) (him : Int32) (s19 : Int32) (s20 : Int32) (s21 : Int32) (s22 : Int32) (s25 : Int32) (s26 : Int32) (s27 : Int32) (s31 : Int32) (s32 : Int32) (s33 : Int32) (s34 : Int32) (s39 : Int32) (s40 : Int32) (fst : Nat → Int32) (fro : Nat → Int32) (fmo : Nat → Int32) (fcd : Nat → Int32) (fsr : Nat → Nat) (fsk : Nat → Int32) (fna : Nat → Int32) (v0 : Int32) (v1 : Int32) (v2 : Int32) (sz : Nat) (hpb : pb ≤ 6) (hjg : jg ≤ 4) (htx : tx ≤ 6) (hru : ru < tx) (hwa : ∀ t9, t9 < tx → mWf fcd fsr t9) : Met l yX6_asks wsX6_asks ({ frames := 3, cells := 0, slots := 0, locals := 69 }) (gPre G [.ref h0, .int v0, .int v1, .int v2] [zo6 h0 (nI pb) kd mo st (nI jg) ro tp (nI td) cd sr (nI tx) (nI ru) him ir ih ss sq ce lw s19 s20 s21 s22 wo he s25 s26 s27 sk na kp s31 s32 s33 s34 gb go fa ga s39 s40 vo, zi G st 12 fst, zi G ro 12 fro, zi G mo 6 fmo, zi G cd 1200 fcd, zi G sr 24 (nF fsr), zi G sk 200 fsk, zi G na 6 fna] sz) (q_X6_asks G h0 kd mo st ro tp cd sr ir ih ss sq ce lw wo he sk na kp gb go fa ga vo pb jg td tx ru him s19 s20 s21 s22 s25 s26 s27 s31 s32 s33 s34 s39 s40 fst fro fmo fcd fsr fsk fna v0 v1 v2 (va_A [zo6 h0 (nI pb) kd mo st (nI jg) ro tp (nI td) cd sr (nI tx) (nI ru) him ir ih ss sq ce lw s19 s20 s21 s22 wo he s25 s26 s27 sk na kp s31 s32 s33 s34 gb go fa ga s39 s40 vo, zi G st 12 fst, zi G ro 12 fro, zi G mo 6 fmo, zi G cd 1200 fcd, zi G sr 24 (nF fsr), zi G sk 200 fsk, zi G na 6 fna] sz)) 0 0 (va_A [zo6 h0 (nI pb) kd mo st (nI jg) ro tp (nI td) cd sr (nI tx) (nI ru) him ir ih ss sq ce lw s19 s20 s21 s22 wo he s25 s26 s27 sk na kp s31 s32 s33 s34 gb go fa ga s39 s40 vo, zi G st 12 fst, zi G ro 12 fro, zi G mo 6 fmo, zi G cd 1200 fcd, zi G sr 24 (nF fsr), zi G sk 200 fsk, zi G na 6 fna] sz) := by
  refine Met.ofW (cc := cX6_asks) (maxL := 4) (ret := (some .int)) (by decide +kernel) rfl ?_
  intro p e s m args below meth c s₁ B hml hv
  obtain ⟨rfl, hsz, hP, hK, hD0⟩ := hv
  have hx := B.exec
  have hb := B.bytes
  have hr := B.returns
  have hts := atoms_spec (ws := wsX6_asks) B.pre
  have hown : s.vm.findClass RX6 = some m.cls := findClass_of_methodNamed B.named
  have hlocks := B.notSynchronized
  subst hsz
  have hD := hD0.self (sz := s.heap.size)
  generalize hAe : va_A [zo6 h0 (nI pb) kd mo st (nI jg) ro tp (nI td) cd sr (nI tx) (nI ru) him ir ih ss sq ce lw s19 s20 s21 s22 wo he s25 s26 s27 sk na kp s31 s32 s33 s34 gb go fa ga s39 s40 vo, zi G st 12 fst, zi G ro 12 fro, zi G mo 6 fmo, zi G cd 1200 fcd, zi G sr 24 (nF fsr), zi G sk 200 fsk, zi G na 6 fna] s.heap.size = A at hD ⊢
  have hA : ∀ q : Nat, s.heap.size ≤ q → A q := fun q h => by rw [← hAe]; exact Or.inr h
  have hS : va_S A s.heap s.heap [] := va_S.rf
  have hz9 : gPD G A [zo6 h0 (nI pb) kd mo st (nI jg) ro tp (nI td) cd sr (nI tx) (nI ru) him ir ih ss sq ce lw s19 s20 s21 s22 wo he s25 s26 s27 sk na kp s31 s32 s33 s34 gb go fa ga s39 s40 vo, zi G st 12 fst, zi G ro 12 fro, zi G mo 6 fmo, zi G cd 1200 fcd, zi G sr 24 (nF fsr), zi G sk 200 fsk, zi G na 6 fna] s.heap := ⟨hP, hD⟩
  have hP := hz9.1
  have hD := hz9.2
  have hl := lv_entry ([.ref h0, .int v0, .int v1, .int v2]) (n := 4) (Nat.le_of_ble_eq_true rfl)
  rw [lg_entry_eq]
  generalize (lg_sl ([.ref h0, .int v0, .int v1, .int v2]) ++ List.replicate (4 - (lg_sl ([.ref h0, .int v0, .int v1, .int v2])).length) Slot.unset).toArray = ls at hl ⊢
  have hl : lv_has ls 4 [zR 0 h0, zI 1 v0, zI 2 v1, zI 3 v2] := hl
  refine lv_iload_n hx hb dX6_asks_0 rfl (lv_at hl 1 rfl) ?_
  refine lv_iconst (v := 0) hx hb dX6_asks_1 (by decide +kernel) ?_
  refine lv_iconst (v := 2) hx hb dX6_asks_2 (by decide +kernel) ?_
  refine z_calli [] (v := bz (decide (0 ≤ v0 ∧ v0 ≤ 2))) (fun _ _ h => h) (va_runS (As := [.int v0, .int 0, .int 2]) (rest := []) ⟨hx, hb, hml, hown, hts⟩ (c_X6_in l G v0 0 2 s.heap.size) (va_cwS 3 hts gX6_asks_X6_in rfl rfl rfl (by decide +kernel) ⟨Nat.le_of_ble_eq_true rfl, Nat.le_of_ble_eq_true rfl⟩) ⟨gPre_blind, fun U hU hW => gPre_ofF [] hU hW hK hP hD (by decide +kernel) rfl⟩ rfl rfl hl.1 rfl (lv_room (Nat.le_of_ble_eq_true rfl)) dX6_asks_3 ⟨Nat.le_of_ble_eq_true rfl, Nat.le_of_ble_eq_true rfl⟩) hS hD hA rfl (fun u t H locs ht hvm hB hz1 hk1 hFq hAq hS => ?_)
  obtain ⟨hP1, hK1, hD1⟩ := hB
  have hP := zKeep hP hD [] hAq hk1 ht hP1 rfl
  refine lv_if_eq (tgt := 35) hx hb dX6_asks_6 (by decide +kernel) (fun c_3 => ?_) (fun c_3 => ?_)
  · skip
    have n_5 : ¬ (0 ≤ v0 ∧ v0 ≤ 2) := of_decide_eq_false (bz_eq rfl c_3)
    refine lv_bipush (v := -2) hx hb dX6_asks_35 (by decide +kernel) ?_
    have hpost : (fun (r : Int32) (u : (Nat → Int32) × (Nat → Int32)) => match u with | (ysk, yna) => r = m_X6_asks pb jg ru fst fro fmo fcd fsr v0 v1 v2) (-2) (fsk, fna) := (show m_X6_asks pb jg ru fst fro fmo fcd fsr v0 v1 v2 = (-2) from by unfold m_X6_asks; rw [if_neg n_5]).symm
    exact W.iret (v := (-2)) hx hb hr (fun t ht hW => ⟨⟨(-2), (fsk, fna), rfl, hpost, by rw [ht]; exact hP, va_K.moved hW.alike hK, hD⟩, hS.F ht⟩) hS.2.2 dX6_asks_37
  · skip
    have p_4 : 0 ≤ v0 ∧ v0 ≤ 2 := of_decide_eq_true (bz_ne rfl c_3)
    have hv_6 : v0 = nI (nC v0) := nC_eq p_4.1
    have hk_7 : nC v0 ≤ 2 := nC_le (n := 2) (by omega) p_4
    refine lv_aload_n hx hb dX6_asks_9 rfl (lv_at hl 0 rfl) ?_
    refine lv_iload_n hx hb dX6_asks_10 rfl (lv_at hl 2 rfl) ?_
    refine z_calli [0] (v := bz (mHas jg v1)) (fun _ _ h => h) (va_runV (As := [.int v1]) (rest := []) ⟨hx, hb, hml, hown, hts⟩ (c_X6_isJudge l G h0 kd mo st ro tp cd sr ir ih ss sq ce lw wo he sk na kp gb go fa ga vo pb jg td tx ru him s19 s20 s21 s22 s25 s26 s27 s31 s32 s33 s34 s39 s40 v1 H.size (by first | exact hpb | assumption | omega) (by first | exact hjg | assumption | omega) (by first | exact htx | assumption | omega) (by first | exact hru | assumption | omega)) (cwV 1 hts gX6_asks_X6_isJudge rfl rfl rfl (by decide +kernel) ⟨Nat.le_of_ble_eq_true rfl, Nat.le_of_ble_eq_true rfl⟩) ⟨gPre_blind, va_recv (q := (RX6, TX6, 42)) hK hP (ci := 6) (q0 := 0) rfl rfl, fun U hU hW => gPre_ofF [0] hU hW hK hP hD (by decide +kernel) rfl⟩ rfl rfl hl.1 rfl (lv_room (Nat.le_of_ble_eq_true rfl)) dX6_asks_11 ⟨Nat.le_of_ble_eq_true rfl, Nat.le_of_ble_eq_true rfl⟩) hS hD hA rfl (fun u t H locs ht hvm hB hz1 hk1 hFq hAq hS => ?_)
    obtain ⟨hP1, hK1, hD1⟩ := hB
    have hP := zKeep hP hD [0] hAq hk1 ht hP1 rfl
    refine lv_if_eq (tgt := 35) hx hb dX6_asks_14 (by decide +kernel) (fun c_10 => ?_) (fun c_10 => ?_)
    · skip
      have n_12 : (mHas jg v1) = false := bz_eq rfl c_10
      have n_12N : ¬ ((mHas jg v1) = true) := by rw [n_12]; decide
      refine lv_bipush (v := -2) hx hb dX6_asks_35 (by decide +kernel) ?_
      have hpost : (fun (r : Int32) (u : (Nat → Int32) × (Nat → Int32)) => match u with | (ysk, yna) => r = m_X6_asks pb jg ru fst fro fmo fcd fsr v0 v1 v2) (-2) (fsk, fna) := (show m_X6_asks pb jg ru fst fro fmo fcd fsr v0 v1 v2 = (-2) from by unfold m_X6_asks; rw [if_pos p_4, if_neg n_12N]).symm
      exact W.iret (v := (-2)) hx hb hr (fun t ht hW => ⟨⟨(-2), (fsk, fna), rfl, hpost, by rw [ht]; exact hP, va_K.moved hW.alike hK, hD⟩, hS.F ht⟩) hS.2.2 dX6_asks_37
    · skip
      have p_11 : (mHas jg v1) = true := bz_ne rfl c_10
      have hv_13 : v1 = nI (nC v1) := mHas_eq p_11
      have hk_14 : nC v1 < jg := mHas_lt (by omega) p_11
      refine lv_aload_n hx hb dX6_asks_17 rfl (lv_at hl 0 rfl) ?_
      refine lv_iload_n hx hb dX6_asks_18 rfl (lv_at hl 3 rfl) ?_
      refine z_calli [0] (v := bz (mHas pb v2)) (fun _ _ h => h) (va_runV (As := [.int v2]) (rest := []) ⟨hx, hb, hml, hown, hts⟩ (c_X6_isPebble l G h0 kd mo st ro tp cd sr ir ih ss sq ce lw wo he sk na kp gb go fa ga vo pb jg td tx ru him s19 s20 s21 s22 s25 s26 s27 s31 s32 s33 s34 s39 s40 v2 H.size (by first | exact hpb | assumption | omega) (by first | exact hjg | assumption | omega) (by first | exact htx | assumption | omega) (by first | exact hru | assumption | omega)) (cwV 1 hts gX6_asks_X6_isPebble rfl rfl rfl (by decide +kernel) ⟨Nat.le_of_ble_eq_true rfl, Nat.le_of_ble_eq_true rfl⟩) ⟨gPre_blind, va_recv (q := (RX6, TX6, 42)) hK hP (ci := 6) (q0 := 0) rfl rfl, fun U hU hW => gPre_ofF [0] hU hW hK hP hD (by decide +kernel) rfl⟩ rfl rfl hl.1 rfl (lv_room (Nat.le_of_ble_eq_true rfl)) dX6_asks_19 ⟨Nat.le_of_ble_eq_true rfl, Nat.le_of_ble_eq_true rfl⟩) hS hD hA rfl (fun u t H locs ht hvm hB hz1 hk1 hFq hAq hS => ?_)
      obtain ⟨hP1, hK1, hD1⟩ := hB
      have hP := zKeep hP hD [0] hAq hk1 ht hP1 rfl
      refine lv_if_eq (tgt := 35) hx hb dX6_asks_22 (by decide +kernel) (fun c_17 => ?_) (fun c_17 => ?_)
      · skip
        have n_19 : (mHas pb v2) = false := bz_eq rfl c_17
        have n_19N : ¬ ((mHas pb v2) = true) := by rw [n_19]; decide
        refine lv_bipush (v := -2) hx hb dX6_asks_35 (by decide +kernel) ?_
        have hpost : (fun (r : Int32) (u : (Nat → Int32) × (Nat → Int32)) => match u with | (ysk, yna) => r = m_X6_asks pb jg ru fst fro fmo fcd fsr v0 v1 v2) (-2) (fsk, fna) := (show m_X6_asks pb jg ru fst fro fmo fcd fsr v0 v1 v2 = (-2) from by unfold m_X6_asks; rw [if_pos p_4, if_pos p_11, if_neg n_19N]).symm
        exact W.iret (v := (-2)) hx hb hr (fun t ht hW => ⟨⟨(-2), (fsk, fna), rfl, hpost, by rw [ht]; exact hP, va_K.moved hW.alike hK, hD⟩, hS.F ht⟩) hS.2.2 dX6_asks_37
      · skip
        have p_18 : (mHas pb v2) = true := bz_ne rfl c_17
        have hv_20 : v2 = nI (nC v2) := mHas_eq p_18
        have hk_21 : nC v2 < pb := mHas_lt (by omega) p_18
        refine lv_aload_n hx hb dX6_asks_25 rfl (lv_at hl 0 rfl) ?_
        refine lv_iload_n hx hb dX6_asks_26 rfl (lv_at hl 1 rfl) ?_
        refine g_topi (y := nI (nC v0)) hv_6 ?_
        refine lv_iload_n hx hb dX6_asks_27 rfl (lv_at hl 2 rfl) ?_
        refine g_topi (y := nI (nC v1)) hv_13 ?_
        refine lv_iload_n hx hb dX6_asks_28 rfl (lv_at hl 3 rfl) ?_
        refine g_topi (y := nI (nC v2)) hv_20 ?_
        refine z_calli [0, 1, 2, 3, 4, 5, 6, 7] (v := m_X6_asksOf ru fst fro fmo fcd fsr (nC v0) (nC v1) (nC v2)) (fun _ ⟨_, _⟩ h => h) (va_runV (As := [.int (nI (nC v0)), .int (nI (nC v1)), .int (nI (nC v2))]) (rest := []) ⟨hx, hb, hml, hown, hts⟩ (c_X6_asksOf l G h0 kd mo st ro tp cd sr ir ih ss sq ce lw wo he sk na kp gb go fa ga vo pb jg td tx ru him s19 s20 s21 s22 s25 s26 s27 s31 s32 s33 s34 s39 s40 fst fro fmo fcd fsr fsk fna (nC v0) (nC v1) (nC v2) H.size (by omega) (by first | exact hj | assumption | omega) (by first | exact hp | assumption | omega) (hwa _ (by omega)) (by first | exact hpb | assumption | omega) (by first | exact hjg | assumption | omega) (by first | exact htx | assumption | omega) (by first | exact hru | assumption | omega)) (cwV 3 hts gX6_asks_X6_asksOf rfl rfl rfl (by decide +kernel) ⟨Nat.le_of_ble_eq_true rfl, Nat.le_of_ble_eq_true rfl⟩) ⟨gPre_blind, va_recv (q := (RX6, TX6, 42)) hK hP (ci := 6) (q0 := 0) rfl rfl, fun U hU hW => gPre_of hU hW hK hP hD⟩ rfl rfl hl.1 rfl (lv_room (Nat.le_of_ble_eq_true rfl)) dX6_asks_29 ⟨Nat.le_of_ble_eq_true rfl, Nat.le_of_ble_eq_true rfl⟩) hS hD hA rfl (fun u t H locs ht hvm hB hz1 hk1 hFq hAq hS => ?_)
        obtain ⟨ysk_27, yna_28⟩ := u
        obtain ⟨hP1, hK1, hD1⟩ := hB
        have hz9 : gPD G A [zo6 h0 (nI pb) kd mo st (nI jg) ro tp (nI td) cd sr (nI tx) (nI ru) him ir ih ss sq ce lw s19 s20 s21 s22 wo he s25 s26 s27 sk na kp s31 s32 s33 s34 gb go fa ga s39 s40 vo, zi G st 12 fst, zi G ro 12 fro, zi G mo 6 fmo, zi G cd 1200 fcd, zi G sr 24 (nF fsr), zi G sk 200 ysk_27, zi G na 6 yna_28] H := zFill hP hD [0, 1, 2, 3, 4, 5, 6, 7] [1, 2, 3, 4, 5, 6, 7, 8] hAq hk1 hFq ht hP1 hD1 rfl (by decide +kernel)
        have hP := hz9.1
        have hD := hz9.2
        refine lv_goto (tgt := 37) hx hb dX6_asks_32 (by decide +kernel) ?_
        have hpost : (fun (r : Int32) (u : (Nat → Int32) × (Nat → Int32)) => match u with | (ysk, yna) => r = m_X6_asks pb jg ru fst fro fmo fcd fsr v0 v1 v2) (m_X6_asksOf ru fst fro fmo fcd fsr (nC v0) (nC v1) (nC v2)) (ysk_27, yna_28) := (show m_X6_asks pb jg ru fst fro fmo fcd fsr v0 v1 v2 = (m_X6_asksOf ru fst fro fmo fcd fsr (nC v0) (nC v1) (nC v2)) from by unfold m_X6_asks; rw [if_pos p_4, if_pos p_11, if_pos p_18]).symm
        exact W.iret (v := (m_X6_asksOf ru fst fro fmo fcd fsr (nC v0) (nC v1) (nC v2))) hx hb hr (fun t ht hW => ⟨⟨(m_X6_asksOf ru fst fro fmo fcd fsr (nC v0) (nC v1) (nC v2)), (ysk_27, yna_28), rfl, hpost, by rw [ht]; exact hP, va_K.moved hW.alike hK, hD⟩, hS.F ht⟩) hS.2.2 dX6_asks_37
noncomputable def m_X6_pebble (pb : Nat) (v0 : Int32) (v1 : Int32) : Int32 := if 0 ≤ v0 ∧ v0 ≤ 59 then (if 0 ≤ v1 ∧ v1 ≤ 9999 then (if (nI pb) = 6 then -4 else nI ((pb + 1) - 1)) else -2) else -2
noncomputable def m_X6_pebble_h00 (pb : Nat) (v0 : Int32) (v1 : Int32) : Nat := if 0 ≤ v0 ∧ v0 ≤ 59 then (if 0 ≤ v1 ∧ v1 ≤ 9999 then (if (nI pb) = 6 then pb else (pb + 1)) else pb) else pb
noncomputable def m_X6_pebble_kd (pb : Nat) (fkd : Nat → Int32) (v0 : Int32) (v1 : Int32) : Nat → Int32 := if 0 ≤ v0 ∧ v0 ≤ 59 then (if 0 ≤ v1 ∧ v1 ≤ 9999 then (if (nI pb) = 6 then fkd else upd fkd pb (nI ((nC v0) / 10))) else fkd) else fkd
noncomputable def m_X6_pebble_mo (pb : Nat) (fmo : Nat → Int32) (v0 : Int32) (v1 : Int32) : Nat → Int32 := if 0 ≤ v0 ∧ v0 ≤ 59 then (if 0 ≤ v1 ∧ v1 ≤ 9999 then (if (nI pb) = 6 then fmo else upd fmo pb (nI ((nC v0) % 10))) else fmo) else fmo
noncomputable def m_X6_pebble_st (pb : Nat) (fst : Nat → Int32) (v0 : Int32) (v1 : Int32) : Nat → Int32 := if 0 ≤ v0 ∧ v0 ≤ 59 then (if 0 ≤ v1 ∧ v1 ≤ 9999 then (if (nI pb) = 6 then fst else upd (upd fst (2 * pb) (nI ((nC v1) / 100))) ((2 * pb) + 1) (nI ((nC v1) % 100))) else fst) else fst
abbrev q_X6_pebble (G : gG) (h0 kd mo st ro tp cd sr ir ih ss sq ce lw wo he sk na kp gb go fa ga vo : Nat) (pb : Nat) (jg : Nat) (td : Nat) (tx : Nat) (ru : Nat) (him : Int32) (s19 : Int32) (s20 : Int32) (s21 : Int32) (s22 : Int32) (s25 : Int32) (s26 : Int32) (s27 : Int32) (s31 : Int32) (s32 : Int32) (s33 : Int32) (s34 : Int32) (s39 : Int32) (s40 : Int32) (fkd : Nat → Int32) (fmo : Nat → Int32) (fst : Nat → Int32) (v0 : Int32) (v1 : Int32) (A : Nat → Prop) : Array Value → State → Outcome → State → Prop := va_Qi (fun (r : Int32) (u : Unit) => match u with | _ => r = m_X6_pebble pb v0 v1) (fun (u : Unit) t => match u with | _ => va_P G.1 vwCl [zo6 h0 (nI (m_X6_pebble_h00 pb v0 v1)) kd mo st (nI jg) ro tp (nI td) cd sr (nI tx) (nI ru) him ir ih ss sq ce lw s19 s20 s21 s22 wo he s25 s26 s27 sk na kp s31 s32 s33 s34 gb go fa ga s39 s40 vo, zi G kd 6 (m_X6_pebble_kd pb fkd v0 v1), zi G mo 6 (m_X6_pebble_mo pb fmo v0 v1), zi G st 12 (m_X6_pebble_st pb fst v0 v1)] t.heap ∧ gK G t ∧ va_D A [zo6 h0 (nI (m_X6_pebble_h00 pb v0 v1)) kd mo st (nI jg) ro tp (nI td) cd sr (nI tx) (nI ru) him ir ih ss sq ce lw s19 s20 s21 s22 wo he s25 s26 s27 sk na kp s31 s32 s33 s34 gb go fa ga s39 s40 vo, zi G kd 6 (m_X6_pebble_kd pb fkd v0 v1), zi G mo 6 (m_X6_pebble_mo pb fmo v0 v1), zi G st 12 (m_X6_pebble_st pb fst v0 v1)]) A
set_option maxHeartbeats 4000000 in
set_option maxRecDepth 100000 in
theorem c_X6_pebble (l : Launch) (G : gG) (h0 kd mo st ro tp cd sr ir ih ss sq ce lw wo he sk na kp gb go fa ga vo : Nat) (pb : Nat) (jg : Nat) (td : Nat) (tx : Nat) (ru : Nat) (him : Int32) (s19 : Int32) (s20 : Int32) (s21 : Int32) (s22 : Int32) (s25 : Int32) (s26 : Int32) (s27 : Int32) (s31 : Int32) (s32 : Int32) (s33 : Int32) (s34 : Int32) (s39 : Int32) (s40 : Int32) (fkd : Nat → Int32) (fmo : Nat → Int32) (fst : Nat → Int32) (v0 : Int32) (v1 : Int32) (sz : Nat) (hpb : pb ≤ 6) (hjg : jg ≤ 4) (htx : tx ≤ 6) (hru : ru < tx) : Met l yX6_pebble wsX6_pebble ({ frames := 1, cells := 0, slots := 0, locals := 22 }) (gPre G [.ref h0, .int v0, .int v1] [zo6 h0 (nI pb) kd mo st (nI jg) ro tp (nI td) cd sr (nI tx) (nI ru) him ir ih ss sq ce lw s19 s20 s21 s22 wo he s25 s26 s27 sk na kp s31 s32 s33 s34 gb go fa ga s39 s40 vo, zi G kd 6 fkd, zi G mo 6 fmo, zi G st 12 fst] sz) (q_X6_pebble G h0 kd mo st ro tp cd sr ir ih ss sq ce lw wo he sk na kp gb go fa ga vo pb jg td tx ru him s19 s20 s21 s22 s25 s26 s27 s31 s32 s33 s34 s39 s40 fkd fmo fst v0 v1 (va_A [zo6 h0 (nI pb) kd mo st (nI jg) ro tp (nI td) cd sr (nI tx) (nI ru) him ir ih ss sq ce lw s19 s20 s21 s22 wo he s25 s26 s27 sk na kp s31 s32 s33 s34 gb go fa ga s39 s40 vo, zi G kd 6 fkd, zi G mo 6 fmo, zi G st 12 fst] sz)) 0 0 (va_A [zo6 h0 (nI pb) kd mo st (nI jg) ro tp (nI td) cd sr (nI tx) (nI ru) him ir ih ss sq ce lw s19 s20 s21 s22 wo he s25 s26 s27 sk na kp s31 s32 s33 s34 gb go fa ga s39 s40 vo, zi G kd 6 fkd, zi G mo 6 fmo, zi G st 12 fst] sz) := by
  refine Met.ofW (cc := cX6_pebble) (maxL := 3) (ret := (some .int)) (by decide +kernel) rfl ?_
  intro p e s m args below meth c s₁ B hml hv
  obtain ⟨rfl, hsz, hP, hK, hD0⟩ := hv
  have hx := B.exec
  have hb := B.bytes
  have hr := B.returns
  have hts := atoms_spec (ws := wsX6_pebble) B.pre
  have hown : s.vm.findClass RX6 = some m.cls := findClass_of_methodNamed B.named
  have hlocks := B.notSynchronized
  subst hsz
  have hD := hD0.self (sz := s.heap.size)
  generalize hAe : va_A [zo6 h0 (nI pb) kd mo st (nI jg) ro tp (nI td) cd sr (nI tx) (nI ru) him ir ih ss sq ce lw s19 s20 s21 s22 wo he s25 s26 s27 sk na kp s31 s32 s33 s34 gb go fa ga s39 s40 vo, zi G kd 6 fkd, zi G mo 6 fmo, zi G st 12 fst] s.heap.size = A at hD ⊢
  have hA : ∀ q : Nat, s.heap.size ≤ q → A q := fun q h => by rw [← hAe]; exact Or.inr h
  have hS : va_S A s.heap s.heap [] := va_S.rf
  have hz9 : gPD G A [zo6 h0 (nI pb) kd mo st (nI jg) ro tp (nI td) cd sr (nI tx) (nI ru) him ir ih ss sq ce lw s19 s20 s21 s22 wo he s25 s26 s27 sk na kp s31 s32 s33 s34 gb go fa ga s39 s40 vo, zi G kd 6 fkd, zi G mo 6 fmo, zi G st 12 fst] s.heap := ⟨hP, hD⟩
  have hP := hz9.1
  have hD := hz9.2
  have hl := lv_entry ([.ref h0, .int v0, .int v1]) (n := 3) (Nat.le_of_ble_eq_true rfl)
  rw [lg_entry_eq]
  generalize (lg_sl ([.ref h0, .int v0, .int v1]) ++ List.replicate (3 - (lg_sl ([.ref h0, .int v0, .int v1])).length) Slot.unset).toArray = ls at hl ⊢
  have hl : lv_has ls 3 [zR 0 h0, zI 1 v0, zI 2 v1] := hl
  have kf88 := hts (.fieldLink RX6 88 "PebbleInShoeModel" "pebbles" "I") (by decide +kernel)
  have hiX6 := (by decide +kernel : ∀ w ∈ wsX60, w ∈ wsX6_pebble)
  have kf7 := hts (.fieldLink RX6 7 "PebbleInShoeModel" "kind" "[I") (by decide +kernel)
  have kf13 := hts (.fieldLink RX6 13 "PebbleInShoeModel" "moreOf" "[I") (by decide +kernel)
  have kf16 := hts (.fieldLink RX6 16 "PebbleInShoeModel" "stones" "[I") (by decide +kernel)
  refine lv_iload_n hx hb dX6_pebble_0 rfl (lv_at hl 1 rfl) ?_
  refine lv_iconst (v := 0) hx hb dX6_pebble_1 (by decide +kernel) ?_
  refine lv_bipush (v := 59) hx hb dX6_pebble_2 (by decide +kernel) ?_
  refine z_calli [] (v := bz (decide (0 ≤ v0 ∧ v0 ≤ 59))) (fun _ _ h => h) (va_runS (As := [.int v0, .int 0, .int 59]) (rest := []) ⟨hx, hb, hml, hown, hts⟩ (c_X6_in l G v0 0 59 s.heap.size) (va_cwS 3 hts gX6_pebble_X6_in rfl rfl rfl (by decide +kernel) ⟨Nat.le_of_ble_eq_true rfl, Nat.le_of_ble_eq_true rfl⟩) ⟨gPre_blind, fun U hU hW => gPre_ofF [] hU hW hK hP hD (by decide +kernel) rfl⟩ rfl rfl hl.1 rfl (lv_room (Nat.le_of_ble_eq_true rfl)) dX6_pebble_4 ⟨Nat.le_of_ble_eq_true rfl, Nat.le_of_ble_eq_true rfl⟩) hS hD hA rfl (fun u t H locs ht hvm hB hz1 hk1 hFq hAq hS => ?_)
  obtain ⟨hP1, hK1, hD1⟩ := hB
  have hP := zKeep hP hD [] hAq hk1 ht hP1 rfl
  refine lv_if_eq (tgt := 21) hx hb dX6_pebble_7 (by decide +kernel) (fun c_3 => ?_) (fun c_3 => ?_)
  · skip
    have n_5 : ¬ (0 ≤ v0 ∧ v0 ≤ 59) := of_decide_eq_false (bz_eq rfl c_3)
    refine lv_bipush (v := -2) hx hb dX6_pebble_21 (by decide +kernel) ?_
    have q_8 : m_X6_pebble_h00 pb v0 v1 = pb := by unfold m_X6_pebble_h00; rw [if_neg n_5]
    have q_9 : m_X6_pebble_kd pb fkd v0 v1 = fkd := by unfold m_X6_pebble_kd; rw [if_neg n_5]
    have q_10 : m_X6_pebble_mo pb fmo v0 v1 = fmo := by unfold m_X6_pebble_mo; rw [if_neg n_5]
    have q_11 : m_X6_pebble_st pb fst v0 v1 = fst := by unfold m_X6_pebble_st; rw [if_neg n_5]
    have hz9 : gPD G A [zo6 h0 (nI (m_X6_pebble_h00 pb v0 v1)) kd mo st (nI jg) ro tp (nI td) cd sr (nI tx) (nI ru) him ir ih ss sq ce lw s19 s20 s21 s22 wo he s25 s26 s27 sk na kp s31 s32 s33 s34 gb go fa ga s39 s40 vo, zi G kd 6 (m_X6_pebble_kd pb fkd v0 v1), zi G mo 6 (m_X6_pebble_mo pb fmo v0 v1), zi G st 12 (m_X6_pebble_st pb fst v0 v1)] H := ⟨by rw [q_8, q_9, q_10, q_11]; exact hP, by rw [q_8, q_9, q_10, q_11]; exact hD⟩
    have hP9 := hz9.1
    have hD9 := hz9.2
    have hpost : (fun (r : Int32) (u : Unit) => match u with | _ => r = m_X6_pebble pb v0 v1) (-2) () := (show m_X6_pebble pb v0 v1 = (-2) from by unfold m_X6_pebble; rw [if_neg n_5]).symm
    exact W.iret (v := (-2)) hx hb hr (fun t ht hW => ⟨⟨(-2), (), rfl, hpost, by rw [ht]; exact hP9, va_K.moved hW.alike hK, hD9⟩, hS.F ht⟩) hS.2.2 dX6_pebble_23
  · skip
    have p_4 : 0 ≤ v0 ∧ v0 ≤ 59 := of_decide_eq_true (bz_ne rfl c_3)
    have hv_6 : v0 = nI (nC v0) := nC_eq p_4.1
    have hk_7 : nC v0 ≤ 59 := nC_le (n := 59) (by omega) p_4
    refine lv_iload_n hx hb dX6_pebble_10 rfl (lv_at hl 2 rfl) ?_
    refine lv_iconst (v := 0) hx hb dX6_pebble_11 (by decide +kernel) ?_
    refine lv_sipush (v := 9999) hx hb dX6_pebble_12 (by decide +kernel) ?_
    refine z_calli [] (v := bz (decide (0 ≤ v1 ∧ v1 ≤ 9999))) (fun _ _ h => h) (va_runS (As := [.int v1, .int 0, .int 9999]) (rest := []) ⟨hx, hb, hml, hown, hts⟩ (c_X6_in l G v1 0 9999 H.size) (va_cwS 3 hts gX6_pebble_X6_in rfl rfl rfl (by decide +kernel) ⟨Nat.le_of_ble_eq_true rfl, Nat.le_of_ble_eq_true rfl⟩) ⟨gPre_blind, fun U hU hW => gPre_ofF [] hU hW hK hP hD (by decide +kernel) rfl⟩ rfl rfl hl.1 rfl (lv_room (Nat.le_of_ble_eq_true rfl)) dX6_pebble_15 ⟨Nat.le_of_ble_eq_true rfl, Nat.le_of_ble_eq_true rfl⟩) hS hD hA rfl (fun u t H locs ht hvm hB hz1 hk1 hFq hAq hS => ?_)
    obtain ⟨hP1, hK1, hD1⟩ := hB
    have hP := zKeep hP hD [] hAq hk1 ht hP1 rfl
    refine lv_if_ne (tgt := 24) hx hb dX6_pebble_18 (by decide +kernel) (fun c_14 => ?_) (fun c_14 => ?_)
    · skip
      have p_15 : 0 ≤ v1 ∧ v1 ≤ 9999 := of_decide_eq_true (bz_ne rfl c_14)
      have hv_17 : v1 = nI (nC v1) := nC_eq p_15.1
      have hk_18 : nC v1 ≤ 9999 := nC_le (n := 9999) (by omega) p_15
      refine g_aget (D := G.1) (ci := 6) (v := .int (nI pb)) (C := RX6) (T := TX6) (N := 42) hx hb dX6_pebble_24 rfl (lv_at hl 0 rfl) hts hiX6 hown hK hP 0 rfl rfl 0 (by decide +kernel) kf88 (fun _ h9 => h9) rfl dX6_pebble_25 ?_
      refine lv_bipush (v := 6) hx hb dX6_pebble_28 (by decide +kernel) ?_
      refine lv_icmp_ne (tgt := 36) hx hb dX6_pebble_30 (by decide +kernel) (fun c_19 => ?_) (fun c_19 => ?_)
      · skip
        have c_19N : ¬ pb = 6 := nI_eq0 (a := pb) (b := 6) (by omega) (by omega) c_19
        refine g_aget (D := G.1) (ci := 6) (v := .ref kd) (C := RX6) (T := TX6) (N := 42) hx hb dX6_pebble_36 rfl (lv_at hl 0 rfl) hts hiX6 hown hK hP 0 rfl rfl 1 (by decide +kernel) kf7 (fun _ h9 => h9) rfl dX6_pebble_37 ?_
        refine g_aget (D := G.1) (ci := 6) (v := .int (nI pb)) (C := RX6) (T := TX6) (N := 42) hx hb dX6_pebble_40 rfl (lv_at hl 0 rfl) hts hiX6 hown hK hP 0 rfl rfl 0 (by decide +kernel) kf88 (fun _ h9 => h9) rfl dX6_pebble_41 ?_
        refine lv_iload_n hx hb dX6_pebble_44 rfl (lv_at hl 1 rfl) ?_
        refine g_topi (y := nI (nC v0)) hv_6 ?_
        refine lv_bipush (v := 10) hx hb dX6_pebble_45 (by decide +kernel) ?_
        refine lv_idiv hx hb dX6_pebble_47 (by decide +kernel) ?_
        refine g_topi (y := nI ((nC v0) / 10)) (pk_div (a := (nC v0)) (d := 10) (by omega) (by omega) (by omega)) ?_
        refine g_iast (D := G.1) hx hb hK hP hD hS 1 0 rfl rfl (k := pb) (x := (nI ((nC v0) / 10))) (by omega) rfl dX6_pebble_48 (fun H locs hP hD hS => ?_)
        have hz9 : gPD G A [zo6 h0 (nI pb) kd mo st (nI jg) ro tp (nI td) cd sr (nI tx) (nI ru) him ir ih ss sq ce lw s19 s20 s21 s22 wo he s25 s26 s27 sk na kp s31 s32 s33 s34 gb go fa ga s39 s40 vo, zi G kd 6 (upd fkd pb (nI ((nC v0) / 10))), zi G mo 6 fmo, zi G st 12 fst] H := ⟨hP, hD⟩
        have hP := hz9.1
        have hD := hz9.2
        refine g_aget (D := G.1) (ci := 6) (v := .ref mo) (C := RX6) (T := TX6) (N := 42) hx hb dX6_pebble_49 rfl (lv_at hl 0 rfl) hts hiX6 hown hK hP 0 rfl rfl 2 (by decide +kernel) kf13 (fun _ h9 => h9) rfl dX6_pebble_50 ?_
        refine g_aget (D := G.1) (ci := 6) (v := .int (nI pb)) (C := RX6) (T := TX6) (N := 42) hx hb dX6_pebble_53 rfl (lv_at hl 0 rfl) hts hiX6 hown hK hP 0 rfl rfl 0 (by decide +kernel) kf88 (fun _ h9 => h9) rfl dX6_pebble_54 ?_
        refine lv_iload_n hx hb dX6_pebble_57 rfl (lv_at hl 1 rfl) ?_
        refine g_topi (y := nI (nC v0)) hv_6 ?_
        refine lv_bipush (v := 10) hx hb dX6_pebble_58 (by decide +kernel) ?_
        refine lv_irem hx hb dX6_pebble_60 (by decide +kernel) ?_
        refine g_topi (y := nI ((nC v0) % 10)) (nI_rem (a := (nC v0)) (d := 10) (by omega) (by omega) (by omega)) ?_
        refine g_iast (D := G.1) hx hb hK hP hD hS 2 0 rfl rfl (k := pb) (x := (nI ((nC v0) % 10))) (by omega) rfl dX6_pebble_61 (fun H locs hP hD hS => ?_)
        have hz9 : gPD G A [zo6 h0 (nI pb) kd mo st (nI jg) ro tp (nI td) cd sr (nI tx) (nI ru) him ir ih ss sq ce lw s19 s20 s21 s22 wo he s25 s26 s27 sk na kp s31 s32 s33 s34 gb go fa ga s39 s40 vo, zi G kd 6 (upd fkd pb (nI ((nC v0) / 10))), zi G mo 6 (upd fmo pb (nI ((nC v0) % 10))), zi G st 12 fst] H := ⟨hP, hD⟩
        have hP := hz9.1
        have hD := hz9.2
        refine g_aget (D := G.1) (ci := 6) (v := .ref st) (C := RX6) (T := TX6) (N := 42) hx hb dX6_pebble_62 rfl (lv_at hl 0 rfl) hts hiX6 hown hK hP 0 rfl rfl 3 (by decide +kernel) kf16 (fun _ h9 => h9) rfl dX6_pebble_63 ?_
        refine lv_iconst (v := 2) hx hb dX6_pebble_66 (by decide +kernel) ?_
        refine g_aget (D := G.1) (ci := 6) (v := .int (nI pb)) (C := RX6) (T := TX6) (N := 42) hx hb dX6_pebble_67 rfl (lv_at hl 0 rfl) hts hiX6 hown hK hP 0 rfl rfl 0 (by decide +kernel) kf88 (fun _ h9 => h9) rfl dX6_pebble_68 ?_
        refine lv_imul hx hb dX6_pebble_71 ?_
        refine g_topi (y := nI (2 * pb)) (pk_mul 2 pb) ?_
        refine lv_iload_n hx hb dX6_pebble_72 rfl (lv_at hl 2 rfl) ?_
        refine g_topi (y := nI (nC v1)) hv_17 ?_
        refine lv_bipush (v := 100) hx hb dX6_pebble_73 (by decide +kernel) ?_
        refine lv_idiv hx hb dX6_pebble_75 (by decide +kernel) ?_
        refine g_topi (y := nI ((nC v1) / 100)) (pk_div (a := (nC v1)) (d := 100) (by omega) (by omega) (by omega)) ?_
        refine g_iast (D := G.1) hx hb hK hP hD hS 3 0 rfl rfl (k := 2 * pb) (x := (nI ((nC v1) / 100))) (by omega) rfl dX6_pebble_76 (fun H locs hP hD hS => ?_)
        have hz9 : gPD G A [zo6 h0 (nI pb) kd mo st (nI jg) ro tp (nI td) cd sr (nI tx) (nI ru) him ir ih ss sq ce lw s19 s20 s21 s22 wo he s25 s26 s27 sk na kp s31 s32 s33 s34 gb go fa ga s39 s40 vo, zi G kd 6 (upd fkd pb (nI ((nC v0) / 10))), zi G mo 6 (upd fmo pb (nI ((nC v0) % 10))), zi G st 12 (upd fst (2 * pb) (nI ((nC v1) / 100)))] H := ⟨hP, hD⟩
        have hP := hz9.1
        have hD := hz9.2
        refine g_aget (D := G.1) (ci := 6) (v := .ref st) (C := RX6) (T := TX6) (N := 42) hx hb dX6_pebble_77 rfl (lv_at hl 0 rfl) hts hiX6 hown hK hP 0 rfl rfl 3 (by decide +kernel) kf16 (fun _ h9 => h9) rfl dX6_pebble_78 ?_
        refine lv_iconst (v := 2) hx hb dX6_pebble_81 (by decide +kernel) ?_
        refine g_aget (D := G.1) (ci := 6) (v := .int (nI pb)) (C := RX6) (T := TX6) (N := 42) hx hb dX6_pebble_82 rfl (lv_at hl 0 rfl) hts hiX6 hown hK hP 0 rfl rfl 0 (by decide +kernel) kf88 (fun _ h9 => h9) rfl dX6_pebble_83 ?_
        refine lv_imul hx hb dX6_pebble_86 ?_
        refine g_topi (y := nI (2 * pb)) (pk_mul 2 pb) ?_
        refine lv_iconst (v := 1) hx hb dX6_pebble_87 (by decide +kernel) ?_
        refine lv_iadd hx hb dX6_pebble_88 ?_
        refine g_topi (y := nI ((2 * pb) + 1)) (nI_add (2 * pb) 1) ?_
        refine lv_iload_n hx hb dX6_pebble_89 rfl (lv_at hl 2 rfl) ?_
        refine g_topi (y := nI (nC v1)) hv_17 ?_
        refine lv_bipush (v := 100) hx hb dX6_pebble_90 (by decide +kernel) ?_
        refine lv_irem hx hb dX6_pebble_92 (by decide +kernel) ?_
        refine g_topi (y := nI ((nC v1) % 100)) (nI_rem (a := (nC v1)) (d := 100) (by omega) (by omega) (by omega)) ?_
        refine g_iast (D := G.1) hx hb hK hP hD hS 3 0 rfl rfl (k := (2 * pb) + 1) (x := (nI ((nC v1) % 100))) (by omega) rfl dX6_pebble_93 (fun H locs hP hD hS => ?_)
        have hz9 : gPD G A [zo6 h0 (nI pb) kd mo st (nI jg) ro tp (nI td) cd sr (nI tx) (nI ru) him ir ih ss sq ce lw s19 s20 s21 s22 wo he s25 s26 s27 sk na kp s31 s32 s33 s34 gb go fa ga s39 s40 vo, zi G kd 6 (upd fkd pb (nI ((nC v0) / 10))), zi G mo 6 (upd fmo pb (nI ((nC v0) % 10))), zi G st 12 (upd (upd fst (2 * pb) (nI ((nC v1) / 100))) ((2 * pb) + 1) (nI ((nC v1) % 100)))] H := ⟨hP, hD⟩
        have hP := hz9.1
        have hD := hz9.2
        refine lv_aload_n hx hb dX6_pebble_94 rfl (lv_at hl 0 rfl) ?_
        refine lv_dup hx hb dX6_pebble_95 rfl ?_
        refine va_get (D := G.1) (ci := 6) (v := .int (nI pb)) (C := RX6) (T := TX6) (N := 42) hx hb hts hiX6 hown hK hP 0 rfl rfl 0 (by decide +kernel) kf88 (fun _ h9 => h9) rfl dX6_pebble_96 ?_
        refine lv_iconst (v := 1) hx hb dX6_pebble_99 (by decide +kernel) ?_
        refine lv_iadd hx hb dX6_pebble_100 ?_
        refine g_topi (y := nI (pb + 1)) (nI_add pb 1) ?_
        refine va_put (D := G.1) (ci := 6) (v := .int (nI (pb + 1))) (ty := .int) (C := RX6) (T := TX6) (N := 42) hx hb hts hiX6 tyX6 tyX6_ok nmX6 hown hK hP hD hS 0 rfl rfl 0 (by decide +kernel) kf88 (fun _ h9 => h9) rfl (by decide +kernel) rfl rfl (Nat.le_of_ble_eq_true rfl) dX6_pebble_101 (fun H locs hP hD hS => ?_)
        have hz9 : gPD G A [zo6 h0 (nI (pb + 1)) kd mo st (nI jg) ro tp (nI td) cd sr (nI tx) (nI ru) him ir ih ss sq ce lw s19 s20 s21 s22 wo he s25 s26 s27 sk na kp s31 s32 s33 s34 gb go fa ga s39 s40 vo, zi G kd 6 (upd fkd pb (nI ((nC v0) / 10))), zi G mo 6 (upd fmo pb (nI ((nC v0) % 10))), zi G st 12 (upd (upd fst (2 * pb) (nI ((nC v1) / 100))) ((2 * pb) + 1) (nI ((nC v1) % 100)))] H := ⟨hP, hD⟩
        have hP := hz9.1
        have hD := hz9.2
        refine g_aget (D := G.1) (ci := 6) (v := .int (nI (pb + 1))) (C := RX6) (T := TX6) (N := 42) hx hb dX6_pebble_104 rfl (lv_at hl 0 rfl) hts hiX6 hown hK hP 0 rfl rfl 0 (by decide +kernel) kf88 (fun _ h9 => h9) rfl dX6_pebble_105 ?_
        refine lv_iconst (v := 1) hx hb dX6_pebble_108 (by decide +kernel) ?_
        refine lv_isub hx hb dX6_pebble_109 ?_
        refine g_topi (y := nI ((pb + 1) - 1)) (pk_sub (a := (pb + 1)) (b := 1) (by omega)) ?_
        have q_33 : m_X6_pebble_h00 pb v0 v1 = pb + 1 := by unfold m_X6_pebble_h00; rw [if_pos p_4, if_pos p_15, if_neg c_19]
        have q_34 : m_X6_pebble_kd pb fkd v0 v1 = upd fkd pb (nI ((nC v0) / 10)) := by unfold m_X6_pebble_kd; rw [if_pos p_4, if_pos p_15, if_neg c_19]
        have q_35 : m_X6_pebble_mo pb fmo v0 v1 = upd fmo pb (nI ((nC v0) % 10)) := by unfold m_X6_pebble_mo; rw [if_pos p_4, if_pos p_15, if_neg c_19]
        have q_36 : m_X6_pebble_st pb fst v0 v1 = upd (upd fst (2 * pb) (nI ((nC v1) / 100))) ((2 * pb) + 1) (nI ((nC v1) % 100)) := by unfold m_X6_pebble_st; rw [if_pos p_4, if_pos p_15, if_neg c_19]
        have hz9 : gPD G A [zo6 h0 (nI (m_X6_pebble_h00 pb v0 v1)) kd mo st (nI jg) ro tp (nI td) cd sr (nI tx) (nI ru) him ir ih ss sq ce lw s19 s20 s21 s22 wo he s25 s26 s27 sk na kp s31 s32 s33 s34 gb go fa ga s39 s40 vo, zi G kd 6 (m_X6_pebble_kd pb fkd v0 v1), zi G mo 6 (m_X6_pebble_mo pb fmo v0 v1), zi G st 12 (m_X6_pebble_st pb fst v0 v1)] H := ⟨by rw [q_33, q_34, q_35, q_36]; exact hP, by rw [q_33, q_34, q_35, q_36]; exact hD⟩
        have hP9 := hz9.1
        have hD9 := hz9.2
        have hpost : (fun (r : Int32) (u : Unit) => match u with | _ => r = m_X6_pebble pb v0 v1) (nI ((pb + 1) - 1)) () := (show m_X6_pebble pb v0 v1 = (nI ((pb + 1) - 1)) from by unfold m_X6_pebble; rw [if_pos p_4, if_pos p_15, if_neg c_19]).symm
        exact W.iret (v := (nI ((pb + 1) - 1))) hx hb hr (fun t ht hW => ⟨⟨(nI ((pb + 1) - 1)), (), rfl, hpost, by rw [ht]; exact hP9, va_K.moved hW.alike hK, hD9⟩, hS.F ht⟩) hS.2.2 dX6_pebble_110
      · skip
        have c_19N : pb = 6 := nI_eq1 (a := pb) (b := 6) (by omega) (by omega) c_19
        refine lv_bipush (v := -4) hx hb dX6_pebble_33 (by decide +kernel) ?_
        have q_37 : m_X6_pebble_h00 pb v0 v1 = pb := by unfold m_X6_pebble_h00; rw [if_pos p_4, if_pos p_15, if_pos c_19]
        have q_38 : m_X6_pebble_kd pb fkd v0 v1 = fkd := by unfold m_X6_pebble_kd; rw [if_pos p_4, if_pos p_15, if_pos c_19]
        have q_39 : m_X6_pebble_mo pb fmo v0 v1 = fmo := by unfold m_X6_pebble_mo; rw [if_pos p_4, if_pos p_15, if_pos c_19]
        have q_40 : m_X6_pebble_st pb fst v0 v1 = fst := by unfold m_X6_pebble_st; rw [if_pos p_4, if_pos p_15, if_pos c_19]
        have hz9 : gPD G A [zo6 h0 (nI (m_X6_pebble_h00 pb v0 v1)) kd mo st (nI jg) ro tp (nI td) cd sr (nI tx) (nI ru) him ir ih ss sq ce lw s19 s20 s21 s22 wo he s25 s26 s27 sk na kp s31 s32 s33 s34 gb go fa ga s39 s40 vo, zi G kd 6 (m_X6_pebble_kd pb fkd v0 v1), zi G mo 6 (m_X6_pebble_mo pb fmo v0 v1), zi G st 12 (m_X6_pebble_st pb fst v0 v1)] H := ⟨by rw [q_37, q_38, q_39, q_40]; exact hP, by rw [q_37, q_38, q_39, q_40]; exact hD⟩
        have hP9 := hz9.1
        have hD9 := hz9.2
        have hpost : (fun (r : Int32) (u : Unit) => match u with | _ => r = m_X6_pebble pb v0 v1) (-4) () := (show m_X6_pebble pb v0 v1 = (-4) from by unfold m_X6_pebble; rw [if_pos p_4, if_pos p_15, if_pos c_19]).symm
        exact W.iret (v := (-4)) hx hb hr (fun t ht hW => ⟨⟨(-4), (), rfl, hpost, by rw [ht]; exact hP9, va_K.moved hW.alike hK, hD9⟩, hS.F ht⟩) hS.2.2 dX6_pebble_35
    · skip
      have n_16 : ¬ (0 ≤ v1 ∧ v1 ≤ 9999) := of_decide_eq_false (bz_eq rfl c_14)
      refine lv_bipush (v := -2) hx hb dX6_pebble_21 (by decide +kernel) ?_
      have q_41 : m_X6_pebble_h00 pb v0 v1 = pb := by unfold m_X6_pebble_h00; rw [if_pos p_4, if_neg n_16]
      have q_42 : m_X6_pebble_kd pb fkd v0 v1 = fkd := by unfold m_X6_pebble_kd; rw [if_pos p_4, if_neg n_16]
      have q_43 : m_X6_pebble_mo pb fmo v0 v1 = fmo := by unfold m_X6_pebble_mo; rw [if_pos p_4, if_neg n_16]
      have q_44 : m_X6_pebble_st pb fst v0 v1 = fst := by unfold m_X6_pebble_st; rw [if_pos p_4, if_neg n_16]
      have hz9 : gPD G A [zo6 h0 (nI (m_X6_pebble_h00 pb v0 v1)) kd mo st (nI jg) ro tp (nI td) cd sr (nI tx) (nI ru) him ir ih ss sq ce lw s19 s20 s21 s22 wo he s25 s26 s27 sk na kp s31 s32 s33 s34 gb go fa ga s39 s40 vo, zi G kd 6 (m_X6_pebble_kd pb fkd v0 v1), zi G mo 6 (m_X6_pebble_mo pb fmo v0 v1), zi G st 12 (m_X6_pebble_st pb fst v0 v1)] H := ⟨by rw [q_41, q_42, q_43, q_44]; exact hP, by rw [q_41, q_42, q_43, q_44]; exact hD⟩
      have hP9 := hz9.1
      have hD9 := hz9.2
      have hpost : (fun (r : Int32) (u : Unit) => match u with | _ => r = m_X6_pebble pb v0 v1) (-2) () := (show m_X6_pebble pb v0 v1 = (-2) from by unfold m_X6_pebble; rw [if_pos p_4, if_neg n_16]).symm
      exact W.iret (v := (-2)) hx hb hr (fun t ht hW => ⟨⟨(-2), (), rfl, hpost, by rw [ht]; exact hP9, va_K.moved hW.alike hK, hD9⟩, hS.F ht⟩) hS.2.2 dX6_pebble_23
noncomputable def m_X6_put (pb : Nat) (fst : Nat → Int32) (v0 : Int32) (v1 : Int32) (v2 : Int32) : Int32 := if (mHas pb v0) = true then (if 0 ≤ v1 ∧ v1 ≤ 1 then (if 0 ≤ v2 ∧ v2 ≤ 99 then fst ((2 * (nC v0)) + (nC v1)) else -7) else -7) else -5
noncomputable def m_X6_put_st (pb : Nat) (fst : Nat → Int32) (v0 : Int32) (v1 : Int32) (v2 : Int32) : Nat → Int32 := if (mHas pb v0) = true then (if 0 ≤ v1 ∧ v1 ≤ 1 then (if 0 ≤ v2 ∧ v2 ≤ 99 then upd fst ((2 * (nC v0)) + (nC v1)) (nI (nC v2)) else fst) else fst) else fst
abbrev q_X6_put (G : gG) (h0 kd mo st ro tp cd sr ir ih ss sq ce lw wo he sk na kp gb go fa ga vo : Nat) (pb : Nat) (jg : Nat) (td : Nat) (tx : Nat) (ru : Nat) (him : Int32) (s19 : Int32) (s20 : Int32) (s21 : Int32) (s22 : Int32) (s25 : Int32) (s26 : Int32) (s27 : Int32) (s31 : Int32) (s32 : Int32) (s33 : Int32) (s34 : Int32) (s39 : Int32) (s40 : Int32) (fst : Nat → Int32) (v0 : Int32) (v1 : Int32) (v2 : Int32) (A : Nat → Prop) : Array Value → State → Outcome → State → Prop := va_Qi (fun (r : Int32) (u : Unit) => match u with | _ => r = m_X6_put pb fst v0 v1 v2) (fun (u : Unit) t => match u with | _ => va_P G.1 vwCl [zo6 h0 (nI pb) kd mo st (nI jg) ro tp (nI td) cd sr (nI tx) (nI ru) him ir ih ss sq ce lw s19 s20 s21 s22 wo he s25 s26 s27 sk na kp s31 s32 s33 s34 gb go fa ga s39 s40 vo, zi G st 12 (m_X6_put_st pb fst v0 v1 v2)] t.heap ∧ gK G t ∧ va_D A [zo6 h0 (nI pb) kd mo st (nI jg) ro tp (nI td) cd sr (nI tx) (nI ru) him ir ih ss sq ce lw s19 s20 s21 s22 wo he s25 s26 s27 sk na kp s31 s32 s33 s34 gb go fa ga s39 s40 vo, zi G st 12 (m_X6_put_st pb fst v0 v1 v2)]) A
set_option maxHeartbeats 4000000 in
set_option maxRecDepth 100000 in
theorem c_X6_put (l : Launch) (G : gG) (h0 kd mo st ro tp cd sr ir ih ss sq ce lw wo he sk na kp gb go fa ga vo : Nat) (pb : Nat) (jg : Nat) (td : Nat) (tx : Nat) (ru : Nat) (him : Int32) (s19 : Int32) (s20 : Int32) (s21 : Int32) (s22 : Int32) (s25 : Int32) (s26 : Int32) (s27 : Int32) (s31 : Int32) (s32 : Int32) (s33 : Int32) (s34 : Int32) (s39 : Int32) (s40 : Int32) (fst : Nat → Int32) (v0 : Int32) (v1 : Int32) (v2 : Int32) (sz : Nat) (hpb : pb ≤ 6) (hjg : jg ≤ 4) (htx : tx ≤ 6) (hru : ru < tx) : Met l yX6_put wsX6_put ({ frames := 2, cells := 0, slots := 0, locals := 43 }) (gPre G [.ref h0, .int v0, .int v1, .int v2] [zo6 h0 (nI pb) kd mo st (nI jg) ro tp (nI td) cd sr (nI tx) (nI ru) him ir ih ss sq ce lw s19 s20 s21 s22 wo he s25 s26 s27 sk na kp s31 s32 s33 s34 gb go fa ga s39 s40 vo, zi G st 12 fst] sz) (q_X6_put G h0 kd mo st ro tp cd sr ir ih ss sq ce lw wo he sk na kp gb go fa ga vo pb jg td tx ru him s19 s20 s21 s22 s25 s26 s27 s31 s32 s33 s34 s39 s40 fst v0 v1 v2 (va_A [zo6 h0 (nI pb) kd mo st (nI jg) ro tp (nI td) cd sr (nI tx) (nI ru) him ir ih ss sq ce lw s19 s20 s21 s22 wo he s25 s26 s27 sk na kp s31 s32 s33 s34 gb go fa ga s39 s40 vo, zi G st 12 fst] sz)) 0 0 (va_A [zo6 h0 (nI pb) kd mo st (nI jg) ro tp (nI td) cd sr (nI tx) (nI ru) him ir ih ss sq ce lw s19 s20 s21 s22 wo he s25 s26 s27 sk na kp s31 s32 s33 s34 gb go fa ga s39 s40 vo, zi G st 12 fst] sz) := by
  refine Met.ofW (cc := cX6_put) (maxL := 5) (ret := (some .int)) (by decide +kernel) rfl ?_
  intro p e s m args below meth c s₁ B hml hv
  obtain ⟨rfl, hsz, hP, hK, hD0⟩ := hv
  have hx := B.exec
  have hb := B.bytes
  have hr := B.returns
  have hts := atoms_spec (ws := wsX6_put) B.pre
  have hown : s.vm.findClass RX6 = some m.cls := findClass_of_methodNamed B.named
  have hlocks := B.notSynchronized
  subst hsz
  have hD := hD0.self (sz := s.heap.size)
  generalize hAe : va_A [zo6 h0 (nI pb) kd mo st (nI jg) ro tp (nI td) cd sr (nI tx) (nI ru) him ir ih ss sq ce lw s19 s20 s21 s22 wo he s25 s26 s27 sk na kp s31 s32 s33 s34 gb go fa ga s39 s40 vo, zi G st 12 fst] s.heap.size = A at hD ⊢
  have hA : ∀ q : Nat, s.heap.size ≤ q → A q := fun q h => by rw [← hAe]; exact Or.inr h
  have hS : va_S A s.heap s.heap [] := va_S.rf
  have hz9 : gPD G A [zo6 h0 (nI pb) kd mo st (nI jg) ro tp (nI td) cd sr (nI tx) (nI ru) him ir ih ss sq ce lw s19 s20 s21 s22 wo he s25 s26 s27 sk na kp s31 s32 s33 s34 gb go fa ga s39 s40 vo, zi G st 12 fst] s.heap := ⟨hP, hD⟩
  have hP := hz9.1
  have hD := hz9.2
  have hl := lv_entry ([.ref h0, .int v0, .int v1, .int v2]) (n := 5) (Nat.le_of_ble_eq_true rfl)
  rw [lg_entry_eq]
  generalize (lg_sl ([.ref h0, .int v0, .int v1, .int v2]) ++ List.replicate (5 - (lg_sl ([.ref h0, .int v0, .int v1, .int v2])).length) Slot.unset).toArray = ls at hl ⊢
  have hl : lv_has ls 5 [zR 0 h0, zI 1 v0, zI 2 v1, zI 3 v2] := hl
  have kf16 := hts (.fieldLink RX6 16 "PebbleInShoeModel" "stones" "[I") (by decide +kernel)
  have hiX6 := (by decide +kernel : ∀ w ∈ wsX60, w ∈ wsX6_put)
  refine lv_aload_n hx hb dX6_put_0 rfl (lv_at hl 0 rfl) ?_
  refine lv_iload_n hx hb dX6_put_1 rfl (lv_at hl 1 rfl) ?_
  refine z_calli [0] (v := bz (mHas pb v0)) (fun _ _ h => h) (va_runV (As := [.int v0]) (rest := []) ⟨hx, hb, hml, hown, hts⟩ (c_X6_isPebble l G h0 kd mo st ro tp cd sr ir ih ss sq ce lw wo he sk na kp gb go fa ga vo pb jg td tx ru him s19 s20 s21 s22 s25 s26 s27 s31 s32 s33 s34 s39 s40 v0 s.heap.size (by first | exact hpb | assumption | omega) (by first | exact hjg | assumption | omega) (by first | exact htx | assumption | omega) (by first | exact hru | assumption | omega)) (cwV 1 hts gX6_put_X6_isPebble rfl rfl rfl (by decide +kernel) ⟨Nat.le_of_ble_eq_true rfl, Nat.le_of_ble_eq_true rfl⟩) ⟨gPre_blind, va_recv (q := (RX6, TX6, 42)) hK hP (ci := 6) (q0 := 0) rfl rfl, fun U hU hW => gPre_ofF [0] hU hW hK hP hD (by decide +kernel) rfl⟩ rfl rfl hl.1 rfl (lv_room (Nat.le_of_ble_eq_true rfl)) dX6_put_2 ⟨Nat.le_of_ble_eq_true rfl, Nat.le_of_ble_eq_true rfl⟩) hS hD hA rfl (fun u t H locs ht hvm hB hz1 hk1 hFq hAq hS => ?_)
  obtain ⟨hP1, hK1, hD1⟩ := hB
  have hP := zKeep hP hD [0] hAq hk1 ht hP1 rfl
  refine lv_if_ne (tgt := 11) hx hb dX6_put_5 (by decide +kernel) (fun c_3 => ?_) (fun c_3 => ?_)
  · skip
    have p_4 : (mHas pb v0) = true := bz_ne rfl c_3
    have hv_6 : v0 = nI (nC v0) := mHas_eq p_4
    have hk_7 : nC v0 < pb := mHas_lt (by omega) p_4
    refine lv_iload_n hx hb dX6_put_11 rfl (lv_at hl 2 rfl) ?_
    refine lv_iconst (v := 0) hx hb dX6_put_12 (by decide +kernel) ?_
    refine lv_iconst (v := 1) hx hb dX6_put_13 (by decide +kernel) ?_
    refine z_calli [] (v := bz (decide (0 ≤ v1 ∧ v1 ≤ 1))) (fun _ _ h => h) (va_runS (As := [.int v1, .int 0, .int 1]) (rest := []) ⟨hx, hb, hml, hown, hts⟩ (c_X6_in l G v1 0 1 H.size) (va_cwS 3 hts gX6_put_X6_in rfl rfl rfl (by decide +kernel) ⟨Nat.le_of_ble_eq_true rfl, Nat.le_of_ble_eq_true rfl⟩) ⟨gPre_blind, fun U hU hW => gPre_ofF [] hU hW hK hP hD (by decide +kernel) rfl⟩ rfl rfl hl.1 rfl (lv_room (Nat.le_of_ble_eq_true rfl)) dX6_put_14 ⟨Nat.le_of_ble_eq_true rfl, Nat.le_of_ble_eq_true rfl⟩) hS hD hA rfl (fun u t H locs ht hvm hB hz1 hk1 hFq hAq hS => ?_)
    obtain ⟨hP1, hK1, hD1⟩ := hB
    have hP := zKeep hP hD [] hAq hk1 ht hP1 rfl
    refine lv_if_eq (tgt := 30) hx hb dX6_put_17 (by decide +kernel) (fun c_10 => ?_) (fun c_10 => ?_)
    · skip
      have n_12 : ¬ (0 ≤ v1 ∧ v1 ≤ 1) := of_decide_eq_false (bz_eq rfl c_10)
      refine lv_bipush (v := -7) hx hb dX6_put_30 (by decide +kernel) ?_
      have q_15 : m_X6_put_st pb fst v0 v1 v2 = fst := by unfold m_X6_put_st; rw [if_pos p_4, if_neg n_12]
      have hz9 : gPD G A [zo6 h0 (nI pb) kd mo st (nI jg) ro tp (nI td) cd sr (nI tx) (nI ru) him ir ih ss sq ce lw s19 s20 s21 s22 wo he s25 s26 s27 sk na kp s31 s32 s33 s34 gb go fa ga s39 s40 vo, zi G st 12 (m_X6_put_st pb fst v0 v1 v2)] H := ⟨by rw [q_15]; exact hP, by rw [q_15]; exact hD⟩
      have hP9 := hz9.1
      have hD9 := hz9.2
      have hpost : (fun (r : Int32) (u : Unit) => match u with | _ => r = m_X6_put pb fst v0 v1 v2) (-7) () := (show m_X6_put pb fst v0 v1 v2 = (-7) from by unfold m_X6_put; rw [if_pos p_4, if_neg n_12]).symm
      exact W.iret (v := (-7)) hx hb hr (fun t ht hW => ⟨⟨(-7), (), rfl, hpost, by rw [ht]; exact hP9, va_K.moved hW.alike hK, hD9⟩, hS.F ht⟩) hS.2.2 dX6_put_32
    · skip
      have p_11 : 0 ≤ v1 ∧ v1 ≤ 1 := of_decide_eq_true (bz_ne rfl c_10)
      have hv_13 : v1 = nI (nC v1) := nC_eq p_11.1
      have hk_14 : nC v1 ≤ 1 := nC_le (n := 1) (by omega) p_11
      refine lv_iload_n hx hb dX6_put_20 rfl (lv_at hl 3 rfl) ?_
      refine lv_iconst (v := 0) hx hb dX6_put_21 (by decide +kernel) ?_
      refine lv_bipush (v := 99) hx hb dX6_put_22 (by decide +kernel) ?_
      refine z_calli [] (v := bz (decide (0 ≤ v2 ∧ v2 ≤ 99))) (fun _ _ h => h) (va_runS (As := [.int v2, .int 0, .int 99]) (rest := []) ⟨hx, hb, hml, hown, hts⟩ (c_X6_in l G v2 0 99 H.size) (va_cwS 3 hts gX6_put_X6_in rfl rfl rfl (by decide +kernel) ⟨Nat.le_of_ble_eq_true rfl, Nat.le_of_ble_eq_true rfl⟩) ⟨gPre_blind, fun U hU hW => gPre_ofF [] hU hW hK hP hD (by decide +kernel) rfl⟩ rfl rfl hl.1 rfl (lv_room (Nat.le_of_ble_eq_true rfl)) dX6_put_24 ⟨Nat.le_of_ble_eq_true rfl, Nat.le_of_ble_eq_true rfl⟩) hS hD hA rfl (fun u t H locs ht hvm hB hz1 hk1 hFq hAq hS => ?_)
      obtain ⟨hP1, hK1, hD1⟩ := hB
      have hP := zKeep hP hD [] hAq hk1 ht hP1 rfl
      refine lv_if_ne (tgt := 33) hx hb dX6_put_27 (by decide +kernel) (fun c_18 => ?_) (fun c_18 => ?_)
      · skip
        have p_19 : 0 ≤ v2 ∧ v2 ≤ 99 := of_decide_eq_true (bz_ne rfl c_18)
        have hv_21 : v2 = nI (nC v2) := nC_eq p_19.1
        have hk_22 : nC v2 ≤ 99 := nC_le (n := 99) (by omega) p_19
        refine g_aget (D := G.1) (ci := 6) (v := .ref st) (C := RX6) (T := TX6) (N := 42) hx hb dX6_put_33 rfl (lv_at hl 0 rfl) hts hiX6 hown hK hP 0 rfl rfl 3 (by decide +kernel) kf16 (fun _ h9 => h9) rfl dX6_put_34 ?_
        refine lv_iconst (v := 2) hx hb dX6_put_37 (by decide +kernel) ?_
        refine lv_iload_n hx hb dX6_put_38 rfl (lv_at hl 1 rfl) ?_
        refine g_topi (y := nI (nC v0)) hv_6 ?_
        refine lv_imul hx hb dX6_put_39 ?_
        refine g_topi (y := nI (2 * (nC v0))) (pk_mul 2 (nC v0)) ?_
        refine lv_iload_n hx hb dX6_put_40 rfl (lv_at hl 2 rfl) ?_
        refine g_topi (y := nI (nC v1)) hv_13 ?_
        refine lv_iadd hx hb dX6_put_41 ?_
        refine g_topi (y := nI ((2 * (nC v0)) + (nC v1))) (nI_add (2 * (nC v0)) (nC v1)) ?_
        refine g_iald (D := G.1) hx hb hK hP 1 0 rfl rfl (k := (2 * (nC v0)) + (nC v1)) (y := fst ((2 * (nC v0)) + (nC v1))) (by omega) rfl rfl dX6_put_42 ?_
        refine lv_istore (lv' := [zI 4 (fst ((2 * (nC v0)) + (nC v1))), zR 0 h0, zI 1 v0, zI 2 v1, zI 3 v2]) hx hb dX6_put_43 hl (by decide +kernel) rfl (fun ls hl => ?_)
        refine g_aget (D := G.1) (ci := 6) (v := .ref st) (C := RX6) (T := TX6) (N := 42) hx hb dX6_put_45 rfl (lv_at hl 1 rfl) hts hiX6 hown hK hP 0 rfl rfl 3 (by decide +kernel) kf16 (fun _ h9 => h9) rfl dX6_put_46 ?_
        refine lv_iconst (v := 2) hx hb dX6_put_49 (by decide +kernel) ?_
        refine lv_iload_n hx hb dX6_put_50 rfl (lv_at hl 2 rfl) ?_
        refine g_topi (y := nI (nC v0)) hv_6 ?_
        refine lv_imul hx hb dX6_put_51 ?_
        refine g_topi (y := nI (2 * (nC v0))) (pk_mul 2 (nC v0)) ?_
        refine lv_iload_n hx hb dX6_put_52 rfl (lv_at hl 3 rfl) ?_
        refine g_topi (y := nI (nC v1)) hv_13 ?_
        refine lv_iadd hx hb dX6_put_53 ?_
        refine g_topi (y := nI ((2 * (nC v0)) + (nC v1))) (nI_add (2 * (nC v0)) (nC v1)) ?_
        refine lv_iload_n hx hb dX6_put_54 rfl (lv_at hl 4 rfl) ?_
        refine g_topi (y := nI (nC v2)) hv_21 ?_
        refine g_iast (D := G.1) hx hb hK hP hD hS 1 0 rfl rfl (k := (2 * (nC v0)) + (nC v1)) (x := (nI (nC v2))) (by omega) rfl dX6_put_55 (fun H locs hP hD hS => ?_)
        have hz9 : gPD G A [zo6 h0 (nI pb) kd mo st (nI jg) ro tp (nI td) cd sr (nI tx) (nI ru) him ir ih ss sq ce lw s19 s20 s21 s22 wo he s25 s26 s27 sk na kp s31 s32 s33 s34 gb go fa ga s39 s40 vo, zi G st 12 (upd fst ((2 * (nC v0)) + (nC v1)) (nI (nC v2)))] H := ⟨hP, hD⟩
        have hP := hz9.1
        have hD := hz9.2
        refine lv_iload hx hb dX6_put_56 (lv_at hl 0 rfl) ?_
        have q_33 : m_X6_put_st pb fst v0 v1 v2 = upd fst ((2 * (nC v0)) + (nC v1)) (nI (nC v2)) := by unfold m_X6_put_st; rw [if_pos p_4, if_pos p_11, if_pos p_19]
        have hz9 : gPD G A [zo6 h0 (nI pb) kd mo st (nI jg) ro tp (nI td) cd sr (nI tx) (nI ru) him ir ih ss sq ce lw s19 s20 s21 s22 wo he s25 s26 s27 sk na kp s31 s32 s33 s34 gb go fa ga s39 s40 vo, zi G st 12 (m_X6_put_st pb fst v0 v1 v2)] H := ⟨by rw [q_33]; exact hP, by rw [q_33]; exact hD⟩
        have hP9 := hz9.1
        have hD9 := hz9.2
        have hpost : (fun (r : Int32) (u : Unit) => match u with | _ => r = m_X6_put pb fst v0 v1 v2) (fst ((2 * (nC v0)) + (nC v1))) () := (show m_X6_put pb fst v0 v1 v2 = (fst ((2 * (nC v0)) + (nC v1))) from by unfold m_X6_put; rw [if_pos p_4, if_pos p_11, if_pos p_19]).symm
        exact W.iret (v := (fst ((2 * (nC v0)) + (nC v1)))) hx hb hr (fun t ht hW => ⟨⟨(fst ((2 * (nC v0)) + (nC v1))), (), rfl, hpost, by rw [ht]; exact hP9, va_K.moved hW.alike hK, hD9⟩, hS.F ht⟩) hS.2.2 dX6_put_58
      · skip
        have n_20 : ¬ (0 ≤ v2 ∧ v2 ≤ 99) := of_decide_eq_false (bz_eq rfl c_18)
        refine lv_bipush (v := -7) hx hb dX6_put_30 (by decide +kernel) ?_
        have q_34 : m_X6_put_st pb fst v0 v1 v2 = fst := by unfold m_X6_put_st; rw [if_pos p_4, if_pos p_11, if_neg n_20]
        have hz9 : gPD G A [zo6 h0 (nI pb) kd mo st (nI jg) ro tp (nI td) cd sr (nI tx) (nI ru) him ir ih ss sq ce lw s19 s20 s21 s22 wo he s25 s26 s27 sk na kp s31 s32 s33 s34 gb go fa ga s39 s40 vo, zi G st 12 (m_X6_put_st pb fst v0 v1 v2)] H := ⟨by rw [q_34]; exact hP, by rw [q_34]; exact hD⟩
        have hP9 := hz9.1
        have hD9 := hz9.2
        have hpost : (fun (r : Int32) (u : Unit) => match u with | _ => r = m_X6_put pb fst v0 v1 v2) (-7) () := (show m_X6_put pb fst v0 v1 v2 = (-7) from by unfold m_X6_put; rw [if_pos p_4, if_pos p_11, if_neg n_20]).symm
        exact W.iret (v := (-7)) hx hb hr (fun t ht hW => ⟨⟨(-7), (), rfl, hpost, by rw [ht]; exact hP9, va_K.moved hW.alike hK, hD9⟩, hS.F ht⟩) hS.2.2 dX6_put_32
  · skip
    have n_5 : (mHas pb v0) = false := bz_eq rfl c_3
    have n_5N : ¬ ((mHas pb v0) = true) := by rw [n_5]; decide
    refine lv_bipush (v := -5) hx hb dX6_put_8 (by decide +kernel) ?_
    have q_35 : m_X6_put_st pb fst v0 v1 v2 = fst := by unfold m_X6_put_st; rw [if_neg n_5N]
    have hz9 : gPD G A [zo6 h0 (nI pb) kd mo st (nI jg) ro tp (nI td) cd sr (nI tx) (nI ru) him ir ih ss sq ce lw s19 s20 s21 s22 wo he s25 s26 s27 sk na kp s31 s32 s33 s34 gb go fa ga s39 s40 vo, zi G st 12 (m_X6_put_st pb fst v0 v1 v2)] H := ⟨by rw [q_35]; exact hP, by rw [q_35]; exact hD⟩
    have hP9 := hz9.1
    have hD9 := hz9.2
    have hpost : (fun (r : Int32) (u : Unit) => match u with | _ => r = m_X6_put pb fst v0 v1 v2) (-5) () := (show m_X6_put pb fst v0 v1 v2 = (-5) from by unfold m_X6_put; rw [if_neg n_5N]).symm
    exact W.iret (v := (-5)) hx hb hr (fun t ht hW => ⟨⟨(-5), (), rfl, hpost, by rw [ht]; exact hP9, va_K.moved hW.alike hK, hD9⟩, hS.F ht⟩) hS.2.2 dX6_put_10
noncomputable def m_X6_told (pb : Nat) (fkd : Nat → Int32) (fmo : Nat → Int32) (fst : Nat → Int32) (v0 : Int32) (v1 : Int32) : Int32 := if (mHas pb v0) = true then (if v1 = 0 then fkd (nC v0) else (if v1 = 1 then fmo (nC v0) else (if v1 = 2 then fst (((2 * (nC v0)) + 2) - 2) else (if v1 = 3 then fst (((2 * (nC v0)) + 3) - 2) else (if v1 = 4 then (if (m_X6_isSand fst fkd fmo (nC v0)) = 0 then 0 else 1) else -7))))) else -5
abbrev q_X6_told (G : gG) (h0 kd mo st ro tp cd sr ir ih ss sq ce lw wo he sk na kp gb go fa ga vo : Nat) (pb : Nat) (jg : Nat) (td : Nat) (tx : Nat) (ru : Nat) (him : Int32) (s19 : Int32) (s20 : Int32) (s21 : Int32) (s22 : Int32) (s25 : Int32) (s26 : Int32) (s27 : Int32) (s31 : Int32) (s32 : Int32) (s33 : Int32) (s34 : Int32) (s39 : Int32) (s40 : Int32) (fkd : Nat → Int32) (fmo : Nat → Int32) (fst : Nat → Int32) (v0 : Int32) (v1 : Int32) (A : Nat → Prop) : Array Value → State → Outcome → State → Prop := va_Qi (fun (r : Int32) (u : Unit) => match u with | _ => r = m_X6_told pb fkd fmo fst v0 v1) (fun (u : Unit) t => match u with | _ => va_P G.1 vwCl [zo6 h0 (nI pb) kd mo st (nI jg) ro tp (nI td) cd sr (nI tx) (nI ru) him ir ih ss sq ce lw s19 s20 s21 s22 wo he s25 s26 s27 sk na kp s31 s32 s33 s34 gb go fa ga s39 s40 vo, zi G kd 6 fkd, zi G mo 6 fmo, zi G st 12 fst] t.heap ∧ gK G t ∧ va_D A [zo6 h0 (nI pb) kd mo st (nI jg) ro tp (nI td) cd sr (nI tx) (nI ru) him ir ih ss sq ce lw s19 s20 s21 s22 wo he s25 s26 s27 sk na kp s31 s32 s33 s34 gb go fa ga s39 s40 vo, zi G kd 6 fkd, zi G mo 6 fmo, zi G st 12 fst]) A
set_option maxHeartbeats 4000000 in
set_option maxRecDepth 100000 in
theorem c_X6_told (l : Launch) (G : gG) (h0 kd mo st ro tp cd sr ir ih ss sq ce lw wo he sk na kp gb go fa ga vo : Nat) (pb : Nat) (jg : Nat) (td : Nat) (tx : Nat) (ru : Nat) (him : Int32) (s19 : Int32) (s20 : Int32) (s21 : Int32) (s22 : Int32) (s25 : Int32) (s26 : Int32) (s27 : Int32) (s31 : Int32) (s32 : Int32) (s33 : Int32) (s34 : Int32) (s39 : Int32) (s40 : Int32) (fkd : Nat → Int32) (fmo : Nat → Int32) (fst : Nat → Int32) (v0 : Int32) (v1 : Int32) (sz : Nat) (hpb : pb ≤ 6) (hjg : jg ≤ 4) (htx : tx ≤ 6) (hru : ru < tx) : Met l yX6_told wsX6_told ({ frames := 2, cells := 0, slots := 0, locals := 43 }) (gPre G [.ref h0, .int v0, .int v1] [zo6 h0 (nI pb) kd mo st (nI jg) ro tp (nI td) cd sr (nI tx) (nI ru) him ir ih ss sq ce lw s19 s20 s21 s22 wo he s25 s26 s27 sk na kp s31 s32 s33 s34 gb go fa ga s39 s40 vo, zi G kd 6 fkd, zi G mo 6 fmo, zi G st 12 fst] sz) (q_X6_told G h0 kd mo st ro tp cd sr ir ih ss sq ce lw wo he sk na kp gb go fa ga vo pb jg td tx ru him s19 s20 s21 s22 s25 s26 s27 s31 s32 s33 s34 s39 s40 fkd fmo fst v0 v1 (va_A [zo6 h0 (nI pb) kd mo st (nI jg) ro tp (nI td) cd sr (nI tx) (nI ru) him ir ih ss sq ce lw s19 s20 s21 s22 wo he s25 s26 s27 sk na kp s31 s32 s33 s34 gb go fa ga s39 s40 vo, zi G kd 6 fkd, zi G mo 6 fmo, zi G st 12 fst] sz)) 0 0 (va_A [zo6 h0 (nI pb) kd mo st (nI jg) ro tp (nI td) cd sr (nI tx) (nI ru) him ir ih ss sq ce lw s19 s20 s21 s22 wo he s25 s26 s27 sk na kp s31 s32 s33 s34 gb go fa ga s39 s40 vo, zi G kd 6 fkd, zi G mo 6 fmo, zi G st 12 fst] sz) := by
  refine Met.ofW (cc := cX6_told) (maxL := 3) (ret := (some .int)) (by decide +kernel) rfl ?_
  intro p e s m args below meth c s₁ B hml hv
  obtain ⟨rfl, hsz, hP, hK, hD0⟩ := hv
  have hx := B.exec
  have hb := B.bytes
  have hr := B.returns
  have hts := atoms_spec (ws := wsX6_told) B.pre
  have hown : s.vm.findClass RX6 = some m.cls := findClass_of_methodNamed B.named
  have hlocks := B.notSynchronized
  subst hsz
  have hD := hD0.self (sz := s.heap.size)
  generalize hAe : va_A [zo6 h0 (nI pb) kd mo st (nI jg) ro tp (nI td) cd sr (nI tx) (nI ru) him ir ih ss sq ce lw s19 s20 s21 s22 wo he s25 s26 s27 sk na kp s31 s32 s33 s34 gb go fa ga s39 s40 vo, zi G kd 6 fkd, zi G mo 6 fmo, zi G st 12 fst] s.heap.size = A at hD ⊢
  have hA : ∀ q : Nat, s.heap.size ≤ q → A q := fun q h => by rw [← hAe]; exact Or.inr h
  have hS : va_S A s.heap s.heap [] := va_S.rf
  have hz9 : gPD G A [zo6 h0 (nI pb) kd mo st (nI jg) ro tp (nI td) cd sr (nI tx) (nI ru) him ir ih ss sq ce lw s19 s20 s21 s22 wo he s25 s26 s27 sk na kp s31 s32 s33 s34 gb go fa ga s39 s40 vo, zi G kd 6 fkd, zi G mo 6 fmo, zi G st 12 fst] s.heap := ⟨hP, hD⟩
  have hP := hz9.1
  have hD := hz9.2
  have hl := lv_entry ([.ref h0, .int v0, .int v1]) (n := 3) (Nat.le_of_ble_eq_true rfl)
  rw [lg_entry_eq]
  generalize (lg_sl ([.ref h0, .int v0, .int v1]) ++ List.replicate (3 - (lg_sl ([.ref h0, .int v0, .int v1])).length) Slot.unset).toArray = ls at hl ⊢
  have hl : lv_has ls 3 [zR 0 h0, zI 1 v0, zI 2 v1] := hl
  have kf7 := hts (.fieldLink RX6 7 "PebbleInShoeModel" "kind" "[I") (by decide +kernel)
  have hiX6 := (by decide +kernel : ∀ w ∈ wsX60, w ∈ wsX6_told)
  have kf13 := hts (.fieldLink RX6 13 "PebbleInShoeModel" "moreOf" "[I") (by decide +kernel)
  have kf16 := hts (.fieldLink RX6 16 "PebbleInShoeModel" "stones" "[I") (by decide +kernel)
  refine lv_aload_n hx hb dX6_told_0 rfl (lv_at hl 0 rfl) ?_
  refine lv_iload_n hx hb dX6_told_1 rfl (lv_at hl 1 rfl) ?_
  refine z_calli [0] (v := bz (mHas pb v0)) (fun _ _ h => h) (va_runV (As := [.int v0]) (rest := []) ⟨hx, hb, hml, hown, hts⟩ (c_X6_isPebble l G h0 kd mo st ro tp cd sr ir ih ss sq ce lw wo he sk na kp gb go fa ga vo pb jg td tx ru him s19 s20 s21 s22 s25 s26 s27 s31 s32 s33 s34 s39 s40 v0 s.heap.size (by first | exact hpb | assumption | omega) (by first | exact hjg | assumption | omega) (by first | exact htx | assumption | omega) (by first | exact hru | assumption | omega)) (cwV 1 hts gX6_told_X6_isPebble rfl rfl rfl (by decide +kernel) ⟨Nat.le_of_ble_eq_true rfl, Nat.le_of_ble_eq_true rfl⟩) ⟨gPre_blind, va_recv (q := (RX6, TX6, 42)) hK hP (ci := 6) (q0 := 0) rfl rfl, fun U hU hW => gPre_ofF [0] hU hW hK hP hD (by decide +kernel) rfl⟩ rfl rfl hl.1 rfl (lv_room (Nat.le_of_ble_eq_true rfl)) dX6_told_2 ⟨Nat.le_of_ble_eq_true rfl, Nat.le_of_ble_eq_true rfl⟩) hS hD hA rfl (fun u t H locs ht hvm hB hz1 hk1 hFq hAq hS => ?_)
  obtain ⟨hP1, hK1, hD1⟩ := hB
  have hP := zKeep hP hD [0] hAq hk1 ht hP1 rfl
  refine lv_if_ne (tgt := 11) hx hb dX6_told_5 (by decide +kernel) (fun c_3 => ?_) (fun c_3 => ?_)
  · skip
    have p_4 : (mHas pb v0) = true := bz_ne rfl c_3
    have hv_6 : v0 = nI (nC v0) := mHas_eq p_4
    have hk_7 : nC v0 < pb := mHas_lt (by omega) p_4
    refine lv_iload_n hx hb dX6_told_11 rfl (lv_at hl 2 rfl) ?_
    by_cases s_8 : v1 = 0
    · skip
      refine lv_tableIn (off := 36) (tgt := 48) hx hb dX6_told_12 (by rw [s_8]; decide) (by rw [s_8]; decide) (by rw [s_8]; decide) (by decide +kernel) ?_
      refine g_aget (D := G.1) (ci := 6) (v := .ref kd) (C := RX6) (T := TX6) (N := 42) hx hb dX6_told_48 rfl (lv_at hl 0 rfl) hts hiX6 hown hK hP 0 rfl rfl 1 (by decide +kernel) kf7 (fun _ h9 => h9) rfl dX6_told_49 ?_
      refine lv_iload_n hx hb dX6_told_52 rfl (lv_at hl 1 rfl) ?_
      refine g_topi (y := nI (nC v0)) hv_6 ?_
      refine g_iald (D := G.1) hx hb hK hP 1 0 rfl rfl (k := nC v0) (y := fkd (nC v0)) (by omega) rfl rfl dX6_told_53 ?_
      have hpost : (fun (r : Int32) (u : Unit) => match u with | _ => r = m_X6_told pb fkd fmo fst v0 v1) (fkd (nC v0)) () := (show m_X6_told pb fkd fmo fst v0 v1 = (fkd (nC v0)) from by unfold m_X6_told; rw [if_pos p_4, if_pos s_8]).symm
      exact W.iret (v := (fkd (nC v0))) hx hb hr (fun t ht hW => ⟨⟨(fkd (nC v0)), (), rfl, hpost, by rw [ht]; exact hP, va_K.moved hW.alike hK, hD⟩, hS.F ht⟩) hS.2.2 dX6_told_54
    by_cases s_11 : v1 = 1
    · skip
      refine lv_tableIn (off := 43) (tgt := 55) hx hb dX6_told_12 (by rw [s_11]; decide) (by rw [s_11]; decide) (by rw [s_11]; decide) (by decide +kernel) ?_
      refine g_aget (D := G.1) (ci := 6) (v := .ref mo) (C := RX6) (T := TX6) (N := 42) hx hb dX6_told_55 rfl (lv_at hl 0 rfl) hts hiX6 hown hK hP 0 rfl rfl 2 (by decide +kernel) kf13 (fun _ h9 => h9) rfl dX6_told_56 ?_
      refine lv_iload_n hx hb dX6_told_59 rfl (lv_at hl 1 rfl) ?_
      refine g_topi (y := nI (nC v0)) hv_6 ?_
      refine g_iald (D := G.1) hx hb hK hP 2 0 rfl rfl (k := nC v0) (y := fmo (nC v0)) (by omega) rfl rfl dX6_told_60 ?_
      have hpost : (fun (r : Int32) (u : Unit) => match u with | _ => r = m_X6_told pb fkd fmo fst v0 v1) (fmo (nC v0)) () := (show m_X6_told pb fkd fmo fst v0 v1 = (fmo (nC v0)) from by unfold m_X6_told; rw [if_pos p_4, if_neg s_8, if_pos s_11]).symm
      exact W.iret (v := (fmo (nC v0))) hx hb hr (fun t ht hW => ⟨⟨(fmo (nC v0)), (), rfl, hpost, by rw [ht]; exact hP, va_K.moved hW.alike hK, hD⟩, hS.F ht⟩) hS.2.2 dX6_told_61
    by_cases s_14 : v1 = 2
    · skip
      refine lv_tableIn (off := 50) (tgt := 62) hx hb dX6_told_12 (by rw [s_14]; decide) (by rw [s_14]; decide) (by rw [s_14]; decide) (by decide +kernel) ?_
      refine g_aget (D := G.1) (ci := 6) (v := .ref st) (C := RX6) (T := TX6) (N := 42) hx hb dX6_told_62 rfl (lv_at hl 0 rfl) hts hiX6 hown hK hP 0 rfl rfl 3 (by decide +kernel) kf16 (fun _ h9 => h9) rfl dX6_told_63 ?_
      refine lv_iconst (v := 2) hx hb dX6_told_66 (by decide +kernel) ?_
      refine lv_iload_n hx hb dX6_told_67 rfl (lv_at hl 1 rfl) ?_
      refine g_topi (y := nI (nC v0)) hv_6 ?_
      refine lv_imul hx hb dX6_told_68 ?_
      refine g_topi (y := nI (2 * (nC v0))) (pk_mul 2 (nC v0)) ?_
      refine lv_iload_n hx hb dX6_told_69 rfl (lv_at hl 2 rfl) ?_
      refine g_topi (y := nI 2) s_14 ?_
      refine lv_iadd hx hb dX6_told_70 ?_
      refine g_topi (y := nI ((2 * (nC v0)) + 2)) (nI_add (2 * (nC v0)) 2) ?_
      refine lv_iconst (v := 2) hx hb dX6_told_71 (by decide +kernel) ?_
      refine lv_isub hx hb dX6_told_72 ?_
      refine g_topi (y := nI (((2 * (nC v0)) + 2) - 2)) (pk_sub (a := ((2 * (nC v0)) + 2)) (b := 2) (by omega)) ?_
      refine g_iald (D := G.1) hx hb hK hP 3 0 rfl rfl (k := ((2 * (nC v0)) + 2) - 2) (y := fst (((2 * (nC v0)) + 2) - 2)) (by omega) rfl rfl dX6_told_73 ?_
      have hpost : (fun (r : Int32) (u : Unit) => match u with | _ => r = m_X6_told pb fkd fmo fst v0 v1) (fst (((2 * (nC v0)) + 2) - 2)) () := (show m_X6_told pb fkd fmo fst v0 v1 = (fst (((2 * (nC v0)) + 2) - 2)) from by unfold m_X6_told; rw [if_pos p_4, if_neg s_8, if_neg s_11, if_pos s_14]).symm
      exact W.iret (v := (fst (((2 * (nC v0)) + 2) - 2))) hx hb hr (fun t ht hW => ⟨⟨(fst (((2 * (nC v0)) + 2) - 2)), (), rfl, hpost, by rw [ht]; exact hP, va_K.moved hW.alike hK, hD⟩, hS.F ht⟩) hS.2.2 dX6_told_74
    by_cases s_21 : v1 = 3
    · skip
      refine lv_tableIn (off := 50) (tgt := 62) hx hb dX6_told_12 (by rw [s_21]; decide) (by rw [s_21]; decide) (by rw [s_21]; decide) (by decide +kernel) ?_
      refine g_aget (D := G.1) (ci := 6) (v := .ref st) (C := RX6) (T := TX6) (N := 42) hx hb dX6_told_62 rfl (lv_at hl 0 rfl) hts hiX6 hown hK hP 0 rfl rfl 3 (by decide +kernel) kf16 (fun _ h9 => h9) rfl dX6_told_63 ?_
      refine lv_iconst (v := 2) hx hb dX6_told_66 (by decide +kernel) ?_
      refine lv_iload_n hx hb dX6_told_67 rfl (lv_at hl 1 rfl) ?_
      refine g_topi (y := nI (nC v0)) hv_6 ?_
      refine lv_imul hx hb dX6_told_68 ?_
      refine g_topi (y := nI (2 * (nC v0))) (pk_mul 2 (nC v0)) ?_
      refine lv_iload_n hx hb dX6_told_69 rfl (lv_at hl 2 rfl) ?_
      refine g_topi (y := nI 3) s_21 ?_
      refine lv_iadd hx hb dX6_told_70 ?_
      refine g_topi (y := nI ((2 * (nC v0)) + 3)) (nI_add (2 * (nC v0)) 3) ?_
      refine lv_iconst (v := 2) hx hb dX6_told_71 (by decide +kernel) ?_
      refine lv_isub hx hb dX6_told_72 ?_
      refine g_topi (y := nI (((2 * (nC v0)) + 3) - 2)) (pk_sub (a := ((2 * (nC v0)) + 3)) (b := 2) (by omega)) ?_
      refine g_iald (D := G.1) hx hb hK hP 3 0 rfl rfl (k := ((2 * (nC v0)) + 3) - 2) (y := fst (((2 * (nC v0)) + 3) - 2)) (by omega) rfl rfl dX6_told_73 ?_
      have hpost : (fun (r : Int32) (u : Unit) => match u with | _ => r = m_X6_told pb fkd fmo fst v0 v1) (fst (((2 * (nC v0)) + 3) - 2)) () := (show m_X6_told pb fkd fmo fst v0 v1 = (fst (((2 * (nC v0)) + 3) - 2)) from by unfold m_X6_told; rw [if_pos p_4, if_neg s_8, if_neg s_11, if_neg s_14, if_pos s_21]).symm
      exact W.iret (v := (fst (((2 * (nC v0)) + 3) - 2))) hx hb hr (fun t ht hW => ⟨⟨(fst (((2 * (nC v0)) + 3) - 2)), (), rfl, hpost, by rw [ht]; exact hP, va_K.moved hW.alike hK, hD⟩, hS.F ht⟩) hS.2.2 dX6_told_74
    by_cases s_28 : v1 = 4
    · skip
      refine lv_tableIn (off := 63) (tgt := 75) hx hb dX6_told_12 (by rw [s_28]; decide) (by rw [s_28]; decide) (by rw [s_28]; decide) (by decide +kernel) ?_
      refine lv_aload_n hx hb dX6_told_75 rfl (lv_at hl 0 rfl) ?_
      refine lv_iload_n hx hb dX6_told_76 rfl (lv_at hl 1 rfl) ?_
      refine g_topi (y := nI (nC v0)) hv_6 ?_
      refine z_calli [0, 3, 1, 2] (v := m_X6_isSand fst fkd fmo (nC v0)) (fun _ _ h => h) (va_runV (As := [.int (nI (nC v0))]) (rest := []) ⟨hx, hb, hml, hown, hts⟩ (c_X6_isSand l G h0 kd mo st ro tp cd sr ir ih ss sq ce lw wo he sk na kp gb go fa ga vo pb jg td tx ru him s19 s20 s21 s22 s25 s26 s27 s31 s32 s33 s34 s39 s40 fst fkd fmo (nC v0) H.size (by first | exact hp | assumption | omega) (by first | exact hpb | assumption | omega) (by first | exact hjg | assumption | omega) (by first | exact htx | assumption | omega) (by first | exact hru | assumption | omega)) (cwV 1 hts gX6_told_X6_isSand rfl rfl rfl (by decide +kernel) ⟨Nat.le_of_ble_eq_true rfl, Nat.le_of_ble_eq_true rfl⟩) ⟨gPre_blind, va_recv (q := (RX6, TX6, 42)) hK hP (ci := 6) (q0 := 0) rfl rfl, fun U hU hW => gPre_ofF [0, 3, 1, 2] hU hW hK hP hD (by decide +kernel) rfl⟩ rfl rfl hl.1 rfl (lv_room (Nat.le_of_ble_eq_true rfl)) dX6_told_77 ⟨Nat.le_of_ble_eq_true rfl, Nat.le_of_ble_eq_true rfl⟩) hS hD hA rfl (fun u t H locs ht hvm hB hz1 hk1 hFq hAq hS => ?_)
      obtain ⟨hP1, hK1, hD1⟩ := hB
      have hP := zKeep hP hD [0, 3, 1, 2] hAq hk1 ht hP1 rfl
      refine lv_if_eq (tgt := 87) hx hb dX6_told_80 (by decide +kernel) (fun c_32 => ?_) (fun c_32 => ?_)
      · skip
        refine lv_iconst (v := 0) hx hb dX6_told_87 (by decide +kernel) ?_
        have hpost : (fun (r : Int32) (u : Unit) => match u with | _ => r = m_X6_told pb fkd fmo fst v0 v1) 0 () := (show m_X6_told pb fkd fmo fst v0 v1 = 0 from by unfold m_X6_told; rw [if_pos p_4, if_neg s_8, if_neg s_11, if_neg s_14, if_neg s_21, if_pos s_28, if_pos c_32]).symm
        exact W.iret (v := 0) hx hb hr (fun t ht hW => ⟨⟨0, (), rfl, hpost, by rw [ht]; exact hP, va_K.moved hW.alike hK, hD⟩, hS.F ht⟩) hS.2.2 dX6_told_88
      · skip
        refine lv_iconst (v := 1) hx hb dX6_told_83 (by decide +kernel) ?_
        refine lv_goto (tgt := 88) hx hb dX6_told_84 (by decide +kernel) ?_
        have hpost : (fun (r : Int32) (u : Unit) => match u with | _ => r = m_X6_told pb fkd fmo fst v0 v1) 1 () := (show m_X6_told pb fkd fmo fst v0 v1 = 1 from by unfold m_X6_told; rw [if_pos p_4, if_neg s_8, if_neg s_11, if_neg s_14, if_neg s_21, if_pos s_28, if_neg c_32]).symm
        exact W.iret (v := 1) hx hb hr (fun t ht hW => ⟨⟨1, (), rfl, hpost, by rw [ht]; exact hP, va_K.moved hW.alike hK, hD⟩, hS.F ht⟩) hS.2.2 dX6_told_88
    have s_8T := lv_neT (a := 0) s_8 (by decide +kernel)
    have s_11T := lv_neT (a := 1) s_11 (by decide +kernel)
    have s_14T := lv_neT (a := 2) s_14 (by decide +kernel)
    have s_21T := lv_neT (a := 3) s_21 (by decide +kernel)
    have s_28T := lv_neT (a := 4) s_28 (by decide +kernel)
    refine lv_tableOut (tgt := 89) hx hb dX6_told_12 (by omega) (by decide +kernel) ?_
    refine lv_bipush (v := -7) hx hb dX6_told_89 (by decide +kernel) ?_
    have hpost : (fun (r : Int32) (u : Unit) => match u with | _ => r = m_X6_told pb fkd fmo fst v0 v1) (-7) () := (show m_X6_told pb fkd fmo fst v0 v1 = (-7) from by unfold m_X6_told; rw [if_pos p_4, if_neg s_8, if_neg s_11, if_neg s_14, if_neg s_21, if_neg s_28]).symm
    exact W.iret (v := (-7)) hx hb hr (fun t ht hW => ⟨⟨(-7), (), rfl, hpost, by rw [ht]; exact hP, va_K.moved hW.alike hK, hD⟩, hS.F ht⟩) hS.2.2 dX6_told_91
  · skip
    have n_5 : (mHas pb v0) = false := bz_eq rfl c_3
    have n_5N : ¬ ((mHas pb v0) = true) := by rw [n_5]; decide
    refine lv_bipush (v := -5) hx hb dX6_told_8 (by decide +kernel) ?_
    have hpost : (fun (r : Int32) (u : Unit) => match u with | _ => r = m_X6_told pb fkd fmo fst v0 v1) (-5) () := (show m_X6_told pb fkd fmo fst v0 v1 = (-5) from by unfold m_X6_told; rw [if_neg n_5N]).symm
    exact W.iret (v := (-5)) hx hb hr (fun t ht hW => ⟨⟨(-5), (), rfl, hpost, by rw [ht]; exact hP, va_K.moved hW.alike hK, hD⟩, hS.F ht⟩) hS.2.2 dX6_told_10
noncomputable def m_X6_force (tx : Nat) (ru : Nat) (v0 : Int32) : Int32 := if 0 ≤ v0 ∧ v0 ≤ (nI (tx - 1)) then nI ru else -2
noncomputable def m_X6_force_h011 (tx : Nat) (ru : Nat) (v0 : Int32) : Nat := if 0 ≤ v0 ∧ v0 ≤ (nI (tx - 1)) then (nC v0) else ru
abbrev q_X6_force (G : gG) (h0 kd mo st ro tp cd sr ir ih ss sq ce lw wo he sk na kp gb go fa ga vo : Nat) (pb : Nat) (jg : Nat) (td : Nat) (tx : Nat) (ru : Nat) (him : Int32) (s19 : Int32) (s20 : Int32) (s21 : Int32) (s22 : Int32) (s25 : Int32) (s26 : Int32) (s27 : Int32) (s31 : Int32) (s32 : Int32) (s33 : Int32) (s34 : Int32) (s39 : Int32) (s40 : Int32) (v0 : Int32) (A : Nat → Prop) : Array Value → State → Outcome → State → Prop := va_Qi (fun (r : Int32) (u : Unit) => match u with | _ => r = m_X6_force tx ru v0) (fun (u : Unit) t => match u with | _ => va_P G.1 vwCl [zo6 h0 (nI pb) kd mo st (nI jg) ro tp (nI td) cd sr (nI tx) (nI (m_X6_force_h011 tx ru v0)) him ir ih ss sq ce lw s19 s20 s21 s22 wo he s25 s26 s27 sk na kp s31 s32 s33 s34 gb go fa ga s39 s40 vo] t.heap ∧ gK G t ∧ va_D A [zo6 h0 (nI pb) kd mo st (nI jg) ro tp (nI td) cd sr (nI tx) (nI (m_X6_force_h011 tx ru v0)) him ir ih ss sq ce lw s19 s20 s21 s22 wo he s25 s26 s27 sk na kp s31 s32 s33 s34 gb go fa ga s39 s40 vo]) A
set_option maxHeartbeats 4000000 in
set_option maxRecDepth 100000 in
theorem c_X6_force (l : Launch) (G : gG) (h0 kd mo st ro tp cd sr ir ih ss sq ce lw wo he sk na kp gb go fa ga vo : Nat) (pb : Nat) (jg : Nat) (td : Nat) (tx : Nat) (ru : Nat) (him : Int32) (s19 : Int32) (s20 : Int32) (s21 : Int32) (s22 : Int32) (s25 : Int32) (s26 : Int32) (s27 : Int32) (s31 : Int32) (s32 : Int32) (s33 : Int32) (s34 : Int32) (s39 : Int32) (s40 : Int32) (v0 : Int32) (sz : Nat) (hpb : pb ≤ 6) (hjg : jg ≤ 4) (htx : tx ≤ 6) (hru : ru < tx) : Met l yX6_force wsX6_force ({ frames := 1, cells := 0, slots := 0, locals := 22 }) (gPre G [.ref h0, .int v0] [zo6 h0 (nI pb) kd mo st (nI jg) ro tp (nI td) cd sr (nI tx) (nI ru) him ir ih ss sq ce lw s19 s20 s21 s22 wo he s25 s26 s27 sk na kp s31 s32 s33 s34 gb go fa ga s39 s40 vo] sz) (q_X6_force G h0 kd mo st ro tp cd sr ir ih ss sq ce lw wo he sk na kp gb go fa ga vo pb jg td tx ru him s19 s20 s21 s22 s25 s26 s27 s31 s32 s33 s34 s39 s40 v0 (va_A [zo6 h0 (nI pb) kd mo st (nI jg) ro tp (nI td) cd sr (nI tx) (nI ru) him ir ih ss sq ce lw s19 s20 s21 s22 wo he s25 s26 s27 sk na kp s31 s32 s33 s34 gb go fa ga s39 s40 vo] sz)) 0 0 (va_A [zo6 h0 (nI pb) kd mo st (nI jg) ro tp (nI td) cd sr (nI tx) (nI ru) him ir ih ss sq ce lw s19 s20 s21 s22 wo he s25 s26 s27 sk na kp s31 s32 s33 s34 gb go fa ga s39 s40 vo] sz) := by
  refine Met.ofW (cc := cX6_force) (maxL := 3) (ret := (some .int)) (by decide +kernel) rfl ?_
  intro p e s m args below meth c s₁ B hml hv
  obtain ⟨rfl, hsz, hP, hK, hD0⟩ := hv
  have hx := B.exec
  have hb := B.bytes
  have hr := B.returns
  have hts := atoms_spec (ws := wsX6_force) B.pre
  have hown : s.vm.findClass RX6 = some m.cls := findClass_of_methodNamed B.named
  have hlocks := B.notSynchronized
  subst hsz
  have hD := hD0.self (sz := s.heap.size)
  generalize hAe : va_A [zo6 h0 (nI pb) kd mo st (nI jg) ro tp (nI td) cd sr (nI tx) (nI ru) him ir ih ss sq ce lw s19 s20 s21 s22 wo he s25 s26 s27 sk na kp s31 s32 s33 s34 gb go fa ga s39 s40 vo] s.heap.size = A at hD ⊢
  have hA : ∀ q : Nat, s.heap.size ≤ q → A q := fun q h => by rw [← hAe]; exact Or.inr h
  have hS : va_S A s.heap s.heap [] := va_S.rf
  have hz9 : gPD G A [zo6 h0 (nI pb) kd mo st (nI jg) ro tp (nI td) cd sr (nI tx) (nI ru) him ir ih ss sq ce lw s19 s20 s21 s22 wo he s25 s26 s27 sk na kp s31 s32 s33 s34 gb go fa ga s39 s40 vo] s.heap := ⟨hP, hD⟩
  have hP := hz9.1
  have hD := hz9.2
  have hl := lv_entry ([.ref h0, .int v0]) (n := 3) (Nat.le_of_ble_eq_true rfl)
  rw [lg_entry_eq]
  generalize (lg_sl ([.ref h0, .int v0]) ++ List.replicate (3 - (lg_sl ([.ref h0, .int v0])).length) Slot.unset).toArray = ls at hl ⊢
  have hl : lv_has ls 3 [zR 0 h0, zI 1 v0] := hl
  have kf98 := hts (.fieldLink RX6 98 "PebbleInShoeModel" "texts" "I") (by decide +kernel)
  have hiX6 := (by decide +kernel : ∀ w ∈ wsX60, w ∈ wsX6_force)
  have kf101 := hts (.fieldLink RX6 101 "PebbleInShoeModel" "rule" "I") (by decide +kernel)
  refine lv_iload_n hx hb dX6_force_0 rfl (lv_at hl 1 rfl) ?_
  refine lv_iconst (v := 0) hx hb dX6_force_1 (by decide +kernel) ?_
  refine g_aget (D := G.1) (ci := 6) (v := .int (nI tx)) (C := RX6) (T := TX6) (N := 42) hx hb dX6_force_2 rfl (lv_at hl 0 rfl) hts hiX6 hown hK hP 0 rfl rfl 10 (by decide +kernel) kf98 (fun _ h9 => h9) rfl dX6_force_3 ?_
  refine lv_iconst (v := 1) hx hb dX6_force_6 (by decide +kernel) ?_
  refine lv_isub hx hb dX6_force_7 ?_
  refine g_topi (y := nI (tx - 1)) (pk_sub (a := tx) (b := 1) (by omega)) ?_
  refine z_calli [] (v := bz (decide (0 ≤ v0 ∧ v0 ≤ (nI (tx - 1))))) (fun _ _ h => h) (va_runS (As := [.int v0, .int 0, .int (nI (tx - 1))]) (rest := []) ⟨hx, hb, hml, hown, hts⟩ (c_X6_in l G v0 0 (nI (tx - 1)) s.heap.size) (va_cwS 3 hts gX6_force_X6_in rfl rfl rfl (by decide +kernel) ⟨Nat.le_of_ble_eq_true rfl, Nat.le_of_ble_eq_true rfl⟩) ⟨gPre_blind, fun U hU hW => gPre_ofF [] hU hW hK hP hD (by decide +kernel) rfl⟩ rfl rfl hl.1 rfl (lv_room (Nat.le_of_ble_eq_true rfl)) dX6_force_8 ⟨Nat.le_of_ble_eq_true rfl, Nat.le_of_ble_eq_true rfl⟩) hS hD hA rfl (fun u t H locs ht hvm hB hz1 hk1 hFq hAq hS => ?_)
  obtain ⟨hP1, hK1, hD1⟩ := hB
  have hP := zKeep hP hD [] hAq hk1 ht hP1 rfl
  refine lv_if_ne (tgt := 17) hx hb dX6_force_11 (by decide +kernel) (fun c_4 => ?_) (fun c_4 => ?_)
  · skip
    have p_5 : 0 ≤ v0 ∧ v0 ≤ (nI (tx - 1)) := of_decide_eq_true (bz_ne rfl c_4)
    have hv_7 : v0 = nI (nC v0) := nC_eq p_5.1
    have hk_8 : nC v0 ≤ (tx - 1) := nC_le (n := (tx - 1)) (by omega) p_5
    refine g_aget (D := G.1) (ci := 6) (v := .int (nI ru)) (C := RX6) (T := TX6) (N := 42) hx hb dX6_force_17 rfl (lv_at hl 0 rfl) hts hiX6 hown hK hP 0 rfl rfl 11 (by decide +kernel) kf101 (fun _ h9 => h9) rfl dX6_force_18 ?_
    refine lv_istore_n (lv' := [zI 2 (nI ru), zR 0 h0, zI 1 v0]) hx hb dX6_force_21 rfl hl (by decide +kernel) rfl (fun ls hl => ?_)
    refine lv_aload_n hx hb dX6_force_22 rfl (lv_at hl 1 rfl) ?_
    refine lv_iload_n hx hb dX6_force_23 rfl (lv_at hl 2 rfl) ?_
    refine g_topi (y := nI (nC v0)) hv_7 ?_
    refine va_put (D := G.1) (ci := 6) (v := .int (nI (nC v0))) (ty := .int) (C := RX6) (T := TX6) (N := 42) hx hb hts hiX6 tyX6 tyX6_ok nmX6 hown hK hP hD hS 0 rfl rfl 11 (by decide +kernel) kf101 (fun _ h9 => h9) rfl (by decide +kernel) rfl rfl (Nat.le_of_ble_eq_true rfl) dX6_force_24 (fun H locs hP hD hS => ?_)
    have hz9 : gPD G A [zo6 h0 (nI pb) kd mo st (nI jg) ro tp (nI td) cd sr (nI tx) (nI (nC v0)) him ir ih ss sq ce lw s19 s20 s21 s22 wo he s25 s26 s27 sk na kp s31 s32 s33 s34 gb go fa ga s39 s40 vo] H := ⟨hP, hD⟩
    have hP := hz9.1
    have hD := hz9.2
    refine lv_iload_n hx hb dX6_force_27 rfl (lv_at hl 0 rfl) ?_
    have q_10 : m_X6_force_h011 tx ru v0 = nC v0 := by unfold m_X6_force_h011; rw [if_pos p_5]
    have hz9 : gPD G A [zo6 h0 (nI pb) kd mo st (nI jg) ro tp (nI td) cd sr (nI tx) (nI (m_X6_force_h011 tx ru v0)) him ir ih ss sq ce lw s19 s20 s21 s22 wo he s25 s26 s27 sk na kp s31 s32 s33 s34 gb go fa ga s39 s40 vo] H := ⟨by rw [q_10]; exact hP, by rw [q_10]; exact hD⟩
    have hP9 := hz9.1
    have hD9 := hz9.2
    have hpost : (fun (r : Int32) (u : Unit) => match u with | _ => r = m_X6_force tx ru v0) (nI ru) () := (show m_X6_force tx ru v0 = (nI ru) from by unfold m_X6_force; rw [if_pos p_5]).symm
    exact W.iret (v := (nI ru)) hx hb hr (fun t ht hW => ⟨⟨(nI ru), (), rfl, hpost, by rw [ht]; exact hP9, va_K.moved hW.alike hK, hD9⟩, hS.F ht⟩) hS.2.2 dX6_force_28
  · skip
    have n_6 : ¬ (0 ≤ v0 ∧ v0 ≤ (nI (tx - 1))) := of_decide_eq_false (bz_eq rfl c_4)
    refine lv_bipush (v := -2) hx hb dX6_force_14 (by decide +kernel) ?_
    have q_11 : m_X6_force_h011 tx ru v0 = ru := by unfold m_X6_force_h011; rw [if_neg n_6]
    have hz9 : gPD G A [zo6 h0 (nI pb) kd mo st (nI jg) ro tp (nI td) cd sr (nI tx) (nI (m_X6_force_h011 tx ru v0)) him ir ih ss sq ce lw s19 s20 s21 s22 wo he s25 s26 s27 sk na kp s31 s32 s33 s34 gb go fa ga s39 s40 vo] H := ⟨by rw [q_11]; exact hP, by rw [q_11]; exact hD⟩
    have hP9 := hz9.1
    have hD9 := hz9.2
    have hpost : (fun (r : Int32) (u : Unit) => match u with | _ => r = m_X6_force tx ru v0) (-2) () := (show m_X6_force tx ru v0 = (-2) from by unfold m_X6_force; rw [if_neg n_6]).symm
    exact W.iret (v := (-2)) hx hb hr (fun t ht hW => ⟨⟨(-2), (), rfl, hpost, by rw [ht]; exact hP9, va_K.moved hW.alike hK, hD9⟩, hS.F ht⟩) hS.2.2 dX6_force_16
noncomputable def m_X6_walk (pb : Nat) (jg : Nat) (ru : Nat) (fst : Nat → Int32) (fro : Nat → Int32) (fmo : Nat → Int32) (fkd : Nat → Int32) (fcd : Nat → Int32) (fsr : Nat → Nat) (v0 : Int32) (v1 : Int32) (v2 : Int32) : Int32 := if (mHas jg v0) = true then (if (mHas pb v1) = true then (if 0 ≤ v2 ∧ v2 ≤ 60 then (if ((fro ((3 * (nC v0)) + 1)) + (nI (nC v2))) ≤ 999 then m_X6_caseOf ru fst fro fmo fkd fcd fsr (nC v0) (nC v1) (nC v2) else -4) else -7) else -5) else -5
noncomputable def m_X6_walk_st (pb : Nat) (jg : Nat) (ru : Nat) (fst : Nat → Int32) (fro : Nat → Int32) (fmo : Nat → Int32) (fkd : Nat → Int32) (fcd : Nat → Int32) (fsr : Nat → Nat) (v0 : Int32) (v1 : Int32) (v2 : Int32) : Nat → Int32 := if (mHas jg v0) = true then (if (mHas pb v1) = true then (if 0 ≤ v2 ∧ v2 ≤ 60 then (if ((fro ((3 * (nC v0)) + 1)) + (nI (nC v2))) ≤ 999 then (m_X6_caseOf_st ru fst fro fmo fkd fcd fsr (nC v0) (nC v1) (nC v2)) else fst) else fst) else fst) else fst
noncomputable def m_X6_walk_ro (pb : Nat) (jg : Nat) (ru : Nat) (fst : Nat → Int32) (fro : Nat → Int32) (fmo : Nat → Int32) (fkd : Nat → Int32) (fcd : Nat → Int32) (fsr : Nat → Nat) (v0 : Int32) (v1 : Int32) (v2 : Int32) : Nat → Int32 := if (mHas jg v0) = true then (if (mHas pb v1) = true then (if 0 ≤ v2 ∧ v2 ≤ 60 then (if ((fro ((3 * (nC v0)) + 1)) + (nI (nC v2))) ≤ 999 then (m_X6_caseOf_ro ru fst fro fmo fkd fcd fsr (nC v0) (nC v1) (nC v2)) else fro) else fro) else fro) else fro
abbrev q_X6_walk (G : gG) (h0 kd mo st ro tp cd sr ir ih ss sq ce lw wo he sk na kp gb go fa ga vo : Nat) (pb : Nat) (jg : Nat) (td : Nat) (tx : Nat) (ru : Nat) (him : Int32) (s19 : Int32) (s20 : Int32) (s21 : Int32) (s22 : Int32) (s25 : Int32) (s26 : Int32) (s27 : Int32) (s31 : Int32) (s32 : Int32) (s33 : Int32) (s34 : Int32) (s39 : Int32) (s40 : Int32) (fst : Nat → Int32) (fro : Nat → Int32) (fmo : Nat → Int32) (fkd : Nat → Int32) (fcd : Nat → Int32) (fsr : Nat → Nat) (fsk : Nat → Int32) (fna : Nat → Int32) (v0 : Int32) (v1 : Int32) (v2 : Int32) (A : Nat → Prop) : Array Value → State → Outcome → State → Prop := va_Qi (fun (r : Int32) (u : (Nat → Int32) × (Nat → Int32)) => match u with | (ysk, yna) => r = m_X6_walk pb jg ru fst fro fmo fkd fcd fsr v0 v1 v2) (fun (u : (Nat → Int32) × (Nat → Int32)) t => match u with | (ysk, yna) => va_P G.1 vwCl [zo6 h0 (nI pb) kd mo st (nI jg) ro tp (nI td) cd sr (nI tx) (nI ru) him ir ih ss sq ce lw s19 s20 s21 s22 wo he s25 s26 s27 sk na kp s31 s32 s33 s34 gb go fa ga s39 s40 vo, zi G st 12 (m_X6_walk_st pb jg ru fst fro fmo fkd fcd fsr v0 v1 v2), zi G ro 12 (m_X6_walk_ro pb jg ru fst fro fmo fkd fcd fsr v0 v1 v2), zi G mo 6 fmo, zi G kd 6 fkd, zi G cd 1200 fcd, zi G sr 24 (nF fsr), zi G sk 200 ysk, zi G na 6 yna] t.heap ∧ gK G t ∧ va_D A [zo6 h0 (nI pb) kd mo st (nI jg) ro tp (nI td) cd sr (nI tx) (nI ru) him ir ih ss sq ce lw s19 s20 s21 s22 wo he s25 s26 s27 sk na kp s31 s32 s33 s34 gb go fa ga s39 s40 vo, zi G st 12 (m_X6_walk_st pb jg ru fst fro fmo fkd fcd fsr v0 v1 v2), zi G ro 12 (m_X6_walk_ro pb jg ru fst fro fmo fkd fcd fsr v0 v1 v2), zi G mo 6 fmo, zi G kd 6 fkd, zi G cd 1200 fcd, zi G sr 24 (nF fsr), zi G sk 200 ysk, zi G na 6 yna]) A
set_option maxHeartbeats 4000000 in
set_option maxRecDepth 100000 in
theorem c_X6_walk (l : Launch) (G : gG) (h0 kd mo st ro tp cd sr ir ih ss sq ce lw wo he sk na kp gb go fa ga vo : Nat) (pb : Nat) (jg : Nat) (td : Nat) (tx : Nat) (ru : Nat) (him : Int32) (s19 : Int32) (s20 : Int32) (s21 : Int32) (s22 : Int32) (s25 : Int32) (s26 : Int32) (s27 : Int32) (s31 : Int32) (s32 : Int32) (s33 : Int32) (s34 : Int32) (s39 : Int32) (s40 : Int32) (fst : Nat → Int32) (fro : Nat → Int32) (fmo : Nat → Int32) (fkd : Nat → Int32) (fcd : Nat → Int32) (fsr : Nat → Nat) (fsk : Nat → Int32) (fna : Nat → Int32) (v0 : Int32) (v1 : Int32) (v2 : Int32) (sz : Nat) (hpb : pb ≤ 6) (hjg : jg ≤ 4) (htx : tx ≤ 6) (hru : ru < tx) (hwa : ∀ t9, t9 < tx → mWf fcd fsr t9) : Met l yX6_walk wsX6_walk ({ frames := 6, cells := 0, slots := 0, locals := 145 }) (gPre G [.ref h0, .int v0, .int v1, .int v2] [zo6 h0 (nI pb) kd mo st (nI jg) ro tp (nI td) cd sr (nI tx) (nI ru) him ir ih ss sq ce lw s19 s20 s21 s22 wo he s25 s26 s27 sk na kp s31 s32 s33 s34 gb go fa ga s39 s40 vo, zi G st 12 fst, zi G ro 12 fro, zi G mo 6 fmo, zi G kd 6 fkd, zi G cd 1200 fcd, zi G sr 24 (nF fsr), zi G sk 200 fsk, zi G na 6 fna] sz) (q_X6_walk G h0 kd mo st ro tp cd sr ir ih ss sq ce lw wo he sk na kp gb go fa ga vo pb jg td tx ru him s19 s20 s21 s22 s25 s26 s27 s31 s32 s33 s34 s39 s40 fst fro fmo fkd fcd fsr fsk fna v0 v1 v2 (va_A [zo6 h0 (nI pb) kd mo st (nI jg) ro tp (nI td) cd sr (nI tx) (nI ru) him ir ih ss sq ce lw s19 s20 s21 s22 wo he s25 s26 s27 sk na kp s31 s32 s33 s34 gb go fa ga s39 s40 vo, zi G st 12 fst, zi G ro 12 fro, zi G mo 6 fmo, zi G kd 6 fkd, zi G cd 1200 fcd, zi G sr 24 (nF fsr), zi G sk 200 fsk, zi G na 6 fna] sz)) 0 0 (va_A [zo6 h0 (nI pb) kd mo st (nI jg) ro tp (nI td) cd sr (nI tx) (nI ru) him ir ih ss sq ce lw s19 s20 s21 s22 wo he s25 s26 s27 sk na kp s31 s32 s33 s34 gb go fa ga s39 s40 vo, zi G st 12 fst, zi G ro 12 fro, zi G mo 6 fmo, zi G kd 6 fkd, zi G cd 1200 fcd, zi G sr 24 (nF fsr), zi G sk 200 fsk, zi G na 6 fna] sz) := by
  refine Met.ofW (cc := cX6_walk) (maxL := 4) (ret := (some .int)) (by decide +kernel) rfl ?_
  intro p e s m args below meth c s₁ B hml hv
  obtain ⟨rfl, hsz, hP, hK, hD0⟩ := hv
  have hx := B.exec
  have hb := B.bytes
  have hr := B.returns
  have hts := atoms_spec (ws := wsX6_walk) B.pre
  have hown : s.vm.findClass RX6 = some m.cls := findClass_of_methodNamed B.named
  have hlocks := B.notSynchronized
  subst hsz
  have hD := hD0.self (sz := s.heap.size)
  generalize hAe : va_A [zo6 h0 (nI pb) kd mo st (nI jg) ro tp (nI td) cd sr (nI tx) (nI ru) him ir ih ss sq ce lw s19 s20 s21 s22 wo he s25 s26 s27 sk na kp s31 s32 s33 s34 gb go fa ga s39 s40 vo, zi G st 12 fst, zi G ro 12 fro, zi G mo 6 fmo, zi G kd 6 fkd, zi G cd 1200 fcd, zi G sr 24 (nF fsr), zi G sk 200 fsk, zi G na 6 fna] s.heap.size = A at hD ⊢
  have hA : ∀ q : Nat, s.heap.size ≤ q → A q := fun q h => by rw [← hAe]; exact Or.inr h
  have hS : va_S A s.heap s.heap [] := va_S.rf
  have hz9 : gPD G A [zo6 h0 (nI pb) kd mo st (nI jg) ro tp (nI td) cd sr (nI tx) (nI ru) him ir ih ss sq ce lw s19 s20 s21 s22 wo he s25 s26 s27 sk na kp s31 s32 s33 s34 gb go fa ga s39 s40 vo, zi G st 12 fst, zi G ro 12 fro, zi G mo 6 fmo, zi G kd 6 fkd, zi G cd 1200 fcd, zi G sr 24 (nF fsr), zi G sk 200 fsk, zi G na 6 fna] s.heap := ⟨hP, hD⟩
  have hP := hz9.1
  have hD := hz9.2
  have hl := lv_entry ([.ref h0, .int v0, .int v1, .int v2]) (n := 4) (Nat.le_of_ble_eq_true rfl)
  rw [lg_entry_eq]
  generalize (lg_sl ([.ref h0, .int v0, .int v1, .int v2]) ++ List.replicate (4 - (lg_sl ([.ref h0, .int v0, .int v1, .int v2])).length) Slot.unset).toArray = ls at hl ⊢
  have hl : lv_has ls 4 [zR 0 h0, zI 1 v0, zI 2 v1, zI 3 v2] := hl
  have kf19 := hts (.fieldLink RX6 19 "PebbleInShoeModel" "rows" "[I") (by decide +kernel)
  have hiX6 := (by decide +kernel : ∀ w ∈ wsX60, w ∈ wsX6_walk)
  refine lv_aload_n hx hb dX6_walk_0 rfl (lv_at hl 0 rfl) ?_
  refine lv_iload_n hx hb dX6_walk_1 rfl (lv_at hl 1 rfl) ?_
  refine z_calli [0] (v := bz (mHas jg v0)) (fun _ _ h => h) (va_runV (As := [.int v0]) (rest := []) ⟨hx, hb, hml, hown, hts⟩ (c_X6_isJudge l G h0 kd mo st ro tp cd sr ir ih ss sq ce lw wo he sk na kp gb go fa ga vo pb jg td tx ru him s19 s20 s21 s22 s25 s26 s27 s31 s32 s33 s34 s39 s40 v0 s.heap.size (by first | exact hpb | assumption | omega) (by first | exact hjg | assumption | omega) (by first | exact htx | assumption | omega) (by first | exact hru | assumption | omega)) (cwV 1 hts gX6_walk_X6_isJudge rfl rfl rfl (by decide +kernel) ⟨Nat.le_of_ble_eq_true rfl, Nat.le_of_ble_eq_true rfl⟩) ⟨gPre_blind, va_recv (q := (RX6, TX6, 42)) hK hP (ci := 6) (q0 := 0) rfl rfl, fun U hU hW => gPre_ofF [0] hU hW hK hP hD (by decide +kernel) rfl⟩ rfl rfl hl.1 rfl (lv_room (Nat.le_of_ble_eq_true rfl)) dX6_walk_2 ⟨Nat.le_of_ble_eq_true rfl, Nat.le_of_ble_eq_true rfl⟩) hS hD hA rfl (fun u t H locs ht hvm hB hz1 hk1 hFq hAq hS => ?_)
  obtain ⟨hP1, hK1, hD1⟩ := hB
  have hP := zKeep hP hD [0] hAq hk1 ht hP1 rfl
  refine lv_if_eq (tgt := 16) hx hb dX6_walk_5 (by decide +kernel) (fun c_3 => ?_) (fun c_3 => ?_)
  · skip
    have n_5 : (mHas jg v0) = false := bz_eq rfl c_3
    have n_5N : ¬ ((mHas jg v0) = true) := by rw [n_5]; decide
    refine lv_bipush (v := -5) hx hb dX6_walk_16 (by decide +kernel) ?_
    have q_8 : m_X6_walk_st pb jg ru fst fro fmo fkd fcd fsr v0 v1 v2 = fst := by unfold m_X6_walk_st; rw [if_neg n_5N]
    have q_9 : m_X6_walk_ro pb jg ru fst fro fmo fkd fcd fsr v0 v1 v2 = fro := by unfold m_X6_walk_ro; rw [if_neg n_5N]
    have hz9 : gPD G A [zo6 h0 (nI pb) kd mo st (nI jg) ro tp (nI td) cd sr (nI tx) (nI ru) him ir ih ss sq ce lw s19 s20 s21 s22 wo he s25 s26 s27 sk na kp s31 s32 s33 s34 gb go fa ga s39 s40 vo, zi G st 12 (m_X6_walk_st pb jg ru fst fro fmo fkd fcd fsr v0 v1 v2), zi G ro 12 (m_X6_walk_ro pb jg ru fst fro fmo fkd fcd fsr v0 v1 v2), zi G mo 6 fmo, zi G kd 6 fkd, zi G cd 1200 fcd, zi G sr 24 (nF fsr), zi G sk 200 fsk, zi G na 6 fna] H := ⟨by rw [q_8, q_9]; exact hP, by rw [q_8, q_9]; exact hD⟩
    have hP9 := hz9.1
    have hD9 := hz9.2
    have hpost : (fun (r : Int32) (u : (Nat → Int32) × (Nat → Int32)) => match u with | (ysk, yna) => r = m_X6_walk pb jg ru fst fro fmo fkd fcd fsr v0 v1 v2) (-5) (fsk, fna) := (show m_X6_walk pb jg ru fst fro fmo fkd fcd fsr v0 v1 v2 = (-5) from by unfold m_X6_walk; rw [if_neg n_5N]).symm
    exact W.iret (v := (-5)) hx hb hr (fun t ht hW => ⟨⟨(-5), (fsk, fna), rfl, hpost, by rw [ht]; exact hP9, va_K.moved hW.alike hK, hD9⟩, hS.F ht⟩) hS.2.2 dX6_walk_18
  · skip
    have p_4 : (mHas jg v0) = true := bz_ne rfl c_3
    have hv_6 : v0 = nI (nC v0) := mHas_eq p_4
    have hk_7 : nC v0 < jg := mHas_lt (by omega) p_4
    refine lv_aload_n hx hb dX6_walk_8 rfl (lv_at hl 0 rfl) ?_
    refine lv_iload_n hx hb dX6_walk_9 rfl (lv_at hl 2 rfl) ?_
    refine z_calli [0] (v := bz (mHas pb v1)) (fun _ _ h => h) (va_runV (As := [.int v1]) (rest := []) ⟨hx, hb, hml, hown, hts⟩ (c_X6_isPebble l G h0 kd mo st ro tp cd sr ir ih ss sq ce lw wo he sk na kp gb go fa ga vo pb jg td tx ru him s19 s20 s21 s22 s25 s26 s27 s31 s32 s33 s34 s39 s40 v1 H.size (by first | exact hpb | assumption | omega) (by first | exact hjg | assumption | omega) (by first | exact htx | assumption | omega) (by first | exact hru | assumption | omega)) (cwV 1 hts gX6_walk_X6_isPebble rfl rfl rfl (by decide +kernel) ⟨Nat.le_of_ble_eq_true rfl, Nat.le_of_ble_eq_true rfl⟩) ⟨gPre_blind, va_recv (q := (RX6, TX6, 42)) hK hP (ci := 6) (q0 := 0) rfl rfl, fun U hU hW => gPre_ofF [0] hU hW hK hP hD (by decide +kernel) rfl⟩ rfl rfl hl.1 rfl (lv_room (Nat.le_of_ble_eq_true rfl)) dX6_walk_10 ⟨Nat.le_of_ble_eq_true rfl, Nat.le_of_ble_eq_true rfl⟩) hS hD hA rfl (fun u t H locs ht hvm hB hz1 hk1 hFq hAq hS => ?_)
    obtain ⟨hP1, hK1, hD1⟩ := hB
    have hP := zKeep hP hD [0] hAq hk1 ht hP1 rfl
    refine lv_if_ne (tgt := 19) hx hb dX6_walk_13 (by decide +kernel) (fun c_12 => ?_) (fun c_12 => ?_)
    · skip
      have p_13 : (mHas pb v1) = true := bz_ne rfl c_12
      have hv_15 : v1 = nI (nC v1) := mHas_eq p_13
      have hk_16 : nC v1 < pb := mHas_lt (by omega) p_13
      refine lv_iload_n hx hb dX6_walk_19 rfl (lv_at hl 3 rfl) ?_
      refine z_calli [] (v := bz (decide (0 ≤ v2 ∧ v2 ≤ 60))) (fun _ _ h => h) (va_runS (As := [.int v2]) (rest := []) ⟨hx, hb, hml, hown, hts⟩ (c_X6_isCase l G v2 H.size) (va_cwS 1 hts gX6_walk_X6_isCase rfl rfl rfl (by decide +kernel) ⟨Nat.le_of_ble_eq_true rfl, Nat.le_of_ble_eq_true rfl⟩) ⟨gPre_blind, fun U hU hW => gPre_ofF [] hU hW hK hP hD (by decide +kernel) rfl⟩ rfl rfl hl.1 rfl (lv_room (Nat.le_of_ble_eq_true rfl)) dX6_walk_20 ⟨Nat.le_of_ble_eq_true rfl, Nat.le_of_ble_eq_true rfl⟩) hS hD hA rfl (fun u t H locs ht hvm hB hz1 hk1 hFq hAq hS => ?_)
      obtain ⟨hP1, hK1, hD1⟩ := hB
      have hP := zKeep hP hD [] hAq hk1 ht hP1 rfl
      refine lv_if_ne (tgt := 29) hx hb dX6_walk_23 (by decide +kernel) (fun c_19 => ?_) (fun c_19 => ?_)
      · skip
        have p_20 : 0 ≤ v2 ∧ v2 ≤ 60 := of_decide_eq_true (bz_ne rfl c_19)
        have hv_22 : v2 = nI (nC v2) := nC_eq p_20.1
        have hk_23 : nC v2 ≤ 60 := nC_le (n := 60) (by omega) p_20
        refine g_aget (D := G.1) (ci := 6) (v := .ref ro) (C := RX6) (T := TX6) (N := 42) hx hb dX6_walk_29 rfl (lv_at hl 0 rfl) hts hiX6 hown hK hP 0 rfl rfl 5 (by decide +kernel) kf19 (fun _ h9 => h9) rfl dX6_walk_30 ?_
        refine lv_iconst (v := 3) hx hb dX6_walk_33 (by decide +kernel) ?_
        refine lv_iload_n hx hb dX6_walk_34 rfl (lv_at hl 1 rfl) ?_
        refine g_topi (y := nI (nC v0)) hv_6 ?_
        refine lv_imul hx hb dX6_walk_35 ?_
        refine g_topi (y := nI (3 * (nC v0))) (pk_mul 3 (nC v0)) ?_
        refine lv_iconst (v := 1) hx hb dX6_walk_36 (by decide +kernel) ?_
        refine lv_iadd hx hb dX6_walk_37 ?_
        refine g_topi (y := nI ((3 * (nC v0)) + 1)) (nI_add (3 * (nC v0)) 1) ?_
        refine g_iald (D := G.1) hx hb hK hP 2 0 rfl rfl (k := (3 * (nC v0)) + 1) (y := fro ((3 * (nC v0)) + 1)) (by omega) rfl rfl dX6_walk_38 ?_
        refine lv_iload_n hx hb dX6_walk_39 rfl (lv_at hl 3 rfl) ?_
        refine g_topi (y := nI (nC v2)) hv_22 ?_
        refine lv_iadd hx hb dX6_walk_40 ?_
        refine lv_sipush (v := 999) hx hb dX6_walk_41 (by decide +kernel) ?_
        refine lv_icmp_le (tgt := 52) hx hb dX6_walk_44 (by decide +kernel) (fun c_29 => ?_) (fun c_29 => ?_)
        · skip
          refine lv_aload_n hx hb dX6_walk_52 rfl (lv_at hl 0 rfl) ?_
          refine lv_iload_n hx hb dX6_walk_53 rfl (lv_at hl 1 rfl) ?_
          refine g_topi (y := nI (nC v0)) hv_6 ?_
          refine lv_iload_n hx hb dX6_walk_54 rfl (lv_at hl 2 rfl) ?_
          refine g_topi (y := nI (nC v1)) hv_15 ?_
          refine lv_iload_n hx hb dX6_walk_55 rfl (lv_at hl 3 rfl) ?_
          refine g_topi (y := nI (nC v2)) hv_22 ?_
          refine z_calli [0, 1, 2, 3, 4, 5, 6, 7, 8] (v := m_X6_caseOf ru fst fro fmo fkd fcd fsr (nC v0) (nC v1) (nC v2)) (fun _ ⟨_, _⟩ h => h) (va_runV (As := [.int (nI (nC v0)), .int (nI (nC v1)), .int (nI (nC v2))]) (rest := []) ⟨hx, hb, hml, hown, hts⟩ (c_X6_caseOf l G h0 kd mo st ro tp cd sr ir ih ss sq ce lw wo he sk na kp gb go fa ga vo pb jg td tx ru him s19 s20 s21 s22 s25 s26 s27 s31 s32 s33 s34 s39 s40 fst fro fmo fkd fcd fsr fsk fna (nC v0) (nC v1) (nC v2) H.size (by first | exact hj | assumption | omega) (by first | exact hp | assumption | omega) (by first | exact hnn | assumption | omega) (hwa _ (by omega)) (by first | exact hpb | assumption | omega) (by first | exact hjg | assumption | omega) (by first | exact htx | assumption | omega) (by first | exact hru | assumption | omega)) (cwV 3 hts gX6_walk_X6_caseOf rfl rfl rfl (by decide +kernel) ⟨Nat.le_of_ble_eq_true rfl, Nat.le_of_ble_eq_true rfl⟩) ⟨gPre_blind, va_recv (q := (RX6, TX6, 42)) hK hP (ci := 6) (q0 := 0) rfl rfl, fun U hU hW => gPre_of hU hW hK hP hD⟩ rfl rfl hl.1 rfl (lv_room (Nat.le_of_ble_eq_true rfl)) dX6_walk_56 ⟨Nat.le_of_ble_eq_true rfl, Nat.le_of_ble_eq_true rfl⟩) hS hD hA rfl (fun u t H locs ht hvm hB hz1 hk1 hFq hAq hS => ?_)
          obtain ⟨ysk_35, yna_36⟩ := u
          obtain ⟨hP1, hK1, hD1⟩ := hB
          have hz9 : gPD G A [zo6 h0 (nI pb) kd mo st (nI jg) ro tp (nI td) cd sr (nI tx) (nI ru) him ir ih ss sq ce lw s19 s20 s21 s22 wo he s25 s26 s27 sk na kp s31 s32 s33 s34 gb go fa ga s39 s40 vo, zi G st 12 (m_X6_caseOf_st ru fst fro fmo fkd fcd fsr (nC v0) (nC v1) (nC v2)), zi G ro 12 (m_X6_caseOf_ro ru fst fro fmo fkd fcd fsr (nC v0) (nC v1) (nC v2)), zi G mo 6 fmo, zi G kd 6 fkd, zi G cd 1200 fcd, zi G sr 24 (nF fsr), zi G sk 200 ysk_35, zi G na 6 yna_36] H := zFill hP hD [0, 1, 2, 3, 4, 5, 6, 7, 8] [1, 2, 3, 4, 5, 6, 7, 8, 9] hAq hk1 hFq ht hP1 hD1 rfl (by decide +kernel)
          have hP := hz9.1
          have hD := hz9.2
          have q_37 : m_X6_walk_st pb jg ru fst fro fmo fkd fcd fsr v0 v1 v2 = (m_X6_caseOf_st ru fst fro fmo fkd fcd fsr (nC v0) (nC v1) (nC v2)) := by unfold m_X6_walk_st; rw [if_pos p_4, if_pos p_13, if_pos p_20, if_pos c_29]
          have q_38 : m_X6_walk_ro pb jg ru fst fro fmo fkd fcd fsr v0 v1 v2 = (m_X6_caseOf_ro ru fst fro fmo fkd fcd fsr (nC v0) (nC v1) (nC v2)) := by unfold m_X6_walk_ro; rw [if_pos p_4, if_pos p_13, if_pos p_20, if_pos c_29]
          have hz9 : gPD G A [zo6 h0 (nI pb) kd mo st (nI jg) ro tp (nI td) cd sr (nI tx) (nI ru) him ir ih ss sq ce lw s19 s20 s21 s22 wo he s25 s26 s27 sk na kp s31 s32 s33 s34 gb go fa ga s39 s40 vo, zi G st 12 (m_X6_walk_st pb jg ru fst fro fmo fkd fcd fsr v0 v1 v2), zi G ro 12 (m_X6_walk_ro pb jg ru fst fro fmo fkd fcd fsr v0 v1 v2), zi G mo 6 fmo, zi G kd 6 fkd, zi G cd 1200 fcd, zi G sr 24 (nF fsr), zi G sk 200 ysk_35, zi G na 6 yna_36] H := ⟨by rw [q_37, q_38]; exact hP, by rw [q_37, q_38]; exact hD⟩
          have hP9 := hz9.1
          have hD9 := hz9.2
          have hpost : (fun (r : Int32) (u : (Nat → Int32) × (Nat → Int32)) => match u with | (ysk, yna) => r = m_X6_walk pb jg ru fst fro fmo fkd fcd fsr v0 v1 v2) (m_X6_caseOf ru fst fro fmo fkd fcd fsr (nC v0) (nC v1) (nC v2)) (ysk_35, yna_36) := (show m_X6_walk pb jg ru fst fro fmo fkd fcd fsr v0 v1 v2 = (m_X6_caseOf ru fst fro fmo fkd fcd fsr (nC v0) (nC v1) (nC v2)) from by unfold m_X6_walk; rw [if_pos p_4, if_pos p_13, if_pos p_20, if_pos c_29]).symm
          exact W.iret (v := (m_X6_caseOf ru fst fro fmo fkd fcd fsr (nC v0) (nC v1) (nC v2))) hx hb hr (fun t ht hW => ⟨⟨(m_X6_caseOf ru fst fro fmo fkd fcd fsr (nC v0) (nC v1) (nC v2)), (ysk_35, yna_36), rfl, hpost, by rw [ht]; exact hP9, va_K.moved hW.alike hK, hD9⟩, hS.F ht⟩) hS.2.2 dX6_walk_59
        · skip
          refine lv_bipush (v := -4) hx hb dX6_walk_47 (by decide +kernel) ?_
          refine lv_goto (tgt := 59) hx hb dX6_walk_49 (by decide +kernel) ?_
          have q_39 : m_X6_walk_st pb jg ru fst fro fmo fkd fcd fsr v0 v1 v2 = fst := by unfold m_X6_walk_st; rw [if_pos p_4, if_pos p_13, if_pos p_20, if_neg c_29]
          have q_40 : m_X6_walk_ro pb jg ru fst fro fmo fkd fcd fsr v0 v1 v2 = fro := by unfold m_X6_walk_ro; rw [if_pos p_4, if_pos p_13, if_pos p_20, if_neg c_29]
          have hz9 : gPD G A [zo6 h0 (nI pb) kd mo st (nI jg) ro tp (nI td) cd sr (nI tx) (nI ru) him ir ih ss sq ce lw s19 s20 s21 s22 wo he s25 s26 s27 sk na kp s31 s32 s33 s34 gb go fa ga s39 s40 vo, zi G st 12 (m_X6_walk_st pb jg ru fst fro fmo fkd fcd fsr v0 v1 v2), zi G ro 12 (m_X6_walk_ro pb jg ru fst fro fmo fkd fcd fsr v0 v1 v2), zi G mo 6 fmo, zi G kd 6 fkd, zi G cd 1200 fcd, zi G sr 24 (nF fsr), zi G sk 200 fsk, zi G na 6 fna] H := ⟨by rw [q_39, q_40]; exact hP, by rw [q_39, q_40]; exact hD⟩
          have hP9 := hz9.1
          have hD9 := hz9.2
          have hpost : (fun (r : Int32) (u : (Nat → Int32) × (Nat → Int32)) => match u with | (ysk, yna) => r = m_X6_walk pb jg ru fst fro fmo fkd fcd fsr v0 v1 v2) (-4) (fsk, fna) := (show m_X6_walk pb jg ru fst fro fmo fkd fcd fsr v0 v1 v2 = (-4) from by unfold m_X6_walk; rw [if_pos p_4, if_pos p_13, if_pos p_20, if_neg c_29]).symm
          exact W.iret (v := (-4)) hx hb hr (fun t ht hW => ⟨⟨(-4), (fsk, fna), rfl, hpost, by rw [ht]; exact hP9, va_K.moved hW.alike hK, hD9⟩, hS.F ht⟩) hS.2.2 dX6_walk_59
      · skip
        have n_21 : ¬ (0 ≤ v2 ∧ v2 ≤ 60) := of_decide_eq_false (bz_eq rfl c_19)
        refine lv_bipush (v := -7) hx hb dX6_walk_26 (by decide +kernel) ?_
        have q_41 : m_X6_walk_st pb jg ru fst fro fmo fkd fcd fsr v0 v1 v2 = fst := by unfold m_X6_walk_st; rw [if_pos p_4, if_pos p_13, if_neg n_21]
        have q_42 : m_X6_walk_ro pb jg ru fst fro fmo fkd fcd fsr v0 v1 v2 = fro := by unfold m_X6_walk_ro; rw [if_pos p_4, if_pos p_13, if_neg n_21]
        have hz9 : gPD G A [zo6 h0 (nI pb) kd mo st (nI jg) ro tp (nI td) cd sr (nI tx) (nI ru) him ir ih ss sq ce lw s19 s20 s21 s22 wo he s25 s26 s27 sk na kp s31 s32 s33 s34 gb go fa ga s39 s40 vo, zi G st 12 (m_X6_walk_st pb jg ru fst fro fmo fkd fcd fsr v0 v1 v2), zi G ro 12 (m_X6_walk_ro pb jg ru fst fro fmo fkd fcd fsr v0 v1 v2), zi G mo 6 fmo, zi G kd 6 fkd, zi G cd 1200 fcd, zi G sr 24 (nF fsr), zi G sk 200 fsk, zi G na 6 fna] H := ⟨by rw [q_41, q_42]; exact hP, by rw [q_41, q_42]; exact hD⟩
        have hP9 := hz9.1
        have hD9 := hz9.2
        have hpost : (fun (r : Int32) (u : (Nat → Int32) × (Nat → Int32)) => match u with | (ysk, yna) => r = m_X6_walk pb jg ru fst fro fmo fkd fcd fsr v0 v1 v2) (-7) (fsk, fna) := (show m_X6_walk pb jg ru fst fro fmo fkd fcd fsr v0 v1 v2 = (-7) from by unfold m_X6_walk; rw [if_pos p_4, if_pos p_13, if_neg n_21]).symm
        exact W.iret (v := (-7)) hx hb hr (fun t ht hW => ⟨⟨(-7), (fsk, fna), rfl, hpost, by rw [ht]; exact hP9, va_K.moved hW.alike hK, hD9⟩, hS.F ht⟩) hS.2.2 dX6_walk_28
    · skip
      have n_14 : (mHas pb v1) = false := bz_eq rfl c_12
      have n_14N : ¬ ((mHas pb v1) = true) := by rw [n_14]; decide
      refine lv_bipush (v := -5) hx hb dX6_walk_16 (by decide +kernel) ?_
      have q_43 : m_X6_walk_st pb jg ru fst fro fmo fkd fcd fsr v0 v1 v2 = fst := by unfold m_X6_walk_st; rw [if_pos p_4, if_neg n_14N]
      have q_44 : m_X6_walk_ro pb jg ru fst fro fmo fkd fcd fsr v0 v1 v2 = fro := by unfold m_X6_walk_ro; rw [if_pos p_4, if_neg n_14N]
      have hz9 : gPD G A [zo6 h0 (nI pb) kd mo st (nI jg) ro tp (nI td) cd sr (nI tx) (nI ru) him ir ih ss sq ce lw s19 s20 s21 s22 wo he s25 s26 s27 sk na kp s31 s32 s33 s34 gb go fa ga s39 s40 vo, zi G st 12 (m_X6_walk_st pb jg ru fst fro fmo fkd fcd fsr v0 v1 v2), zi G ro 12 (m_X6_walk_ro pb jg ru fst fro fmo fkd fcd fsr v0 v1 v2), zi G mo 6 fmo, zi G kd 6 fkd, zi G cd 1200 fcd, zi G sr 24 (nF fsr), zi G sk 200 fsk, zi G na 6 fna] H := ⟨by rw [q_43, q_44]; exact hP, by rw [q_43, q_44]; exact hD⟩
      have hP9 := hz9.1
      have hD9 := hz9.2
      have hpost : (fun (r : Int32) (u : (Nat → Int32) × (Nat → Int32)) => match u with | (ysk, yna) => r = m_X6_walk pb jg ru fst fro fmo fkd fcd fsr v0 v1 v2) (-5) (fsk, fna) := (show m_X6_walk pb jg ru fst fro fmo fkd fcd fsr v0 v1 v2 = (-5) from by unfold m_X6_walk; rw [if_pos p_4, if_neg n_14N]).symm
      exact W.iret (v := (-5)) hx hb hr (fun t ht hW => ⟨⟨(-5), (fsk, fna), rfl, hpost, by rw [ht]; exact hP9, va_K.moved hW.alike hK, hD9⟩, hS.F ht⟩) hS.2.2 dX6_walk_18
noncomputable def m_X6_hear (pb : Nat) (jg : Nat) (ru : Nat) (fst : Nat → Int32) (fro : Nat → Int32) (fmo : Nat → Int32) (fkd : Nat → Int32) (fcd : Nat → Int32) (fsr : Nat → Nat) (v0 : Int32) (v1 : Int32) (v2 : Int32) (v3 : Int32) : Int32 := if (mHas jg v0) = true then (if (mHas pb v1) = true then (if 0 ≤ v2 ∧ v2 ≤ 60 then (if 0 ≤ v3 ∧ v3 ≤ 3 then m_X6_toldCase (m_X6_heard_h031 ru fst fro fmo fkd fcd fsr (nC v0) (nC v1) (nC v2)) (m_X6_heard_h032 ru fst fro fmo fkd fcd fsr (nC v0) (nC v1) (nC v2)) (m_X6_heard_h033 ru fst fro fmo fkd fcd fsr (nC v0) (nC v1) (nC v2)) (m_X6_heard_h034 ru fst fro fmo fkd fcd fsr (nC v0) (nC v1) (nC v2)) (nI (nC v3)) else -7) else -7) else -5) else -5
noncomputable def m_X6_hear_h031 (pb : Nat) (jg : Nat) (ru : Nat) (s31 : Int32) (fst : Nat → Int32) (fro : Nat → Int32) (fmo : Nat → Int32) (fkd : Nat → Int32) (fcd : Nat → Int32) (fsr : Nat → Nat) (v0 : Int32) (v1 : Int32) (v2 : Int32) (v3 : Int32) : Int32 := if (mHas jg v0) = true then (if (mHas pb v1) = true then (if 0 ≤ v2 ∧ v2 ≤ 60 then (if 0 ≤ v3 ∧ v3 ≤ 3 then (m_X6_heard_h031 ru fst fro fmo fkd fcd fsr (nC v0) (nC v1) (nC v2)) else s31) else s31) else s31) else s31
noncomputable def m_X6_hear_h032 (pb : Nat) (jg : Nat) (ru : Nat) (s32 : Int32) (fst : Nat → Int32) (fro : Nat → Int32) (fmo : Nat → Int32) (fkd : Nat → Int32) (fcd : Nat → Int32) (fsr : Nat → Nat) (v0 : Int32) (v1 : Int32) (v2 : Int32) (v3 : Int32) : Int32 := if (mHas jg v0) = true then (if (mHas pb v1) = true then (if 0 ≤ v2 ∧ v2 ≤ 60 then (if 0 ≤ v3 ∧ v3 ≤ 3 then (m_X6_heard_h032 ru fst fro fmo fkd fcd fsr (nC v0) (nC v1) (nC v2)) else s32) else s32) else s32) else s32
noncomputable def m_X6_hear_h033 (pb : Nat) (jg : Nat) (ru : Nat) (s33 : Int32) (fst : Nat → Int32) (fro : Nat → Int32) (fmo : Nat → Int32) (fkd : Nat → Int32) (fcd : Nat → Int32) (fsr : Nat → Nat) (v0 : Int32) (v1 : Int32) (v2 : Int32) (v3 : Int32) : Int32 := if (mHas jg v0) = true then (if (mHas pb v1) = true then (if 0 ≤ v2 ∧ v2 ≤ 60 then (if 0 ≤ v3 ∧ v3 ≤ 3 then (m_X6_heard_h033 ru fst fro fmo fkd fcd fsr (nC v0) (nC v1) (nC v2)) else s33) else s33) else s33) else s33
noncomputable def m_X6_hear_h034 (pb : Nat) (jg : Nat) (ru : Nat) (s34 : Int32) (fst : Nat → Int32) (fro : Nat → Int32) (fmo : Nat → Int32) (fkd : Nat → Int32) (fcd : Nat → Int32) (fsr : Nat → Nat) (v0 : Int32) (v1 : Int32) (v2 : Int32) (v3 : Int32) : Int32 := if (mHas jg v0) = true then (if (mHas pb v1) = true then (if 0 ≤ v2 ∧ v2 ≤ 60 then (if 0 ≤ v3 ∧ v3 ≤ 3 then (m_X6_heard_h034 ru fst fro fmo fkd fcd fsr (nC v0) (nC v1) (nC v2)) else s34) else s34) else s34) else s34
abbrev q_X6_hear (G : gG) (h0 kd mo st ro tp cd sr ir ih ss sq ce lw wo he sk na kp gb go fa ga vo : Nat) (pb : Nat) (jg : Nat) (td : Nat) (tx : Nat) (ru : Nat) (him : Int32) (s19 : Int32) (s20 : Int32) (s21 : Int32) (s22 : Int32) (s25 : Int32) (s26 : Int32) (s27 : Int32) (s31 : Int32) (s32 : Int32) (s33 : Int32) (s34 : Int32) (s39 : Int32) (s40 : Int32) (fst : Nat → Int32) (fro : Nat → Int32) (fmo : Nat → Int32) (fkd : Nat → Int32) (fcd : Nat → Int32) (fsr : Nat → Nat) (fsk : Nat → Int32) (fna : Nat → Int32) (fkp : Nat → Int32) (v0 : Int32) (v1 : Int32) (v2 : Int32) (v3 : Int32) (A : Nat → Prop) : Array Value → State → Outcome → State → Prop := va_Qi (fun (r : Int32) (u : (Nat → Int32) × (Nat → Int32) × (Nat → Int32)) => match u with | (ysk, yna, ykp) => r = m_X6_hear pb jg ru fst fro fmo fkd fcd fsr v0 v1 v2 v3) (fun (u : (Nat → Int32) × (Nat → Int32) × (Nat → Int32)) t => match u with | (ysk, yna, ykp) => va_P G.1 vwCl [zo6 h0 (nI pb) kd mo st (nI jg) ro tp (nI td) cd sr (nI tx) (nI ru) him ir ih ss sq ce lw s19 s20 s21 s22 wo he s25 s26 s27 sk na kp (m_X6_hear_h031 pb jg ru s31 fst fro fmo fkd fcd fsr v0 v1 v2 v3) (m_X6_hear_h032 pb jg ru s32 fst fro fmo fkd fcd fsr v0 v1 v2 v3) (m_X6_hear_h033 pb jg ru s33 fst fro fmo fkd fcd fsr v0 v1 v2 v3) (m_X6_hear_h034 pb jg ru s34 fst fro fmo fkd fcd fsr v0 v1 v2 v3) gb go fa ga s39 s40 vo, zi G st 12 fst, zi G ro 12 fro, zi G mo 6 fmo, zi G kd 6 fkd, zi G cd 1200 fcd, zi G sr 24 (nF fsr), zi G sk 200 ysk, zi G na 6 yna, zi G kp 24 ykp] t.heap ∧ gK G t ∧ va_D A [zo6 h0 (nI pb) kd mo st (nI jg) ro tp (nI td) cd sr (nI tx) (nI ru) him ir ih ss sq ce lw s19 s20 s21 s22 wo he s25 s26 s27 sk na kp (m_X6_hear_h031 pb jg ru s31 fst fro fmo fkd fcd fsr v0 v1 v2 v3) (m_X6_hear_h032 pb jg ru s32 fst fro fmo fkd fcd fsr v0 v1 v2 v3) (m_X6_hear_h033 pb jg ru s33 fst fro fmo fkd fcd fsr v0 v1 v2 v3) (m_X6_hear_h034 pb jg ru s34 fst fro fmo fkd fcd fsr v0 v1 v2 v3) gb go fa ga s39 s40 vo, zi G st 12 fst, zi G ro 12 fro, zi G mo 6 fmo, zi G kd 6 fkd, zi G cd 1200 fcd, zi G sr 24 (nF fsr), zi G sk 200 ysk, zi G na 6 yna, zi G kp 24 ykp]) A
set_option maxHeartbeats 4000000 in
set_option maxRecDepth 100000 in
theorem c_X6_hear (l : Launch) (G : gG) (h0 kd mo st ro tp cd sr ir ih ss sq ce lw wo he sk na kp gb go fa ga vo : Nat) (pb : Nat) (jg : Nat) (td : Nat) (tx : Nat) (ru : Nat) (him : Int32) (s19 : Int32) (s20 : Int32) (s21 : Int32) (s22 : Int32) (s25 : Int32) (s26 : Int32) (s27 : Int32) (s31 : Int32) (s32 : Int32) (s33 : Int32) (s34 : Int32) (s39 : Int32) (s40 : Int32) (fst : Nat → Int32) (fro : Nat → Int32) (fmo : Nat → Int32) (fkd : Nat → Int32) (fcd : Nat → Int32) (fsr : Nat → Nat) (fsk : Nat → Int32) (fna : Nat → Int32) (fkp : Nat → Int32) (v0 : Int32) (v1 : Int32) (v2 : Int32) (v3 : Int32) (sz : Nat) (hpb : pb ≤ 6) (hjg : jg ≤ 4) (htx : tx ≤ 6) (hru : ru < tx) (hwa : ∀ t9, t9 < tx → mWf fcd fsr t9) : Met l yX6_hear wsX6_hear ({ frames := 7, cells := 0, slots := 0, locals := 168 }) (gPre G [.ref h0, .int v0, .int v1, .int v2, .int v3] [zo6 h0 (nI pb) kd mo st (nI jg) ro tp (nI td) cd sr (nI tx) (nI ru) him ir ih ss sq ce lw s19 s20 s21 s22 wo he s25 s26 s27 sk na kp s31 s32 s33 s34 gb go fa ga s39 s40 vo, zi G st 12 fst, zi G ro 12 fro, zi G mo 6 fmo, zi G kd 6 fkd, zi G cd 1200 fcd, zi G sr 24 (nF fsr), zi G sk 200 fsk, zi G na 6 fna, zi G kp 24 fkp] sz) (q_X6_hear G h0 kd mo st ro tp cd sr ir ih ss sq ce lw wo he sk na kp gb go fa ga vo pb jg td tx ru him s19 s20 s21 s22 s25 s26 s27 s31 s32 s33 s34 s39 s40 fst fro fmo fkd fcd fsr fsk fna fkp v0 v1 v2 v3 (va_A [zo6 h0 (nI pb) kd mo st (nI jg) ro tp (nI td) cd sr (nI tx) (nI ru) him ir ih ss sq ce lw s19 s20 s21 s22 wo he s25 s26 s27 sk na kp s31 s32 s33 s34 gb go fa ga s39 s40 vo, zi G st 12 fst, zi G ro 12 fro, zi G mo 6 fmo, zi G kd 6 fkd, zi G cd 1200 fcd, zi G sr 24 (nF fsr), zi G sk 200 fsk, zi G na 6 fna, zi G kp 24 fkp] sz)) 0 0 (va_A [zo6 h0 (nI pb) kd mo st (nI jg) ro tp (nI td) cd sr (nI tx) (nI ru) him ir ih ss sq ce lw s19 s20 s21 s22 wo he s25 s26 s27 sk na kp s31 s32 s33 s34 gb go fa ga s39 s40 vo, zi G st 12 fst, zi G ro 12 fro, zi G mo 6 fmo, zi G kd 6 fkd, zi G cd 1200 fcd, zi G sr 24 (nF fsr), zi G sk 200 fsk, zi G na 6 fna, zi G kp 24 fkp] sz) := by
  refine Met.ofW (cc := cX6_hear) (maxL := 5) (ret := (some .int)) (by decide +kernel) rfl ?_
  intro p e s m args below meth c s₁ B hml hv
  obtain ⟨rfl, hsz, hP, hK, hD0⟩ := hv
  have hx := B.exec
  have hb := B.bytes
  have hr := B.returns
  have hts := atoms_spec (ws := wsX6_hear) B.pre
  have hown : s.vm.findClass RX6 = some m.cls := findClass_of_methodNamed B.named
  have hlocks := B.notSynchronized
  subst hsz
  have hD := hD0.self (sz := s.heap.size)
  generalize hAe : va_A [zo6 h0 (nI pb) kd mo st (nI jg) ro tp (nI td) cd sr (nI tx) (nI ru) him ir ih ss sq ce lw s19 s20 s21 s22 wo he s25 s26 s27 sk na kp s31 s32 s33 s34 gb go fa ga s39 s40 vo, zi G st 12 fst, zi G ro 12 fro, zi G mo 6 fmo, zi G kd 6 fkd, zi G cd 1200 fcd, zi G sr 24 (nF fsr), zi G sk 200 fsk, zi G na 6 fna, zi G kp 24 fkp] s.heap.size = A at hD ⊢
  have hA : ∀ q : Nat, s.heap.size ≤ q → A q := fun q h => by rw [← hAe]; exact Or.inr h
  have hS : va_S A s.heap s.heap [] := va_S.rf
  have hz9 : gPD G A [zo6 h0 (nI pb) kd mo st (nI jg) ro tp (nI td) cd sr (nI tx) (nI ru) him ir ih ss sq ce lw s19 s20 s21 s22 wo he s25 s26 s27 sk na kp s31 s32 s33 s34 gb go fa ga s39 s40 vo, zi G st 12 fst, zi G ro 12 fro, zi G mo 6 fmo, zi G kd 6 fkd, zi G cd 1200 fcd, zi G sr 24 (nF fsr), zi G sk 200 fsk, zi G na 6 fna, zi G kp 24 fkp] s.heap := ⟨hP, hD⟩
  have hP := hz9.1
  have hD := hz9.2
  have hl := lv_entry ([.ref h0, .int v0, .int v1, .int v2, .int v3]) (n := 5) (Nat.le_of_ble_eq_true rfl)
  rw [lg_entry_eq]
  generalize (lg_sl ([.ref h0, .int v0, .int v1, .int v2, .int v3]) ++ List.replicate (5 - (lg_sl ([.ref h0, .int v0, .int v1, .int v2, .int v3])).length) Slot.unset).toArray = ls at hl ⊢
  have hl : lv_has ls 5 [zR 0 h0, zI 1 v0, zI 2 v1, zI 3 v2, zI 4 v3] := hl
  refine lv_aload_n hx hb dX6_hear_0 rfl (lv_at hl 0 rfl) ?_
  refine lv_iload_n hx hb dX6_hear_1 rfl (lv_at hl 1 rfl) ?_
  refine z_calli [0] (v := bz (mHas jg v0)) (fun _ _ h => h) (va_runV (As := [.int v0]) (rest := []) ⟨hx, hb, hml, hown, hts⟩ (c_X6_isJudge l G h0 kd mo st ro tp cd sr ir ih ss sq ce lw wo he sk na kp gb go fa ga vo pb jg td tx ru him s19 s20 s21 s22 s25 s26 s27 s31 s32 s33 s34 s39 s40 v0 s.heap.size (by first | exact hpb | assumption | omega) (by first | exact hjg | assumption | omega) (by first | exact htx | assumption | omega) (by first | exact hru | assumption | omega)) (cwV 1 hts gX6_hear_X6_isJudge rfl rfl rfl (by decide +kernel) ⟨Nat.le_of_ble_eq_true rfl, Nat.le_of_ble_eq_true rfl⟩) ⟨gPre_blind, va_recv (q := (RX6, TX6, 42)) hK hP (ci := 6) (q0 := 0) rfl rfl, fun U hU hW => gPre_ofF [0] hU hW hK hP hD (by decide +kernel) rfl⟩ rfl rfl hl.1 rfl (lv_room (Nat.le_of_ble_eq_true rfl)) dX6_hear_2 ⟨Nat.le_of_ble_eq_true rfl, Nat.le_of_ble_eq_true rfl⟩) hS hD hA rfl (fun u t H locs ht hvm hB hz1 hk1 hFq hAq hS => ?_)
  obtain ⟨hP1, hK1, hD1⟩ := hB
  have hP := zKeep hP hD [0] hAq hk1 ht hP1 rfl
  refine lv_if_eq (tgt := 16) hx hb dX6_hear_5 (by decide +kernel) (fun c_3 => ?_) (fun c_3 => ?_)
  · skip
    have n_5 : (mHas jg v0) = false := bz_eq rfl c_3
    have n_5N : ¬ ((mHas jg v0) = true) := by rw [n_5]; decide
    refine lv_bipush (v := -5) hx hb dX6_hear_16 (by decide +kernel) ?_
    have q_8 : m_X6_hear_h031 pb jg ru s31 fst fro fmo fkd fcd fsr v0 v1 v2 v3 = s31 := by unfold m_X6_hear_h031; rw [if_neg n_5N]
    have q_9 : m_X6_hear_h032 pb jg ru s32 fst fro fmo fkd fcd fsr v0 v1 v2 v3 = s32 := by unfold m_X6_hear_h032; rw [if_neg n_5N]
    have q_10 : m_X6_hear_h033 pb jg ru s33 fst fro fmo fkd fcd fsr v0 v1 v2 v3 = s33 := by unfold m_X6_hear_h033; rw [if_neg n_5N]
    have q_11 : m_X6_hear_h034 pb jg ru s34 fst fro fmo fkd fcd fsr v0 v1 v2 v3 = s34 := by unfold m_X6_hear_h034; rw [if_neg n_5N]
    have hz9 : gPD G A [zo6 h0 (nI pb) kd mo st (nI jg) ro tp (nI td) cd sr (nI tx) (nI ru) him ir ih ss sq ce lw s19 s20 s21 s22 wo he s25 s26 s27 sk na kp (m_X6_hear_h031 pb jg ru s31 fst fro fmo fkd fcd fsr v0 v1 v2 v3) (m_X6_hear_h032 pb jg ru s32 fst fro fmo fkd fcd fsr v0 v1 v2 v3) (m_X6_hear_h033 pb jg ru s33 fst fro fmo fkd fcd fsr v0 v1 v2 v3) (m_X6_hear_h034 pb jg ru s34 fst fro fmo fkd fcd fsr v0 v1 v2 v3) gb go fa ga s39 s40 vo, zi G st 12 fst, zi G ro 12 fro, zi G mo 6 fmo, zi G kd 6 fkd, zi G cd 1200 fcd, zi G sr 24 (nF fsr), zi G sk 200 fsk, zi G na 6 fna, zi G kp 24 fkp] H := ⟨by rw [q_8, q_9, q_10, q_11]; exact hP, by rw [q_8, q_9, q_10, q_11]; exact hD⟩
    have hP9 := hz9.1
    have hD9 := hz9.2
    have hpost : (fun (r : Int32) (u : (Nat → Int32) × (Nat → Int32) × (Nat → Int32)) => match u with | (ysk, yna, ykp) => r = m_X6_hear pb jg ru fst fro fmo fkd fcd fsr v0 v1 v2 v3) (-5) (fsk, fna, fkp) := (show m_X6_hear pb jg ru fst fro fmo fkd fcd fsr v0 v1 v2 v3 = (-5) from by unfold m_X6_hear; rw [if_neg n_5N]).symm
    exact W.iret (v := (-5)) hx hb hr (fun t ht hW => ⟨⟨(-5), (fsk, fna, fkp), rfl, hpost, by rw [ht]; exact hP9, va_K.moved hW.alike hK, hD9⟩, hS.F ht⟩) hS.2.2 dX6_hear_18
  · skip
    have p_4 : (mHas jg v0) = true := bz_ne rfl c_3
    have hv_6 : v0 = nI (nC v0) := mHas_eq p_4
    have hk_7 : nC v0 < jg := mHas_lt (by omega) p_4
    refine lv_aload_n hx hb dX6_hear_8 rfl (lv_at hl 0 rfl) ?_
    refine lv_iload_n hx hb dX6_hear_9 rfl (lv_at hl 2 rfl) ?_
    refine z_calli [0] (v := bz (mHas pb v1)) (fun _ _ h => h) (va_runV (As := [.int v1]) (rest := []) ⟨hx, hb, hml, hown, hts⟩ (c_X6_isPebble l G h0 kd mo st ro tp cd sr ir ih ss sq ce lw wo he sk na kp gb go fa ga vo pb jg td tx ru him s19 s20 s21 s22 s25 s26 s27 s31 s32 s33 s34 s39 s40 v1 H.size (by first | exact hpb | assumption | omega) (by first | exact hjg | assumption | omega) (by first | exact htx | assumption | omega) (by first | exact hru | assumption | omega)) (cwV 1 hts gX6_hear_X6_isPebble rfl rfl rfl (by decide +kernel) ⟨Nat.le_of_ble_eq_true rfl, Nat.le_of_ble_eq_true rfl⟩) ⟨gPre_blind, va_recv (q := (RX6, TX6, 42)) hK hP (ci := 6) (q0 := 0) rfl rfl, fun U hU hW => gPre_ofF [0] hU hW hK hP hD (by decide +kernel) rfl⟩ rfl rfl hl.1 rfl (lv_room (Nat.le_of_ble_eq_true rfl)) dX6_hear_10 ⟨Nat.le_of_ble_eq_true rfl, Nat.le_of_ble_eq_true rfl⟩) hS hD hA rfl (fun u t H locs ht hvm hB hz1 hk1 hFq hAq hS => ?_)
    obtain ⟨hP1, hK1, hD1⟩ := hB
    have hP := zKeep hP hD [0] hAq hk1 ht hP1 rfl
    refine lv_if_ne (tgt := 19) hx hb dX6_hear_13 (by decide +kernel) (fun c_14 => ?_) (fun c_14 => ?_)
    · skip
      have p_15 : (mHas pb v1) = true := bz_ne rfl c_14
      have hv_17 : v1 = nI (nC v1) := mHas_eq p_15
      have hk_18 : nC v1 < pb := mHas_lt (by omega) p_15
      refine lv_iload_n hx hb dX6_hear_19 rfl (lv_at hl 3 rfl) ?_
      refine z_calli [] (v := bz (decide (0 ≤ v2 ∧ v2 ≤ 60))) (fun _ _ h => h) (va_runS (As := [.int v2]) (rest := []) ⟨hx, hb, hml, hown, hts⟩ (c_X6_isCase l G v2 H.size) (va_cwS 1 hts gX6_hear_X6_isCase rfl rfl rfl (by decide +kernel) ⟨Nat.le_of_ble_eq_true rfl, Nat.le_of_ble_eq_true rfl⟩) ⟨gPre_blind, fun U hU hW => gPre_ofF [] hU hW hK hP hD (by decide +kernel) rfl⟩ rfl rfl hl.1 rfl (lv_room (Nat.le_of_ble_eq_true rfl)) dX6_hear_20 ⟨Nat.le_of_ble_eq_true rfl, Nat.le_of_ble_eq_true rfl⟩) hS hD hA rfl (fun u t H locs ht hvm hB hz1 hk1 hFq hAq hS => ?_)
      obtain ⟨hP1, hK1, hD1⟩ := hB
      have hP := zKeep hP hD [] hAq hk1 ht hP1 rfl
      refine lv_if_eq (tgt := 36) hx hb dX6_hear_23 (by decide +kernel) (fun c_21 => ?_) (fun c_21 => ?_)
      · skip
        have n_23 : ¬ (0 ≤ v2 ∧ v2 ≤ 60) := of_decide_eq_false (bz_eq rfl c_21)
        refine lv_bipush (v := -7) hx hb dX6_hear_36 (by decide +kernel) ?_
        have q_26 : m_X6_hear_h031 pb jg ru s31 fst fro fmo fkd fcd fsr v0 v1 v2 v3 = s31 := by unfold m_X6_hear_h031; rw [if_pos p_4, if_pos p_15, if_neg n_23]
        have q_27 : m_X6_hear_h032 pb jg ru s32 fst fro fmo fkd fcd fsr v0 v1 v2 v3 = s32 := by unfold m_X6_hear_h032; rw [if_pos p_4, if_pos p_15, if_neg n_23]
        have q_28 : m_X6_hear_h033 pb jg ru s33 fst fro fmo fkd fcd fsr v0 v1 v2 v3 = s33 := by unfold m_X6_hear_h033; rw [if_pos p_4, if_pos p_15, if_neg n_23]
        have q_29 : m_X6_hear_h034 pb jg ru s34 fst fro fmo fkd fcd fsr v0 v1 v2 v3 = s34 := by unfold m_X6_hear_h034; rw [if_pos p_4, if_pos p_15, if_neg n_23]
        have hz9 : gPD G A [zo6 h0 (nI pb) kd mo st (nI jg) ro tp (nI td) cd sr (nI tx) (nI ru) him ir ih ss sq ce lw s19 s20 s21 s22 wo he s25 s26 s27 sk na kp (m_X6_hear_h031 pb jg ru s31 fst fro fmo fkd fcd fsr v0 v1 v2 v3) (m_X6_hear_h032 pb jg ru s32 fst fro fmo fkd fcd fsr v0 v1 v2 v3) (m_X6_hear_h033 pb jg ru s33 fst fro fmo fkd fcd fsr v0 v1 v2 v3) (m_X6_hear_h034 pb jg ru s34 fst fro fmo fkd fcd fsr v0 v1 v2 v3) gb go fa ga s39 s40 vo, zi G st 12 fst, zi G ro 12 fro, zi G mo 6 fmo, zi G kd 6 fkd, zi G cd 1200 fcd, zi G sr 24 (nF fsr), zi G sk 200 fsk, zi G na 6 fna, zi G kp 24 fkp] H := ⟨by rw [q_26, q_27, q_28, q_29]; exact hP, by rw [q_26, q_27, q_28, q_29]; exact hD⟩
        have hP9 := hz9.1
        have hD9 := hz9.2
        have hpost : (fun (r : Int32) (u : (Nat → Int32) × (Nat → Int32) × (Nat → Int32)) => match u with | (ysk, yna, ykp) => r = m_X6_hear pb jg ru fst fro fmo fkd fcd fsr v0 v1 v2 v3) (-7) (fsk, fna, fkp) := (show m_X6_hear pb jg ru fst fro fmo fkd fcd fsr v0 v1 v2 v3 = (-7) from by unfold m_X6_hear; rw [if_pos p_4, if_pos p_15, if_neg n_23]).symm
        exact W.iret (v := (-7)) hx hb hr (fun t ht hW => ⟨⟨(-7), (fsk, fna, fkp), rfl, hpost, by rw [ht]; exact hP9, va_K.moved hW.alike hK, hD9⟩, hS.F ht⟩) hS.2.2 dX6_hear_38
      · skip
        have p_22 : 0 ≤ v2 ∧ v2 ≤ 60 := of_decide_eq_true (bz_ne rfl c_21)
        have hv_24 : v2 = nI (nC v2) := nC_eq p_22.1
        have hk_25 : nC v2 ≤ 60 := nC_le (n := 60) (by omega) p_22
        refine lv_iload hx hb dX6_hear_26 (lv_at hl 4 rfl) ?_
        refine lv_iconst (v := 0) hx hb dX6_hear_28 (by decide +kernel) ?_
        refine lv_iconst (v := 3) hx hb dX6_hear_29 (by decide +kernel) ?_
        refine z_calli [] (v := bz (decide (0 ≤ v3 ∧ v3 ≤ 3))) (fun _ _ h => h) (va_runS (As := [.int v3, .int 0, .int 3]) (rest := []) ⟨hx, hb, hml, hown, hts⟩ (c_X6_in l G v3 0 3 H.size) (va_cwS 3 hts gX6_hear_X6_in rfl rfl rfl (by decide +kernel) ⟨Nat.le_of_ble_eq_true rfl, Nat.le_of_ble_eq_true rfl⟩) ⟨gPre_blind, fun U hU hW => gPre_ofF [] hU hW hK hP hD (by decide +kernel) rfl⟩ rfl rfl hl.1 rfl (lv_room (Nat.le_of_ble_eq_true rfl)) dX6_hear_30 ⟨Nat.le_of_ble_eq_true rfl, Nat.le_of_ble_eq_true rfl⟩) hS hD hA rfl (fun u t H locs ht hvm hB hz1 hk1 hFq hAq hS => ?_)
        obtain ⟨hP1, hK1, hD1⟩ := hB
        have hP := zKeep hP hD [] hAq hk1 ht hP1 rfl
        refine lv_if_ne (tgt := 39) hx hb dX6_hear_33 (by decide +kernel) (fun c_32 => ?_) (fun c_32 => ?_)
        · skip
          have p_33 : 0 ≤ v3 ∧ v3 ≤ 3 := of_decide_eq_true (bz_ne rfl c_32)
          have hv_35 : v3 = nI (nC v3) := nC_eq p_33.1
          have hk_36 : nC v3 ≤ 3 := nC_le (n := 3) (by omega) p_33
          refine lv_aload_n hx hb dX6_hear_39 rfl (lv_at hl 0 rfl) ?_
          refine lv_iload_n hx hb dX6_hear_40 rfl (lv_at hl 1 rfl) ?_
          refine g_topi (y := nI (nC v0)) hv_6 ?_
          refine lv_iload_n hx hb dX6_hear_41 rfl (lv_at hl 2 rfl) ?_
          refine g_topi (y := nI (nC v1)) hv_17 ?_
          refine lv_iload_n hx hb dX6_hear_42 rfl (lv_at hl 3 rfl) ?_
          refine g_topi (y := nI (nC v2)) hv_24 ?_
          refine z_callv [0, 1, 2, 3, 4, 5, 6, 7, 8, 9] (va_runV (As := [.int (nI (nC v0)), .int (nI (nC v1)), .int (nI (nC v2))]) (rest := []) ⟨hx, hb, hml, hown, hts⟩ (c_X6_heard l G h0 kd mo st ro tp cd sr ir ih ss sq ce lw wo he sk na kp gb go fa ga vo pb jg td tx ru him s19 s20 s21 s22 s25 s26 s27 s31 s32 s33 s34 s39 s40 fst fro fmo fkd fcd fsr fsk fna fkp (nC v0) (nC v1) (nC v2) H.size (by first | exact hj | assumption | omega) (by first | exact hp | assumption | omega) (by first | exact hnn | assumption | omega) (hwa _ (by omega)) (by first | exact hpb | assumption | omega) (by first | exact hjg | assumption | omega) (by first | exact htx | assumption | omega) (by first | exact hru | assumption | omega)) (cwV 3 hts gX6_hear_X6_heard rfl rfl rfl (by decide +kernel) ⟨Nat.le_of_ble_eq_true rfl, Nat.le_of_ble_eq_true rfl⟩) ⟨gPre_blind, va_recv (q := (RX6, TX6, 42)) hK hP (ci := 6) (q0 := 0) rfl rfl, fun U hU hW => gPre_of hU hW hK hP hD⟩ rfl rfl hl.1 rfl (lv_room (Nat.le_of_ble_eq_true rfl)) dX6_hear_43 ⟨Nat.le_of_ble_eq_true rfl, Nat.le_of_ble_eq_true rfl⟩) hS hD hA rfl (fun u t H locs ht hvm w_41 hB hz1 hk1 hFq hAq hS => ?_)
          obtain ⟨ysk_42, yna_43, ykp_44⟩ := u
          obtain ⟨hP1, hK1, hD1⟩ := hB
          have hz9 : gPD G A [zo6 h0 (nI pb) kd mo st (nI jg) ro tp (nI td) cd sr (nI tx) (nI ru) him ir ih ss sq ce lw s19 s20 s21 s22 wo he s25 s26 s27 sk na kp (m_X6_heard_h031 ru fst fro fmo fkd fcd fsr (nC v0) (nC v1) (nC v2)) (m_X6_heard_h032 ru fst fro fmo fkd fcd fsr (nC v0) (nC v1) (nC v2)) (m_X6_heard_h033 ru fst fro fmo fkd fcd fsr (nC v0) (nC v1) (nC v2)) (m_X6_heard_h034 ru fst fro fmo fkd fcd fsr (nC v0) (nC v1) (nC v2)) gb go fa ga s39 s40 vo, zi G st 12 fst, zi G ro 12 fro, zi G mo 6 fmo, zi G kd 6 fkd, zi G cd 1200 fcd, zi G sr 24 (nF fsr), zi G sk 200 ysk_42, zi G na 6 yna_43, zi G kp 24 ykp_44] H := zFill hP hD [0, 1, 2, 3, 4, 5, 6, 7, 8, 9] [1, 2, 3, 4, 5, 6, 7, 8, 9, 10] hAq hk1 hFq ht hP1 hD1 rfl (by decide +kernel)
          have hP := hz9.1
          have hD := hz9.2
          refine lv_aload_n hx hb dX6_hear_46 rfl (lv_at hl 0 rfl) ?_
          refine lv_iload hx hb dX6_hear_47 (lv_at hl 4 rfl) ?_
          refine g_topi (y := nI (nC v3)) hv_35 ?_
          refine z_calli [0] (v := m_X6_toldCase (m_X6_heard_h031 ru fst fro fmo fkd fcd fsr (nC v0) (nC v1) (nC v2)) (m_X6_heard_h032 ru fst fro fmo fkd fcd fsr (nC v0) (nC v1) (nC v2)) (m_X6_heard_h033 ru fst fro fmo fkd fcd fsr (nC v0) (nC v1) (nC v2)) (m_X6_heard_h034 ru fst fro fmo fkd fcd fsr (nC v0) (nC v1) (nC v2)) (nI (nC v3))) (fun _ _ h => h) (va_runV (As := [.int (nI (nC v3))]) (rest := []) ⟨hx, hb, hml, hown, hts⟩ (c_X6_toldCase l G h0 kd mo st ro tp cd sr ir ih ss sq ce lw wo he sk na kp gb go fa ga vo pb jg td tx ru him s19 s20 s21 s22 s25 s26 s27 (m_X6_heard_h031 ru fst fro fmo fkd fcd fsr (nC v0) (nC v1) (nC v2)) (m_X6_heard_h032 ru fst fro fmo fkd fcd fsr (nC v0) (nC v1) (nC v2)) (m_X6_heard_h033 ru fst fro fmo fkd fcd fsr (nC v0) (nC v1) (nC v2)) (m_X6_heard_h034 ru fst fro fmo fkd fcd fsr (nC v0) (nC v1) (nC v2)) s39 s40 (nI (nC v3)) H.size (by first | exact hpb | assumption | omega) (by first | exact hjg | assumption | omega) (by first | exact htx | assumption | omega) (by first | exact hru | assumption | omega)) (cwV 1 hts gX6_hear_X6_toldCase rfl rfl rfl (by decide +kernel) ⟨Nat.le_of_ble_eq_true rfl, Nat.le_of_ble_eq_true rfl⟩) ⟨gPre_blind, va_recv (q := (RX6, TX6, 42)) hK hP (ci := 6) (q0 := 0) rfl rfl, fun U hU hW => gPre_ofF [0] hU hW hK hP hD (by decide +kernel) rfl⟩ rfl rfl hl.1 rfl (lv_room (Nat.le_of_ble_eq_true rfl)) dX6_hear_49 ⟨Nat.le_of_ble_eq_true rfl, Nat.le_of_ble_eq_true rfl⟩) hS hD hA rfl (fun u t H locs ht hvm hB hz1 hk1 hFq hAq hS => ?_)
          obtain ⟨hP1, hK1, hD1⟩ := hB
          have hP := zKeep hP hD [0] hAq hk1 ht hP1 rfl
          have q_48 : m_X6_hear_h031 pb jg ru s31 fst fro fmo fkd fcd fsr v0 v1 v2 v3 = (m_X6_heard_h031 ru fst fro fmo fkd fcd fsr (nC v0) (nC v1) (nC v2)) := by unfold m_X6_hear_h031; rw [if_pos p_4, if_pos p_15, if_pos p_22, if_pos p_33]
          have q_49 : m_X6_hear_h032 pb jg ru s32 fst fro fmo fkd fcd fsr v0 v1 v2 v3 = (m_X6_heard_h032 ru fst fro fmo fkd fcd fsr (nC v0) (nC v1) (nC v2)) := by unfold m_X6_hear_h032; rw [if_pos p_4, if_pos p_15, if_pos p_22, if_pos p_33]
          have q_50 : m_X6_hear_h033 pb jg ru s33 fst fro fmo fkd fcd fsr v0 v1 v2 v3 = (m_X6_heard_h033 ru fst fro fmo fkd fcd fsr (nC v0) (nC v1) (nC v2)) := by unfold m_X6_hear_h033; rw [if_pos p_4, if_pos p_15, if_pos p_22, if_pos p_33]
          have q_51 : m_X6_hear_h034 pb jg ru s34 fst fro fmo fkd fcd fsr v0 v1 v2 v3 = (m_X6_heard_h034 ru fst fro fmo fkd fcd fsr (nC v0) (nC v1) (nC v2)) := by unfold m_X6_hear_h034; rw [if_pos p_4, if_pos p_15, if_pos p_22, if_pos p_33]
          have hz9 : gPD G A [zo6 h0 (nI pb) kd mo st (nI jg) ro tp (nI td) cd sr (nI tx) (nI ru) him ir ih ss sq ce lw s19 s20 s21 s22 wo he s25 s26 s27 sk na kp (m_X6_hear_h031 pb jg ru s31 fst fro fmo fkd fcd fsr v0 v1 v2 v3) (m_X6_hear_h032 pb jg ru s32 fst fro fmo fkd fcd fsr v0 v1 v2 v3) (m_X6_hear_h033 pb jg ru s33 fst fro fmo fkd fcd fsr v0 v1 v2 v3) (m_X6_hear_h034 pb jg ru s34 fst fro fmo fkd fcd fsr v0 v1 v2 v3) gb go fa ga s39 s40 vo, zi G st 12 fst, zi G ro 12 fro, zi G mo 6 fmo, zi G kd 6 fkd, zi G cd 1200 fcd, zi G sr 24 (nF fsr), zi G sk 200 ysk_42, zi G na 6 yna_43, zi G kp 24 ykp_44] H := ⟨by rw [q_48, q_49, q_50, q_51]; exact hP, by rw [q_48, q_49, q_50, q_51]; exact hD⟩
          have hP9 := hz9.1
          have hD9 := hz9.2
          have hpost : (fun (r : Int32) (u : (Nat → Int32) × (Nat → Int32) × (Nat → Int32)) => match u with | (ysk, yna, ykp) => r = m_X6_hear pb jg ru fst fro fmo fkd fcd fsr v0 v1 v2 v3) (m_X6_toldCase (m_X6_heard_h031 ru fst fro fmo fkd fcd fsr (nC v0) (nC v1) (nC v2)) (m_X6_heard_h032 ru fst fro fmo fkd fcd fsr (nC v0) (nC v1) (nC v2)) (m_X6_heard_h033 ru fst fro fmo fkd fcd fsr (nC v0) (nC v1) (nC v2)) (m_X6_heard_h034 ru fst fro fmo fkd fcd fsr (nC v0) (nC v1) (nC v2)) (nI (nC v3))) (ysk_42, yna_43, ykp_44) := (show m_X6_hear pb jg ru fst fro fmo fkd fcd fsr v0 v1 v2 v3 = (m_X6_toldCase (m_X6_heard_h031 ru fst fro fmo fkd fcd fsr (nC v0) (nC v1) (nC v2)) (m_X6_heard_h032 ru fst fro fmo fkd fcd fsr (nC v0) (nC v1) (nC v2)) (m_X6_heard_h033 ru fst fro fmo fkd fcd fsr (nC v0) (nC v1) (nC v2)) (m_X6_heard_h034 ru fst fro fmo fkd fcd fsr (nC v0) (nC v1) (nC v2)) (nI (nC v3))) from by unfold m_X6_hear; rw [if_pos p_4, if_pos p_15, if_pos p_22, if_pos p_33]).symm
          exact W.iret (v := (m_X6_toldCase (m_X6_heard_h031 ru fst fro fmo fkd fcd fsr (nC v0) (nC v1) (nC v2)) (m_X6_heard_h032 ru fst fro fmo fkd fcd fsr (nC v0) (nC v1) (nC v2)) (m_X6_heard_h033 ru fst fro fmo fkd fcd fsr (nC v0) (nC v1) (nC v2)) (m_X6_heard_h034 ru fst fro fmo fkd fcd fsr (nC v0) (nC v1) (nC v2)) (nI (nC v3)))) hx hb hr (fun t ht hW => ⟨⟨(m_X6_toldCase (m_X6_heard_h031 ru fst fro fmo fkd fcd fsr (nC v0) (nC v1) (nC v2)) (m_X6_heard_h032 ru fst fro fmo fkd fcd fsr (nC v0) (nC v1) (nC v2)) (m_X6_heard_h033 ru fst fro fmo fkd fcd fsr (nC v0) (nC v1) (nC v2)) (m_X6_heard_h034 ru fst fro fmo fkd fcd fsr (nC v0) (nC v1) (nC v2)) (nI (nC v3))), (ysk_42, yna_43, ykp_44), rfl, hpost, by rw [ht]; exact hP9, va_K.moved hW.alike hK, hD9⟩, hS.F ht⟩) hS.2.2 dX6_hear_52
        · skip
          have n_34 : ¬ (0 ≤ v3 ∧ v3 ≤ 3) := of_decide_eq_false (bz_eq rfl c_32)
          refine lv_bipush (v := -7) hx hb dX6_hear_36 (by decide +kernel) ?_
          have q_52 : m_X6_hear_h031 pb jg ru s31 fst fro fmo fkd fcd fsr v0 v1 v2 v3 = s31 := by unfold m_X6_hear_h031; rw [if_pos p_4, if_pos p_15, if_pos p_22, if_neg n_34]
          have q_53 : m_X6_hear_h032 pb jg ru s32 fst fro fmo fkd fcd fsr v0 v1 v2 v3 = s32 := by unfold m_X6_hear_h032; rw [if_pos p_4, if_pos p_15, if_pos p_22, if_neg n_34]
          have q_54 : m_X6_hear_h033 pb jg ru s33 fst fro fmo fkd fcd fsr v0 v1 v2 v3 = s33 := by unfold m_X6_hear_h033; rw [if_pos p_4, if_pos p_15, if_pos p_22, if_neg n_34]
          have q_55 : m_X6_hear_h034 pb jg ru s34 fst fro fmo fkd fcd fsr v0 v1 v2 v3 = s34 := by unfold m_X6_hear_h034; rw [if_pos p_4, if_pos p_15, if_pos p_22, if_neg n_34]
          have hz9 : gPD G A [zo6 h0 (nI pb) kd mo st (nI jg) ro tp (nI td) cd sr (nI tx) (nI ru) him ir ih ss sq ce lw s19 s20 s21 s22 wo he s25 s26 s27 sk na kp (m_X6_hear_h031 pb jg ru s31 fst fro fmo fkd fcd fsr v0 v1 v2 v3) (m_X6_hear_h032 pb jg ru s32 fst fro fmo fkd fcd fsr v0 v1 v2 v3) (m_X6_hear_h033 pb jg ru s33 fst fro fmo fkd fcd fsr v0 v1 v2 v3) (m_X6_hear_h034 pb jg ru s34 fst fro fmo fkd fcd fsr v0 v1 v2 v3) gb go fa ga s39 s40 vo, zi G st 12 fst, zi G ro 12 fro, zi G mo 6 fmo, zi G kd 6 fkd, zi G cd 1200 fcd, zi G sr 24 (nF fsr), zi G sk 200 fsk, zi G na 6 fna, zi G kp 24 fkp] H := ⟨by rw [q_52, q_53, q_54, q_55]; exact hP, by rw [q_52, q_53, q_54, q_55]; exact hD⟩
          have hP9 := hz9.1
          have hD9 := hz9.2
          have hpost : (fun (r : Int32) (u : (Nat → Int32) × (Nat → Int32) × (Nat → Int32)) => match u with | (ysk, yna, ykp) => r = m_X6_hear pb jg ru fst fro fmo fkd fcd fsr v0 v1 v2 v3) (-7) (fsk, fna, fkp) := (show m_X6_hear pb jg ru fst fro fmo fkd fcd fsr v0 v1 v2 v3 = (-7) from by unfold m_X6_hear; rw [if_pos p_4, if_pos p_15, if_pos p_22, if_neg n_34]).symm
          exact W.iret (v := (-7)) hx hb hr (fun t ht hW => ⟨⟨(-7), (fsk, fna, fkp), rfl, hpost, by rw [ht]; exact hP9, va_K.moved hW.alike hK, hD9⟩, hS.F ht⟩) hS.2.2 dX6_hear_38
    · skip
      have n_16 : (mHas pb v1) = false := bz_eq rfl c_14
      have n_16N : ¬ ((mHas pb v1) = true) := by rw [n_16]; decide
      refine lv_bipush (v := -5) hx hb dX6_hear_16 (by decide +kernel) ?_
      have q_56 : m_X6_hear_h031 pb jg ru s31 fst fro fmo fkd fcd fsr v0 v1 v2 v3 = s31 := by unfold m_X6_hear_h031; rw [if_pos p_4, if_neg n_16N]
      have q_57 : m_X6_hear_h032 pb jg ru s32 fst fro fmo fkd fcd fsr v0 v1 v2 v3 = s32 := by unfold m_X6_hear_h032; rw [if_pos p_4, if_neg n_16N]
      have q_58 : m_X6_hear_h033 pb jg ru s33 fst fro fmo fkd fcd fsr v0 v1 v2 v3 = s33 := by unfold m_X6_hear_h033; rw [if_pos p_4, if_neg n_16N]
      have q_59 : m_X6_hear_h034 pb jg ru s34 fst fro fmo fkd fcd fsr v0 v1 v2 v3 = s34 := by unfold m_X6_hear_h034; rw [if_pos p_4, if_neg n_16N]
      have hz9 : gPD G A [zo6 h0 (nI pb) kd mo st (nI jg) ro tp (nI td) cd sr (nI tx) (nI ru) him ir ih ss sq ce lw s19 s20 s21 s22 wo he s25 s26 s27 sk na kp (m_X6_hear_h031 pb jg ru s31 fst fro fmo fkd fcd fsr v0 v1 v2 v3) (m_X6_hear_h032 pb jg ru s32 fst fro fmo fkd fcd fsr v0 v1 v2 v3) (m_X6_hear_h033 pb jg ru s33 fst fro fmo fkd fcd fsr v0 v1 v2 v3) (m_X6_hear_h034 pb jg ru s34 fst fro fmo fkd fcd fsr v0 v1 v2 v3) gb go fa ga s39 s40 vo, zi G st 12 fst, zi G ro 12 fro, zi G mo 6 fmo, zi G kd 6 fkd, zi G cd 1200 fcd, zi G sr 24 (nF fsr), zi G sk 200 fsk, zi G na 6 fna, zi G kp 24 fkp] H := ⟨by rw [q_56, q_57, q_58, q_59]; exact hP, by rw [q_56, q_57, q_58, q_59]; exact hD⟩
      have hP9 := hz9.1
      have hD9 := hz9.2
      have hpost : (fun (r : Int32) (u : (Nat → Int32) × (Nat → Int32) × (Nat → Int32)) => match u with | (ysk, yna, ykp) => r = m_X6_hear pb jg ru fst fro fmo fkd fcd fsr v0 v1 v2 v3) (-5) (fsk, fna, fkp) := (show m_X6_hear pb jg ru fst fro fmo fkd fcd fsr v0 v1 v2 v3 = (-5) from by unfold m_X6_hear; rw [if_pos p_4, if_neg n_16N]).symm
      exact W.iret (v := (-5)) hx hb hr (fun t ht hW => ⟨⟨(-5), (fsk, fna, fkp), rfl, hpost, by rw [ht]; exact hP9, va_K.moved hW.alike hK, hD9⟩, hS.F ht⟩) hS.2.2 dX6_hear_18
noncomputable def p_X6_fewest_28 (ru : Nat) (fst : Nat → Int32) (fro : Nat → Int32) (fmo : Nat → Int32) (fkd : Nat → Int32) (fcd : Nat → Int32) (fsr : Nat → Nat) (fgb : Nat → Int32) (v0 : Int32) (v1 : Int32) : Nat → Nat → Nat
  | 0, n7 => n7
  | q9 + 1, n7 => if ((m_X6_tellsMiles_gb ru fst fro fmo fkd fcd fsr fgb (nC v0) (nC v1)) n7) = 0 then p_X6_fewest_28 ru fst fro fmo fkd fcd fsr fgb v0 v1 q9 (n7 + 1)  else n7
noncomputable def g_X6_fewest_28 (ru : Nat) (fst : Nat → Int32) (fro : Nat → Int32) (fmo : Nat → Int32) (fkd : Nat → Int32) (fcd : Nat → Int32) (fsr : Nat → Nat) (fgb : Nat → Int32) (v0 : Int32) (v1 : Int32) : Nat := p_X6_fewest_28 ru fst fro fmo fkd fcd fsr fgb v0 v1 (61 - 0) 0 
noncomputable def m_X6_fewest (pb : Nat) (jg : Nat) (ru : Nat) (fst : Nat → Int32) (fro : Nat → Int32) (fmo : Nat → Int32) (fkd : Nat → Int32) (fcd : Nat → Int32) (fsr : Nat → Nat) (fgb : Nat → Int32) (v0 : Int32) (v1 : Int32) : Int32 := if (mHas jg v0) = true then (if (mHas pb v1) = true then (if 60 < (nI (g_X6_fewest_28 ru fst fro fmo fkd fcd fsr fgb v0 v1)) then -1 else nI (g_X6_fewest_28 ru fst fro fmo fkd fcd fsr fgb v0 v1)) else -5) else -5
abbrev q_X6_fewest (G : gG) (h0 kd mo st ro tp cd sr ir ih ss sq ce lw wo he sk na kp gb go fa ga vo : Nat) (pb : Nat) (jg : Nat) (td : Nat) (tx : Nat) (ru : Nat) (him : Int32) (s19 : Int32) (s20 : Int32) (s21 : Int32) (s22 : Int32) (s25 : Int32) (s26 : Int32) (s27 : Int32) (s31 : Int32) (s32 : Int32) (s33 : Int32) (s34 : Int32) (s39 : Int32) (s40 : Int32) (fst : Nat → Int32) (fro : Nat → Int32) (fmo : Nat → Int32) (fkd : Nat → Int32) (fcd : Nat → Int32) (fsr : Nat → Nat) (fsk : Nat → Int32) (fna : Nat → Int32) (fkp : Nat → Int32) (fgb : Nat → Int32) (v0 : Int32) (v1 : Int32) (A : Nat → Prop) : Array Value → State → Outcome → State → Prop := va_Qi (fun (r : Int32) (u : (Nat → Int32) × (Nat → Int32) × (Nat → Int32) × (Nat → Int32)) => match u with | (ysk, yna, ykp, ygb) => r = m_X6_fewest pb jg ru fst fro fmo fkd fcd fsr fgb v0 v1) (fun (u : (Nat → Int32) × (Nat → Int32) × (Nat → Int32) × (Nat → Int32)) t => match u with | (ysk, yna, ykp, ygb) => va_P G.1 vwCl [zo6 h0 (nI pb) kd mo st (nI jg) ro tp (nI td) cd sr (nI tx) (nI ru) him ir ih ss sq ce lw s19 s20 s21 s22 wo he s25 s26 s27 sk na kp s31 s32 s33 s34 gb go fa ga s39 s40 vo, zi G st 12 fst, zi G ro 12 fro, zi G mo 6 fmo, zi G kd 6 fkd, zi G cd 1200 fcd, zi G sr 24 (nF fsr), zi G sk 200 ysk, zi G na 6 yna, zi G kp 24 ykp, zb G gb 61 ygb] t.heap ∧ gK G t ∧ va_D A [zo6 h0 (nI pb) kd mo st (nI jg) ro tp (nI td) cd sr (nI tx) (nI ru) him ir ih ss sq ce lw s19 s20 s21 s22 wo he s25 s26 s27 sk na kp s31 s32 s33 s34 gb go fa ga s39 s40 vo, zi G st 12 fst, zi G ro 12 fro, zi G mo 6 fmo, zi G kd 6 fkd, zi G cd 1200 fcd, zi G sr 24 (nF fsr), zi G sk 200 ysk, zi G na 6 yna, zi G kp 24 ykp, zb G gb 61 ygb]) A
set_option maxHeartbeats 4000000 in
set_option maxRecDepth 100000 in
theorem c_X6_fewest (l : Launch) (G : gG) (h0 kd mo st ro tp cd sr ir ih ss sq ce lw wo he sk na kp gb go fa ga vo : Nat) (pb : Nat) (jg : Nat) (td : Nat) (tx : Nat) (ru : Nat) (him : Int32) (s19 : Int32) (s20 : Int32) (s21 : Int32) (s22 : Int32) (s25 : Int32) (s26 : Int32) (s27 : Int32) (s31 : Int32) (s32 : Int32) (s33 : Int32) (s34 : Int32) (s39 : Int32) (s40 : Int32) (fst : Nat → Int32) (fro : Nat → Int32) (fmo : Nat → Int32) (fkd : Nat → Int32) (fcd : Nat → Int32) (fsr : Nat → Nat) (fsk : Nat → Int32) (fna : Nat → Int32) (fkp : Nat → Int32) (fgb : Nat → Int32) (v0 : Int32) (v1 : Int32) (sz : Nat) (hpb : pb ≤ 6) (hjg : jg ≤ 4) (htx : tx ≤ 6) (hru : ru < tx) (hwa : ∀ t9, t9 < tx → mWf fcd fsr t9) : Met l yX6_fewest wsX6_fewest ({ frames := 6, cells := 0, slots := 0, locals := 145 }) (gPre G [.ref h0, .int v0, .int v1] [zo6 h0 (nI pb) kd mo st (nI jg) ro tp (nI td) cd sr (nI tx) (nI ru) him ir ih ss sq ce lw s19 s20 s21 s22 wo he s25 s26 s27 sk na kp s31 s32 s33 s34 gb go fa ga s39 s40 vo, zi G st 12 fst, zi G ro 12 fro, zi G mo 6 fmo, zi G kd 6 fkd, zi G cd 1200 fcd, zi G sr 24 (nF fsr), zi G sk 200 fsk, zi G na 6 fna, zi G kp 24 fkp, zb G gb 61 fgb] sz) (q_X6_fewest G h0 kd mo st ro tp cd sr ir ih ss sq ce lw wo he sk na kp gb go fa ga vo pb jg td tx ru him s19 s20 s21 s22 s25 s26 s27 s31 s32 s33 s34 s39 s40 fst fro fmo fkd fcd fsr fsk fna fkp fgb v0 v1 (va_A [zo6 h0 (nI pb) kd mo st (nI jg) ro tp (nI td) cd sr (nI tx) (nI ru) him ir ih ss sq ce lw s19 s20 s21 s22 wo he s25 s26 s27 sk na kp s31 s32 s33 s34 gb go fa ga s39 s40 vo, zi G st 12 fst, zi G ro 12 fro, zi G mo 6 fmo, zi G kd 6 fkd, zi G cd 1200 fcd, zi G sr 24 (nF fsr), zi G sk 200 fsk, zi G na 6 fna, zi G kp 24 fkp, zb G gb 61 fgb] sz)) 0 0 (va_A [zo6 h0 (nI pb) kd mo st (nI jg) ro tp (nI td) cd sr (nI tx) (nI ru) him ir ih ss sq ce lw s19 s20 s21 s22 wo he s25 s26 s27 sk na kp s31 s32 s33 s34 gb go fa ga s39 s40 vo, zi G st 12 fst, zi G ro 12 fro, zi G mo 6 fmo, zi G kd 6 fkd, zi G cd 1200 fcd, zi G sr 24 (nF fsr), zi G sk 200 fsk, zi G na 6 fna, zi G kp 24 fkp, zb G gb 61 fgb] sz) := by
  refine Met.ofW (cc := cX6_fewest) (maxL := 4) (ret := (some .int)) (by decide +kernel) rfl ?_
  intro p e s m args below meth c s₁ B hml hv
  obtain ⟨rfl, hsz, hP, hK, hD0⟩ := hv
  have hx := B.exec
  have hb := B.bytes
  have hr := B.returns
  have hts := atoms_spec (ws := wsX6_fewest) B.pre
  have hown : s.vm.findClass RX6 = some m.cls := findClass_of_methodNamed B.named
  have hlocks := B.notSynchronized
  subst hsz
  have hD := hD0.self (sz := s.heap.size)
  generalize hAe : va_A [zo6 h0 (nI pb) kd mo st (nI jg) ro tp (nI td) cd sr (nI tx) (nI ru) him ir ih ss sq ce lw s19 s20 s21 s22 wo he s25 s26 s27 sk na kp s31 s32 s33 s34 gb go fa ga s39 s40 vo, zi G st 12 fst, zi G ro 12 fro, zi G mo 6 fmo, zi G kd 6 fkd, zi G cd 1200 fcd, zi G sr 24 (nF fsr), zi G sk 200 fsk, zi G na 6 fna, zi G kp 24 fkp, zb G gb 61 fgb] s.heap.size = A at hD ⊢
  have hA : ∀ q : Nat, s.heap.size ≤ q → A q := fun q h => by rw [← hAe]; exact Or.inr h
  have hS : va_S A s.heap s.heap [] := va_S.rf
  have hz9 : gPD G A [zo6 h0 (nI pb) kd mo st (nI jg) ro tp (nI td) cd sr (nI tx) (nI ru) him ir ih ss sq ce lw s19 s20 s21 s22 wo he s25 s26 s27 sk na kp s31 s32 s33 s34 gb go fa ga s39 s40 vo, zi G st 12 fst, zi G ro 12 fro, zi G mo 6 fmo, zi G kd 6 fkd, zi G cd 1200 fcd, zi G sr 24 (nF fsr), zi G sk 200 fsk, zi G na 6 fna, zi G kp 24 fkp, zb G gb 61 fgb] s.heap := ⟨hP, hD⟩
  have hP := hz9.1
  have hD := hz9.2
  have hl := lv_entry ([.ref h0, .int v0, .int v1]) (n := 4) (Nat.le_of_ble_eq_true rfl)
  rw [lg_entry_eq]
  generalize (lg_sl ([.ref h0, .int v0, .int v1]) ++ List.replicate (4 - (lg_sl ([.ref h0, .int v0, .int v1])).length) Slot.unset).toArray = ls at hl ⊢
  have hl : lv_has ls 4 [zR 0 h0, zI 1 v0, zI 2 v1] := hl
  have kf64 := hts (.fieldLink RX6 64 "PebbleInShoeModel" "guiltyBy" "[Z") (by decide +kernel)
  have hiX6 := (by decide +kernel : ∀ w ∈ wsX60, w ∈ wsX6_fewest)
  refine lv_aload_n hx hb dX6_fewest_0 rfl (lv_at hl 0 rfl) ?_
  refine lv_iload_n hx hb dX6_fewest_1 rfl (lv_at hl 1 rfl) ?_
  refine z_calli [0] (v := bz (mHas jg v0)) (fun _ _ h => h) (va_runV (As := [.int v0]) (rest := []) ⟨hx, hb, hml, hown, hts⟩ (c_X6_isJudge l G h0 kd mo st ro tp cd sr ir ih ss sq ce lw wo he sk na kp gb go fa ga vo pb jg td tx ru him s19 s20 s21 s22 s25 s26 s27 s31 s32 s33 s34 s39 s40 v0 s.heap.size (by first | exact hpb | assumption | omega) (by first | exact hjg | assumption | omega) (by first | exact htx | assumption | omega) (by first | exact hru | assumption | omega)) (cwV 1 hts gX6_fewest_X6_isJudge rfl rfl rfl (by decide +kernel) ⟨Nat.le_of_ble_eq_true rfl, Nat.le_of_ble_eq_true rfl⟩) ⟨gPre_blind, va_recv (q := (RX6, TX6, 42)) hK hP (ci := 6) (q0 := 0) rfl rfl, fun U hU hW => gPre_ofF [0] hU hW hK hP hD (by decide +kernel) rfl⟩ rfl rfl hl.1 rfl (lv_room (Nat.le_of_ble_eq_true rfl)) dX6_fewest_2 ⟨Nat.le_of_ble_eq_true rfl, Nat.le_of_ble_eq_true rfl⟩) hS hD hA rfl (fun u t H locs ht hvm hB hz1 hk1 hFq hAq hS => ?_)
  obtain ⟨hP1, hK1, hD1⟩ := hB
  have hP := zKeep hP hD [0] hAq hk1 ht hP1 rfl
  refine lv_if_eq (tgt := 16) hx hb dX6_fewest_5 (by decide +kernel) (fun c_3 => ?_) (fun c_3 => ?_)
  · skip
    have n_5 : (mHas jg v0) = false := bz_eq rfl c_3
    have n_5N : ¬ ((mHas jg v0) = true) := by rw [n_5]; decide
    refine lv_bipush (v := -5) hx hb dX6_fewest_16 (by decide +kernel) ?_
    have hpost : (fun (r : Int32) (u : (Nat → Int32) × (Nat → Int32) × (Nat → Int32) × (Nat → Int32)) => match u with | (ysk, yna, ykp, ygb) => r = m_X6_fewest pb jg ru fst fro fmo fkd fcd fsr fgb v0 v1) (-5) (fsk, fna, fkp, fgb) := (show m_X6_fewest pb jg ru fst fro fmo fkd fcd fsr fgb v0 v1 = (-5) from by unfold m_X6_fewest; rw [if_neg n_5N]).symm
    exact W.iret (v := (-5)) hx hb hr (fun t ht hW => ⟨⟨(-5), (fsk, fna, fkp, fgb), rfl, hpost, by rw [ht]; exact hP, va_K.moved hW.alike hK, hD⟩, hS.F ht⟩) hS.2.2 dX6_fewest_18
  · skip
    have p_4 : (mHas jg v0) = true := bz_ne rfl c_3
    have hv_6 : v0 = nI (nC v0) := mHas_eq p_4
    have hk_7 : nC v0 < jg := mHas_lt (by omega) p_4
    refine lv_aload_n hx hb dX6_fewest_8 rfl (lv_at hl 0 rfl) ?_
    refine lv_iload_n hx hb dX6_fewest_9 rfl (lv_at hl 2 rfl) ?_
    refine z_calli [0] (v := bz (mHas pb v1)) (fun _ _ h => h) (va_runV (As := [.int v1]) (rest := []) ⟨hx, hb, hml, hown, hts⟩ (c_X6_isPebble l G h0 kd mo st ro tp cd sr ir ih ss sq ce lw wo he sk na kp gb go fa ga vo pb jg td tx ru him s19 s20 s21 s22 s25 s26 s27 s31 s32 s33 s34 s39 s40 v1 H.size (by first | exact hpb | assumption | omega) (by first | exact hjg | assumption | omega) (by first | exact htx | assumption | omega) (by first | exact hru | assumption | omega)) (cwV 1 hts gX6_fewest_X6_isPebble rfl rfl rfl (by decide +kernel) ⟨Nat.le_of_ble_eq_true rfl, Nat.le_of_ble_eq_true rfl⟩) ⟨gPre_blind, va_recv (q := (RX6, TX6, 42)) hK hP (ci := 6) (q0 := 0) rfl rfl, fun U hU hW => gPre_ofF [0] hU hW hK hP hD (by decide +kernel) rfl⟩ rfl rfl hl.1 rfl (lv_room (Nat.le_of_ble_eq_true rfl)) dX6_fewest_10 ⟨Nat.le_of_ble_eq_true rfl, Nat.le_of_ble_eq_true rfl⟩) hS hD hA rfl (fun u t H locs ht hvm hB hz1 hk1 hFq hAq hS => ?_)
    obtain ⟨hP1, hK1, hD1⟩ := hB
    have hP := zKeep hP hD [0] hAq hk1 ht hP1 rfl
    refine lv_if_ne (tgt := 19) hx hb dX6_fewest_13 (by decide +kernel) (fun c_10 => ?_) (fun c_10 => ?_)
    · skip
      have p_11 : (mHas pb v1) = true := bz_ne rfl c_10
      have hv_13 : v1 = nI (nC v1) := mHas_eq p_11
      have hk_14 : nC v1 < pb := mHas_lt (by omega) p_11
      refine lv_aload_n hx hb dX6_fewest_19 rfl (lv_at hl 0 rfl) ?_
      refine lv_iload_n hx hb dX6_fewest_20 rfl (lv_at hl 1 rfl) ?_
      refine g_topi (y := nI (nC v0)) hv_6 ?_
      refine lv_iload_n hx hb dX6_fewest_21 rfl (lv_at hl 2 rfl) ?_
      refine g_topi (y := nI (nC v1)) hv_13 ?_
      refine z_calli [0, 1, 2, 3, 4, 5, 6, 7, 8, 9, 10] (v := m_X6_tellsMiles ru fst fro fmo fkd fcd fsr fgb (nC v0) (nC v1)) (fun _ ⟨_, _, _⟩ h => h) (va_runV (As := [.int (nI (nC v0)), .int (nI (nC v1))]) (rest := []) ⟨hx, hb, hml, hown, hts⟩ (c_X6_tellsMiles l G h0 kd mo st ro tp cd sr ir ih ss sq ce lw wo he sk na kp gb go fa ga vo pb jg td tx ru him s19 s20 s21 s22 s25 s26 s27 s31 s32 s33 s34 s39 s40 fst fro fmo fkd fcd fsr fsk fna fkp fgb (nC v0) (nC v1) H.size (by first | exact hj | assumption | omega) (by first | exact hp | assumption | omega) (hwa _ (by omega)) (by first | exact hpb | assumption | omega) (by first | exact hjg | assumption | omega) (by first | exact htx | assumption | omega) (by first | exact hru | assumption | omega)) (cwV 2 hts gX6_fewest_X6_tellsMiles rfl rfl rfl (by decide +kernel) ⟨Nat.le_of_ble_eq_true rfl, Nat.le_of_ble_eq_true rfl⟩) ⟨gPre_blind, va_recv (q := (RX6, TX6, 42)) hK hP (ci := 6) (q0 := 0) rfl rfl, fun U hU hW => gPre_of hU hW hK hP hD⟩ rfl rfl hl.1 rfl (lv_room (Nat.le_of_ble_eq_true rfl)) dX6_fewest_22 ⟨Nat.le_of_ble_eq_true rfl, Nat.le_of_ble_eq_true rfl⟩) hS hD hA rfl (fun u t H locs ht hvm hB hz1 hk1 hFq hAq hS => ?_)
      obtain ⟨ysk_19, yna_20, ykp_21⟩ := u
      obtain ⟨hP1, hK1, hD1⟩ := hB
      have hz9 : gPD G A [zo6 h0 (nI pb) kd mo st (nI jg) ro tp (nI td) cd sr (nI tx) (nI ru) him ir ih ss sq ce lw s19 s20 s21 s22 wo he s25 s26 s27 sk na kp s31 s32 s33 s34 gb go fa ga s39 s40 vo, zi G st 12 fst, zi G ro 12 fro, zi G mo 6 fmo, zi G kd 6 fkd, zi G cd 1200 fcd, zi G sr 24 (nF fsr), zi G sk 200 ysk_19, zi G na 6 yna_20, zi G kp 24 ykp_21, zb G gb 61 (m_X6_tellsMiles_gb ru fst fro fmo fkd fcd fsr fgb (nC v0) (nC v1))] H := zFill hP hD [0, 1, 2, 3, 4, 5, 6, 7, 8, 9, 10] [1, 2, 3, 4, 5, 6, 7, 8, 9, 10, 11] hAq hk1 hFq ht hP1 hD1 rfl (by decide +kernel)
      have hP := hz9.1
      have hD := hz9.2
      refine lv_pop hx hb dX6_fewest_25 rfl ?_
      refine lv_iconst (v := 0) hx hb dX6_fewest_26 (by decide +kernel) ?_
      refine lv_istore_n (lv' := [zI 3 0, zR 0 h0, zI 1 v0, zI 2 v1]) hx hb dX6_fewest_27 rfl hl (by decide +kernel) rfl (fun ls hl => ?_)
      have loop_28 : ∀ (n9 : Nat) (n7 : Nat), (n7 ≤ 61) → (p_X6_fewest_28 ru fst fro fmo fkd fcd fsr fgb v0 v1 (61 - n7) n7  = (g_X6_fewest_28 ru fst fro fmo fkd fcd fsr fgb v0 v1)) → (61 - n7) < n9 → ∀ (H : Heap) (locs : List Loc), va_P G.1 vwCl [zo6 h0 (nI pb) kd mo st (nI jg) ro tp (nI td) cd sr (nI tx) (nI ru) him ir ih ss sq ce lw s19 s20 s21 s22 wo he s25 s26 s27 sk na kp s31 s32 s33 s34 gb go fa ga s39 s40 vo, zi G st 12 fst, zi G ro 12 fro, zi G mo 6 fmo, zi G kd 6 fkd, zi G cd 1200 fcd, zi G sr 24 (nF fsr), zi G sk 200 ysk_19, zi G na 6 yna_20, zi G kp 24 ykp_21, zb G gb 61 (m_X6_tellsMiles_gb ru fst fro fmo fkd fcd fsr fgb (nC v0) (nC v1))] H → va_D A [zo6 h0 (nI pb) kd mo st (nI jg) ro tp (nI td) cd sr (nI tx) (nI ru) him ir ih ss sq ce lw s19 s20 s21 s22 wo he s25 s26 s27 sk na kp s31 s32 s33 s34 gb go fa ga s39 s40 vo, zi G st 12 fst, zi G ro 12 fro, zi G mo 6 fmo, zi G kd 6 fkd, zi G cd 1200 fcd, zi G sr 24 (nF fsr), zi G sk 200 ysk_19, zi G na 6 yna_20, zi G kp 24 ykp_21, zb G gb 61 (m_X6_tellsMiles_gb ru fst fro fmo fkd fcd fsr fgb (nC v0) (nC v1))] → va_S A s.heap H locs → ∀ ls : Array Slot, lv_has ls 4 [zI 3 (nI n7), zR 0 h0, zI 1 v0, zI 2 v1] → W p l e (headSpec wsX6_fewest ({ frames := 6, cells := 0, slots := 0, locals := 145 })).room s m ([.ref h0, .int v0, .int v1] : List Value).toArray below meth c H locs 0 0 (MQ below (q_X6_fewest G h0 kd mo st ro tp cd sr ir ih ss sq ce lw wo he sk na kp gb go fa ga vo pb jg td tx ru him s19 s20 s21 s22 s25 s26 s27 s31 s32 s33 s34 s39 s40 fst fro fmo fkd fcd fsr fsk fna fkp fgb v0 v1 A) ([.ref h0, .int v0, .int v1] : List Value).toArray s 0 0 A) (F0 m 28 ls []) := by
        intro n9
        induction n9 with
        | zero => intro n7 hn7 R28 hm9_28; exact absurd hm9_28 (Nat.not_lt_zero _)
        | succ n9 ih9_28 =>
          intro n7 hn7 R28 hm9_28 H locs hP hD hS ls hl
          refine lv_iload_n hx hb dX6_fewest_28 rfl (lv_at hl 0 rfl) ?_
          refine lv_bipush (v := 60) hx hb dX6_fewest_29 (by decide +kernel) ?_
          refine lv_icmp_gt (tgt := 51) hx hb dX6_fewest_31 (by decide +kernel) (fun c_22 => ?_) (fun c_22 => ?_)
          · skip
            have c_22N : 60 < n7 := nI_lt1 (a := 60) (b := n7) (by omega) (by omega) c_22
            have hF28 : (g_X6_fewest_28 ru fst fro fmo fkd fcd fsr fgb v0 v1) = n7 := by rw [← R28, show 61 - n7 = 0 by omega]; rfl
            have hE28_0 : n7 = (g_X6_fewest_28 ru fst fro fmo fkd fcd fsr fgb v0 v1) := by rw [hF28]
            clear hF28 R28
            subst hE28_0
            refine lv_iconst (v := -1) hx hb dX6_fewest_51 (by decide +kernel) ?_
            have hpost : (fun (r : Int32) (u : (Nat → Int32) × (Nat → Int32) × (Nat → Int32) × (Nat → Int32)) => match u with | (ysk, yna, ykp, ygb) => r = m_X6_fewest pb jg ru fst fro fmo fkd fcd fsr fgb v0 v1) (-1) (ysk_19, yna_20, ykp_21, (m_X6_tellsMiles_gb ru fst fro fmo fkd fcd fsr fgb (nC v0) (nC v1))) := (show m_X6_fewest pb jg ru fst fro fmo fkd fcd fsr fgb v0 v1 = (-1) from by unfold m_X6_fewest; rw [if_pos p_4, if_pos p_11, if_pos c_22]).symm
            exact W.iret (v := (-1)) hx hb hr (fun t ht hW => ⟨⟨(-1), (ysk_19, yna_20, ykp_21, (m_X6_tellsMiles_gb ru fst fro fmo fkd fcd fsr fgb (nC v0) (nC v1))), rfl, hpost, by rw [ht]; exact hP, va_K.moved hW.alike hK, hD⟩, hS.F ht⟩) hS.2.2 dX6_fewest_52
          · skip
            have c_22N : n7 ≤ 60 := nI_lt0 (a := 60) (b := n7) (by omega) (by omega) c_22
            refine g_aget (D := G.1) (ci := 6) (v := .ref gb) (C := RX6) (T := TX6) (N := 42) hx hb dX6_fewest_34 rfl (lv_at hl 1 rfl) hts hiX6 hown hK hP 0 rfl rfl 35 (by decide +kernel) kf64 (fun _ h9 => h9) rfl dX6_fewest_35 ?_
            refine lv_iload_n hx hb dX6_fewest_38 rfl (lv_at hl 0 rfl) ?_
            refine va_zald (D := G.1) hx hb hK hP 10 1 rfl rfl (i := (nI n7)) (vpn (by omega) rfl) dX6_fewest_39 ?_
            refine g_topi (y := (m_X6_tellsMiles_gb ru fst fro fmo fkd fcd fsr fgb (nC v0) (nC v1)) n7) (by rw [nI_clamp (by omega)]) ?_
            refine lv_if_eq (tgt := 45) hx hb dX6_fewest_40 (by decide +kernel) (fun c_24 => ?_) (fun c_24 => ?_)
            · skip
              refine lv_iinc (v := nI (n7 + 1)) (lv' := [zI 3 (nI (n7 + 1)), zR 0 h0, zI 1 v0, zI 2 v1]) hx hb dX6_fewest_45 hl (k := 0) rfl (nI_add n7 1) (by decide +kernel) rfl (fun ls hl => ?_)
              refine lv_goto (tgt := 28) hx hb dX6_fewest_48 (by decide +kernel) ?_
              exact ih9_28 (n7 + 1) (by omega) (Eq.trans (Eq.symm ((congrArg (fun z9 => p_X6_fewest_28 ru fst fro fmo fkd fcd fsr fgb v0 v1 (z9) n7 ) (show 61 - n7 = 61 - (n7 + 1) + 1 by omega)).trans (by show p_X6_fewest_28 ru fst fro fmo fkd fcd fsr fgb v0 v1 (61 - (n7 + 1) + 1) n7  = _; rw [p_X6_fewest_28, if_pos c_24]))) R28) (by omega) _ _ hP hD hS ls hl
            · skip
              refine lv_iload_n hx hb dX6_fewest_43 rfl (lv_at hl 0 rfl) ?_
              have hF28 : (g_X6_fewest_28 ru fst fro fmo fkd fcd fsr fgb v0 v1) = n7 := R28.symm.trans ((congrArg (fun z9 => p_X6_fewest_28 ru fst fro fmo fkd fcd fsr fgb v0 v1 (z9) n7 ) (show 61 - n7 = 61 - (n7 + 1) + 1 by omega)).trans (by show p_X6_fewest_28 ru fst fro fmo fkd fcd fsr fgb v0 v1 (61 - (n7 + 1) + 1) n7  = _; rw [p_X6_fewest_28, if_neg c_24]))
              have hE28_0 : n7 = (g_X6_fewest_28 ru fst fro fmo fkd fcd fsr fgb v0 v1) := by rw [hF28]
              clear hF28 R28
              subst hE28_0
              have hpost : (fun (r : Int32) (u : (Nat → Int32) × (Nat → Int32) × (Nat → Int32) × (Nat → Int32)) => match u with | (ysk, yna, ykp, ygb) => r = m_X6_fewest pb jg ru fst fro fmo fkd fcd fsr fgb v0 v1) (nI (g_X6_fewest_28 ru fst fro fmo fkd fcd fsr fgb v0 v1)) (ysk_19, yna_20, ykp_21, (m_X6_tellsMiles_gb ru fst fro fmo fkd fcd fsr fgb (nC v0) (nC v1))) := (show m_X6_fewest pb jg ru fst fro fmo fkd fcd fsr fgb v0 v1 = (nI (g_X6_fewest_28 ru fst fro fmo fkd fcd fsr fgb v0 v1)) from by unfold m_X6_fewest; rw [if_pos p_4, if_pos p_11, if_neg c_22]).symm
              exact W.iret (v := (nI (g_X6_fewest_28 ru fst fro fmo fkd fcd fsr fgb v0 v1))) hx hb hr (fun t ht hW => ⟨⟨(nI (g_X6_fewest_28 ru fst fro fmo fkd fcd fsr fgb v0 v1)), (ysk_19, yna_20, ykp_21, (m_X6_tellsMiles_gb ru fst fro fmo fkd fcd fsr fgb (nC v0) (nC v1))), rfl, hpost, by rw [ht]; exact hP, va_K.moved hW.alike hK, hD⟩, hS.F ht⟩) hS.2.2 dX6_fewest_44
      exact loop_28 (61 - 0 + 1) 0 (by omega) (rfl) (by omega) _ _ hP hD hS ls hl
    · skip
      have n_12 : (mHas pb v1) = false := bz_eq rfl c_10
      have n_12N : ¬ ((mHas pb v1) = true) := by rw [n_12]; decide
      refine lv_bipush (v := -5) hx hb dX6_fewest_16 (by decide +kernel) ?_
      have hpost : (fun (r : Int32) (u : (Nat → Int32) × (Nat → Int32) × (Nat → Int32) × (Nat → Int32)) => match u with | (ysk, yna, ykp, ygb) => r = m_X6_fewest pb jg ru fst fro fmo fkd fcd fsr fgb v0 v1) (-5) (fsk, fna, fkp, fgb) := (show m_X6_fewest pb jg ru fst fro fmo fkd fcd fsr fgb v0 v1 = (-5) from by unfold m_X6_fewest; rw [if_pos p_4, if_neg n_12N]).symm
      exact W.iret (v := (-5)) hx hb hr (fun t ht hW => ⟨⟨(-5), (fsk, fna, fkp, fgb), rfl, hpost, by rw [ht]; exact hP, va_K.moved hW.alike hK, hD⟩, hS.F ht⟩) hS.2.2 dX6_fewest_18
noncomputable def m_X6_sand (pb : Nat) (jg : Nat) (ru : Nat) (fst : Nat → Int32) (fro : Nat → Int32) (fmo : Nat → Int32) (fkd : Nat → Int32) (fcd : Nat → Int32) (fsr : Nat → Nat) (fgb : Nat → Int32) (v0 : Int32) (v1 : Int32) : Int32 := if (mHas jg v0) = true then (if (mHas pb v1) = true then m_X6_tellsMiles ru fst fro fmo fkd fcd fsr fgb (nC v0) (nC v1) else -5) else -5
abbrev q_X6_sand (G : gG) (h0 kd mo st ro tp cd sr ir ih ss sq ce lw wo he sk na kp gb go fa ga vo : Nat) (pb : Nat) (jg : Nat) (td : Nat) (tx : Nat) (ru : Nat) (him : Int32) (s19 : Int32) (s20 : Int32) (s21 : Int32) (s22 : Int32) (s25 : Int32) (s26 : Int32) (s27 : Int32) (s31 : Int32) (s32 : Int32) (s33 : Int32) (s34 : Int32) (s39 : Int32) (s40 : Int32) (fst : Nat → Int32) (fro : Nat → Int32) (fmo : Nat → Int32) (fkd : Nat → Int32) (fcd : Nat → Int32) (fsr : Nat → Nat) (fsk : Nat → Int32) (fna : Nat → Int32) (fkp : Nat → Int32) (fgb : Nat → Int32) (v0 : Int32) (v1 : Int32) (A : Nat → Prop) : Array Value → State → Outcome → State → Prop := va_Qi (fun (r : Int32) (u : (Nat → Int32) × (Nat → Int32) × (Nat → Int32) × (Nat → Int32)) => match u with | (ysk, yna, ykp, ygb) => r = m_X6_sand pb jg ru fst fro fmo fkd fcd fsr fgb v0 v1) (fun (u : (Nat → Int32) × (Nat → Int32) × (Nat → Int32) × (Nat → Int32)) t => match u with | (ysk, yna, ykp, ygb) => va_P G.1 vwCl [zo6 h0 (nI pb) kd mo st (nI jg) ro tp (nI td) cd sr (nI tx) (nI ru) him ir ih ss sq ce lw s19 s20 s21 s22 wo he s25 s26 s27 sk na kp s31 s32 s33 s34 gb go fa ga s39 s40 vo, zi G st 12 fst, zi G ro 12 fro, zi G mo 6 fmo, zi G kd 6 fkd, zi G cd 1200 fcd, zi G sr 24 (nF fsr), zi G sk 200 ysk, zi G na 6 yna, zi G kp 24 ykp, zb G gb 61 ygb] t.heap ∧ gK G t ∧ va_D A [zo6 h0 (nI pb) kd mo st (nI jg) ro tp (nI td) cd sr (nI tx) (nI ru) him ir ih ss sq ce lw s19 s20 s21 s22 wo he s25 s26 s27 sk na kp s31 s32 s33 s34 gb go fa ga s39 s40 vo, zi G st 12 fst, zi G ro 12 fro, zi G mo 6 fmo, zi G kd 6 fkd, zi G cd 1200 fcd, zi G sr 24 (nF fsr), zi G sk 200 ysk, zi G na 6 yna, zi G kp 24 ykp, zb G gb 61 ygb]) A
set_option maxHeartbeats 4000000 in
set_option maxRecDepth 100000 in
theorem c_X6_sand (l : Launch) (G : gG) (h0 kd mo st ro tp cd sr ir ih ss sq ce lw wo he sk na kp gb go fa ga vo : Nat) (pb : Nat) (jg : Nat) (td : Nat) (tx : Nat) (ru : Nat) (him : Int32) (s19 : Int32) (s20 : Int32) (s21 : Int32) (s22 : Int32) (s25 : Int32) (s26 : Int32) (s27 : Int32) (s31 : Int32) (s32 : Int32) (s33 : Int32) (s34 : Int32) (s39 : Int32) (s40 : Int32) (fst : Nat → Int32) (fro : Nat → Int32) (fmo : Nat → Int32) (fkd : Nat → Int32) (fcd : Nat → Int32) (fsr : Nat → Nat) (fsk : Nat → Int32) (fna : Nat → Int32) (fkp : Nat → Int32) (fgb : Nat → Int32) (v0 : Int32) (v1 : Int32) (sz : Nat) (hpb : pb ≤ 6) (hjg : jg ≤ 4) (htx : tx ≤ 6) (hru : ru < tx) (hwa : ∀ t9, t9 < tx → mWf fcd fsr t9) : Met l yX6_sand wsX6_sand ({ frames := 6, cells := 0, slots := 0, locals := 145 }) (gPre G [.ref h0, .int v0, .int v1] [zo6 h0 (nI pb) kd mo st (nI jg) ro tp (nI td) cd sr (nI tx) (nI ru) him ir ih ss sq ce lw s19 s20 s21 s22 wo he s25 s26 s27 sk na kp s31 s32 s33 s34 gb go fa ga s39 s40 vo, zi G st 12 fst, zi G ro 12 fro, zi G mo 6 fmo, zi G kd 6 fkd, zi G cd 1200 fcd, zi G sr 24 (nF fsr), zi G sk 200 fsk, zi G na 6 fna, zi G kp 24 fkp, zb G gb 61 fgb] sz) (q_X6_sand G h0 kd mo st ro tp cd sr ir ih ss sq ce lw wo he sk na kp gb go fa ga vo pb jg td tx ru him s19 s20 s21 s22 s25 s26 s27 s31 s32 s33 s34 s39 s40 fst fro fmo fkd fcd fsr fsk fna fkp fgb v0 v1 (va_A [zo6 h0 (nI pb) kd mo st (nI jg) ro tp (nI td) cd sr (nI tx) (nI ru) him ir ih ss sq ce lw s19 s20 s21 s22 wo he s25 s26 s27 sk na kp s31 s32 s33 s34 gb go fa ga s39 s40 vo, zi G st 12 fst, zi G ro 12 fro, zi G mo 6 fmo, zi G kd 6 fkd, zi G cd 1200 fcd, zi G sr 24 (nF fsr), zi G sk 200 fsk, zi G na 6 fna, zi G kp 24 fkp, zb G gb 61 fgb] sz)) 0 0 (va_A [zo6 h0 (nI pb) kd mo st (nI jg) ro tp (nI td) cd sr (nI tx) (nI ru) him ir ih ss sq ce lw s19 s20 s21 s22 wo he s25 s26 s27 sk na kp s31 s32 s33 s34 gb go fa ga s39 s40 vo, zi G st 12 fst, zi G ro 12 fro, zi G mo 6 fmo, zi G kd 6 fkd, zi G cd 1200 fcd, zi G sr 24 (nF fsr), zi G sk 200 fsk, zi G na 6 fna, zi G kp 24 fkp, zb G gb 61 fgb] sz) := by
  refine Met.ofW (cc := cX6_sand) (maxL := 3) (ret := (some .int)) (by decide +kernel) rfl ?_
  intro p e s m args below meth c s₁ B hml hv
  obtain ⟨rfl, hsz, hP, hK, hD0⟩ := hv
  have hx := B.exec
  have hb := B.bytes
  have hr := B.returns
  have hts := atoms_spec (ws := wsX6_sand) B.pre
  have hown : s.vm.findClass RX6 = some m.cls := findClass_of_methodNamed B.named
  have hlocks := B.notSynchronized
  subst hsz
  have hD := hD0.self (sz := s.heap.size)
  generalize hAe : va_A [zo6 h0 (nI pb) kd mo st (nI jg) ro tp (nI td) cd sr (nI tx) (nI ru) him ir ih ss sq ce lw s19 s20 s21 s22 wo he s25 s26 s27 sk na kp s31 s32 s33 s34 gb go fa ga s39 s40 vo, zi G st 12 fst, zi G ro 12 fro, zi G mo 6 fmo, zi G kd 6 fkd, zi G cd 1200 fcd, zi G sr 24 (nF fsr), zi G sk 200 fsk, zi G na 6 fna, zi G kp 24 fkp, zb G gb 61 fgb] s.heap.size = A at hD ⊢
  have hA : ∀ q : Nat, s.heap.size ≤ q → A q := fun q h => by rw [← hAe]; exact Or.inr h
  have hS : va_S A s.heap s.heap [] := va_S.rf
  have hz9 : gPD G A [zo6 h0 (nI pb) kd mo st (nI jg) ro tp (nI td) cd sr (nI tx) (nI ru) him ir ih ss sq ce lw s19 s20 s21 s22 wo he s25 s26 s27 sk na kp s31 s32 s33 s34 gb go fa ga s39 s40 vo, zi G st 12 fst, zi G ro 12 fro, zi G mo 6 fmo, zi G kd 6 fkd, zi G cd 1200 fcd, zi G sr 24 (nF fsr), zi G sk 200 fsk, zi G na 6 fna, zi G kp 24 fkp, zb G gb 61 fgb] s.heap := ⟨hP, hD⟩
  have hP := hz9.1
  have hD := hz9.2
  have hl := lv_entry ([.ref h0, .int v0, .int v1]) (n := 3) (Nat.le_of_ble_eq_true rfl)
  rw [lg_entry_eq]
  generalize (lg_sl ([.ref h0, .int v0, .int v1]) ++ List.replicate (3 - (lg_sl ([.ref h0, .int v0, .int v1])).length) Slot.unset).toArray = ls at hl ⊢
  have hl : lv_has ls 3 [zR 0 h0, zI 1 v0, zI 2 v1] := hl
  refine lv_aload_n hx hb dX6_sand_0 rfl (lv_at hl 0 rfl) ?_
  refine lv_iload_n hx hb dX6_sand_1 rfl (lv_at hl 1 rfl) ?_
  refine z_calli [0] (v := bz (mHas jg v0)) (fun _ _ h => h) (va_runV (As := [.int v0]) (rest := []) ⟨hx, hb, hml, hown, hts⟩ (c_X6_isJudge l G h0 kd mo st ro tp cd sr ir ih ss sq ce lw wo he sk na kp gb go fa ga vo pb jg td tx ru him s19 s20 s21 s22 s25 s26 s27 s31 s32 s33 s34 s39 s40 v0 s.heap.size (by first | exact hpb | assumption | omega) (by first | exact hjg | assumption | omega) (by first | exact htx | assumption | omega) (by first | exact hru | assumption | omega)) (cwV 1 hts gX6_sand_X6_isJudge rfl rfl rfl (by decide +kernel) ⟨Nat.le_of_ble_eq_true rfl, Nat.le_of_ble_eq_true rfl⟩) ⟨gPre_blind, va_recv (q := (RX6, TX6, 42)) hK hP (ci := 6) (q0 := 0) rfl rfl, fun U hU hW => gPre_ofF [0] hU hW hK hP hD (by decide +kernel) rfl⟩ rfl rfl hl.1 rfl (lv_room (Nat.le_of_ble_eq_true rfl)) dX6_sand_2 ⟨Nat.le_of_ble_eq_true rfl, Nat.le_of_ble_eq_true rfl⟩) hS hD hA rfl (fun u t H locs ht hvm hB hz1 hk1 hFq hAq hS => ?_)
  obtain ⟨hP1, hK1, hD1⟩ := hB
  have hP := zKeep hP hD [0] hAq hk1 ht hP1 rfl
  refine lv_if_eq (tgt := 25) hx hb dX6_sand_5 (by decide +kernel) (fun c_3 => ?_) (fun c_3 => ?_)
  · skip
    have n_5 : (mHas jg v0) = false := bz_eq rfl c_3
    have n_5N : ¬ ((mHas jg v0) = true) := by rw [n_5]; decide
    refine lv_bipush (v := -5) hx hb dX6_sand_25 (by decide +kernel) ?_
    have hpost : (fun (r : Int32) (u : (Nat → Int32) × (Nat → Int32) × (Nat → Int32) × (Nat → Int32)) => match u with | (ysk, yna, ykp, ygb) => r = m_X6_sand pb jg ru fst fro fmo fkd fcd fsr fgb v0 v1) (-5) (fsk, fna, fkp, fgb) := (show m_X6_sand pb jg ru fst fro fmo fkd fcd fsr fgb v0 v1 = (-5) from by unfold m_X6_sand; rw [if_neg n_5N]).symm
    exact W.iret (v := (-5)) hx hb hr (fun t ht hW => ⟨⟨(-5), (fsk, fna, fkp, fgb), rfl, hpost, by rw [ht]; exact hP, va_K.moved hW.alike hK, hD⟩, hS.F ht⟩) hS.2.2 dX6_sand_27
  · skip
    have p_4 : (mHas jg v0) = true := bz_ne rfl c_3
    have hv_6 : v0 = nI (nC v0) := mHas_eq p_4
    have hk_7 : nC v0 < jg := mHas_lt (by omega) p_4
    refine lv_aload_n hx hb dX6_sand_8 rfl (lv_at hl 0 rfl) ?_
    refine lv_iload_n hx hb dX6_sand_9 rfl (lv_at hl 2 rfl) ?_
    refine z_calli [0] (v := bz (mHas pb v1)) (fun _ _ h => h) (va_runV (As := [.int v1]) (rest := []) ⟨hx, hb, hml, hown, hts⟩ (c_X6_isPebble l G h0 kd mo st ro tp cd sr ir ih ss sq ce lw wo he sk na kp gb go fa ga vo pb jg td tx ru him s19 s20 s21 s22 s25 s26 s27 s31 s32 s33 s34 s39 s40 v1 H.size (by first | exact hpb | assumption | omega) (by first | exact hjg | assumption | omega) (by first | exact htx | assumption | omega) (by first | exact hru | assumption | omega)) (cwV 1 hts gX6_sand_X6_isPebble rfl rfl rfl (by decide +kernel) ⟨Nat.le_of_ble_eq_true rfl, Nat.le_of_ble_eq_true rfl⟩) ⟨gPre_blind, va_recv (q := (RX6, TX6, 42)) hK hP (ci := 6) (q0 := 0) rfl rfl, fun U hU hW => gPre_ofF [0] hU hW hK hP hD (by decide +kernel) rfl⟩ rfl rfl hl.1 rfl (lv_room (Nat.le_of_ble_eq_true rfl)) dX6_sand_10 ⟨Nat.le_of_ble_eq_true rfl, Nat.le_of_ble_eq_true rfl⟩) hS hD hA rfl (fun u t H locs ht hvm hB hz1 hk1 hFq hAq hS => ?_)
    obtain ⟨hP1, hK1, hD1⟩ := hB
    have hP := zKeep hP hD [0] hAq hk1 ht hP1 rfl
    refine lv_if_eq (tgt := 25) hx hb dX6_sand_13 (by decide +kernel) (fun c_10 => ?_) (fun c_10 => ?_)
    · skip
      have n_12 : (mHas pb v1) = false := bz_eq rfl c_10
      have n_12N : ¬ ((mHas pb v1) = true) := by rw [n_12]; decide
      refine lv_bipush (v := -5) hx hb dX6_sand_25 (by decide +kernel) ?_
      have hpost : (fun (r : Int32) (u : (Nat → Int32) × (Nat → Int32) × (Nat → Int32) × (Nat → Int32)) => match u with | (ysk, yna, ykp, ygb) => r = m_X6_sand pb jg ru fst fro fmo fkd fcd fsr fgb v0 v1) (-5) (fsk, fna, fkp, fgb) := (show m_X6_sand pb jg ru fst fro fmo fkd fcd fsr fgb v0 v1 = (-5) from by unfold m_X6_sand; rw [if_pos p_4, if_neg n_12N]).symm
      exact W.iret (v := (-5)) hx hb hr (fun t ht hW => ⟨⟨(-5), (fsk, fna, fkp, fgb), rfl, hpost, by rw [ht]; exact hP, va_K.moved hW.alike hK, hD⟩, hS.F ht⟩) hS.2.2 dX6_sand_27
    · skip
      have p_11 : (mHas pb v1) = true := bz_ne rfl c_10
      have hv_13 : v1 = nI (nC v1) := mHas_eq p_11
      have hk_14 : nC v1 < pb := mHas_lt (by omega) p_11
      refine lv_aload_n hx hb dX6_sand_16 rfl (lv_at hl 0 rfl) ?_
      refine lv_iload_n hx hb dX6_sand_17 rfl (lv_at hl 1 rfl) ?_
      refine g_topi (y := nI (nC v0)) hv_6 ?_
      refine lv_iload_n hx hb dX6_sand_18 rfl (lv_at hl 2 rfl) ?_
      refine g_topi (y := nI (nC v1)) hv_13 ?_
      refine z_calli [0, 1, 2, 3, 4, 5, 6, 7, 8, 9, 10] (v := m_X6_tellsMiles ru fst fro fmo fkd fcd fsr fgb (nC v0) (nC v1)) (fun _ ⟨_, _, _⟩ h => h) (va_runV (As := [.int (nI (nC v0)), .int (nI (nC v1))]) (rest := []) ⟨hx, hb, hml, hown, hts⟩ (c_X6_tellsMiles l G h0 kd mo st ro tp cd sr ir ih ss sq ce lw wo he sk na kp gb go fa ga vo pb jg td tx ru him s19 s20 s21 s22 s25 s26 s27 s31 s32 s33 s34 s39 s40 fst fro fmo fkd fcd fsr fsk fna fkp fgb (nC v0) (nC v1) H.size (by first | exact hj | assumption | omega) (by first | exact hp | assumption | omega) (hwa _ (by omega)) (by first | exact hpb | assumption | omega) (by first | exact hjg | assumption | omega) (by first | exact htx | assumption | omega) (by first | exact hru | assumption | omega)) (cwV 2 hts gX6_sand_X6_tellsMiles rfl rfl rfl (by decide +kernel) ⟨Nat.le_of_ble_eq_true rfl, Nat.le_of_ble_eq_true rfl⟩) ⟨gPre_blind, va_recv (q := (RX6, TX6, 42)) hK hP (ci := 6) (q0 := 0) rfl rfl, fun U hU hW => gPre_of hU hW hK hP hD⟩ rfl rfl hl.1 rfl (lv_room (Nat.le_of_ble_eq_true rfl)) dX6_sand_19 ⟨Nat.le_of_ble_eq_true rfl, Nat.le_of_ble_eq_true rfl⟩) hS hD hA rfl (fun u t H locs ht hvm hB hz1 hk1 hFq hAq hS => ?_)
      obtain ⟨ysk_19, yna_20, ykp_21⟩ := u
      obtain ⟨hP1, hK1, hD1⟩ := hB
      have hz9 : gPD G A [zo6 h0 (nI pb) kd mo st (nI jg) ro tp (nI td) cd sr (nI tx) (nI ru) him ir ih ss sq ce lw s19 s20 s21 s22 wo he s25 s26 s27 sk na kp s31 s32 s33 s34 gb go fa ga s39 s40 vo, zi G st 12 fst, zi G ro 12 fro, zi G mo 6 fmo, zi G kd 6 fkd, zi G cd 1200 fcd, zi G sr 24 (nF fsr), zi G sk 200 ysk_19, zi G na 6 yna_20, zi G kp 24 ykp_21, zb G gb 61 (m_X6_tellsMiles_gb ru fst fro fmo fkd fcd fsr fgb (nC v0) (nC v1))] H := zFill hP hD [0, 1, 2, 3, 4, 5, 6, 7, 8, 9, 10] [1, 2, 3, 4, 5, 6, 7, 8, 9, 10, 11] hAq hk1 hFq ht hP1 hD1 rfl (by decide +kernel)
      have hP := hz9.1
      have hD := hz9.2
      refine lv_goto (tgt := 27) hx hb dX6_sand_22 (by decide +kernel) ?_
      have hpost : (fun (r : Int32) (u : (Nat → Int32) × (Nat → Int32) × (Nat → Int32) × (Nat → Int32)) => match u with | (ysk, yna, ykp, ygb) => r = m_X6_sand pb jg ru fst fro fmo fkd fcd fsr fgb v0 v1) (m_X6_tellsMiles ru fst fro fmo fkd fcd fsr fgb (nC v0) (nC v1)) (ysk_19, yna_20, ykp_21, (m_X6_tellsMiles_gb ru fst fro fmo fkd fcd fsr fgb (nC v0) (nC v1))) := (show m_X6_sand pb jg ru fst fro fmo fkd fcd fsr fgb v0 v1 = (m_X6_tellsMiles ru fst fro fmo fkd fcd fsr fgb (nC v0) (nC v1)) from by unfold m_X6_sand; rw [if_pos p_4, if_pos p_11]).symm
      exact W.iret (v := (m_X6_tellsMiles ru fst fro fmo fkd fcd fsr fgb (nC v0) (nC v1))) hx hb hr (fun t ht hW => ⟨⟨(m_X6_tellsMiles ru fst fro fmo fkd fcd fsr fgb (nC v0) (nC v1)), (ysk_19, yna_20, ykp_21, (m_X6_tellsMiles_gb ru fst fro fmo fkd fcd fsr fgb (nC v0) (nC v1))), rfl, hpost, by rw [ht]; exact hP, va_K.moved hW.alike hK, hD⟩, hS.F ht⟩) hS.2.2 dX6_sand_27
noncomputable def p_X6_unlike_42 (ru : Nat) (fst : Nat → Int32) (fro : Nat → Int32) (fmo : Nat → Int32) (fkd : Nat → Int32) (fcd : Nat → Int32) (fsr : Nat → Nat) (fgb : Nat → Int32) (v0 : Int32) (v2 : Int32) : Nat → Nat → (Nat → Int32) → Nat × (Nat → Int32)
  | 0, n8, y42go => (n8, y42go)
  | q9 + 1, n8, y42go => p_X6_unlike_42 ru fst fro fmo fkd fcd fsr fgb v0 v2 q9 (n8 + 1) (upd y42go n8 (vp_nar .boolean ((m_X6_tellsMiles_gb ru fst fro fmo fkd fcd fsr fgb (nC v0) (nC v2)) n8)))
noncomputable def g_X6_unlike_42 (ru : Nat) (fst : Nat → Int32) (fro : Nat → Int32) (fmo : Nat → Int32) (fkd : Nat → Int32) (fcd : Nat → Int32) (fsr : Nat → Nat) (fgb : Nat → Int32) (fgo : Nat → Int32) (v0 : Int32) (v2 : Int32) : Nat × (Nat → Int32) := p_X6_unlike_42 ru fst fro fmo fkd fcd fsr fgb v0 v2 (61 - 0) 0 fgo
noncomputable def p_X6_unlike_79 (ru : Nat) (fst : Nat → Int32) (fro : Nat → Int32) (fmo : Nat → Int32) (fkd : Nat → Int32) (fcd : Nat → Int32) (fsr : Nat → Nat) (fgb : Nat → Int32) (fgo : Nat → Int32) (v0 : Int32) (v1 : Int32) (v2 : Int32) : Nat → Nat → Nat
  | 0, n9u => n9u
  | q9 + 1, n9u => if (((g_X6_unlike_42 ru fst fro fmo fkd fcd fsr fgb fgo v0 v2).2) n9u) = 0 then p_X6_unlike_79 ru fst fro fmo fkd fcd fsr fgb fgo v0 v1 v2 q9 (n9u + 1)  else (if ((m_X6_tellsMiles_gb ru fst fro fmo fkd fcd fsr (m_X6_tellsMiles_gb ru fst fro fmo fkd fcd fsr fgb (nC v0) (nC v2)) (nC v1) (nC v2)) n9u) = 0 then n9u else p_X6_unlike_79 ru fst fro fmo fkd fcd fsr fgb fgo v0 v1 v2 q9 (n9u + 1) )
noncomputable def g_X6_unlike_79 (ru : Nat) (fst : Nat → Int32) (fro : Nat → Int32) (fmo : Nat → Int32) (fkd : Nat → Int32) (fcd : Nat → Int32) (fsr : Nat → Nat) (fgb : Nat → Int32) (fgo : Nat → Int32) (v0 : Int32) (v1 : Int32) (v2 : Int32) : Nat := p_X6_unlike_79 ru fst fro fmo fkd fcd fsr fgb fgo v0 v1 v2 (61 - 0) 0 
noncomputable def m_X6_unlike (pb : Nat) (jg : Nat) (ru : Nat) (fst : Nat → Int32) (fro : Nat → Int32) (fmo : Nat → Int32) (fkd : Nat → Int32) (fcd : Nat → Int32) (fsr : Nat → Nat) (fgb : Nat → Int32) (fgo : Nat → Int32) (v0 : Int32) (v1 : Int32) (v2 : Int32) : Int32 := if (mHas jg v0) = true then (if (mHas jg v1) = true then (if (nI (nC v0)) = (nI (nC v1)) then -5 else (if (mHas pb v2) = true then (if 60 < (nI (g_X6_unlike_79 ru fst fro fmo fkd fcd fsr fgb fgo v0 v1 v2)) then -1 else nI (g_X6_unlike_79 ru fst fro fmo fkd fcd fsr fgb fgo v0 v1 v2)) else -5)) else -5) else -5
abbrev q_X6_unlike (G : gG) (h0 kd mo st ro tp cd sr ir ih ss sq ce lw wo he sk na kp gb go fa ga vo : Nat) (pb : Nat) (jg : Nat) (td : Nat) (tx : Nat) (ru : Nat) (him : Int32) (s19 : Int32) (s20 : Int32) (s21 : Int32) (s22 : Int32) (s25 : Int32) (s26 : Int32) (s27 : Int32) (s31 : Int32) (s32 : Int32) (s33 : Int32) (s34 : Int32) (s39 : Int32) (s40 : Int32) (fst : Nat → Int32) (fro : Nat → Int32) (fmo : Nat → Int32) (fkd : Nat → Int32) (fcd : Nat → Int32) (fsr : Nat → Nat) (fsk : Nat → Int32) (fna : Nat → Int32) (fkp : Nat → Int32) (fgb : Nat → Int32) (fgo : Nat → Int32) (v0 : Int32) (v1 : Int32) (v2 : Int32) (A : Nat → Prop) : Array Value → State → Outcome → State → Prop := va_Qi (fun (r : Int32) (u : (Nat → Int32) × (Nat → Int32) × (Nat → Int32) × (Nat → Int32) × (Nat → Int32)) => match u with | (ysk, yna, ykp, ygb, ygo) => r = m_X6_unlike pb jg ru fst fro fmo fkd fcd fsr fgb fgo v0 v1 v2) (fun (u : (Nat → Int32) × (Nat → Int32) × (Nat → Int32) × (Nat → Int32) × (Nat → Int32)) t => match u with | (ysk, yna, ykp, ygb, ygo) => va_P G.1 vwCl [zo6 h0 (nI pb) kd mo st (nI jg) ro tp (nI td) cd sr (nI tx) (nI ru) him ir ih ss sq ce lw s19 s20 s21 s22 wo he s25 s26 s27 sk na kp s31 s32 s33 s34 gb go fa ga s39 s40 vo, zi G st 12 fst, zi G ro 12 fro, zi G mo 6 fmo, zi G kd 6 fkd, zi G cd 1200 fcd, zi G sr 24 (nF fsr), zi G sk 200 ysk, zi G na 6 yna, zi G kp 24 ykp, zb G gb 61 ygb, zb G go 61 ygo] t.heap ∧ gK G t ∧ va_D A [zo6 h0 (nI pb) kd mo st (nI jg) ro tp (nI td) cd sr (nI tx) (nI ru) him ir ih ss sq ce lw s19 s20 s21 s22 wo he s25 s26 s27 sk na kp s31 s32 s33 s34 gb go fa ga s39 s40 vo, zi G st 12 fst, zi G ro 12 fro, zi G mo 6 fmo, zi G kd 6 fkd, zi G cd 1200 fcd, zi G sr 24 (nF fsr), zi G sk 200 ysk, zi G na 6 yna, zi G kp 24 ykp, zb G gb 61 ygb, zb G go 61 ygo]) A
set_option maxHeartbeats 4000000 in
set_option maxRecDepth 100000 in
theorem c_X6_unlike (l : Launch) (G : gG) (h0 kd mo st ro tp cd sr ir ih ss sq ce lw wo he sk na kp gb go fa ga vo : Nat) (pb : Nat) (jg : Nat) (td : Nat) (tx : Nat) (ru : Nat) (him : Int32) (s19 : Int32) (s20 : Int32) (s21 : Int32) (s22 : Int32) (s25 : Int32) (s26 : Int32) (s27 : Int32) (s31 : Int32) (s32 : Int32) (s33 : Int32) (s34 : Int32) (s39 : Int32) (s40 : Int32) (fst : Nat → Int32) (fro : Nat → Int32) (fmo : Nat → Int32) (fkd : Nat → Int32) (fcd : Nat → Int32) (fsr : Nat → Nat) (fsk : Nat → Int32) (fna : Nat → Int32) (fkp : Nat → Int32) (fgb : Nat → Int32) (fgo : Nat → Int32) (v0 : Int32) (v1 : Int32) (v2 : Int32) (sz : Nat) (hwa : ∀ t9, t9 < tx → mWf fcd fsr t9) (hpb : pb ≤ 6) (hjg : jg ≤ 4) (htx : tx ≤ 6) (hru : ru < tx) : Met l yX6_unlike wsX6_unlike ({ frames := 6, cells := 0, slots := 0, locals := 145 }) (gPre G [.ref h0, .int v0, .int v1, .int v2] [zo6 h0 (nI pb) kd mo st (nI jg) ro tp (nI td) cd sr (nI tx) (nI ru) him ir ih ss sq ce lw s19 s20 s21 s22 wo he s25 s26 s27 sk na kp s31 s32 s33 s34 gb go fa ga s39 s40 vo, zi G st 12 fst, zi G ro 12 fro, zi G mo 6 fmo, zi G kd 6 fkd, zi G cd 1200 fcd, zi G sr 24 (nF fsr), zi G sk 200 fsk, zi G na 6 fna, zi G kp 24 fkp, zb G gb 61 fgb, zb G go 61 fgo] sz) (q_X6_unlike G h0 kd mo st ro tp cd sr ir ih ss sq ce lw wo he sk na kp gb go fa ga vo pb jg td tx ru him s19 s20 s21 s22 s25 s26 s27 s31 s32 s33 s34 s39 s40 fst fro fmo fkd fcd fsr fsk fna fkp fgb fgo v0 v1 v2 (va_A [zo6 h0 (nI pb) kd mo st (nI jg) ro tp (nI td) cd sr (nI tx) (nI ru) him ir ih ss sq ce lw s19 s20 s21 s22 wo he s25 s26 s27 sk na kp s31 s32 s33 s34 gb go fa ga s39 s40 vo, zi G st 12 fst, zi G ro 12 fro, zi G mo 6 fmo, zi G kd 6 fkd, zi G cd 1200 fcd, zi G sr 24 (nF fsr), zi G sk 200 fsk, zi G na 6 fna, zi G kp 24 fkp, zb G gb 61 fgb, zb G go 61 fgo] sz)) 0 0 (va_A [zo6 h0 (nI pb) kd mo st (nI jg) ro tp (nI td) cd sr (nI tx) (nI ru) him ir ih ss sq ce lw s19 s20 s21 s22 wo he s25 s26 s27 sk na kp s31 s32 s33 s34 gb go fa ga s39 s40 vo, zi G st 12 fst, zi G ro 12 fro, zi G mo 6 fmo, zi G kd 6 fkd, zi G cd 1200 fcd, zi G sr 24 (nF fsr), zi G sk 200 fsk, zi G na 6 fna, zi G kp 24 fkp, zb G gb 61 fgb, zb G go 61 fgo] sz) := by
  refine Met.ofW (cc := cX6_unlike) (maxL := 5) (ret := (some .int)) (by decide +kernel) rfl ?_
  intro p e s m args below meth c s₁ B hml hv
  obtain ⟨rfl, hsz, hP, hK, hD0⟩ := hv
  have hx := B.exec
  have hb := B.bytes
  have hr := B.returns
  have hts := atoms_spec (ws := wsX6_unlike) B.pre
  have hown : s.vm.findClass RX6 = some m.cls := findClass_of_methodNamed B.named
  have hlocks := B.notSynchronized
  subst hsz
  have hD := hD0.self (sz := s.heap.size)
  generalize hAe : va_A [zo6 h0 (nI pb) kd mo st (nI jg) ro tp (nI td) cd sr (nI tx) (nI ru) him ir ih ss sq ce lw s19 s20 s21 s22 wo he s25 s26 s27 sk na kp s31 s32 s33 s34 gb go fa ga s39 s40 vo, zi G st 12 fst, zi G ro 12 fro, zi G mo 6 fmo, zi G kd 6 fkd, zi G cd 1200 fcd, zi G sr 24 (nF fsr), zi G sk 200 fsk, zi G na 6 fna, zi G kp 24 fkp, zb G gb 61 fgb, zb G go 61 fgo] s.heap.size = A at hD ⊢
  have hA : ∀ q : Nat, s.heap.size ≤ q → A q := fun q h => by rw [← hAe]; exact Or.inr h
  have hS : va_S A s.heap s.heap [] := va_S.rf
  have hz9 : gPD G A [zo6 h0 (nI pb) kd mo st (nI jg) ro tp (nI td) cd sr (nI tx) (nI ru) him ir ih ss sq ce lw s19 s20 s21 s22 wo he s25 s26 s27 sk na kp s31 s32 s33 s34 gb go fa ga s39 s40 vo, zi G st 12 fst, zi G ro 12 fro, zi G mo 6 fmo, zi G kd 6 fkd, zi G cd 1200 fcd, zi G sr 24 (nF fsr), zi G sk 200 fsk, zi G na 6 fna, zi G kp 24 fkp, zb G gb 61 fgb, zb G go 61 fgo] s.heap := ⟨hP, hD⟩
  have hP := hz9.1
  have hD := hz9.2
  have hl := lv_entry ([.ref h0, .int v0, .int v1, .int v2]) (n := 5) (Nat.le_of_ble_eq_true rfl)
  rw [lg_entry_eq]
  generalize (lg_sl ([.ref h0, .int v0, .int v1, .int v2]) ++ List.replicate (5 - (lg_sl ([.ref h0, .int v0, .int v1, .int v2])).length) Slot.unset).toArray = ls at hl ⊢
  have hl : lv_has ls 5 [zR 0 h0, zI 1 v0, zI 2 v1, zI 3 v2] := hl
  have kf68 := hts (.fieldLink RX6 68 "PebbleInShoeModel" "guiltyOne" "[Z") (by decide +kernel)
  have hiX6 := (by decide +kernel : ∀ w ∈ wsX60, w ∈ wsX6_unlike)
  have kf64 := hts (.fieldLink RX6 64 "PebbleInShoeModel" "guiltyBy" "[Z") (by decide +kernel)
  refine lv_aload_n hx hb dX6_unlike_0 rfl (lv_at hl 0 rfl) ?_
  refine lv_iload_n hx hb dX6_unlike_1 rfl (lv_at hl 1 rfl) ?_
  refine z_calli [0] (v := bz (mHas jg v0)) (fun _ _ h => h) (va_runV (As := [.int v0]) (rest := []) ⟨hx, hb, hml, hown, hts⟩ (c_X6_isJudge l G h0 kd mo st ro tp cd sr ir ih ss sq ce lw wo he sk na kp gb go fa ga vo pb jg td tx ru him s19 s20 s21 s22 s25 s26 s27 s31 s32 s33 s34 s39 s40 v0 s.heap.size (by first | exact hpb | assumption | omega) (by first | exact hjg | assumption | omega) (by first | exact htx | assumption | omega) (by first | exact hru | assumption | omega)) (cwV 1 hts gX6_unlike_X6_isJudge rfl rfl rfl (by decide +kernel) ⟨Nat.le_of_ble_eq_true rfl, Nat.le_of_ble_eq_true rfl⟩) ⟨gPre_blind, va_recv (q := (RX6, TX6, 42)) hK hP (ci := 6) (q0 := 0) rfl rfl, fun U hU hW => gPre_ofF [0] hU hW hK hP hD (by decide +kernel) rfl⟩ rfl rfl hl.1 rfl (lv_room (Nat.le_of_ble_eq_true rfl)) dX6_unlike_2 ⟨Nat.le_of_ble_eq_true rfl, Nat.le_of_ble_eq_true rfl⟩) hS hD hA rfl (fun u t H locs ht hvm hB hz1 hk1 hFq hAq hS => ?_)
  obtain ⟨hP1, hK1, hD1⟩ := hB
  have hP := zKeep hP hD [0] hAq hk1 ht hP1 rfl
  refine lv_if_eq (tgt := 29) hx hb dX6_unlike_5 (by decide +kernel) (fun c_3 => ?_) (fun c_3 => ?_)
  · skip
    have n_5 : (mHas jg v0) = false := bz_eq rfl c_3
    have n_5N : ¬ ((mHas jg v0) = true) := by rw [n_5]; decide
    refine lv_bipush (v := -5) hx hb dX6_unlike_29 (by decide +kernel) ?_
    have hpost : (fun (r : Int32) (u : (Nat → Int32) × (Nat → Int32) × (Nat → Int32) × (Nat → Int32) × (Nat → Int32)) => match u with | (ysk, yna, ykp, ygb, ygo) => r = m_X6_unlike pb jg ru fst fro fmo fkd fcd fsr fgb fgo v0 v1 v2) (-5) (fsk, fna, fkp, fgb, fgo) := (show m_X6_unlike pb jg ru fst fro fmo fkd fcd fsr fgb fgo v0 v1 v2 = (-5) from by unfold m_X6_unlike; rw [if_neg n_5N]).symm
    exact W.iret (v := (-5)) hx hb hr (fun t ht hW => ⟨⟨(-5), (fsk, fna, fkp, fgb, fgo), rfl, hpost, by rw [ht]; exact hP, va_K.moved hW.alike hK, hD⟩, hS.F ht⟩) hS.2.2 dX6_unlike_31
  · skip
    have p_4 : (mHas jg v0) = true := bz_ne rfl c_3
    have hv_6 : v0 = nI (nC v0) := mHas_eq p_4
    have hk_7 : nC v0 < jg := mHas_lt (by omega) p_4
    refine lv_aload_n hx hb dX6_unlike_8 rfl (lv_at hl 0 rfl) ?_
    refine lv_iload_n hx hb dX6_unlike_9 rfl (lv_at hl 2 rfl) ?_
    refine z_calli [0] (v := bz (mHas jg v1)) (fun _ _ h => h) (va_runV (As := [.int v1]) (rest := []) ⟨hx, hb, hml, hown, hts⟩ (c_X6_isJudge l G h0 kd mo st ro tp cd sr ir ih ss sq ce lw wo he sk na kp gb go fa ga vo pb jg td tx ru him s19 s20 s21 s22 s25 s26 s27 s31 s32 s33 s34 s39 s40 v1 H.size (by first | exact hpb | assumption | omega) (by first | exact hjg | assumption | omega) (by first | exact htx | assumption | omega) (by first | exact hru | assumption | omega)) (cwV 1 hts gX6_unlike_X6_isJudge rfl rfl rfl (by decide +kernel) ⟨Nat.le_of_ble_eq_true rfl, Nat.le_of_ble_eq_true rfl⟩) ⟨gPre_blind, va_recv (q := (RX6, TX6, 42)) hK hP (ci := 6) (q0 := 0) rfl rfl, fun U hU hW => gPre_ofF [0] hU hW hK hP hD (by decide +kernel) rfl⟩ rfl rfl hl.1 rfl (lv_room (Nat.le_of_ble_eq_true rfl)) dX6_unlike_10 ⟨Nat.le_of_ble_eq_true rfl, Nat.le_of_ble_eq_true rfl⟩) hS hD hA rfl (fun u t H locs ht hvm hB hz1 hk1 hFq hAq hS => ?_)
    obtain ⟨hP1, hK1, hD1⟩ := hB
    have hP := zKeep hP hD [0] hAq hk1 ht hP1 rfl
    refine lv_if_eq (tgt := 29) hx hb dX6_unlike_13 (by decide +kernel) (fun c_10 => ?_) (fun c_10 => ?_)
    · skip
      have n_12 : (mHas jg v1) = false := bz_eq rfl c_10
      have n_12N : ¬ ((mHas jg v1) = true) := by rw [n_12]; decide
      refine lv_bipush (v := -5) hx hb dX6_unlike_29 (by decide +kernel) ?_
      have hpost : (fun (r : Int32) (u : (Nat → Int32) × (Nat → Int32) × (Nat → Int32) × (Nat → Int32) × (Nat → Int32)) => match u with | (ysk, yna, ykp, ygb, ygo) => r = m_X6_unlike pb jg ru fst fro fmo fkd fcd fsr fgb fgo v0 v1 v2) (-5) (fsk, fna, fkp, fgb, fgo) := (show m_X6_unlike pb jg ru fst fro fmo fkd fcd fsr fgb fgo v0 v1 v2 = (-5) from by unfold m_X6_unlike; rw [if_pos p_4, if_neg n_12N]).symm
      exact W.iret (v := (-5)) hx hb hr (fun t ht hW => ⟨⟨(-5), (fsk, fna, fkp, fgb, fgo), rfl, hpost, by rw [ht]; exact hP, va_K.moved hW.alike hK, hD⟩, hS.F ht⟩) hS.2.2 dX6_unlike_31
    · skip
      have p_11 : (mHas jg v1) = true := bz_ne rfl c_10
      have hv_13 : v1 = nI (nC v1) := mHas_eq p_11
      have hk_14 : nC v1 < jg := mHas_lt (by omega) p_11
      refine lv_iload_n hx hb dX6_unlike_16 rfl (lv_at hl 1 rfl) ?_
      refine g_topi (y := nI (nC v0)) hv_6 ?_
      refine lv_iload_n hx hb dX6_unlike_17 rfl (lv_at hl 2 rfl) ?_
      refine g_topi (y := nI (nC v1)) hv_13 ?_
      refine lv_icmp_eq (tgt := 29) hx hb dX6_unlike_18 (by decide +kernel) (fun c_17 => ?_) (fun c_17 => ?_)
      · skip
        have c_17N : (nC v0) = (nC v1) := nI_eq1 (a := (nC v0)) (b := (nC v1)) (by omega) (by omega) c_17
        refine lv_bipush (v := -5) hx hb dX6_unlike_29 (by decide +kernel) ?_
        have hpost : (fun (r : Int32) (u : (Nat → Int32) × (Nat → Int32) × (Nat → Int32) × (Nat → Int32) × (Nat → Int32)) => match u with | (ysk, yna, ykp, ygb, ygo) => r = m_X6_unlike pb jg ru fst fro fmo fkd fcd fsr fgb fgo v0 v1 v2) (-5) (fsk, fna, fkp, fgb, fgo) := (show m_X6_unlike pb jg ru fst fro fmo fkd fcd fsr fgb fgo v0 v1 v2 = (-5) from by unfold m_X6_unlike; rw [if_pos p_4, if_pos p_11, if_pos c_17]).symm
        exact W.iret (v := (-5)) hx hb hr (fun t ht hW => ⟨⟨(-5), (fsk, fna, fkp, fgb, fgo), rfl, hpost, by rw [ht]; exact hP, va_K.moved hW.alike hK, hD⟩, hS.F ht⟩) hS.2.2 dX6_unlike_31
      · skip
        have c_17N : ¬ (nC v0) = (nC v1) := nI_eq0 (a := (nC v0)) (b := (nC v1)) (by omega) (by omega) c_17
        refine lv_aload_n hx hb dX6_unlike_21 rfl (lv_at hl 0 rfl) ?_
        refine lv_iload_n hx hb dX6_unlike_22 rfl (lv_at hl 3 rfl) ?_
        refine z_calli [0] (v := bz (mHas pb v2)) (fun _ _ h => h) (va_runV (As := [.int v2]) (rest := []) ⟨hx, hb, hml, hown, hts⟩ (c_X6_isPebble l G h0 kd mo st ro tp cd sr ir ih ss sq ce lw wo he sk na kp gb go fa ga vo pb jg td tx ru him s19 s20 s21 s22 s25 s26 s27 s31 s32 s33 s34 s39 s40 v2 H.size (by first | exact hpb | assumption | omega) (by first | exact hjg | assumption | omega) (by first | exact htx | assumption | omega) (by first | exact hru | assumption | omega)) (cwV 1 hts gX6_unlike_X6_isPebble rfl rfl rfl (by decide +kernel) ⟨Nat.le_of_ble_eq_true rfl, Nat.le_of_ble_eq_true rfl⟩) ⟨gPre_blind, va_recv (q := (RX6, TX6, 42)) hK hP (ci := 6) (q0 := 0) rfl rfl, fun U hU hW => gPre_ofF [0] hU hW hK hP hD (by decide +kernel) rfl⟩ rfl rfl hl.1 rfl (lv_room (Nat.le_of_ble_eq_true rfl)) dX6_unlike_23 ⟨Nat.le_of_ble_eq_true rfl, Nat.le_of_ble_eq_true rfl⟩) hS hD hA rfl (fun u t H locs ht hvm hB hz1 hk1 hFq hAq hS => ?_)
        obtain ⟨hP1, hK1, hD1⟩ := hB
        have hP := zKeep hP hD [0] hAq hk1 ht hP1 rfl
        refine lv_if_ne (tgt := 32) hx hb dX6_unlike_26 (by decide +kernel) (fun c_20 => ?_) (fun c_20 => ?_)
        · skip
          have p_21 : (mHas pb v2) = true := bz_ne rfl c_20
          have hv_23 : v2 = nI (nC v2) := mHas_eq p_21
          have hk_24 : nC v2 < pb := mHas_lt (by omega) p_21
          refine lv_aload_n hx hb dX6_unlike_32 rfl (lv_at hl 0 rfl) ?_
          refine lv_iload_n hx hb dX6_unlike_33 rfl (lv_at hl 1 rfl) ?_
          refine g_topi (y := nI (nC v0)) hv_6 ?_
          refine lv_iload_n hx hb dX6_unlike_34 rfl (lv_at hl 3 rfl) ?_
          refine g_topi (y := nI (nC v2)) hv_23 ?_
          refine z_calli [0, 1, 2, 3, 4, 5, 6, 7, 8, 9, 10] (v := m_X6_tellsMiles ru fst fro fmo fkd fcd fsr fgb (nC v0) (nC v2)) (fun _ ⟨_, _, _⟩ h => h) (va_runV (As := [.int (nI (nC v0)), .int (nI (nC v2))]) (rest := []) ⟨hx, hb, hml, hown, hts⟩ (c_X6_tellsMiles l G h0 kd mo st ro tp cd sr ir ih ss sq ce lw wo he sk na kp gb go fa ga vo pb jg td tx ru him s19 s20 s21 s22 s25 s26 s27 s31 s32 s33 s34 s39 s40 fst fro fmo fkd fcd fsr fsk fna fkp fgb (nC v0) (nC v2) H.size (by first | exact hj | assumption | omega) (by first | exact hp | assumption | omega) (hwa _ (by omega)) (by first | exact hpb | assumption | omega) (by first | exact hjg | assumption | omega) (by first | exact htx | assumption | omega) (by first | exact hru | assumption | omega)) (cwV 2 hts gX6_unlike_X6_tellsMiles rfl rfl rfl (by decide +kernel) ⟨Nat.le_of_ble_eq_true rfl, Nat.le_of_ble_eq_true rfl⟩) ⟨gPre_blind, va_recv (q := (RX6, TX6, 42)) hK hP (ci := 6) (q0 := 0) rfl rfl, fun U hU hW => gPre_ofF [0, 1, 2, 3, 4, 5, 6, 7, 8, 9, 10] hU hW hK hP hD (by decide +kernel) rfl⟩ rfl rfl hl.1 rfl (lv_room (Nat.le_of_ble_eq_true rfl)) dX6_unlike_35 ⟨Nat.le_of_ble_eq_true rfl, Nat.le_of_ble_eq_true rfl⟩) hS hD hA rfl (fun u t H locs ht hvm hB hz1 hk1 hFq hAq hS => ?_)
          obtain ⟨ysk_29, yna_30, ykp_31⟩ := u
          obtain ⟨hP1, hK1, hD1⟩ := hB
          have hz9 : gPD G A [zo6 h0 (nI pb) kd mo st (nI jg) ro tp (nI td) cd sr (nI tx) (nI ru) him ir ih ss sq ce lw s19 s20 s21 s22 wo he s25 s26 s27 sk na kp s31 s32 s33 s34 gb go fa ga s39 s40 vo, zi G st 12 fst, zi G ro 12 fro, zi G mo 6 fmo, zi G kd 6 fkd, zi G cd 1200 fcd, zi G sr 24 (nF fsr), zi G sk 200 ysk_29, zi G na 6 yna_30, zi G kp 24 ykp_31, zb G gb 61 (m_X6_tellsMiles_gb ru fst fro fmo fkd fcd fsr fgb (nC v0) (nC v2)), zb G go 61 fgo] H := zFill hP hD [0, 1, 2, 3, 4, 5, 6, 7, 8, 9, 10] [1, 2, 3, 4, 5, 6, 7, 8, 9, 10, 11] hAq hk1 hFq ht hP1 hD1 rfl (by decide +kernel)
          have hP := hz9.1
          have hD := hz9.2
          refine lv_pop hx hb dX6_unlike_38 rfl ?_
          refine lv_iconst (v := 0) hx hb dX6_unlike_39 (by decide +kernel) ?_
          refine lv_istore (lv' := [zI 4 0, zR 0 h0, zI 1 v0, zI 2 v1, zI 3 v2]) hx hb dX6_unlike_40 hl (by decide +kernel) rfl (fun ls hl => ?_)
          have loop_42 : ∀ (n9 : Nat) (n8 : Nat) (y42go : Nat → Int32), (n8 ≤ 61) → (p_X6_unlike_42 ru fst fro fmo fkd fcd fsr fgb v0 v2 (61 - n8) n8 y42go = (g_X6_unlike_42 ru fst fro fmo fkd fcd fsr fgb fgo v0 v2)) → (61 - n8) < n9 → ∀ (H : Heap) (locs : List Loc), va_P G.1 vwCl [zo6 h0 (nI pb) kd mo st (nI jg) ro tp (nI td) cd sr (nI tx) (nI ru) him ir ih ss sq ce lw s19 s20 s21 s22 wo he s25 s26 s27 sk na kp s31 s32 s33 s34 gb go fa ga s39 s40 vo, zi G st 12 fst, zi G ro 12 fro, zi G mo 6 fmo, zi G kd 6 fkd, zi G cd 1200 fcd, zi G sr 24 (nF fsr), zi G sk 200 ysk_29, zi G na 6 yna_30, zi G kp 24 ykp_31, zb G gb 61 (m_X6_tellsMiles_gb ru fst fro fmo fkd fcd fsr fgb (nC v0) (nC v2)), zb G go 61 y42go] H → va_D A [zo6 h0 (nI pb) kd mo st (nI jg) ro tp (nI td) cd sr (nI tx) (nI ru) him ir ih ss sq ce lw s19 s20 s21 s22 wo he s25 s26 s27 sk na kp s31 s32 s33 s34 gb go fa ga s39 s40 vo, zi G st 12 fst, zi G ro 12 fro, zi G mo 6 fmo, zi G kd 6 fkd, zi G cd 1200 fcd, zi G sr 24 (nF fsr), zi G sk 200 ysk_29, zi G na 6 yna_30, zi G kp 24 ykp_31, zb G gb 61 (m_X6_tellsMiles_gb ru fst fro fmo fkd fcd fsr fgb (nC v0) (nC v2)), zb G go 61 y42go] → va_S A s.heap H locs → ∀ ls : Array Slot, lv_has ls 5 [zI 4 (nI n8), zR 0 h0, zI 1 v0, zI 2 v1, zI 3 v2] → W p l e (headSpec wsX6_unlike ({ frames := 6, cells := 0, slots := 0, locals := 145 })).room s m ([.ref h0, .int v0, .int v1, .int v2] : List Value).toArray below meth c H locs 0 0 (MQ below (q_X6_unlike G h0 kd mo st ro tp cd sr ir ih ss sq ce lw wo he sk na kp gb go fa ga vo pb jg td tx ru him s19 s20 s21 s22 s25 s26 s27 s31 s32 s33 s34 s39 s40 fst fro fmo fkd fcd fsr fsk fna fkp fgb fgo v0 v1 v2 A) ([.ref h0, .int v0, .int v1, .int v2] : List Value).toArray s 0 0 A) (F0 m 42 ls []) := by
            intro n9
            induction n9 with
            | zero => intro n8 y42go hn8 R42 hm9_42; exact absurd hm9_42 (Nat.not_lt_zero _)
            | succ n9 ih9_42 =>
              intro n8 y42go hn8 R42 hm9_42 H locs hP hD hS ls hl
              refine lv_iload hx hb dX6_unlike_42 (lv_at hl 0 rfl) ?_
              refine lv_bipush (v := 60) hx hb dX6_unlike_44 (by decide +kernel) ?_
              refine lv_icmp_gt (tgt := 69) hx hb dX6_unlike_46 (by decide +kernel) (fun c_32 => ?_) (fun c_32 => ?_)
              · skip
                have c_32N : 60 < n8 := nI_lt1 (a := 60) (b := n8) (by omega) (by omega) c_32
                have hF42 : (g_X6_unlike_42 ru fst fro fmo fkd fcd fsr fgb fgo v0 v2) = (n8, y42go) := by rw [← R42, show 61 - n8 = 0 by omega]; rfl
                have hE42_0 : n8 = ((g_X6_unlike_42 ru fst fro fmo fkd fcd fsr fgb fgo v0 v2).1) := by rw [hF42]
                have hE42_1 : y42go = ((g_X6_unlike_42 ru fst fro fmo fkd fcd fsr fgb fgo v0 v2).2) := by rw [hF42]
                clear hF42 R42
                subst hE42_0
                subst hE42_1
                refine lv_aload_n hx hb dX6_unlike_69 rfl (lv_at hl 1 rfl) ?_
                refine lv_iload_n hx hb dX6_unlike_70 rfl (lv_at hl 3 rfl) ?_
                refine g_topi (y := nI (nC v1)) hv_13 ?_
                refine lv_iload_n hx hb dX6_unlike_71 rfl (lv_at hl 4 rfl) ?_
                refine g_topi (y := nI (nC v2)) hv_23 ?_
                refine z_calli [0, 1, 2, 3, 4, 5, 6, 7, 8, 9, 10] (v := m_X6_tellsMiles ru fst fro fmo fkd fcd fsr (m_X6_tellsMiles_gb ru fst fro fmo fkd fcd fsr fgb (nC v0) (nC v2)) (nC v1) (nC v2)) (fun _ ⟨_, _, _⟩ h => h) (va_runV (As := [.int (nI (nC v1)), .int (nI (nC v2))]) (rest := []) ⟨hx, hb, hml, hown, hts⟩ (c_X6_tellsMiles l G h0 kd mo st ro tp cd sr ir ih ss sq ce lw wo he sk na kp gb go fa ga vo pb jg td tx ru him s19 s20 s21 s22 s25 s26 s27 s31 s32 s33 s34 s39 s40 fst fro fmo fkd fcd fsr ysk_29 yna_30 ykp_31 (m_X6_tellsMiles_gb ru fst fro fmo fkd fcd fsr fgb (nC v0) (nC v2)) (nC v1) (nC v2) H.size (by first | exact hj | assumption | omega) (by first | exact hp | assumption | omega) (hwa _ (by omega)) (by first | exact hpb | assumption | omega) (by first | exact hjg | assumption | omega) (by first | exact htx | assumption | omega) (by first | exact hru | assumption | omega)) (cwV 2 hts gX6_unlike_X6_tellsMiles rfl rfl rfl (by decide +kernel) ⟨Nat.le_of_ble_eq_true rfl, Nat.le_of_ble_eq_true rfl⟩) ⟨gPre_blind, va_recv (q := (RX6, TX6, 42)) hK hP (ci := 6) (q0 := 0) rfl rfl, fun U hU hW => gPre_ofF [0, 1, 2, 3, 4, 5, 6, 7, 8, 9, 10] hU hW hK hP hD (by decide +kernel) rfl⟩ rfl rfl hl.1 rfl (lv_room (Nat.le_of_ble_eq_true rfl)) dX6_unlike_72 ⟨Nat.le_of_ble_eq_true rfl, Nat.le_of_ble_eq_true rfl⟩) hS hD hA rfl (fun u t H locs ht hvm hB hz1 hk1 hFq hAq hS => ?_)
                obtain ⟨ysk_37, yna_38, ykp_39⟩ := u
                obtain ⟨hP1, hK1, hD1⟩ := hB
                have hz9 : gPD G A [zo6 h0 (nI pb) kd mo st (nI jg) ro tp (nI td) cd sr (nI tx) (nI ru) him ir ih ss sq ce lw s19 s20 s21 s22 wo he s25 s26 s27 sk na kp s31 s32 s33 s34 gb go fa ga s39 s40 vo, zi G st 12 fst, zi G ro 12 fro, zi G mo 6 fmo, zi G kd 6 fkd, zi G cd 1200 fcd, zi G sr 24 (nF fsr), zi G sk 200 ysk_37, zi G na 6 yna_38, zi G kp 24 ykp_39, zb G gb 61 (m_X6_tellsMiles_gb ru fst fro fmo fkd fcd fsr (m_X6_tellsMiles_gb ru fst fro fmo fkd fcd fsr fgb (nC v0) (nC v2)) (nC v1) (nC v2)), zb G go 61 ((g_X6_unlike_42 ru fst fro fmo fkd fcd fsr fgb fgo v0 v2).2)] H := zFill hP hD [0, 1, 2, 3, 4, 5, 6, 7, 8, 9, 10] [1, 2, 3, 4, 5, 6, 7, 8, 9, 10, 11] hAq hk1 hFq ht hP1 hD1 rfl (by decide +kernel)
                have hP := hz9.1
                have hD := hz9.2
                refine lv_pop hx hb dX6_unlike_75 rfl ?_
                refine lv_iconst (v := 0) hx hb dX6_unlike_76 (by decide +kernel) ?_
                refine lv_istore (lv' := [zI 4 0, zR 0 h0, zI 1 v0, zI 2 v1, zI 3 v2]) hx hb dX6_unlike_77 hl (by decide +kernel) rfl (fun ls hl => ?_)
                have loop_79 : ∀ (n9 : Nat) (n9u : Nat), (n9u ≤ 61) → (p_X6_unlike_79 ru fst fro fmo fkd fcd fsr fgb fgo v0 v1 v2 (61 - n9u) n9u  = (g_X6_unlike_79 ru fst fro fmo fkd fcd fsr fgb fgo v0 v1 v2)) → (61 - n9u) < n9 → ∀ (H : Heap) (locs : List Loc), va_P G.1 vwCl [zo6 h0 (nI pb) kd mo st (nI jg) ro tp (nI td) cd sr (nI tx) (nI ru) him ir ih ss sq ce lw s19 s20 s21 s22 wo he s25 s26 s27 sk na kp s31 s32 s33 s34 gb go fa ga s39 s40 vo, zi G st 12 fst, zi G ro 12 fro, zi G mo 6 fmo, zi G kd 6 fkd, zi G cd 1200 fcd, zi G sr 24 (nF fsr), zi G sk 200 ysk_37, zi G na 6 yna_38, zi G kp 24 ykp_39, zb G gb 61 (m_X6_tellsMiles_gb ru fst fro fmo fkd fcd fsr (m_X6_tellsMiles_gb ru fst fro fmo fkd fcd fsr fgb (nC v0) (nC v2)) (nC v1) (nC v2)), zb G go 61 ((g_X6_unlike_42 ru fst fro fmo fkd fcd fsr fgb fgo v0 v2).2)] H → va_D A [zo6 h0 (nI pb) kd mo st (nI jg) ro tp (nI td) cd sr (nI tx) (nI ru) him ir ih ss sq ce lw s19 s20 s21 s22 wo he s25 s26 s27 sk na kp s31 s32 s33 s34 gb go fa ga s39 s40 vo, zi G st 12 fst, zi G ro 12 fro, zi G mo 6 fmo, zi G kd 6 fkd, zi G cd 1200 fcd, zi G sr 24 (nF fsr), zi G sk 200 ysk_37, zi G na 6 yna_38, zi G kp 24 ykp_39, zb G gb 61 (m_X6_tellsMiles_gb ru fst fro fmo fkd fcd fsr (m_X6_tellsMiles_gb ru fst fro fmo fkd fcd fsr fgb (nC v0) (nC v2)) (nC v1) (nC v2)), zb G go 61 ((g_X6_unlike_42 ru fst fro fmo fkd fcd fsr fgb fgo v0 v2).2)] → va_S A s.heap H locs → ∀ ls : Array Slot, lv_has ls 5 [zI 4 (nI n9u), zR 0 h0, zI 1 v0, zI 2 v1, zI 3 v2] → W p l e (headSpec wsX6_unlike ({ frames := 6, cells := 0, slots := 0, locals := 145 })).room s m ([.ref h0, .int v0, .int v1, .int v2] : List Value).toArray below meth c H locs 0 0 (MQ below (q_X6_unlike G h0 kd mo st ro tp cd sr ir ih ss sq ce lw wo he sk na kp gb go fa ga vo pb jg td tx ru him s19 s20 s21 s22 s25 s26 s27 s31 s32 s33 s34 s39 s40 fst fro fmo fkd fcd fsr fsk fna fkp fgb fgo v0 v1 v2 A) ([.ref h0, .int v0, .int v1, .int v2] : List Value).toArray s 0 0 A) (F0 m 79 ls []) := by
                  intro n9
                  induction n9 with
                  | zero => intro n9u hn9u R79 hm9_79; exact absurd hm9_79 (Nat.not_lt_zero _)
                  | succ n9 ih9_79 =>
                    intro n9u hn9u R79 hm9_79 H locs hP hD hS ls hl
                    refine lv_iload hx hb dX6_unlike_79 (lv_at hl 0 rfl) ?_
                    refine lv_bipush (v := 60) hx hb dX6_unlike_81 (by decide +kernel) ?_
                    refine lv_icmp_gt (tgt := 115) hx hb dX6_unlike_83 (by decide +kernel) (fun c_40 => ?_) (fun c_40 => ?_)
                    · skip
                      have c_40N : 60 < n9u := nI_lt1 (a := 60) (b := n9u) (by omega) (by omega) c_40
                      have hF79 : (g_X6_unlike_79 ru fst fro fmo fkd fcd fsr fgb fgo v0 v1 v2) = n9u := by rw [← R79, show 61 - n9u = 0 by omega]; rfl
                      have hE79_0 : n9u = (g_X6_unlike_79 ru fst fro fmo fkd fcd fsr fgb fgo v0 v1 v2) := by rw [hF79]
                      clear hF79 R79
                      subst hE79_0
                      refine lv_iconst (v := -1) hx hb dX6_unlike_115 (by decide +kernel) ?_
                      have hpost : (fun (r : Int32) (u : (Nat → Int32) × (Nat → Int32) × (Nat → Int32) × (Nat → Int32) × (Nat → Int32)) => match u with | (ysk, yna, ykp, ygb, ygo) => r = m_X6_unlike pb jg ru fst fro fmo fkd fcd fsr fgb fgo v0 v1 v2) (-1) (ysk_37, yna_38, ykp_39, (m_X6_tellsMiles_gb ru fst fro fmo fkd fcd fsr (m_X6_tellsMiles_gb ru fst fro fmo fkd fcd fsr fgb (nC v0) (nC v2)) (nC v1) (nC v2)), ((g_X6_unlike_42 ru fst fro fmo fkd fcd fsr fgb fgo v0 v2).2)) := (show m_X6_unlike pb jg ru fst fro fmo fkd fcd fsr fgb fgo v0 v1 v2 = (-1) from by unfold m_X6_unlike; rw [if_pos p_4, if_pos p_11, if_neg c_17, if_pos p_21, if_pos c_40]).symm
                      exact W.iret (v := (-1)) hx hb hr (fun t ht hW => ⟨⟨(-1), (ysk_37, yna_38, ykp_39, (m_X6_tellsMiles_gb ru fst fro fmo fkd fcd fsr (m_X6_tellsMiles_gb ru fst fro fmo fkd fcd fsr fgb (nC v0) (nC v2)) (nC v1) (nC v2)), ((g_X6_unlike_42 ru fst fro fmo fkd fcd fsr fgb fgo v0 v2).2)), rfl, hpost, by rw [ht]; exact hP, va_K.moved hW.alike hK, hD⟩, hS.F ht⟩) hS.2.2 dX6_unlike_116
                    · skip
                      have c_40N : n9u ≤ 60 := nI_lt0 (a := 60) (b := n9u) (by omega) (by omega) c_40
                      refine g_aget (D := G.1) (ci := 6) (v := .ref go) (C := RX6) (T := TX6) (N := 42) hx hb dX6_unlike_86 rfl (lv_at hl 1 rfl) hts hiX6 hown hK hP 0 rfl rfl 36 (by decide +kernel) kf68 (fun _ h9 => h9) rfl dX6_unlike_87 ?_
                      refine lv_iload hx hb dX6_unlike_90 (lv_at hl 0 rfl) ?_
                      refine va_zald (D := G.1) hx hb hK hP 11 1 rfl rfl (i := (nI n9u)) (vpn (by omega) rfl) dX6_unlike_92 ?_
                      refine g_topi (y := ((g_X6_unlike_42 ru fst fro fmo fkd fcd fsr fgb fgo v0 v2).2) n9u) (by rw [nI_clamp (by omega)]) ?_
                      refine lv_if_eq (tgt := 109) hx hb dX6_unlike_93 (by decide +kernel) (fun c_42 => ?_) (fun c_42 => ?_)
                      · skip
                        refine lv_iinc (v := nI (n9u + 1)) (lv' := [zI 4 (nI (n9u + 1)), zR 0 h0, zI 1 v0, zI 2 v1, zI 3 v2]) hx hb dX6_unlike_109 hl (k := 0) rfl (nI_add n9u 1) (by decide +kernel) rfl (fun ls hl => ?_)
                        refine lv_goto (tgt := 79) hx hb dX6_unlike_112 (by decide +kernel) ?_
                        exact ih9_79 (n9u + 1) (by omega) (Eq.trans (Eq.symm ((congrArg (fun z9 => p_X6_unlike_79 ru fst fro fmo fkd fcd fsr fgb fgo v0 v1 v2 (z9) n9u ) (show 61 - n9u = 61 - (n9u + 1) + 1 by omega)).trans (by show p_X6_unlike_79 ru fst fro fmo fkd fcd fsr fgb fgo v0 v1 v2 (61 - (n9u + 1) + 1) n9u  = _; rw [p_X6_unlike_79, if_pos c_42]))) R79) (by omega) _ _ hP hD hS ls hl
                      · skip
                        refine g_aget (D := G.1) (ci := 6) (v := .ref gb) (C := RX6) (T := TX6) (N := 42) hx hb dX6_unlike_96 rfl (lv_at hl 1 rfl) hts hiX6 hown hK hP 0 rfl rfl 35 (by decide +kernel) kf64 (fun _ h9 => h9) rfl dX6_unlike_97 ?_
                        refine lv_iload hx hb dX6_unlike_100 (lv_at hl 0 rfl) ?_
                        refine va_zald (D := G.1) hx hb hK hP 10 1 rfl rfl (i := (nI n9u)) (vpn (by omega) rfl) dX6_unlike_102 ?_
                        refine g_topi (y := (m_X6_tellsMiles_gb ru fst fro fmo fkd fcd fsr (m_X6_tellsMiles_gb ru fst fro fmo fkd fcd fsr fgb (nC v0) (nC v2)) (nC v1) (nC v2)) n9u) (by rw [nI_clamp (by omega)]) ?_
                        refine lv_if_ne (tgt := 109) hx hb dX6_unlike_103 (by decide +kernel) (fun c_44 => ?_) (fun c_44 => ?_)
                        · skip
                          refine lv_iinc (v := nI (n9u + 1)) (lv' := [zI 4 (nI (n9u + 1)), zR 0 h0, zI 1 v0, zI 2 v1, zI 3 v2]) hx hb dX6_unlike_109 hl (k := 0) rfl (nI_add n9u 1) (by decide +kernel) rfl (fun ls hl => ?_)
                          refine lv_goto (tgt := 79) hx hb dX6_unlike_112 (by decide +kernel) ?_
                          exact ih9_79 (n9u + 1) (by omega) (Eq.trans (Eq.symm ((congrArg (fun z9 => p_X6_unlike_79 ru fst fro fmo fkd fcd fsr fgb fgo v0 v1 v2 (z9) n9u ) (show 61 - n9u = 61 - (n9u + 1) + 1 by omega)).trans (by show p_X6_unlike_79 ru fst fro fmo fkd fcd fsr fgb fgo v0 v1 v2 (61 - (n9u + 1) + 1) n9u  = _; rw [p_X6_unlike_79, if_neg c_42, if_neg c_44]))) R79) (by omega) _ _ hP hD hS ls hl
                        · skip
                          refine lv_iload hx hb dX6_unlike_106 (lv_at hl 0 rfl) ?_
                          have hF79 : (g_X6_unlike_79 ru fst fro fmo fkd fcd fsr fgb fgo v0 v1 v2) = n9u := R79.symm.trans ((congrArg (fun z9 => p_X6_unlike_79 ru fst fro fmo fkd fcd fsr fgb fgo v0 v1 v2 (z9) n9u ) (show 61 - n9u = 61 - (n9u + 1) + 1 by omega)).trans (by show p_X6_unlike_79 ru fst fro fmo fkd fcd fsr fgb fgo v0 v1 v2 (61 - (n9u + 1) + 1) n9u  = _; rw [p_X6_unlike_79, if_neg c_42, if_pos c_44]))
                          have hE79_0 : n9u = (g_X6_unlike_79 ru fst fro fmo fkd fcd fsr fgb fgo v0 v1 v2) := by rw [hF79]
                          clear hF79 R79
                          subst hE79_0
                          have hpost : (fun (r : Int32) (u : (Nat → Int32) × (Nat → Int32) × (Nat → Int32) × (Nat → Int32) × (Nat → Int32)) => match u with | (ysk, yna, ykp, ygb, ygo) => r = m_X6_unlike pb jg ru fst fro fmo fkd fcd fsr fgb fgo v0 v1 v2) (nI (g_X6_unlike_79 ru fst fro fmo fkd fcd fsr fgb fgo v0 v1 v2)) (ysk_37, yna_38, ykp_39, (m_X6_tellsMiles_gb ru fst fro fmo fkd fcd fsr (m_X6_tellsMiles_gb ru fst fro fmo fkd fcd fsr fgb (nC v0) (nC v2)) (nC v1) (nC v2)), ((g_X6_unlike_42 ru fst fro fmo fkd fcd fsr fgb fgo v0 v2).2)) := (show m_X6_unlike pb jg ru fst fro fmo fkd fcd fsr fgb fgo v0 v1 v2 = (nI (g_X6_unlike_79 ru fst fro fmo fkd fcd fsr fgb fgo v0 v1 v2)) from by unfold m_X6_unlike; rw [if_pos p_4, if_pos p_11, if_neg c_17, if_pos p_21, if_neg c_40]).symm
                          exact W.iret (v := (nI (g_X6_unlike_79 ru fst fro fmo fkd fcd fsr fgb fgo v0 v1 v2))) hx hb hr (fun t ht hW => ⟨⟨(nI (g_X6_unlike_79 ru fst fro fmo fkd fcd fsr fgb fgo v0 v1 v2)), (ysk_37, yna_38, ykp_39, (m_X6_tellsMiles_gb ru fst fro fmo fkd fcd fsr (m_X6_tellsMiles_gb ru fst fro fmo fkd fcd fsr fgb (nC v0) (nC v2)) (nC v1) (nC v2)), ((g_X6_unlike_42 ru fst fro fmo fkd fcd fsr fgb fgo v0 v2).2)), rfl, hpost, by rw [ht]; exact hP, va_K.moved hW.alike hK, hD⟩, hS.F ht⟩) hS.2.2 dX6_unlike_108
                exact loop_79 (61 - 0 + 1) 0 (by omega) (rfl) (by omega) _ _ hP hD hS ls hl
              · skip
                have c_32N : n8 ≤ 60 := nI_lt0 (a := 60) (b := n8) (by omega) (by omega) c_32
                refine g_aget (D := G.1) (ci := 6) (v := .ref go) (C := RX6) (T := TX6) (N := 42) hx hb dX6_unlike_49 rfl (lv_at hl 1 rfl) hts hiX6 hown hK hP 0 rfl rfl 36 (by decide +kernel) kf68 (fun _ h9 => h9) rfl dX6_unlike_50 ?_
                refine lv_iload hx hb dX6_unlike_53 (lv_at hl 0 rfl) ?_
                refine g_aget (D := G.1) (ci := 6) (v := .ref gb) (C := RX6) (T := TX6) (N := 42) hx hb dX6_unlike_55 rfl (lv_at hl 1 rfl) hts hiX6 hown hK hP 0 rfl rfl 35 (by decide +kernel) kf64 (fun _ h9 => h9) rfl dX6_unlike_56 ?_
                refine lv_iload hx hb dX6_unlike_59 (lv_at hl 0 rfl) ?_
                refine va_zald (D := G.1) hx hb hK hP 10 1 rfl rfl (i := (nI n8)) (vpn (by omega) rfl) dX6_unlike_61 ?_
                refine g_topi (y := (m_X6_tellsMiles_gb ru fst fro fmo fkd fcd fsr fgb (nC v0) (nC v2)) n8) (by rw [nI_clamp (by omega)]) ?_
                refine va_zast (D := G.1) hx hb hK hP hD hS 11 1 rfl rfl (i := (nI n8)) (x := ((m_X6_tellsMiles_gb ru fst fro fmo fkd fcd fsr fgb (nC v0) (nC v2)) n8)) (vpn (by omega) rfl) dX6_unlike_62 (fun H locs hP hD hS => ?_)
                have hz9 : gPD G A [zo6 h0 (nI pb) kd mo st (nI jg) ro tp (nI td) cd sr (nI tx) (nI ru) him ir ih ss sq ce lw s19 s20 s21 s22 wo he s25 s26 s27 sk na kp s31 s32 s33 s34 gb go fa ga s39 s40 vo, zi G st 12 fst, zi G ro 12 fro, zi G mo 6 fmo, zi G kd 6 fkd, zi G cd 1200 fcd, zi G sr 24 (nF fsr), zi G sk 200 ysk_29, zi G na 6 yna_30, zi G kp 24 ykp_31, zb G gb 61 (m_X6_tellsMiles_gb ru fst fro fmo fkd fcd fsr fgb (nC v0) (nC v2)), zb G go 61 (upd y42go n8 (vp_nar .boolean ((m_X6_tellsMiles_gb ru fst fro fmo fkd fcd fsr fgb (nC v0) (nC v2)) n8)))] H := ⟨by rw [nI_clamp (by omega)] at hP; exact hP, by rw [nI_clamp (by omega)] at hD; exact hD⟩
                have hP := hz9.1
                have hD := hz9.2
                refine lv_iinc (v := nI (n8 + 1)) (lv' := [zI 4 (nI (n8 + 1)), zR 0 h0, zI 1 v0, zI 2 v1, zI 3 v2]) hx hb dX6_unlike_63 hl (k := 0) rfl (nI_add n8 1) (by decide +kernel) rfl (fun ls hl => ?_)
                refine lv_goto (tgt := 42) hx hb dX6_unlike_66 (by decide +kernel) ?_
                exact ih9_42 (n8 + 1) (upd y42go n8 (vp_nar .boolean ((m_X6_tellsMiles_gb ru fst fro fmo fkd fcd fsr fgb (nC v0) (nC v2)) n8))) (by omega) (Eq.trans (Eq.symm ((congrArg (fun z9 => p_X6_unlike_42 ru fst fro fmo fkd fcd fsr fgb v0 v2 (z9) n8 y42go) (show 61 - n8 = 61 - (n8 + 1) + 1 by omega)).trans (by show p_X6_unlike_42 ru fst fro fmo fkd fcd fsr fgb v0 v2 (61 - (n8 + 1) + 1) n8 y42go = _; rw [p_X6_unlike_42]))) R42) (by omega) _ _ hP hD hS ls hl
          exact loop_42 (61 - 0 + 1) 0 fgo (by omega) (rfl) (by omega) _ _ hP hD hS ls hl
        · skip
          have n_22 : (mHas pb v2) = false := bz_eq rfl c_20
          have n_22N : ¬ ((mHas pb v2) = true) := by rw [n_22]; decide
          refine lv_bipush (v := -5) hx hb dX6_unlike_29 (by decide +kernel) ?_
          have hpost : (fun (r : Int32) (u : (Nat → Int32) × (Nat → Int32) × (Nat → Int32) × (Nat → Int32) × (Nat → Int32)) => match u with | (ysk, yna, ykp, ygb, ygo) => r = m_X6_unlike pb jg ru fst fro fmo fkd fcd fsr fgb fgo v0 v1 v2) (-5) (fsk, fna, fkp, fgb, fgo) := (show m_X6_unlike pb jg ru fst fro fmo fkd fcd fsr fgb fgo v0 v1 v2 = (-5) from by unfold m_X6_unlike; rw [if_pos p_4, if_pos p_11, if_neg c_17, if_neg n_22N]).symm
          exact W.iret (v := (-5)) hx hb hr (fun t ht hW => ⟨⟨(-5), (fsk, fna, fkp, fgb, fgo), rfl, hpost, by rw [ht]; exact hP, va_K.moved hW.alike hK, hD⟩, hS.F ht⟩) hS.2.2 dX6_unlike_31
noncomputable def p_X6_hardest_42 (ru : Nat) (fst : Nat → Int32) (fro : Nat → Int32) (fmo : Nat → Int32) (fkd : Nat → Int32) (fcd : Nat → Int32) (fsr : Nat → Nat) (v0 : Int32) (j8 : Nat) : Nat → Nat → Int32 → Nat × Int32
  | 0, p8, my => (p8, my)
  | q9 + 1, p8, my => if (m_X6_heard_h034 ru fst fro fmo fkd fcd fsr j8 p8 (nC v0)) = 0 then p_X6_hardest_42 ru fst fro fmo fkd fcd fsr v0 j8 q9 (p8 + 1) (my + 0) else p_X6_hardest_42 ru fst fro fmo fkd fcd fsr v0 j8 q9 (p8 + 1) (my + 1)
noncomputable def g_X6_hardest_42 (pb : Nat) (ru : Nat) (fst : Nat → Int32) (fro : Nat → Int32) (fmo : Nat → Int32) (fkd : Nat → Int32) (fcd : Nat → Int32) (fsr : Nat → Nat) (v0 : Int32) (j8 : Nat) : Nat × Int32 := p_X6_hardest_42 ru fst fro fmo fkd fcd fsr v0 j8 (pb - 0) 0 0
noncomputable def p_X6_hardest_27 (pb : Nat) (ru : Nat) (fst : Nat → Int32) (fro : Nat → Int32) (fmo : Nat → Int32) (fkd : Nat → Int32) (fcd : Nat → Int32) (fsr : Nat → Nat) (v0 : Int32) : Nat → Nat → Int32 → Int32 → Nat × Int32 × Int32
  | 0, j8, be, mt => (j8, be, mt)
  | q9 + 1, j8, be, mt => if ((g_X6_hardest_42 pb ru fst fro fmo fkd fcd fsr v0 j8).2) ≤ mt then p_X6_hardest_27 pb ru fst fro fmo fkd fcd fsr v0 q9 (j8 + 1) be mt else p_X6_hardest_27 pb ru fst fro fmo fkd fcd fsr v0 q9 (j8 + 1) (nI j8) ((g_X6_hardest_42 pb ru fst fro fmo fkd fcd fsr v0 j8).2)
noncomputable def g_X6_hardest_27 (pb : Nat) (jg : Nat) (ru : Nat) (fst : Nat → Int32) (fro : Nat → Int32) (fmo : Nat → Int32) (fkd : Nat → Int32) (fcd : Nat → Int32) (fsr : Nat → Nat) (v0 : Int32) : Nat × Int32 × Int32 := p_X6_hardest_27 pb ru fst fro fmo fkd fcd fsr v0 (jg - 0) 0 (-1) (-1)
noncomputable def m_X6_hardest (pb : Nat) (jg : Nat) (ru : Nat) (fst : Nat → Int32) (fro : Nat → Int32) (fmo : Nat → Int32) (fkd : Nat → Int32) (fcd : Nat → Int32) (fsr : Nat → Nat) (v0 : Int32) (v1 : Int32) : Int32 := if 0 ≤ v0 ∧ v0 ≤ 60 then (if 0 ≤ v1 ∧ v1 ≤ 1 then (if (nI (nC v1)) = 0 then ((g_X6_hardest_27 pb jg ru fst fro fmo fkd fcd fsr v0).2.1) else ((g_X6_hardest_27 pb jg ru fst fro fmo fkd fcd fsr v0).2.2)) else -2) else -2
abbrev q_X6_hardest (G : gG) (h0 kd mo st ro tp cd sr ir ih ss sq ce lw wo he sk na kp gb go fa ga vo : Nat) (pb : Nat) (jg : Nat) (td : Nat) (tx : Nat) (ru : Nat) (him : Int32) (s19 : Int32) (s20 : Int32) (s21 : Int32) (s22 : Int32) (s25 : Int32) (s26 : Int32) (s27 : Int32) (s31 : Int32) (s32 : Int32) (s33 : Int32) (s34 : Int32) (s39 : Int32) (s40 : Int32) (fst : Nat → Int32) (fro : Nat → Int32) (fmo : Nat → Int32) (fkd : Nat → Int32) (fcd : Nat → Int32) (fsr : Nat → Nat) (fsk : Nat → Int32) (fna : Nat → Int32) (fkp : Nat → Int32) (v0 : Int32) (v1 : Int32) (A : Nat → Prop) : Array Value → State → Outcome → State → Prop := va_Qi (fun (r : Int32) (u : Int32 × Int32 × Int32 × Int32 × (Nat → Int32) × (Nat → Int32) × (Nat → Int32)) => match u with | (z31, z32, z33, z34, ysk, yna, ykp) => r = m_X6_hardest pb jg ru fst fro fmo fkd fcd fsr v0 v1) (fun (u : Int32 × Int32 × Int32 × Int32 × (Nat → Int32) × (Nat → Int32) × (Nat → Int32)) t => match u with | (z31, z32, z33, z34, ysk, yna, ykp) => va_P G.1 vwCl [zo6 h0 (nI pb) kd mo st (nI jg) ro tp (nI td) cd sr (nI tx) (nI ru) him ir ih ss sq ce lw s19 s20 s21 s22 wo he s25 s26 s27 sk na kp z31 z32 z33 z34 gb go fa ga s39 s40 vo, zi G st 12 fst, zi G ro 12 fro, zi G mo 6 fmo, zi G kd 6 fkd, zi G cd 1200 fcd, zi G sr 24 (nF fsr), zi G sk 200 ysk, zi G na 6 yna, zi G kp 24 ykp] t.heap ∧ gK G t ∧ va_D A [zo6 h0 (nI pb) kd mo st (nI jg) ro tp (nI td) cd sr (nI tx) (nI ru) him ir ih ss sq ce lw s19 s20 s21 s22 wo he s25 s26 s27 sk na kp z31 z32 z33 z34 gb go fa ga s39 s40 vo, zi G st 12 fst, zi G ro 12 fro, zi G mo 6 fmo, zi G kd 6 fkd, zi G cd 1200 fcd, zi G sr 24 (nF fsr), zi G sk 200 ysk, zi G na 6 yna, zi G kp 24 ykp]) A
set_option maxHeartbeats 4000000 in
set_option maxRecDepth 100000 in
theorem c_X6_hardest (l : Launch) (G : gG) (h0 kd mo st ro tp cd sr ir ih ss sq ce lw wo he sk na kp gb go fa ga vo : Nat) (pb : Nat) (jg : Nat) (td : Nat) (tx : Nat) (ru : Nat) (him : Int32) (s19 : Int32) (s20 : Int32) (s21 : Int32) (s22 : Int32) (s25 : Int32) (s26 : Int32) (s27 : Int32) (s31 : Int32) (s32 : Int32) (s33 : Int32) (s34 : Int32) (s39 : Int32) (s40 : Int32) (fst : Nat → Int32) (fro : Nat → Int32) (fmo : Nat → Int32) (fkd : Nat → Int32) (fcd : Nat → Int32) (fsr : Nat → Nat) (fsk : Nat → Int32) (fna : Nat → Int32) (fkp : Nat → Int32) (v0 : Int32) (v1 : Int32) (sz : Nat) (hwa : ∀ t9, t9 < tx → mWf fcd fsr t9) (hpb : pb ≤ 6) (hjg : jg ≤ 4) (htx : tx ≤ 6) (hru : ru < tx) : Met l yX6_hardest wsX6_hardest ({ frames := 7, cells := 0, slots := 0, locals := 168 }) (gPre G [.ref h0, .int v0, .int v1] [zo6 h0 (nI pb) kd mo st (nI jg) ro tp (nI td) cd sr (nI tx) (nI ru) him ir ih ss sq ce lw s19 s20 s21 s22 wo he s25 s26 s27 sk na kp s31 s32 s33 s34 gb go fa ga s39 s40 vo, zi G st 12 fst, zi G ro 12 fro, zi G mo 6 fmo, zi G kd 6 fkd, zi G cd 1200 fcd, zi G sr 24 (nF fsr), zi G sk 200 fsk, zi G na 6 fna, zi G kp 24 fkp] sz) (q_X6_hardest G h0 kd mo st ro tp cd sr ir ih ss sq ce lw wo he sk na kp gb go fa ga vo pb jg td tx ru him s19 s20 s21 s22 s25 s26 s27 s31 s32 s33 s34 s39 s40 fst fro fmo fkd fcd fsr fsk fna fkp v0 v1 (va_A [zo6 h0 (nI pb) kd mo st (nI jg) ro tp (nI td) cd sr (nI tx) (nI ru) him ir ih ss sq ce lw s19 s20 s21 s22 wo he s25 s26 s27 sk na kp s31 s32 s33 s34 gb go fa ga s39 s40 vo, zi G st 12 fst, zi G ro 12 fro, zi G mo 6 fmo, zi G kd 6 fkd, zi G cd 1200 fcd, zi G sr 24 (nF fsr), zi G sk 200 fsk, zi G na 6 fna, zi G kp 24 fkp] sz)) 0 0 (va_A [zo6 h0 (nI pb) kd mo st (nI jg) ro tp (nI td) cd sr (nI tx) (nI ru) him ir ih ss sq ce lw s19 s20 s21 s22 wo he s25 s26 s27 sk na kp s31 s32 s33 s34 gb go fa ga s39 s40 vo, zi G st 12 fst, zi G ro 12 fro, zi G mo 6 fmo, zi G kd 6 fkd, zi G cd 1200 fcd, zi G sr 24 (nF fsr), zi G sk 200 fsk, zi G na 6 fna, zi G kp 24 fkp] sz) := by
  refine Met.ofW (cc := cX6_hardest) (maxL := 8) (ret := (some .int)) (by decide +kernel) rfl ?_
  intro p e s m args below meth c s₁ B hml hv
  obtain ⟨rfl, hsz, hP, hK, hD0⟩ := hv
  have hx := B.exec
  have hb := B.bytes
  have hr := B.returns
  have hts := atoms_spec (ws := wsX6_hardest) B.pre
  have hown : s.vm.findClass RX6 = some m.cls := findClass_of_methodNamed B.named
  have hlocks := B.notSynchronized
  subst hsz
  have hD := hD0.self (sz := s.heap.size)
  generalize hAe : va_A [zo6 h0 (nI pb) kd mo st (nI jg) ro tp (nI td) cd sr (nI tx) (nI ru) him ir ih ss sq ce lw s19 s20 s21 s22 wo he s25 s26 s27 sk na kp s31 s32 s33 s34 gb go fa ga s39 s40 vo, zi G st 12 fst, zi G ro 12 fro, zi G mo 6 fmo, zi G kd 6 fkd, zi G cd 1200 fcd, zi G sr 24 (nF fsr), zi G sk 200 fsk, zi G na 6 fna, zi G kp 24 fkp] s.heap.size = A at hD ⊢
  have hA : ∀ q : Nat, s.heap.size ≤ q → A q := fun q h => by rw [← hAe]; exact Or.inr h
  have hS : va_S A s.heap s.heap [] := va_S.rf
  have hz9 : gPD G A [zo6 h0 (nI pb) kd mo st (nI jg) ro tp (nI td) cd sr (nI tx) (nI ru) him ir ih ss sq ce lw s19 s20 s21 s22 wo he s25 s26 s27 sk na kp s31 s32 s33 s34 gb go fa ga s39 s40 vo, zi G st 12 fst, zi G ro 12 fro, zi G mo 6 fmo, zi G kd 6 fkd, zi G cd 1200 fcd, zi G sr 24 (nF fsr), zi G sk 200 fsk, zi G na 6 fna, zi G kp 24 fkp] s.heap := ⟨hP, hD⟩
  have hP := hz9.1
  have hD := hz9.2
  have hl := lv_entry ([.ref h0, .int v0, .int v1]) (n := 8) (Nat.le_of_ble_eq_true rfl)
  rw [lg_entry_eq]
  generalize (lg_sl ([.ref h0, .int v0, .int v1]) ++ List.replicate (8 - (lg_sl ([.ref h0, .int v0, .int v1])).length) Slot.unset).toArray = ls at hl ⊢
  have hl : lv_has ls 8 [zR 0 h0, zI 1 v0, zI 2 v1] := hl
  have kf95 := hts (.fieldLink RX6 95 "PebbleInShoeModel" "judges" "I") (by decide +kernel)
  have hiX6 := (by decide +kernel : ∀ w ∈ wsX60, w ∈ wsX6_hardest)
  have kf88 := hts (.fieldLink RX6 88 "PebbleInShoeModel" "pebbles" "I") (by decide +kernel)
  have kf214 := hts (.fieldLink RX6 214 "PebbleInShoeModel" "isGuilty" "Z") (by decide +kernel)
  refine lv_iload_n hx hb dX6_hardest_0 rfl (lv_at hl 1 rfl) ?_
  refine z_calli [] (v := bz (decide (0 ≤ v0 ∧ v0 ≤ 60))) (fun _ _ h => h) (va_runS (As := [.int v0]) (rest := []) ⟨hx, hb, hml, hown, hts⟩ (c_X6_isCase l G v0 s.heap.size) (va_cwS 1 hts gX6_hardest_X6_isCase rfl rfl rfl (by decide +kernel) ⟨Nat.le_of_ble_eq_true rfl, Nat.le_of_ble_eq_true rfl⟩) ⟨gPre_blind, fun U hU hW => gPre_ofF [] hU hW hK hP hD (by decide +kernel) rfl⟩ rfl rfl hl.1 rfl (lv_room (Nat.le_of_ble_eq_true rfl)) dX6_hardest_1 ⟨Nat.le_of_ble_eq_true rfl, Nat.le_of_ble_eq_true rfl⟩) hS hD hA rfl (fun u t H locs ht hvm hB hz1 hk1 hFq hAq hS => ?_)
  obtain ⟨hP1, hK1, hD1⟩ := hB
  have hP := zKeep hP hD [] hAq hk1 ht hP1 rfl
  refine lv_if_eq (tgt := 16) hx hb dX6_hardest_4 (by decide +kernel) (fun c_3 => ?_) (fun c_3 => ?_)
  · skip
    have n_5 : ¬ (0 ≤ v0 ∧ v0 ≤ 60) := of_decide_eq_false (bz_eq rfl c_3)
    refine lv_bipush (v := -2) hx hb dX6_hardest_16 (by decide +kernel) ?_
    have hpost : (fun (r : Int32) (u : Int32 × Int32 × Int32 × Int32 × (Nat → Int32) × (Nat → Int32) × (Nat → Int32)) => match u with | (z31, z32, z33, z34, ysk, yna, ykp) => r = m_X6_hardest pb jg ru fst fro fmo fkd fcd fsr v0 v1) (-2) (s31, s32, s33, s34, fsk, fna, fkp) := (show m_X6_hardest pb jg ru fst fro fmo fkd fcd fsr v0 v1 = (-2) from by unfold m_X6_hardest; rw [if_neg n_5]).symm
    exact W.iret (v := (-2)) hx hb hr (fun t ht hW => ⟨⟨(-2), (s31, s32, s33, s34, fsk, fna, fkp), rfl, hpost, by rw [ht]; exact hP, va_K.moved hW.alike hK, hD⟩, hS.F ht⟩) hS.2.2 dX6_hardest_18
  · skip
    have p_4 : 0 ≤ v0 ∧ v0 ≤ 60 := of_decide_eq_true (bz_ne rfl c_3)
    have hv_6 : v0 = nI (nC v0) := nC_eq p_4.1
    have hk_7 : nC v0 ≤ 60 := nC_le (n := 60) (by omega) p_4
    refine lv_iload_n hx hb dX6_hardest_7 rfl (lv_at hl 2 rfl) ?_
    refine lv_iconst (v := 0) hx hb dX6_hardest_8 (by decide +kernel) ?_
    refine lv_iconst (v := 1) hx hb dX6_hardest_9 (by decide +kernel) ?_
    refine z_calli [] (v := bz (decide (0 ≤ v1 ∧ v1 ≤ 1))) (fun _ _ h => h) (va_runS (As := [.int v1, .int 0, .int 1]) (rest := []) ⟨hx, hb, hml, hown, hts⟩ (c_X6_in l G v1 0 1 H.size) (va_cwS 3 hts gX6_hardest_X6_in rfl rfl rfl (by decide +kernel) ⟨Nat.le_of_ble_eq_true rfl, Nat.le_of_ble_eq_true rfl⟩) ⟨gPre_blind, fun U hU hW => gPre_ofF [] hU hW hK hP hD (by decide +kernel) rfl⟩ rfl rfl hl.1 rfl (lv_room (Nat.le_of_ble_eq_true rfl)) dX6_hardest_10 ⟨Nat.le_of_ble_eq_true rfl, Nat.le_of_ble_eq_true rfl⟩) hS hD hA rfl (fun u t H locs ht hvm hB hz1 hk1 hFq hAq hS => ?_)
    obtain ⟨hP1, hK1, hD1⟩ := hB
    have hP := zKeep hP hD [] hAq hk1 ht hP1 rfl
    refine lv_if_ne (tgt := 19) hx hb dX6_hardest_13 (by decide +kernel) (fun c_10 => ?_) (fun c_10 => ?_)
    · skip
      have p_11 : 0 ≤ v1 ∧ v1 ≤ 1 := of_decide_eq_true (bz_ne rfl c_10)
      have hv_13 : v1 = nI (nC v1) := nC_eq p_11.1
      have hk_14 : nC v1 ≤ 1 := nC_le (n := 1) (by omega) p_11
      refine lv_iconst (v := -1) hx hb dX6_hardest_19 (by decide +kernel) ?_
      refine lv_istore_n (lv' := [zI 3 (-1), zR 0 h0, zI 1 v0, zI 2 v1]) hx hb dX6_hardest_20 rfl hl (by decide +kernel) rfl (fun ls hl => ?_)
      refine lv_iconst (v := -1) hx hb dX6_hardest_21 (by decide +kernel) ?_
      refine lv_istore (lv' := [zI 4 (-1), zI 3 (-1), zR 0 h0, zI 1 v0, zI 2 v1]) hx hb dX6_hardest_22 hl (by decide +kernel) rfl (fun ls hl => ?_)
      refine lv_iconst (v := 0) hx hb dX6_hardest_24 (by decide +kernel) ?_
      refine lv_istore (lv' := [zI 5 0, zI 4 (-1), zI 3 (-1), zR 0 h0, zI 1 v0, zI 2 v1]) hx hb dX6_hardest_25 hl (by decide +kernel) rfl (fun ls hl => ?_)
      have loop_27 : ∀ (n9 : Nat) (j8 : Nat) (be : Int32) (mt : Int32) (x27sk : Nat → Int32) (x27na : Nat → Int32) (x27kp : Nat → Int32) (zz31 : Int32) (zz32 : Int32) (zz33 : Int32) (zz34 : Int32), (j8 ≤ jg) → (p_X6_hardest_27 pb ru fst fro fmo fkd fcd fsr v0 (jg - j8) j8 be mt = (g_X6_hardest_27 pb jg ru fst fro fmo fkd fcd fsr v0)) → (jg - j8) < n9 → ∀ (H : Heap) (locs : List Loc), va_P G.1 vwCl [zo6 h0 (nI pb) kd mo st (nI jg) ro tp (nI td) cd sr (nI tx) (nI ru) him ir ih ss sq ce lw s19 s20 s21 s22 wo he s25 s26 s27 sk na kp zz31 zz32 zz33 zz34 gb go fa ga s39 s40 vo, zi G st 12 fst, zi G ro 12 fro, zi G mo 6 fmo, zi G kd 6 fkd, zi G cd 1200 fcd, zi G sr 24 (nF fsr), zi G sk 200 x27sk, zi G na 6 x27na, zi G kp 24 x27kp] H → va_D A [zo6 h0 (nI pb) kd mo st (nI jg) ro tp (nI td) cd sr (nI tx) (nI ru) him ir ih ss sq ce lw s19 s20 s21 s22 wo he s25 s26 s27 sk na kp zz31 zz32 zz33 zz34 gb go fa ga s39 s40 vo, zi G st 12 fst, zi G ro 12 fro, zi G mo 6 fmo, zi G kd 6 fkd, zi G cd 1200 fcd, zi G sr 24 (nF fsr), zi G sk 200 x27sk, zi G na 6 x27na, zi G kp 24 x27kp] → va_S A s.heap H locs → ∀ ls : Array Slot, lv_has ls 8 [zI 5 (nI j8), zI 4 mt, zI 3 be, zR 0 h0, zI 1 v0, zI 2 v1] → W p l e (headSpec wsX6_hardest ({ frames := 7, cells := 0, slots := 0, locals := 168 })).room s m ([.ref h0, .int v0, .int v1] : List Value).toArray below meth c H locs 0 0 (MQ below (q_X6_hardest G h0 kd mo st ro tp cd sr ir ih ss sq ce lw wo he sk na kp gb go fa ga vo pb jg td tx ru him s19 s20 s21 s22 s25 s26 s27 s31 s32 s33 s34 s39 s40 fst fro fmo fkd fcd fsr fsk fna fkp v0 v1 A) ([.ref h0, .int v0, .int v1] : List Value).toArray s 0 0 A) (F0 m 27 ls []) := by
        intro n9
        induction n9 with
        | zero => intro j8 be mt x27sk x27na x27kp zz31 zz32 zz33 zz34 hj8 R27 hm9_27; exact absurd hm9_27 (Nat.not_lt_zero _)
        | succ n9 ih9_27 =>
          intro j8 be mt x27sk x27na x27kp zz31 zz32 zz33 zz34 hj8 R27 hm9_27 H locs hP hD hS ls hl
          refine lv_iload hx hb dX6_hardest_27 (lv_at hl 0 rfl) ?_
          refine g_aget (D := G.1) (ci := 6) (v := .int (nI jg)) (C := RX6) (T := TX6) (N := 42) hx hb dX6_hardest_29 rfl (lv_at hl 3 rfl) hts hiX6 hown hK hP 0 rfl rfl 4 (by decide +kernel) kf95 (fun _ h9 => h9) rfl dX6_hardest_30 ?_
          refine lv_icmp_ge (tgt := 119) hx hb dX6_hardest_33 (by decide +kernel) (fun c_15 => ?_) (fun c_15 => ?_)
          · skip
            have c_15N : jg ≤ j8 := nI_le1 (a := jg) (b := j8) (by omega) (by omega) c_15
            have hF27 : (g_X6_hardest_27 pb jg ru fst fro fmo fkd fcd fsr v0) = (j8, be, mt) := by rw [← R27, show jg - j8 = 0 by omega]; rfl
            have hE27_0 : j8 = ((g_X6_hardest_27 pb jg ru fst fro fmo fkd fcd fsr v0).1) := by rw [hF27]
            have hE27_1 : be = ((g_X6_hardest_27 pb jg ru fst fro fmo fkd fcd fsr v0).2.1) := by rw [hF27]
            have hE27_2 : mt = ((g_X6_hardest_27 pb jg ru fst fro fmo fkd fcd fsr v0).2.2) := by rw [hF27]
            clear hF27 R27
            subst hE27_0
            subst hE27_1
            subst hE27_2
            refine lv_iload_n hx hb dX6_hardest_119 rfl (lv_at hl 5 rfl) ?_
            refine g_topi (y := nI (nC v1)) hv_13 ?_
            refine lv_if_ne (tgt := 127) hx hb dX6_hardest_120 (by decide +kernel) (fun c_17 => ?_) (fun c_17 => ?_)
            · skip
              have c_17N : ¬ (nC v1) = 0 := nI_eq0 (a := (nC v1)) (b := 0) (by omega) (by omega) c_17
              refine lv_iload hx hb dX6_hardest_127 (lv_at hl 1 rfl) ?_
              have hpost : (fun (r : Int32) (u : Int32 × Int32 × Int32 × Int32 × (Nat → Int32) × (Nat → Int32) × (Nat → Int32)) => match u with | (z31, z32, z33, z34, ysk, yna, ykp) => r = m_X6_hardest pb jg ru fst fro fmo fkd fcd fsr v0 v1) ((g_X6_hardest_27 pb jg ru fst fro fmo fkd fcd fsr v0).2.2) (zz31, zz32, zz33, zz34, x27sk, x27na, x27kp) := (show m_X6_hardest pb jg ru fst fro fmo fkd fcd fsr v0 v1 = ((g_X6_hardest_27 pb jg ru fst fro fmo fkd fcd fsr v0).2.2) from by unfold m_X6_hardest; rw [if_pos p_4, if_pos p_11, if_neg c_17]).symm
              exact W.iret (v := ((g_X6_hardest_27 pb jg ru fst fro fmo fkd fcd fsr v0).2.2)) hx hb hr (fun t ht hW => ⟨⟨((g_X6_hardest_27 pb jg ru fst fro fmo fkd fcd fsr v0).2.2), (zz31, zz32, zz33, zz34, x27sk, x27na, x27kp), rfl, hpost, by rw [ht]; exact hP, va_K.moved hW.alike hK, hD⟩, hS.F ht⟩) hS.2.2 dX6_hardest_129
            · skip
              have c_17N : (nC v1) = 0 := nI_eq1 (a := (nC v1)) (b := 0) (by omega) (by omega) c_17
              refine lv_iload_n hx hb dX6_hardest_123 rfl (lv_at hl 2 rfl) ?_
              refine lv_goto (tgt := 129) hx hb dX6_hardest_124 (by decide +kernel) ?_
              have hpost : (fun (r : Int32) (u : Int32 × Int32 × Int32 × Int32 × (Nat → Int32) × (Nat → Int32) × (Nat → Int32)) => match u with | (z31, z32, z33, z34, ysk, yna, ykp) => r = m_X6_hardest pb jg ru fst fro fmo fkd fcd fsr v0 v1) ((g_X6_hardest_27 pb jg ru fst fro fmo fkd fcd fsr v0).2.1) (zz31, zz32, zz33, zz34, x27sk, x27na, x27kp) := (show m_X6_hardest pb jg ru fst fro fmo fkd fcd fsr v0 v1 = ((g_X6_hardest_27 pb jg ru fst fro fmo fkd fcd fsr v0).2.1) from by unfold m_X6_hardest; rw [if_pos p_4, if_pos p_11, if_pos c_17]).symm
              exact W.iret (v := ((g_X6_hardest_27 pb jg ru fst fro fmo fkd fcd fsr v0).2.1)) hx hb hr (fun t ht hW => ⟨⟨((g_X6_hardest_27 pb jg ru fst fro fmo fkd fcd fsr v0).2.1), (zz31, zz32, zz33, zz34, x27sk, x27na, x27kp), rfl, hpost, by rw [ht]; exact hP, va_K.moved hW.alike hK, hD⟩, hS.F ht⟩) hS.2.2 dX6_hardest_129
          · skip
            have c_15N : j8 < jg := nI_le0 (a := jg) (b := j8) (by omega) (by omega) c_15
            refine lv_iconst (v := 0) hx hb dX6_hardest_36 (by decide +kernel) ?_
            refine lv_istore (lv' := [zI 6 0, zI 5 (nI j8), zI 4 mt, zI 3 be, zR 0 h0, zI 1 v0, zI 2 v1]) hx hb dX6_hardest_37 hl (by decide +kernel) rfl (fun ls hl => ?_)
            refine lv_iconst (v := 0) hx hb dX6_hardest_39 (by decide +kernel) ?_
            refine lv_istore (lv' := [zI 7 0, zI 6 0, zI 5 (nI j8), zI 4 mt, zI 3 be, zR 0 h0, zI 1 v0, zI 2 v1]) hx hb dX6_hardest_40 hl (by decide +kernel) rfl (fun ls hl => ?_)
            have loop_42 : ∀ (n9 : Nat) (p8 : Nat) (my : Int32) (x42sk : Nat → Int32) (x42na : Nat → Int32) (x42kp : Nat → Int32) (zy31 : Int32) (zy32 : Int32) (zy33 : Int32) (zy34 : Int32), (p8 ≤ pb) → (p_X6_hardest_42 ru fst fro fmo fkd fcd fsr v0 j8 (pb - p8) p8 my = (g_X6_hardest_42 pb ru fst fro fmo fkd fcd fsr v0 j8)) → (pb - p8) < n9 → ∀ (H : Heap) (locs : List Loc), va_P G.1 vwCl [zo6 h0 (nI pb) kd mo st (nI jg) ro tp (nI td) cd sr (nI tx) (nI ru) him ir ih ss sq ce lw s19 s20 s21 s22 wo he s25 s26 s27 sk na kp zy31 zy32 zy33 zy34 gb go fa ga s39 s40 vo, zi G st 12 fst, zi G ro 12 fro, zi G mo 6 fmo, zi G kd 6 fkd, zi G cd 1200 fcd, zi G sr 24 (nF fsr), zi G sk 200 x42sk, zi G na 6 x42na, zi G kp 24 x42kp] H → va_D A [zo6 h0 (nI pb) kd mo st (nI jg) ro tp (nI td) cd sr (nI tx) (nI ru) him ir ih ss sq ce lw s19 s20 s21 s22 wo he s25 s26 s27 sk na kp zy31 zy32 zy33 zy34 gb go fa ga s39 s40 vo, zi G st 12 fst, zi G ro 12 fro, zi G mo 6 fmo, zi G kd 6 fkd, zi G cd 1200 fcd, zi G sr 24 (nF fsr), zi G sk 200 x42sk, zi G na 6 x42na, zi G kp 24 x42kp] → va_S A s.heap H locs → ∀ ls : Array Slot, lv_has ls 8 [zI 7 (nI p8), zI 6 my, zI 5 (nI j8), zI 4 mt, zI 3 be, zR 0 h0, zI 1 v0, zI 2 v1] → W p l e (headSpec wsX6_hardest ({ frames := 7, cells := 0, slots := 0, locals := 168 })).room s m ([.ref h0, .int v0, .int v1] : List Value).toArray below meth c H locs 0 0 (MQ below (q_X6_hardest G h0 kd mo st ro tp cd sr ir ih ss sq ce lw wo he sk na kp gb go fa ga vo pb jg td tx ru him s19 s20 s21 s22 s25 s26 s27 s31 s32 s33 s34 s39 s40 fst fro fmo fkd fcd fsr fsk fna fkp v0 v1 A) ([.ref h0, .int v0, .int v1] : List Value).toArray s 0 0 A) (F0 m 42 ls []) := by
              intro n9
              induction n9 with
              | zero => intro p8 my x42sk x42na x42kp zy31 zy32 zy33 zy34 hp8 R42 hm9_42; exact absurd hm9_42 (Nat.not_lt_zero _)
              | succ n9 ih9_42 =>
                intro p8 my x42sk x42na x42kp zy31 zy32 zy33 zy34 hp8 R42 hm9_42 H locs hP hD hS ls hl
                refine lv_iload hx hb dX6_hardest_42 (lv_at hl 0 rfl) ?_
                refine g_aget (D := G.1) (ci := 6) (v := .int (nI pb)) (C := RX6) (T := TX6) (N := 42) hx hb dX6_hardest_44 rfl (lv_at hl 5 rfl) hts hiX6 hown hK hP 0 rfl rfl 0 (by decide +kernel) kf88 (fun _ h9 => h9) rfl dX6_hardest_45 ?_
                refine lv_icmp_ge (tgt := 83) hx hb dX6_hardest_48 (by decide +kernel) (fun c_18 => ?_) (fun c_18 => ?_)
                · skip
                  have c_18N : pb ≤ p8 := nI_le1 (a := pb) (b := p8) (by omega) (by omega) c_18
                  have hF42 : (g_X6_hardest_42 pb ru fst fro fmo fkd fcd fsr v0 j8) = (p8, my) := by rw [← R42, show pb - p8 = 0 by omega]; rfl
                  have hE42_0 : p8 = ((g_X6_hardest_42 pb ru fst fro fmo fkd fcd fsr v0 j8).1) := by rw [hF42]
                  have hE42_1 : my = ((g_X6_hardest_42 pb ru fst fro fmo fkd fcd fsr v0 j8).2) := by rw [hF42]
                  clear hF42 R42
                  subst hE42_0
                  subst hE42_1
                  refine lv_iload hx hb dX6_hardest_83 (lv_at hl 1 rfl) ?_
                  refine lv_iload hx hb dX6_hardest_85 (lv_at hl 3 rfl) ?_
                  refine lv_icmp_le (tgt := 95) hx hb dX6_hardest_87 (by decide +kernel) (fun c_19 => ?_) (fun c_19 => ?_)
                  · skip
                    refine lv_iload_n hx hb dX6_hardest_95 rfl (lv_at hl 4 rfl) ?_
                    refine lv_istore_n (lv' := [zI 3 be, zI 7 (nI ((g_X6_hardest_42 pb ru fst fro fmo fkd fcd fsr v0 j8).1)), zI 6 ((g_X6_hardest_42 pb ru fst fro fmo fkd fcd fsr v0 j8).2), zI 5 (nI j8), zI 4 mt, zR 0 h0, zI 1 v0, zI 2 v1]) hx hb dX6_hardest_96 rfl hl (by decide +kernel) rfl (fun ls hl => ?_)
                    refine lv_iload hx hb dX6_hardest_97 (lv_at hl 2 rfl) ?_
                    refine lv_iload hx hb dX6_hardest_99 (lv_at hl 4 rfl) ?_
                    refine lv_icmp_le (tgt := 109) hx hb dX6_hardest_101 (by decide +kernel) (fun c_20 => ?_) (fun c_20 => ?_)
                    rotate_left
                    · exact absurd (c_19) c_20
                    refine lv_iload hx hb dX6_hardest_109 (lv_at hl 4 rfl) ?_
                    refine lv_istore (lv' := [zI 4 mt, zI 3 be, zI 7 (nI ((g_X6_hardest_42 pb ru fst fro fmo fkd fcd fsr v0 j8).1)), zI 6 ((g_X6_hardest_42 pb ru fst fro fmo fkd fcd fsr v0 j8).2), zI 5 (nI j8), zR 0 h0, zI 1 v0, zI 2 v1]) hx hb dX6_hardest_111 hl (by decide +kernel) rfl (fun ls hl => ?_)
                    refine lv_iinc (v := nI (j8 + 1)) (lv' := [zI 5 (nI (j8 + 1)), zI 4 mt, zI 3 be, zI 7 (nI ((g_X6_hardest_42 pb ru fst fro fmo fkd fcd fsr v0 j8).1)), zI 6 ((g_X6_hardest_42 pb ru fst fro fmo fkd fcd fsr v0 j8).2), zR 0 h0, zI 1 v0, zI 2 v1]) hx hb dX6_hardest_113 hl (k := 4) rfl (nI_add j8 1) (by decide +kernel) rfl (fun ls hl => ?_)
                    refine lv_goto (tgt := 27) hx hb dX6_hardest_116 (by decide +kernel) ?_
                    exact ih9_27 (j8 + 1) be mt x42sk x42na x42kp zy31 zy32 zy33 zy34 (by omega) (Eq.trans (Eq.symm ((congrArg (fun z9 => p_X6_hardest_27 pb ru fst fro fmo fkd fcd fsr v0 (z9) j8 be mt) (show jg - j8 = jg - (j8 + 1) + 1 by omega)).trans (by show p_X6_hardest_27 pb ru fst fro fmo fkd fcd fsr v0 (jg - (j8 + 1) + 1) j8 be mt = _; rw [p_X6_hardest_27, if_pos c_19]))) R27) (by omega) _ _ hP hD hS ls (lv_sub hl [0, 1, 2, 5, 6, 7] rfl)
                  · skip
                    refine lv_iload hx hb dX6_hardest_90 (lv_at hl 2 rfl) ?_
                    refine lv_goto (tgt := 96) hx hb dX6_hardest_92 (by decide +kernel) ?_
                    refine lv_istore_n (lv' := [zI 3 (nI j8), zI 7 (nI ((g_X6_hardest_42 pb ru fst fro fmo fkd fcd fsr v0 j8).1)), zI 6 ((g_X6_hardest_42 pb ru fst fro fmo fkd fcd fsr v0 j8).2), zI 5 (nI j8), zI 4 mt, zR 0 h0, zI 1 v0, zI 2 v1]) hx hb dX6_hardest_96 rfl hl (by decide +kernel) rfl (fun ls hl => ?_)
                    refine lv_iload hx hb dX6_hardest_97 (lv_at hl 2 rfl) ?_
                    refine lv_iload hx hb dX6_hardest_99 (lv_at hl 4 rfl) ?_
                    refine lv_icmp_le (tgt := 109) hx hb dX6_hardest_101 (by decide +kernel) (fun c_21 => ?_) (fun c_21 => ?_)
                    · exact absurd c_21 (c_19)
                    refine lv_iload hx hb dX6_hardest_104 (lv_at hl 2 rfl) ?_
                    refine lv_goto (tgt := 111) hx hb dX6_hardest_106 (by decide +kernel) ?_
                    refine lv_istore (lv' := [zI 4 ((g_X6_hardest_42 pb ru fst fro fmo fkd fcd fsr v0 j8).2), zI 3 (nI j8), zI 7 (nI ((g_X6_hardest_42 pb ru fst fro fmo fkd fcd fsr v0 j8).1)), zI 6 ((g_X6_hardest_42 pb ru fst fro fmo fkd fcd fsr v0 j8).2), zI 5 (nI j8), zR 0 h0, zI 1 v0, zI 2 v1]) hx hb dX6_hardest_111 hl (by decide +kernel) rfl (fun ls hl => ?_)
                    refine lv_iinc (v := nI (j8 + 1)) (lv' := [zI 5 (nI (j8 + 1)), zI 4 ((g_X6_hardest_42 pb ru fst fro fmo fkd fcd fsr v0 j8).2), zI 3 (nI j8), zI 7 (nI ((g_X6_hardest_42 pb ru fst fro fmo fkd fcd fsr v0 j8).1)), zI 6 ((g_X6_hardest_42 pb ru fst fro fmo fkd fcd fsr v0 j8).2), zR 0 h0, zI 1 v0, zI 2 v1]) hx hb dX6_hardest_113 hl (k := 4) rfl (nI_add j8 1) (by decide +kernel) rfl (fun ls hl => ?_)
                    refine lv_goto (tgt := 27) hx hb dX6_hardest_116 (by decide +kernel) ?_
                    exact ih9_27 (j8 + 1) (nI j8) ((g_X6_hardest_42 pb ru fst fro fmo fkd fcd fsr v0 j8).2) x42sk x42na x42kp zy31 zy32 zy33 zy34 (by omega) (Eq.trans (Eq.symm ((congrArg (fun z9 => p_X6_hardest_27 pb ru fst fro fmo fkd fcd fsr v0 (z9) j8 be mt) (show jg - j8 = jg - (j8 + 1) + 1 by omega)).trans (by show p_X6_hardest_27 pb ru fst fro fmo fkd fcd fsr v0 (jg - (j8 + 1) + 1) j8 be mt = _; rw [p_X6_hardest_27, if_neg c_19]))) R27) (by omega) _ _ hP hD hS ls (lv_sub hl [0, 1, 2, 5, 6, 7] rfl)
                · skip
                  have c_18N : p8 < pb := nI_le0 (a := pb) (b := p8) (by omega) (by omega) c_18
                  refine lv_aload_n hx hb dX6_hardest_51 rfl (lv_at hl 5 rfl) ?_
                  refine lv_iload hx hb dX6_hardest_52 (lv_at hl 2 rfl) ?_
                  refine lv_iload hx hb dX6_hardest_54 (lv_at hl 0 rfl) ?_
                  refine lv_iload_n hx hb dX6_hardest_56 rfl (lv_at hl 6 rfl) ?_
                  refine g_topi (y := nI (nC v0)) hv_6 ?_
                  refine z_callv [0, 1, 2, 3, 4, 5, 6, 7, 8, 9] (va_runV (As := [.int (nI j8), .int (nI p8), .int (nI (nC v0))]) (rest := []) ⟨hx, hb, hml, hown, hts⟩ (c_X6_heard l G h0 kd mo st ro tp cd sr ir ih ss sq ce lw wo he sk na kp gb go fa ga vo pb jg td tx ru him s19 s20 s21 s22 s25 s26 s27 zy31 zy32 zy33 zy34 s39 s40 fst fro fmo fkd fcd fsr x42sk x42na x42kp j8 p8 (nC v0) H.size (by first | exact hj | assumption | omega) (by first | exact hp | assumption | omega) (by first | exact hnn | assumption | omega) (hwa _ (by omega)) (by first | exact hpb | assumption | omega) (by first | exact hjg | assumption | omega) (by first | exact htx | assumption | omega) (by first | exact hru | assumption | omega)) (cwV 3 hts gX6_hardest_X6_heard rfl rfl rfl (by decide +kernel) ⟨Nat.le_of_ble_eq_true rfl, Nat.le_of_ble_eq_true rfl⟩) ⟨gPre_blind, va_recv (q := (RX6, TX6, 42)) hK hP (ci := 6) (q0 := 0) rfl rfl, fun U hU hW => gPre_of hU hW hK hP hD⟩ rfl rfl hl.1 rfl (lv_room (Nat.le_of_ble_eq_true rfl)) dX6_hardest_57 ⟨Nat.le_of_ble_eq_true rfl, Nat.le_of_ble_eq_true rfl⟩) hS hD hA rfl (fun u t H locs ht hvm w_24 hB hz1 hk1 hFq hAq hS => ?_)
                  obtain ⟨ysk_25, yna_26, ykp_27⟩ := u
                  obtain ⟨hP1, hK1, hD1⟩ := hB
                  have hz9 : gPD G A [zo6 h0 (nI pb) kd mo st (nI jg) ro tp (nI td) cd sr (nI tx) (nI ru) him ir ih ss sq ce lw s19 s20 s21 s22 wo he s25 s26 s27 sk na kp (m_X6_heard_h031 ru fst fro fmo fkd fcd fsr j8 p8 (nC v0)) (m_X6_heard_h032 ru fst fro fmo fkd fcd fsr j8 p8 (nC v0)) (m_X6_heard_h033 ru fst fro fmo fkd fcd fsr j8 p8 (nC v0)) (m_X6_heard_h034 ru fst fro fmo fkd fcd fsr j8 p8 (nC v0)) gb go fa ga s39 s40 vo, zi G st 12 fst, zi G ro 12 fro, zi G mo 6 fmo, zi G kd 6 fkd, zi G cd 1200 fcd, zi G sr 24 (nF fsr), zi G sk 200 ysk_25, zi G na 6 yna_26, zi G kp 24 ykp_27] H := zFill hP hD [0, 1, 2, 3, 4, 5, 6, 7, 8, 9] [1, 2, 3, 4, 5, 6, 7, 8, 9, 10] hAq hk1 hFq ht hP1 hD1 rfl (by decide +kernel)
                  have hP := hz9.1
                  have hD := hz9.2
                  refine lv_iload hx hb dX6_hardest_60 (lv_at hl 1 rfl) ?_
                  refine g_aget (D := G.1) (ci := 6) (v := .int (m_X6_heard_h034 ru fst fro fmo fkd fcd fsr j8 p8 (nC v0))) (C := RX6) (T := TX6) (N := 42) hx hb dX6_hardest_62 rfl (lv_at hl 5 rfl) hts hiX6 hown hK hP 0 rfl rfl 34 (by decide +kernel) kf214 (fun _ h9 => h9) rfl dX6_hardest_63 ?_
                  refine lv_if_eq (tgt := 73) hx hb dX6_hardest_66 (by decide +kernel) (fun c_28 => ?_) (fun c_28 => ?_)
                  · skip
                    refine lv_iconst (v := 0) hx hb dX6_hardest_73 (by decide +kernel) ?_
                    refine lv_iadd hx hb dX6_hardest_74 ?_
                    refine lv_istore (lv' := [zI 6 (my + 0), zI 7 (nI p8), zI 5 (nI j8), zI 4 mt, zI 3 be, zR 0 h0, zI 1 v0, zI 2 v1]) hx hb dX6_hardest_75 hl (by decide +kernel) rfl (fun ls hl => ?_)
                    refine lv_iinc (v := nI (p8 + 1)) (lv' := [zI 7 (nI (p8 + 1)), zI 6 (my + 0), zI 5 (nI j8), zI 4 mt, zI 3 be, zR 0 h0, zI 1 v0, zI 2 v1]) hx hb dX6_hardest_77 hl (k := 1) rfl (nI_add p8 1) (by decide +kernel) rfl (fun ls hl => ?_)
                    refine lv_goto (tgt := 42) hx hb dX6_hardest_80 (by decide +kernel) ?_
                    exact ih9_42 (p8 + 1) (my + 0) ysk_25 yna_26 ykp_27 (m_X6_heard_h031 ru fst fro fmo fkd fcd fsr j8 p8 (nC v0)) (m_X6_heard_h032 ru fst fro fmo fkd fcd fsr j8 p8 (nC v0)) (m_X6_heard_h033 ru fst fro fmo fkd fcd fsr j8 p8 (nC v0)) (m_X6_heard_h034 ru fst fro fmo fkd fcd fsr j8 p8 (nC v0)) (by omega) (Eq.trans (Eq.symm ((congrArg (fun z9 => p_X6_hardest_42 ru fst fro fmo fkd fcd fsr v0 j8 (z9) p8 my) (show pb - p8 = pb - (p8 + 1) + 1 by omega)).trans (by show p_X6_hardest_42 ru fst fro fmo fkd fcd fsr v0 j8 (pb - (p8 + 1) + 1) p8 my = _; rw [p_X6_hardest_42, if_pos c_28]))) R42) (by omega) _ _ hP hD hS ls hl
                  · skip
                    refine lv_iconst (v := 1) hx hb dX6_hardest_69 (by decide +kernel) ?_
                    refine lv_goto (tgt := 74) hx hb dX6_hardest_70 (by decide +kernel) ?_
                    refine lv_iadd hx hb dX6_hardest_74 ?_
                    refine lv_istore (lv' := [zI 6 (my + 1), zI 7 (nI p8), zI 5 (nI j8), zI 4 mt, zI 3 be, zR 0 h0, zI 1 v0, zI 2 v1]) hx hb dX6_hardest_75 hl (by decide +kernel) rfl (fun ls hl => ?_)
                    refine lv_iinc (v := nI (p8 + 1)) (lv' := [zI 7 (nI (p8 + 1)), zI 6 (my + 1), zI 5 (nI j8), zI 4 mt, zI 3 be, zR 0 h0, zI 1 v0, zI 2 v1]) hx hb dX6_hardest_77 hl (k := 1) rfl (nI_add p8 1) (by decide +kernel) rfl (fun ls hl => ?_)
                    refine lv_goto (tgt := 42) hx hb dX6_hardest_80 (by decide +kernel) ?_
                    exact ih9_42 (p8 + 1) (my + 1) ysk_25 yna_26 ykp_27 (m_X6_heard_h031 ru fst fro fmo fkd fcd fsr j8 p8 (nC v0)) (m_X6_heard_h032 ru fst fro fmo fkd fcd fsr j8 p8 (nC v0)) (m_X6_heard_h033 ru fst fro fmo fkd fcd fsr j8 p8 (nC v0)) (m_X6_heard_h034 ru fst fro fmo fkd fcd fsr j8 p8 (nC v0)) (by omega) (Eq.trans (Eq.symm ((congrArg (fun z9 => p_X6_hardest_42 ru fst fro fmo fkd fcd fsr v0 j8 (z9) p8 my) (show pb - p8 = pb - (p8 + 1) + 1 by omega)).trans (by show p_X6_hardest_42 ru fst fro fmo fkd fcd fsr v0 j8 (pb - (p8 + 1) + 1) p8 my = _; rw [p_X6_hardest_42, if_neg c_28]))) R42) (by omega) _ _ hP hD hS ls hl
            exact loop_42 (pb - 0 + 1) 0 0 x27sk x27na x27kp zz31 zz32 zz33 zz34 (by omega) (rfl) (by omega) _ _ hP hD hS ls hl
      exact loop_27 (jg - 0 + 1) 0 (-1) (-1) fsk fna fkp s31 s32 s33 s34 (by omega) (rfl) (by omega) _ _ hP hD hS ls hl
    · skip
      have n_12 : ¬ (0 ≤ v1 ∧ v1 ≤ 1) := of_decide_eq_false (bz_eq rfl c_10)
      refine lv_bipush (v := -2) hx hb dX6_hardest_16 (by decide +kernel) ?_
      have hpost : (fun (r : Int32) (u : Int32 × Int32 × Int32 × Int32 × (Nat → Int32) × (Nat → Int32) × (Nat → Int32)) => match u with | (z31, z32, z33, z34, ysk, yna, ykp) => r = m_X6_hardest pb jg ru fst fro fmo fkd fcd fsr v0 v1) (-2) (s31, s32, s33, s34, fsk, fna, fkp) := (show m_X6_hardest pb jg ru fst fro fmo fkd fcd fsr v0 v1 = (-2) from by unfold m_X6_hardest; rw [if_pos p_4, if_neg n_12]).symm
      exact W.iret (v := (-2)) hx hb hr (fun t ht hW => ⟨⟨(-2), (s31, s32, s33, s34, fsk, fna, fkp), rfl, hpost, by rw [ht]; exact hP, va_K.moved hW.alike hK, hD⟩, hS.F ht⟩) hS.2.2 dX6_hardest_18
noncomputable def p_X6_thick_45 (ru : Nat) (fst : Nat → Int32) (fmo : Nat → Int32) (fkd : Nat → Int32) (fcd : Nat → Int32) (fsr : Nat → Nat) (v0 : Int32) (v1 : Int32) (v2 : Int32) : Nat → Nat → Int32 → (Nat → Int32) → Nat × Int32 × (Nat → Int32)
  | 0, w8, be, y45ro => (w8, be, y45ro)
  | q9 + 1, w8, be, y45ro => if be = (-1) then (if (m_X6_heard_h034 ru fst (upd y45ro (3 * (nC v0)) (nI w8)) fmo fkd fcd fsr (nC v0) (nC v1) (nC v2)) = 0 then p_X6_thick_45 ru fst fmo fkd fcd fsr v0 v1 v2 q9 (w8 + 1) (nI w8) (upd y45ro (3 * (nC v0)) (nI w8)) else p_X6_thick_45 ru fst fmo fkd fcd fsr v0 v1 v2 q9 (w8 + 1) (-1) (upd y45ro (3 * (nC v0)) (nI w8))) else (w8, be, y45ro)
noncomputable def g_X6_thick_45 (ru : Nat) (fst : Nat → Int32) (fro : Nat → Int32) (fmo : Nat → Int32) (fkd : Nat → Int32) (fcd : Nat → Int32) (fsr : Nat → Nat) (v0 : Int32) (v1 : Int32) (v2 : Int32) : Nat × Int32 × (Nat → Int32) := p_X6_thick_45 ru fst fmo fkd fcd fsr v0 v1 v2 (21 - 0) 0 (-1) fro
noncomputable def m_X6_thick (pb : Nat) (jg : Nat) (ru : Nat) (fst : Nat → Int32) (fro : Nat → Int32) (fmo : Nat → Int32) (fkd : Nat → Int32) (fcd : Nat → Int32) (fsr : Nat → Nat) (v0 : Int32) (v1 : Int32) (v2 : Int32) : Int32 := if (mHas jg v0) = true then (if (mHas pb v1) = true then (if 0 ≤ v2 ∧ v2 ≤ 60 then ((g_X6_thick_45 ru fst fro fmo fkd fcd fsr v0 v1 v2).2.1) else -7) else -5) else -5
noncomputable def m_X6_thick_ro (pb : Nat) (jg : Nat) (ru : Nat) (fst : Nat → Int32) (fro : Nat → Int32) (fmo : Nat → Int32) (fkd : Nat → Int32) (fcd : Nat → Int32) (fsr : Nat → Nat) (v0 : Int32) (v1 : Int32) (v2 : Int32) : Nat → Int32 := if (mHas jg v0) = true then (if (mHas pb v1) = true then (if 0 ≤ v2 ∧ v2 ≤ 60 then upd ((g_X6_thick_45 ru fst fro fmo fkd fcd fsr v0 v1 v2).2.2) (3 * (nC v0)) (fro (3 * (nC v0))) else fro) else fro) else fro
abbrev q_X6_thick (G : gG) (h0 kd mo st ro tp cd sr ir ih ss sq ce lw wo he sk na kp gb go fa ga vo : Nat) (pb : Nat) (jg : Nat) (td : Nat) (tx : Nat) (ru : Nat) (him : Int32) (s19 : Int32) (s20 : Int32) (s21 : Int32) (s22 : Int32) (s25 : Int32) (s26 : Int32) (s27 : Int32) (s31 : Int32) (s32 : Int32) (s33 : Int32) (s34 : Int32) (s39 : Int32) (s40 : Int32) (fst : Nat → Int32) (fro : Nat → Int32) (fmo : Nat → Int32) (fkd : Nat → Int32) (fcd : Nat → Int32) (fsr : Nat → Nat) (fsk : Nat → Int32) (fna : Nat → Int32) (fkp : Nat → Int32) (v0 : Int32) (v1 : Int32) (v2 : Int32) (A : Nat → Prop) : Array Value → State → Outcome → State → Prop := va_Qi (fun (r : Int32) (u : Int32 × Int32 × Int32 × Int32 × (Nat → Int32) × (Nat → Int32) × (Nat → Int32)) => match u with | (z31, z32, z33, z34, ysk, yna, ykp) => r = m_X6_thick pb jg ru fst fro fmo fkd fcd fsr v0 v1 v2) (fun (u : Int32 × Int32 × Int32 × Int32 × (Nat → Int32) × (Nat → Int32) × (Nat → Int32)) t => match u with | (z31, z32, z33, z34, ysk, yna, ykp) => va_P G.1 vwCl [zo6 h0 (nI pb) kd mo st (nI jg) ro tp (nI td) cd sr (nI tx) (nI ru) him ir ih ss sq ce lw s19 s20 s21 s22 wo he s25 s26 s27 sk na kp z31 z32 z33 z34 gb go fa ga s39 s40 vo, zi G st 12 fst, zi G ro 12 (m_X6_thick_ro pb jg ru fst fro fmo fkd fcd fsr v0 v1 v2), zi G mo 6 fmo, zi G kd 6 fkd, zi G cd 1200 fcd, zi G sr 24 (nF fsr), zi G sk 200 ysk, zi G na 6 yna, zi G kp 24 ykp] t.heap ∧ gK G t ∧ va_D A [zo6 h0 (nI pb) kd mo st (nI jg) ro tp (nI td) cd sr (nI tx) (nI ru) him ir ih ss sq ce lw s19 s20 s21 s22 wo he s25 s26 s27 sk na kp z31 z32 z33 z34 gb go fa ga s39 s40 vo, zi G st 12 fst, zi G ro 12 (m_X6_thick_ro pb jg ru fst fro fmo fkd fcd fsr v0 v1 v2), zi G mo 6 fmo, zi G kd 6 fkd, zi G cd 1200 fcd, zi G sr 24 (nF fsr), zi G sk 200 ysk, zi G na 6 yna, zi G kp 24 ykp]) A
set_option maxHeartbeats 4000000 in
set_option maxRecDepth 100000 in
theorem c_X6_thick (l : Launch) (G : gG) (h0 kd mo st ro tp cd sr ir ih ss sq ce lw wo he sk na kp gb go fa ga vo : Nat) (pb : Nat) (jg : Nat) (td : Nat) (tx : Nat) (ru : Nat) (him : Int32) (s19 : Int32) (s20 : Int32) (s21 : Int32) (s22 : Int32) (s25 : Int32) (s26 : Int32) (s27 : Int32) (s31 : Int32) (s32 : Int32) (s33 : Int32) (s34 : Int32) (s39 : Int32) (s40 : Int32) (fst : Nat → Int32) (fro : Nat → Int32) (fmo : Nat → Int32) (fkd : Nat → Int32) (fcd : Nat → Int32) (fsr : Nat → Nat) (fsk : Nat → Int32) (fna : Nat → Int32) (fkp : Nat → Int32) (v0 : Int32) (v1 : Int32) (v2 : Int32) (sz : Nat) (hwa : ∀ t9, t9 < tx → mWf fcd fsr t9) (hpb : pb ≤ 6) (hjg : jg ≤ 4) (htx : tx ≤ 6) (hru : ru < tx) : Met l yX6_thick wsX6_thick ({ frames := 7, cells := 0, slots := 0, locals := 168 }) (gPre G [.ref h0, .int v0, .int v1, .int v2] [zo6 h0 (nI pb) kd mo st (nI jg) ro tp (nI td) cd sr (nI tx) (nI ru) him ir ih ss sq ce lw s19 s20 s21 s22 wo he s25 s26 s27 sk na kp s31 s32 s33 s34 gb go fa ga s39 s40 vo, zi G st 12 fst, zi G ro 12 fro, zi G mo 6 fmo, zi G kd 6 fkd, zi G cd 1200 fcd, zi G sr 24 (nF fsr), zi G sk 200 fsk, zi G na 6 fna, zi G kp 24 fkp] sz) (q_X6_thick G h0 kd mo st ro tp cd sr ir ih ss sq ce lw wo he sk na kp gb go fa ga vo pb jg td tx ru him s19 s20 s21 s22 s25 s26 s27 s31 s32 s33 s34 s39 s40 fst fro fmo fkd fcd fsr fsk fna fkp v0 v1 v2 (va_A [zo6 h0 (nI pb) kd mo st (nI jg) ro tp (nI td) cd sr (nI tx) (nI ru) him ir ih ss sq ce lw s19 s20 s21 s22 wo he s25 s26 s27 sk na kp s31 s32 s33 s34 gb go fa ga s39 s40 vo, zi G st 12 fst, zi G ro 12 fro, zi G mo 6 fmo, zi G kd 6 fkd, zi G cd 1200 fcd, zi G sr 24 (nF fsr), zi G sk 200 fsk, zi G na 6 fna, zi G kp 24 fkp] sz)) 0 0 (va_A [zo6 h0 (nI pb) kd mo st (nI jg) ro tp (nI td) cd sr (nI tx) (nI ru) him ir ih ss sq ce lw s19 s20 s21 s22 wo he s25 s26 s27 sk na kp s31 s32 s33 s34 gb go fa ga s39 s40 vo, zi G st 12 fst, zi G ro 12 fro, zi G mo 6 fmo, zi G kd 6 fkd, zi G cd 1200 fcd, zi G sr 24 (nF fsr), zi G sk 200 fsk, zi G na 6 fna, zi G kp 24 fkp] sz) := by
  refine Met.ofW (cc := cX6_thick) (maxL := 7) (ret := (some .int)) (by decide +kernel) rfl ?_
  intro p e s m args below meth c s₁ B hml hv
  obtain ⟨rfl, hsz, hP, hK, hD0⟩ := hv
  have hx := B.exec
  have hb := B.bytes
  have hr := B.returns
  have hts := atoms_spec (ws := wsX6_thick) B.pre
  have hown : s.vm.findClass RX6 = some m.cls := findClass_of_methodNamed B.named
  have hlocks := B.notSynchronized
  subst hsz
  have hD := hD0.self (sz := s.heap.size)
  generalize hAe : va_A [zo6 h0 (nI pb) kd mo st (nI jg) ro tp (nI td) cd sr (nI tx) (nI ru) him ir ih ss sq ce lw s19 s20 s21 s22 wo he s25 s26 s27 sk na kp s31 s32 s33 s34 gb go fa ga s39 s40 vo, zi G st 12 fst, zi G ro 12 fro, zi G mo 6 fmo, zi G kd 6 fkd, zi G cd 1200 fcd, zi G sr 24 (nF fsr), zi G sk 200 fsk, zi G na 6 fna, zi G kp 24 fkp] s.heap.size = A at hD ⊢
  have hA : ∀ q : Nat, s.heap.size ≤ q → A q := fun q h => by rw [← hAe]; exact Or.inr h
  have hS : va_S A s.heap s.heap [] := va_S.rf
  have hz9 : gPD G A [zo6 h0 (nI pb) kd mo st (nI jg) ro tp (nI td) cd sr (nI tx) (nI ru) him ir ih ss sq ce lw s19 s20 s21 s22 wo he s25 s26 s27 sk na kp s31 s32 s33 s34 gb go fa ga s39 s40 vo, zi G st 12 fst, zi G ro 12 fro, zi G mo 6 fmo, zi G kd 6 fkd, zi G cd 1200 fcd, zi G sr 24 (nF fsr), zi G sk 200 fsk, zi G na 6 fna, zi G kp 24 fkp] s.heap := ⟨hP, hD⟩
  have hP := hz9.1
  have hD := hz9.2
  have hl := lv_entry ([.ref h0, .int v0, .int v1, .int v2]) (n := 7) (Nat.le_of_ble_eq_true rfl)
  rw [lg_entry_eq]
  generalize (lg_sl ([.ref h0, .int v0, .int v1, .int v2]) ++ List.replicate (7 - (lg_sl ([.ref h0, .int v0, .int v1, .int v2])).length) Slot.unset).toArray = ls at hl ⊢
  have hl : lv_has ls 7 [zR 0 h0, zI 1 v0, zI 2 v1, zI 3 v2] := hl
  have kf19 := hts (.fieldLink RX6 19 "PebbleInShoeModel" "rows" "[I") (by decide +kernel)
  have hiX6 := (by decide +kernel : ∀ w ∈ wsX60, w ∈ wsX6_thick)
  have kf214 := hts (.fieldLink RX6 214 "PebbleInShoeModel" "isGuilty" "Z") (by decide +kernel)
  refine lv_aload_n hx hb dX6_thick_0 rfl (lv_at hl 0 rfl) ?_
  refine lv_iload_n hx hb dX6_thick_1 rfl (lv_at hl 1 rfl) ?_
  refine z_calli [0] (v := bz (mHas jg v0)) (fun _ _ h => h) (va_runV (As := [.int v0]) (rest := []) ⟨hx, hb, hml, hown, hts⟩ (c_X6_isJudge l G h0 kd mo st ro tp cd sr ir ih ss sq ce lw wo he sk na kp gb go fa ga vo pb jg td tx ru him s19 s20 s21 s22 s25 s26 s27 s31 s32 s33 s34 s39 s40 v0 s.heap.size (by first | exact hpb | assumption | omega) (by first | exact hjg | assumption | omega) (by first | exact htx | assumption | omega) (by first | exact hru | assumption | omega)) (cwV 1 hts gX6_thick_X6_isJudge rfl rfl rfl (by decide +kernel) ⟨Nat.le_of_ble_eq_true rfl, Nat.le_of_ble_eq_true rfl⟩) ⟨gPre_blind, va_recv (q := (RX6, TX6, 42)) hK hP (ci := 6) (q0 := 0) rfl rfl, fun U hU hW => gPre_ofF [0] hU hW hK hP hD (by decide +kernel) rfl⟩ rfl rfl hl.1 rfl (lv_room (Nat.le_of_ble_eq_true rfl)) dX6_thick_2 ⟨Nat.le_of_ble_eq_true rfl, Nat.le_of_ble_eq_true rfl⟩) hS hD hA rfl (fun u t H locs ht hvm hB hz1 hk1 hFq hAq hS => ?_)
  obtain ⟨hP1, hK1, hD1⟩ := hB
  have hP := zKeep hP hD [0] hAq hk1 ht hP1 rfl
  refine lv_if_eq (tgt := 16) hx hb dX6_thick_5 (by decide +kernel) (fun c_3 => ?_) (fun c_3 => ?_)
  · skip
    have n_5 : (mHas jg v0) = false := bz_eq rfl c_3
    have n_5N : ¬ ((mHas jg v0) = true) := by rw [n_5]; decide
    refine lv_bipush (v := -5) hx hb dX6_thick_16 (by decide +kernel) ?_
    have q_8 : m_X6_thick_ro pb jg ru fst fro fmo fkd fcd fsr v0 v1 v2 = fro := by unfold m_X6_thick_ro; rw [if_neg n_5N]
    have hz9 : gPD G A [zo6 h0 (nI pb) kd mo st (nI jg) ro tp (nI td) cd sr (nI tx) (nI ru) him ir ih ss sq ce lw s19 s20 s21 s22 wo he s25 s26 s27 sk na kp s31 s32 s33 s34 gb go fa ga s39 s40 vo, zi G st 12 fst, zi G ro 12 (m_X6_thick_ro pb jg ru fst fro fmo fkd fcd fsr v0 v1 v2), zi G mo 6 fmo, zi G kd 6 fkd, zi G cd 1200 fcd, zi G sr 24 (nF fsr), zi G sk 200 fsk, zi G na 6 fna, zi G kp 24 fkp] H := ⟨by rw [q_8]; exact hP, by rw [q_8]; exact hD⟩
    have hP9 := hz9.1
    have hD9 := hz9.2
    have hpost : (fun (r : Int32) (u : Int32 × Int32 × Int32 × Int32 × (Nat → Int32) × (Nat → Int32) × (Nat → Int32)) => match u with | (z31, z32, z33, z34, ysk, yna, ykp) => r = m_X6_thick pb jg ru fst fro fmo fkd fcd fsr v0 v1 v2) (-5) (s31, s32, s33, s34, fsk, fna, fkp) := (show m_X6_thick pb jg ru fst fro fmo fkd fcd fsr v0 v1 v2 = (-5) from by unfold m_X6_thick; rw [if_neg n_5N]).symm
    exact W.iret (v := (-5)) hx hb hr (fun t ht hW => ⟨⟨(-5), (s31, s32, s33, s34, fsk, fna, fkp), rfl, hpost, by rw [ht]; exact hP9, va_K.moved hW.alike hK, hD9⟩, hS.F ht⟩) hS.2.2 dX6_thick_18
  · skip
    have p_4 : (mHas jg v0) = true := bz_ne rfl c_3
    have hv_6 : v0 = nI (nC v0) := mHas_eq p_4
    have hk_7 : nC v0 < jg := mHas_lt (by omega) p_4
    refine lv_aload_n hx hb dX6_thick_8 rfl (lv_at hl 0 rfl) ?_
    refine lv_iload_n hx hb dX6_thick_9 rfl (lv_at hl 2 rfl) ?_
    refine z_calli [0] (v := bz (mHas pb v1)) (fun _ _ h => h) (va_runV (As := [.int v1]) (rest := []) ⟨hx, hb, hml, hown, hts⟩ (c_X6_isPebble l G h0 kd mo st ro tp cd sr ir ih ss sq ce lw wo he sk na kp gb go fa ga vo pb jg td tx ru him s19 s20 s21 s22 s25 s26 s27 s31 s32 s33 s34 s39 s40 v1 H.size (by first | exact hpb | assumption | omega) (by first | exact hjg | assumption | omega) (by first | exact htx | assumption | omega) (by first | exact hru | assumption | omega)) (cwV 1 hts gX6_thick_X6_isPebble rfl rfl rfl (by decide +kernel) ⟨Nat.le_of_ble_eq_true rfl, Nat.le_of_ble_eq_true rfl⟩) ⟨gPre_blind, va_recv (q := (RX6, TX6, 42)) hK hP (ci := 6) (q0 := 0) rfl rfl, fun U hU hW => gPre_ofF [0] hU hW hK hP hD (by decide +kernel) rfl⟩ rfl rfl hl.1 rfl (lv_room (Nat.le_of_ble_eq_true rfl)) dX6_thick_10 ⟨Nat.le_of_ble_eq_true rfl, Nat.le_of_ble_eq_true rfl⟩) hS hD hA rfl (fun u t H locs ht hvm hB hz1 hk1 hFq hAq hS => ?_)
    obtain ⟨hP1, hK1, hD1⟩ := hB
    have hP := zKeep hP hD [0] hAq hk1 ht hP1 rfl
    refine lv_if_ne (tgt := 19) hx hb dX6_thick_13 (by decide +kernel) (fun c_11 => ?_) (fun c_11 => ?_)
    · skip
      have p_12 : (mHas pb v1) = true := bz_ne rfl c_11
      have hv_14 : v1 = nI (nC v1) := mHas_eq p_12
      have hk_15 : nC v1 < pb := mHas_lt (by omega) p_12
      refine lv_iload_n hx hb dX6_thick_19 rfl (lv_at hl 3 rfl) ?_
      refine z_calli [] (v := bz (decide (0 ≤ v2 ∧ v2 ≤ 60))) (fun _ _ h => h) (va_runS (As := [.int v2]) (rest := []) ⟨hx, hb, hml, hown, hts⟩ (c_X6_isCase l G v2 H.size) (va_cwS 1 hts gX6_thick_X6_isCase rfl rfl rfl (by decide +kernel) ⟨Nat.le_of_ble_eq_true rfl, Nat.le_of_ble_eq_true rfl⟩) ⟨gPre_blind, fun U hU hW => gPre_ofF [] hU hW hK hP hD (by decide +kernel) rfl⟩ rfl rfl hl.1 rfl (lv_room (Nat.le_of_ble_eq_true rfl)) dX6_thick_20 ⟨Nat.le_of_ble_eq_true rfl, Nat.le_of_ble_eq_true rfl⟩) hS hD hA rfl (fun u t H locs ht hvm hB hz1 hk1 hFq hAq hS => ?_)
      obtain ⟨hP1, hK1, hD1⟩ := hB
      have hP := zKeep hP hD [] hAq hk1 ht hP1 rfl
      refine lv_if_ne (tgt := 29) hx hb dX6_thick_23 (by decide +kernel) (fun c_18 => ?_) (fun c_18 => ?_)
      · skip
        have p_19 : 0 ≤ v2 ∧ v2 ≤ 60 := of_decide_eq_true (bz_ne rfl c_18)
        have hv_21 : v2 = nI (nC v2) := nC_eq p_19.1
        have hk_22 : nC v2 ≤ 60 := nC_le (n := 60) (by omega) p_19
        refine g_aget (D := G.1) (ci := 6) (v := .ref ro) (C := RX6) (T := TX6) (N := 42) hx hb dX6_thick_29 rfl (lv_at hl 0 rfl) hts hiX6 hown hK hP 0 rfl rfl 5 (by decide +kernel) kf19 (fun _ h9 => h9) rfl dX6_thick_30 ?_
        refine lv_iconst (v := 3) hx hb dX6_thick_33 (by decide +kernel) ?_
        refine lv_iload_n hx hb dX6_thick_34 rfl (lv_at hl 1 rfl) ?_
        refine g_topi (y := nI (nC v0)) hv_6 ?_
        refine lv_imul hx hb dX6_thick_35 ?_
        refine g_topi (y := nI (3 * (nC v0))) (pk_mul 3 (nC v0)) ?_
        refine g_iald (D := G.1) hx hb hK hP 2 0 rfl rfl (k := 3 * (nC v0)) (y := fro (3 * (nC v0))) (by omega) rfl rfl dX6_thick_36 ?_
        refine lv_istore (lv' := [zI 4 (fro (3 * (nC v0))), zR 0 h0, zI 1 v0, zI 2 v1, zI 3 v2]) hx hb dX6_thick_37 hl (by decide +kernel) rfl (fun ls hl => ?_)
        refine lv_iconst (v := -1) hx hb dX6_thick_39 (by decide +kernel) ?_
        refine lv_istore (lv' := [zI 5 (-1), zI 4 (fro (3 * (nC v0))), zR 0 h0, zI 1 v0, zI 2 v1, zI 3 v2]) hx hb dX6_thick_40 hl (by decide +kernel) rfl (fun ls hl => ?_)
        refine lv_iconst (v := 0) hx hb dX6_thick_42 (by decide +kernel) ?_
        refine lv_istore (lv' := [zI 6 0, zI 5 (-1), zI 4 (fro (3 * (nC v0))), zR 0 h0, zI 1 v0, zI 2 v1, zI 3 v2]) hx hb dX6_thick_43 hl (by decide +kernel) rfl (fun ls hl => ?_)
        have loop_45 : ∀ (n9 : Nat) (w8 : Nat) (be : Int32) (y45ro : Nat → Int32) (x45sk : Nat → Int32) (x45na : Nat → Int32) (x45kp : Nat → Int32) (zz31 : Int32) (zz32 : Int32) (zz33 : Int32) (zz34 : Int32), (w8 ≤ 21) → (p_X6_thick_45 ru fst fmo fkd fcd fsr v0 v1 v2 (21 - w8) w8 be y45ro = (g_X6_thick_45 ru fst fro fmo fkd fcd fsr v0 v1 v2)) → (21 - w8) < n9 → ∀ (H : Heap) (locs : List Loc), va_P G.1 vwCl [zo6 h0 (nI pb) kd mo st (nI jg) ro tp (nI td) cd sr (nI tx) (nI ru) him ir ih ss sq ce lw s19 s20 s21 s22 wo he s25 s26 s27 sk na kp zz31 zz32 zz33 zz34 gb go fa ga s39 s40 vo, zi G st 12 fst, zi G ro 12 y45ro, zi G mo 6 fmo, zi G kd 6 fkd, zi G cd 1200 fcd, zi G sr 24 (nF fsr), zi G sk 200 x45sk, zi G na 6 x45na, zi G kp 24 x45kp] H → va_D A [zo6 h0 (nI pb) kd mo st (nI jg) ro tp (nI td) cd sr (nI tx) (nI ru) him ir ih ss sq ce lw s19 s20 s21 s22 wo he s25 s26 s27 sk na kp zz31 zz32 zz33 zz34 gb go fa ga s39 s40 vo, zi G st 12 fst, zi G ro 12 y45ro, zi G mo 6 fmo, zi G kd 6 fkd, zi G cd 1200 fcd, zi G sr 24 (nF fsr), zi G sk 200 x45sk, zi G na 6 x45na, zi G kp 24 x45kp] → va_S A s.heap H locs → ∀ ls : Array Slot, lv_has ls 7 [zI 6 (nI w8), zI 5 be, zI 4 (fro (3 * (nC v0))), zR 0 h0, zI 1 v0, zI 2 v1, zI 3 v2] → W p l e (headSpec wsX6_thick ({ frames := 7, cells := 0, slots := 0, locals := 168 })).room s m ([.ref h0, .int v0, .int v1, .int v2] : List Value).toArray below meth c H locs 0 0 (MQ below (q_X6_thick G h0 kd mo st ro tp cd sr ir ih ss sq ce lw wo he sk na kp gb go fa ga vo pb jg td tx ru him s19 s20 s21 s22 s25 s26 s27 s31 s32 s33 s34 s39 s40 fst fro fmo fkd fcd fsr fsk fna fkp v0 v1 v2 A) ([.ref h0, .int v0, .int v1, .int v2] : List Value).toArray s 0 0 A) (F0 m 45 ls []) := by
          intro n9
          induction n9 with
          | zero => intro w8 be y45ro x45sk x45na x45kp zz31 zz32 zz33 zz34 hw8 R45 hm9_45; exact absurd hm9_45 (Nat.not_lt_zero _)
          | succ n9 ih9_45 =>
            intro w8 be y45ro x45sk x45na x45kp zz31 zz32 zz33 zz34 hw8 R45 hm9_45 H locs hP hD hS ls hl
            refine lv_iload hx hb dX6_thick_45 (lv_at hl 0 rfl) ?_
            refine lv_bipush (v := 20) hx hb dX6_thick_47 (by decide +kernel) ?_
            refine lv_icmp_gt (tgt := 96) hx hb dX6_thick_49 (by decide +kernel) (fun c_26 => ?_) (fun c_26 => ?_)
            · skip
              have c_26N : 20 < w8 := nI_lt1 (a := 20) (b := w8) (by omega) (by omega) c_26
              have hF45 : (g_X6_thick_45 ru fst fro fmo fkd fcd fsr v0 v1 v2) = (w8, be, y45ro) := by rw [← R45, show 21 - w8 = 0 by omega]; rfl
              have hE45_0 : w8 = ((g_X6_thick_45 ru fst fro fmo fkd fcd fsr v0 v1 v2).1) := by rw [hF45]
              have hE45_1 : be = ((g_X6_thick_45 ru fst fro fmo fkd fcd fsr v0 v1 v2).2.1) := by rw [hF45]
              have hE45_2 : y45ro = ((g_X6_thick_45 ru fst fro fmo fkd fcd fsr v0 v1 v2).2.2) := by rw [hF45]
              clear hF45 R45
              subst hE45_0
              subst hE45_1
              subst hE45_2
              refine g_aget (D := G.1) (ci := 6) (v := .ref ro) (C := RX6) (T := TX6) (N := 42) hx hb dX6_thick_96 rfl (lv_at hl 3 rfl) hts hiX6 hown hK hP 0 rfl rfl 5 (by decide +kernel) kf19 (fun _ h9 => h9) rfl dX6_thick_97 ?_
              refine lv_iconst (v := 3) hx hb dX6_thick_100 (by decide +kernel) ?_
              refine lv_iload_n hx hb dX6_thick_101 rfl (lv_at hl 4 rfl) ?_
              refine g_topi (y := nI (nC v0)) hv_6 ?_
              refine lv_imul hx hb dX6_thick_102 ?_
              refine g_topi (y := nI (3 * (nC v0))) (pk_mul 3 (nC v0)) ?_
              refine lv_iload hx hb dX6_thick_103 (lv_at hl 2 rfl) ?_
              refine g_iast (D := G.1) hx hb hK hP hD hS 2 0 rfl rfl (k := 3 * (nC v0)) (x := (fro (3 * (nC v0)))) (by omega) rfl dX6_thick_105 (fun H locs hP hD hS => ?_)
              have hz9 : gPD G A [zo6 h0 (nI pb) kd mo st (nI jg) ro tp (nI td) cd sr (nI tx) (nI ru) him ir ih ss sq ce lw s19 s20 s21 s22 wo he s25 s26 s27 sk na kp zz31 zz32 zz33 zz34 gb go fa ga s39 s40 vo, zi G st 12 fst, zi G ro 12 (upd ((g_X6_thick_45 ru fst fro fmo fkd fcd fsr v0 v1 v2).2.2) (3 * (nC v0)) (fro (3 * (nC v0)))), zi G mo 6 fmo, zi G kd 6 fkd, zi G cd 1200 fcd, zi G sr 24 (nF fsr), zi G sk 200 x45sk, zi G na 6 x45na, zi G kp 24 x45kp] H := ⟨hP, hD⟩
              have hP := hz9.1
              have hD := hz9.2
              refine lv_iload hx hb dX6_thick_106 (lv_at hl 1 rfl) ?_
              have q_29 : m_X6_thick_ro pb jg ru fst fro fmo fkd fcd fsr v0 v1 v2 = upd ((g_X6_thick_45 ru fst fro fmo fkd fcd fsr v0 v1 v2).2.2) (3 * (nC v0)) (fro (3 * (nC v0))) := by unfold m_X6_thick_ro; rw [if_pos p_4, if_pos p_12, if_pos p_19]
              have hz9 : gPD G A [zo6 h0 (nI pb) kd mo st (nI jg) ro tp (nI td) cd sr (nI tx) (nI ru) him ir ih ss sq ce lw s19 s20 s21 s22 wo he s25 s26 s27 sk na kp zz31 zz32 zz33 zz34 gb go fa ga s39 s40 vo, zi G st 12 fst, zi G ro 12 (m_X6_thick_ro pb jg ru fst fro fmo fkd fcd fsr v0 v1 v2), zi G mo 6 fmo, zi G kd 6 fkd, zi G cd 1200 fcd, zi G sr 24 (nF fsr), zi G sk 200 x45sk, zi G na 6 x45na, zi G kp 24 x45kp] H := ⟨by rw [q_29]; exact hP, by rw [q_29]; exact hD⟩
              have hP9 := hz9.1
              have hD9 := hz9.2
              have hpost : (fun (r : Int32) (u : Int32 × Int32 × Int32 × Int32 × (Nat → Int32) × (Nat → Int32) × (Nat → Int32)) => match u with | (z31, z32, z33, z34, ysk, yna, ykp) => r = m_X6_thick pb jg ru fst fro fmo fkd fcd fsr v0 v1 v2) ((g_X6_thick_45 ru fst fro fmo fkd fcd fsr v0 v1 v2).2.1) (zz31, zz32, zz33, zz34, x45sk, x45na, x45kp) := (show m_X6_thick pb jg ru fst fro fmo fkd fcd fsr v0 v1 v2 = ((g_X6_thick_45 ru fst fro fmo fkd fcd fsr v0 v1 v2).2.1) from by unfold m_X6_thick; rw [if_pos p_4, if_pos p_12, if_pos p_19]).symm
              exact W.iret (v := ((g_X6_thick_45 ru fst fro fmo fkd fcd fsr v0 v1 v2).2.1)) hx hb hr (fun t ht hW => ⟨⟨((g_X6_thick_45 ru fst fro fmo fkd fcd fsr v0 v1 v2).2.1), (zz31, zz32, zz33, zz34, x45sk, x45na, x45kp), rfl, hpost, by rw [ht]; exact hP9, va_K.moved hW.alike hK, hD9⟩, hS.F ht⟩) hS.2.2 dX6_thick_108
            · skip
              have c_26N : w8 ≤ 20 := nI_lt0 (a := 20) (b := w8) (by omega) (by omega) c_26
              refine lv_iload hx hb dX6_thick_52 (lv_at hl 1 rfl) ?_
              refine lv_iconst (v := -1) hx hb dX6_thick_54 (by decide +kernel) ?_
              refine lv_icmp_ne (tgt := 96) hx hb dX6_thick_55 (by decide +kernel) (fun c_30 => ?_) (fun c_30 => ?_)
              · skip
                have hF45 : (g_X6_thick_45 ru fst fro fmo fkd fcd fsr v0 v1 v2) = (w8, be, y45ro) := R45.symm.trans ((congrArg (fun z9 => p_X6_thick_45 ru fst fmo fkd fcd fsr v0 v1 v2 (z9) w8 be y45ro) (show 21 - w8 = 21 - (w8 + 1) + 1 by omega)).trans (by show p_X6_thick_45 ru fst fmo fkd fcd fsr v0 v1 v2 (21 - (w8 + 1) + 1) w8 be y45ro = _; rw [p_X6_thick_45, if_neg c_30]))
                have hE45_0 : w8 = ((g_X6_thick_45 ru fst fro fmo fkd fcd fsr v0 v1 v2).1) := by rw [hF45]
                have hE45_1 : be = ((g_X6_thick_45 ru fst fro fmo fkd fcd fsr v0 v1 v2).2.1) := by rw [hF45]
                have hE45_2 : y45ro = ((g_X6_thick_45 ru fst fro fmo fkd fcd fsr v0 v1 v2).2.2) := by rw [hF45]
                clear hF45 R45
                subst hE45_0
                subst hE45_1
                subst hE45_2
                refine g_aget (D := G.1) (ci := 6) (v := .ref ro) (C := RX6) (T := TX6) (N := 42) hx hb dX6_thick_96 rfl (lv_at hl 3 rfl) hts hiX6 hown hK hP 0 rfl rfl 5 (by decide +kernel) kf19 (fun _ h9 => h9) rfl dX6_thick_97 ?_
                refine lv_iconst (v := 3) hx hb dX6_thick_100 (by decide +kernel) ?_
                refine lv_iload_n hx hb dX6_thick_101 rfl (lv_at hl 4 rfl) ?_
                refine g_topi (y := nI (nC v0)) hv_6 ?_
                refine lv_imul hx hb dX6_thick_102 ?_
                refine g_topi (y := nI (3 * (nC v0))) (pk_mul 3 (nC v0)) ?_
                refine lv_iload hx hb dX6_thick_103 (lv_at hl 2 rfl) ?_
                refine g_iast (D := G.1) hx hb hK hP hD hS 2 0 rfl rfl (k := 3 * (nC v0)) (x := (fro (3 * (nC v0)))) (by omega) rfl dX6_thick_105 (fun H locs hP hD hS => ?_)
                have hz9 : gPD G A [zo6 h0 (nI pb) kd mo st (nI jg) ro tp (nI td) cd sr (nI tx) (nI ru) him ir ih ss sq ce lw s19 s20 s21 s22 wo he s25 s26 s27 sk na kp zz31 zz32 zz33 zz34 gb go fa ga s39 s40 vo, zi G st 12 fst, zi G ro 12 (upd ((g_X6_thick_45 ru fst fro fmo fkd fcd fsr v0 v1 v2).2.2) (3 * (nC v0)) (fro (3 * (nC v0)))), zi G mo 6 fmo, zi G kd 6 fkd, zi G cd 1200 fcd, zi G sr 24 (nF fsr), zi G sk 200 x45sk, zi G na 6 x45na, zi G kp 24 x45kp] H := ⟨hP, hD⟩
                have hP := hz9.1
                have hD := hz9.2
                refine lv_iload hx hb dX6_thick_106 (lv_at hl 1 rfl) ?_
                have q_33 : m_X6_thick_ro pb jg ru fst fro fmo fkd fcd fsr v0 v1 v2 = upd ((g_X6_thick_45 ru fst fro fmo fkd fcd fsr v0 v1 v2).2.2) (3 * (nC v0)) (fro (3 * (nC v0))) := by unfold m_X6_thick_ro; rw [if_pos p_4, if_pos p_12, if_pos p_19]
                have hz9 : gPD G A [zo6 h0 (nI pb) kd mo st (nI jg) ro tp (nI td) cd sr (nI tx) (nI ru) him ir ih ss sq ce lw s19 s20 s21 s22 wo he s25 s26 s27 sk na kp zz31 zz32 zz33 zz34 gb go fa ga s39 s40 vo, zi G st 12 fst, zi G ro 12 (m_X6_thick_ro pb jg ru fst fro fmo fkd fcd fsr v0 v1 v2), zi G mo 6 fmo, zi G kd 6 fkd, zi G cd 1200 fcd, zi G sr 24 (nF fsr), zi G sk 200 x45sk, zi G na 6 x45na, zi G kp 24 x45kp] H := ⟨by rw [q_33]; exact hP, by rw [q_33]; exact hD⟩
                have hP9 := hz9.1
                have hD9 := hz9.2
                have hpost : (fun (r : Int32) (u : Int32 × Int32 × Int32 × Int32 × (Nat → Int32) × (Nat → Int32) × (Nat → Int32)) => match u with | (z31, z32, z33, z34, ysk, yna, ykp) => r = m_X6_thick pb jg ru fst fro fmo fkd fcd fsr v0 v1 v2) ((g_X6_thick_45 ru fst fro fmo fkd fcd fsr v0 v1 v2).2.1) (zz31, zz32, zz33, zz34, x45sk, x45na, x45kp) := (show m_X6_thick pb jg ru fst fro fmo fkd fcd fsr v0 v1 v2 = ((g_X6_thick_45 ru fst fro fmo fkd fcd fsr v0 v1 v2).2.1) from by unfold m_X6_thick; rw [if_pos p_4, if_pos p_12, if_pos p_19]).symm
                exact W.iret (v := ((g_X6_thick_45 ru fst fro fmo fkd fcd fsr v0 v1 v2).2.1)) hx hb hr (fun t ht hW => ⟨⟨((g_X6_thick_45 ru fst fro fmo fkd fcd fsr v0 v1 v2).2.1), (zz31, zz32, zz33, zz34, x45sk, x45na, x45kp), rfl, hpost, by rw [ht]; exact hP9, va_K.moved hW.alike hK, hD9⟩, hS.F ht⟩) hS.2.2 dX6_thick_108
              · skip
                refine g_aget (D := G.1) (ci := 6) (v := .ref ro) (C := RX6) (T := TX6) (N := 42) hx hb dX6_thick_58 rfl (lv_at hl 3 rfl) hts hiX6 hown hK hP 0 rfl rfl 5 (by decide +kernel) kf19 (fun _ h9 => h9) rfl dX6_thick_59 ?_
                refine lv_iconst (v := 3) hx hb dX6_thick_62 (by decide +kernel) ?_
                refine lv_iload_n hx hb dX6_thick_63 rfl (lv_at hl 4 rfl) ?_
                refine g_topi (y := nI (nC v0)) hv_6 ?_
                refine lv_imul hx hb dX6_thick_64 ?_
                refine g_topi (y := nI (3 * (nC v0))) (pk_mul 3 (nC v0)) ?_
                refine lv_iload hx hb dX6_thick_65 (lv_at hl 0 rfl) ?_
                refine g_iast (D := G.1) hx hb hK hP hD hS 2 0 rfl rfl (k := 3 * (nC v0)) (x := (nI w8)) (by omega) rfl dX6_thick_67 (fun H locs hP hD hS => ?_)
                have hz9 : gPD G A [zo6 h0 (nI pb) kd mo st (nI jg) ro tp (nI td) cd sr (nI tx) (nI ru) him ir ih ss sq ce lw s19 s20 s21 s22 wo he s25 s26 s27 sk na kp zz31 zz32 zz33 zz34 gb go fa ga s39 s40 vo, zi G st 12 fst, zi G ro 12 (upd y45ro (3 * (nC v0)) (nI w8)), zi G mo 6 fmo, zi G kd 6 fkd, zi G cd 1200 fcd, zi G sr 24 (nF fsr), zi G sk 200 x45sk, zi G na 6 x45na, zi G kp 24 x45kp] H := ⟨hP, hD⟩
                have hP := hz9.1
                have hD := hz9.2
                refine lv_aload_n hx hb dX6_thick_68 rfl (lv_at hl 3 rfl) ?_
                refine lv_iload_n hx hb dX6_thick_69 rfl (lv_at hl 4 rfl) ?_
                refine g_topi (y := nI (nC v0)) hv_6 ?_
                refine lv_iload_n hx hb dX6_thick_70 rfl (lv_at hl 5 rfl) ?_
                refine g_topi (y := nI (nC v1)) hv_14 ?_
                refine lv_iload_n hx hb dX6_thick_71 rfl (lv_at hl 6 rfl) ?_
                refine g_topi (y := nI (nC v2)) hv_21 ?_
                refine z_callv [0, 1, 2, 3, 4, 5, 6, 7, 8, 9] (va_runV (As := [.int (nI (nC v0)), .int (nI (nC v1)), .int (nI (nC v2))]) (rest := []) ⟨hx, hb, hml, hown, hts⟩ (c_X6_heard l G h0 kd mo st ro tp cd sr ir ih ss sq ce lw wo he sk na kp gb go fa ga vo pb jg td tx ru him s19 s20 s21 s22 s25 s26 s27 zz31 zz32 zz33 zz34 s39 s40 fst (upd y45ro (3 * (nC v0)) (nI w8)) fmo fkd fcd fsr x45sk x45na x45kp (nC v0) (nC v1) (nC v2) H.size (by first | exact hj | assumption | omega) (by first | exact hp | assumption | omega) (by first | exact hnn | assumption | omega) (hwa _ (by omega)) (by first | exact hpb | assumption | omega) (by first | exact hjg | assumption | omega) (by first | exact htx | assumption | omega) (by first | exact hru | assumption | omega)) (cwV 3 hts gX6_thick_X6_heard rfl rfl rfl (by decide +kernel) ⟨Nat.le_of_ble_eq_true rfl, Nat.le_of_ble_eq_true rfl⟩) ⟨gPre_blind, va_recv (q := (RX6, TX6, 42)) hK hP (ci := 6) (q0 := 0) rfl rfl, fun U hU hW => gPre_of hU hW hK hP hD⟩ rfl rfl hl.1 rfl (lv_room (Nat.le_of_ble_eq_true rfl)) dX6_thick_72 ⟨Nat.le_of_ble_eq_true rfl, Nat.le_of_ble_eq_true rfl⟩) hS hD hA rfl (fun u t H locs ht hvm w_40 hB hz1 hk1 hFq hAq hS => ?_)
                obtain ⟨ysk_41, yna_42, ykp_43⟩ := u
                obtain ⟨hP1, hK1, hD1⟩ := hB
                have hz9 : gPD G A [zo6 h0 (nI pb) kd mo st (nI jg) ro tp (nI td) cd sr (nI tx) (nI ru) him ir ih ss sq ce lw s19 s20 s21 s22 wo he s25 s26 s27 sk na kp (m_X6_heard_h031 ru fst (upd y45ro (3 * (nC v0)) (nI w8)) fmo fkd fcd fsr (nC v0) (nC v1) (nC v2)) (m_X6_heard_h032 ru fst (upd y45ro (3 * (nC v0)) (nI w8)) fmo fkd fcd fsr (nC v0) (nC v1) (nC v2)) (m_X6_heard_h033 ru fst (upd y45ro (3 * (nC v0)) (nI w8)) fmo fkd fcd fsr (nC v0) (nC v1) (nC v2)) (m_X6_heard_h034 ru fst (upd y45ro (3 * (nC v0)) (nI w8)) fmo fkd fcd fsr (nC v0) (nC v1) (nC v2)) gb go fa ga s39 s40 vo, zi G st 12 fst, zi G ro 12 (upd y45ro (3 * (nC v0)) (nI w8)), zi G mo 6 fmo, zi G kd 6 fkd, zi G cd 1200 fcd, zi G sr 24 (nF fsr), zi G sk 200 ysk_41, zi G na 6 yna_42, zi G kp 24 ykp_43] H := zFill hP hD [0, 1, 2, 3, 4, 5, 6, 7, 8, 9] [1, 2, 3, 4, 5, 6, 7, 8, 9, 10] hAq hk1 hFq ht hP1 hD1 rfl (by decide +kernel)
                have hP := hz9.1
                have hD := hz9.2
                refine g_aget (D := G.1) (ci := 6) (v := .int (m_X6_heard_h034 ru fst (upd y45ro (3 * (nC v0)) (nI w8)) fmo fkd fcd fsr (nC v0) (nC v1) (nC v2))) (C := RX6) (T := TX6) (N := 42) hx hb dX6_thick_75 rfl (lv_at hl 3 rfl) hts hiX6 hown hK hP 0 rfl rfl 34 (by decide +kernel) kf214 (fun _ h9 => h9) rfl dX6_thick_76 ?_
                refine lv_if_eq (tgt := 86) hx hb dX6_thick_79 (by decide +kernel) (fun c_44 => ?_) (fun c_44 => ?_)
                · skip
                  refine lv_iload hx hb dX6_thick_86 (lv_at hl 0 rfl) ?_
                  refine lv_istore (lv' := [zI 5 (nI w8), zI 6 (nI w8), zI 4 (fro (3 * (nC v0))), zR 0 h0, zI 1 v0, zI 2 v1, zI 3 v2]) hx hb dX6_thick_88 hl (by decide +kernel) rfl (fun ls hl => ?_)
                  refine lv_iinc (v := nI (w8 + 1)) (lv' := [zI 6 (nI (w8 + 1)), zI 5 (nI w8), zI 4 (fro (3 * (nC v0))), zR 0 h0, zI 1 v0, zI 2 v1, zI 3 v2]) hx hb dX6_thick_90 hl (k := 1) rfl (nI_add w8 1) (by decide +kernel) rfl (fun ls hl => ?_)
                  refine lv_goto (tgt := 45) hx hb dX6_thick_93 (by decide +kernel) ?_
                  exact ih9_45 (w8 + 1) (nI w8) (upd y45ro (3 * (nC v0)) (nI w8)) ysk_41 yna_42 ykp_43 (m_X6_heard_h031 ru fst (upd y45ro (3 * (nC v0)) (nI w8)) fmo fkd fcd fsr (nC v0) (nC v1) (nC v2)) (m_X6_heard_h032 ru fst (upd y45ro (3 * (nC v0)) (nI w8)) fmo fkd fcd fsr (nC v0) (nC v1) (nC v2)) (m_X6_heard_h033 ru fst (upd y45ro (3 * (nC v0)) (nI w8)) fmo fkd fcd fsr (nC v0) (nC v1) (nC v2)) (m_X6_heard_h034 ru fst (upd y45ro (3 * (nC v0)) (nI w8)) fmo fkd fcd fsr (nC v0) (nC v1) (nC v2)) (by omega) (Eq.trans (Eq.symm ((congrArg (fun z9 => p_X6_thick_45 ru fst fmo fkd fcd fsr v0 v1 v2 (z9) w8 be y45ro) (show 21 - w8 = 21 - (w8 + 1) + 1 by omega)).trans (by show p_X6_thick_45 ru fst fmo fkd fcd fsr v0 v1 v2 (21 - (w8 + 1) + 1) w8 be y45ro = _; rw [p_X6_thick_45, if_pos c_30, if_pos c_44]))) R45) (by omega) _ _ hP hD hS ls hl
                · skip
                  refine lv_iconst (v := -1) hx hb dX6_thick_82 (by decide +kernel) ?_
                  refine lv_goto (tgt := 88) hx hb dX6_thick_83 (by decide +kernel) ?_
                  refine lv_istore (lv' := [zI 5 (-1), zI 6 (nI w8), zI 4 (fro (3 * (nC v0))), zR 0 h0, zI 1 v0, zI 2 v1, zI 3 v2]) hx hb dX6_thick_88 hl (by decide +kernel) rfl (fun ls hl => ?_)
                  refine lv_iinc (v := nI (w8 + 1)) (lv' := [zI 6 (nI (w8 + 1)), zI 5 (-1), zI 4 (fro (3 * (nC v0))), zR 0 h0, zI 1 v0, zI 2 v1, zI 3 v2]) hx hb dX6_thick_90 hl (k := 1) rfl (nI_add w8 1) (by decide +kernel) rfl (fun ls hl => ?_)
                  refine lv_goto (tgt := 45) hx hb dX6_thick_93 (by decide +kernel) ?_
                  exact ih9_45 (w8 + 1) (-1) (upd y45ro (3 * (nC v0)) (nI w8)) ysk_41 yna_42 ykp_43 (m_X6_heard_h031 ru fst (upd y45ro (3 * (nC v0)) (nI w8)) fmo fkd fcd fsr (nC v0) (nC v1) (nC v2)) (m_X6_heard_h032 ru fst (upd y45ro (3 * (nC v0)) (nI w8)) fmo fkd fcd fsr (nC v0) (nC v1) (nC v2)) (m_X6_heard_h033 ru fst (upd y45ro (3 * (nC v0)) (nI w8)) fmo fkd fcd fsr (nC v0) (nC v1) (nC v2)) (m_X6_heard_h034 ru fst (upd y45ro (3 * (nC v0)) (nI w8)) fmo fkd fcd fsr (nC v0) (nC v1) (nC v2)) (by omega) (Eq.trans (Eq.symm ((congrArg (fun z9 => p_X6_thick_45 ru fst fmo fkd fcd fsr v0 v1 v2 (z9) w8 be y45ro) (show 21 - w8 = 21 - (w8 + 1) + 1 by omega)).trans (by show p_X6_thick_45 ru fst fmo fkd fcd fsr v0 v1 v2 (21 - (w8 + 1) + 1) w8 be y45ro = _; rw [p_X6_thick_45, if_pos c_30, if_neg c_44]))) R45) (by omega) _ _ hP hD hS ls hl
        exact loop_45 (21 - 0 + 1) 0 (-1) fro fsk fna fkp s31 s32 s33 s34 (by omega) (rfl) (by omega) _ _ hP hD hS ls hl
      · skip
        have n_20 : ¬ (0 ≤ v2 ∧ v2 ≤ 60) := of_decide_eq_false (bz_eq rfl c_18)
        refine lv_bipush (v := -7) hx hb dX6_thick_26 (by decide +kernel) ?_
        have q_45 : m_X6_thick_ro pb jg ru fst fro fmo fkd fcd fsr v0 v1 v2 = fro := by unfold m_X6_thick_ro; rw [if_pos p_4, if_pos p_12, if_neg n_20]
        have hz9 : gPD G A [zo6 h0 (nI pb) kd mo st (nI jg) ro tp (nI td) cd sr (nI tx) (nI ru) him ir ih ss sq ce lw s19 s20 s21 s22 wo he s25 s26 s27 sk na kp s31 s32 s33 s34 gb go fa ga s39 s40 vo, zi G st 12 fst, zi G ro 12 (m_X6_thick_ro pb jg ru fst fro fmo fkd fcd fsr v0 v1 v2), zi G mo 6 fmo, zi G kd 6 fkd, zi G cd 1200 fcd, zi G sr 24 (nF fsr), zi G sk 200 fsk, zi G na 6 fna, zi G kp 24 fkp] H := ⟨by rw [q_45]; exact hP, by rw [q_45]; exact hD⟩
        have hP9 := hz9.1
        have hD9 := hz9.2
        have hpost : (fun (r : Int32) (u : Int32 × Int32 × Int32 × Int32 × (Nat → Int32) × (Nat → Int32) × (Nat → Int32)) => match u with | (z31, z32, z33, z34, ysk, yna, ykp) => r = m_X6_thick pb jg ru fst fro fmo fkd fcd fsr v0 v1 v2) (-7) (s31, s32, s33, s34, fsk, fna, fkp) := (show m_X6_thick pb jg ru fst fro fmo fkd fcd fsr v0 v1 v2 = (-7) from by unfold m_X6_thick; rw [if_pos p_4, if_pos p_12, if_neg n_20]).symm
        exact W.iret (v := (-7)) hx hb hr (fun t ht hW => ⟨⟨(-7), (s31, s32, s33, s34, fsk, fna, fkp), rfl, hpost, by rw [ht]; exact hP9, va_K.moved hW.alike hK, hD9⟩, hS.F ht⟩) hS.2.2 dX6_thick_28
    · skip
      have n_13 : (mHas pb v1) = false := bz_eq rfl c_11
      have n_13N : ¬ ((mHas pb v1) = true) := by rw [n_13]; decide
      refine lv_bipush (v := -5) hx hb dX6_thick_16 (by decide +kernel) ?_
      have q_46 : m_X6_thick_ro pb jg ru fst fro fmo fkd fcd fsr v0 v1 v2 = fro := by unfold m_X6_thick_ro; rw [if_pos p_4, if_neg n_13N]
      have hz9 : gPD G A [zo6 h0 (nI pb) kd mo st (nI jg) ro tp (nI td) cd sr (nI tx) (nI ru) him ir ih ss sq ce lw s19 s20 s21 s22 wo he s25 s26 s27 sk na kp s31 s32 s33 s34 gb go fa ga s39 s40 vo, zi G st 12 fst, zi G ro 12 (m_X6_thick_ro pb jg ru fst fro fmo fkd fcd fsr v0 v1 v2), zi G mo 6 fmo, zi G kd 6 fkd, zi G cd 1200 fcd, zi G sr 24 (nF fsr), zi G sk 200 fsk, zi G na 6 fna, zi G kp 24 fkp] H := ⟨by rw [q_46]; exact hP, by rw [q_46]; exact hD⟩
      have hP9 := hz9.1
      have hD9 := hz9.2
      have hpost : (fun (r : Int32) (u : Int32 × Int32 × Int32 × Int32 × (Nat → Int32) × (Nat → Int32) × (Nat → Int32)) => match u with | (z31, z32, z33, z34, ysk, yna, ykp) => r = m_X6_thick pb jg ru fst fro fmo fkd fcd fsr v0 v1 v2) (-5) (s31, s32, s33, s34, fsk, fna, fkp) := (show m_X6_thick pb jg ru fst fro fmo fkd fcd fsr v0 v1 v2 = (-5) from by unfold m_X6_thick; rw [if_pos p_4, if_neg n_13N]).symm
      exact W.iret (v := (-5)) hx hb hr (fun t ht hW => ⟨⟨(-5), (s31, s32, s33, s34, fsk, fna, fkp), rfl, hpost, by rw [ht]; exact hP9, va_K.moved hW.alike hK, hD9⟩, hS.F ht⟩) hS.2.2 dX6_thick_18
theorem X6_pebble_le {pb : Nat} {a b : Int32} (h : pb ≤ 6) : m_X6_pebble_h00 pb a b ≤ 6 := by
  unfold m_X6_pebble_h00
  by_cases c1 : 0 ≤ a ∧ a ≤ 59
  · rw [if_pos c1]
    by_cases c2 : 0 ≤ b ∧ b ≤ 9999
    · rw [if_pos c2]
      by_cases c3 : nI pb = 6
      · rw [if_pos c3]; exact h
      · rw [if_neg c3]
        have := nI_eq0 (a := pb) (b := 6) (by omega) (by omega) c3
        omega
    · rw [if_neg c2]; exact h
  · rw [if_neg c1]; exact h
