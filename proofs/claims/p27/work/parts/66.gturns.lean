noncomputable def p_X6_tellsPlaces_104 (jn : Nat) : Nat → Nat → (Nat → Int32) → Nat × (Nat → Int32)
  | 0, t5, y104ro => (t5, y104ro)
  | q9 + 1, t5, y104ro => if (iRem ((y104ro ((3 * jn) + 1)) + 1) 10) = 0 then p_X6_tellsPlaces_104 jn q9 (t5 + 1) (upd (upd y104ro ((3 * jn) + 1) ((y104ro ((3 * jn) + 1)) + 1)) (3 * jn) (m_X6_within ((y104ro (3 * jn)) + 1) 0 20)) else p_X6_tellsPlaces_104 jn q9 (t5 + 1) (upd (upd y104ro ((3 * jn) + 1) ((y104ro ((3 * jn) + 1)) + 1)) (3 * jn) (y104ro (3 * jn)))
noncomputable def g_X6_tellsPlaces_104 (jn : Nat) (nn : Nat) (y24ro : Nat → Int32) : Nat × (Nat → Int32) := p_X6_tellsPlaces_104 jn (nn - 0) 0 y24ro
noncomputable def p_X6_tellsPlaces_36 (ru : Nat) (fst : Nat → Int32) (fmo : Nat → Int32) (fkd : Nat → Int32) (fcd : Nat → Int32) (fsr : Nat → Nat) (jn : Nat) (nn : Nat) (k5 : Nat) (y24ro : Nat → Int32) : Nat → Nat → (Nat → Int32) → (Nat → Int32) → Nat × (Nat → Int32) × (Nat → Int32)
  | 0, p5, y36fa, y36ga => (p5, y36fa, y36ga)
  | q9 + 1, p5, y36fa, y36ga => if (m_X6_heard_h034 ru fst y24ro fmo fkd fcd fsr jn p5 nn) = 0 then p_X6_tellsPlaces_36 ru fst fmo fkd fcd fsr jn nn k5 y24ro q9 (p5 + 1) (upd y36fa ((6 * k5) + p5) (m_X6_heard_h031 ru fst y24ro fmo fkd fcd fsr jn p5 nn)) (upd y36ga ((6 * k5) + p5) 0) else p_X6_tellsPlaces_36 ru fst fmo fkd fcd fsr jn nn k5 y24ro q9 (p5 + 1) (upd y36fa ((6 * k5) + p5) (m_X6_heard_h031 ru fst y24ro fmo fkd fcd fsr jn p5 nn)) (upd y36ga ((6 * k5) + p5) 1)
noncomputable def g_X6_tellsPlaces_36 (pb : Nat) (ru : Nat) (fst : Nat → Int32) (fmo : Nat → Int32) (fkd : Nat → Int32) (fcd : Nat → Int32) (fsr : Nat → Nat) (jn : Nat) (nn : Nat) (k5 : Nat) (y24ro : Nat → Int32) (y24fa : Nat → Int32) (y24ga : Nat → Int32) : Nat × (Nat → Int32) × (Nat → Int32) := p_X6_tellsPlaces_36 ru fst fmo fkd fcd fsr jn nn k5 y24ro (pb - 0) 0 y24fa y24ga
noncomputable def p_X6_tellsPlaces_24 (pb : Nat) (ru : Nat) (fst : Nat → Int32) (fmo : Nat → Int32) (fkd : Nat → Int32) (fcd : Nat → Int32) (fsr : Nat → Nat) (jn : Nat) (nn : Nat) : Nat → Nat → (Nat → Int32) → (Nat → Int32) → (Nat → Int32) → Nat × (Nat → Int32) × (Nat → Int32) × (Nat → Int32)
  | 0, k5, y24ro, y24fa, y24ga => (k5, y24ro, y24fa, y24ga)
  | q9 + 1, k5, y24ro, y24fa, y24ga => p_X6_tellsPlaces_24 pb ru fst fmo fkd fcd fsr jn nn q9 (k5 + 1) ((g_X6_tellsPlaces_104 jn nn y24ro).2) ((g_X6_tellsPlaces_36 pb ru fst fmo fkd fcd fsr jn nn k5 y24ro y24fa y24ga).2.1) ((g_X6_tellsPlaces_36 pb ru fst fmo fkd fcd fsr jn nn k5 y24ro y24fa y24ga).2.2)
noncomputable def g_X6_tellsPlaces_24 (pb : Nat) (ru : Nat) (fst : Nat → Int32) (fro : Nat → Int32) (fmo : Nat → Int32) (fkd : Nat → Int32) (fcd : Nat → Int32) (fsr : Nat → Nat) (ffa : Nat → Int32) (fga : Nat → Int32) (jn : Nat) (nn : Nat) : Nat × (Nat → Int32) × (Nat → Int32) × (Nat → Int32) := p_X6_tellsPlaces_24 pb ru fst fmo fkd fcd fsr jn nn (pb - 0) 0 fro ffa fga
noncomputable def m_X6_tellsPlaces_ro (pb : Nat) (ru : Nat) (fst : Nat → Int32) (fro : Nat → Int32) (fmo : Nat → Int32) (fkd : Nat → Int32) (fcd : Nat → Int32) (fsr : Nat → Nat) (ffa : Nat → Int32) (fga : Nat → Int32) (jn : Nat) (nn : Nat) : Nat → Int32 := upd (upd ((g_X6_tellsPlaces_24 pb ru fst fro fmo fkd fcd fsr ffa fga jn nn).2.1) (3 * jn) (fro (3 * jn))) ((3 * jn) + 1) (fro ((3 * jn) + 1))
noncomputable def m_X6_tellsPlaces_fa (pb : Nat) (ru : Nat) (fst : Nat → Int32) (fro : Nat → Int32) (fmo : Nat → Int32) (fkd : Nat → Int32) (fcd : Nat → Int32) (fsr : Nat → Nat) (ffa : Nat → Int32) (fga : Nat → Int32) (jn : Nat) (nn : Nat) : Nat → Int32 := ((g_X6_tellsPlaces_24 pb ru fst fro fmo fkd fcd fsr ffa fga jn nn).2.2.1)
noncomputable def m_X6_tellsPlaces_ga (pb : Nat) (ru : Nat) (fst : Nat → Int32) (fro : Nat → Int32) (fmo : Nat → Int32) (fkd : Nat → Int32) (fcd : Nat → Int32) (fsr : Nat → Nat) (ffa : Nat → Int32) (fga : Nat → Int32) (jn : Nat) (nn : Nat) : Nat → Int32 := ((g_X6_tellsPlaces_24 pb ru fst fro fmo fkd fcd fsr ffa fga jn nn).2.2.2)
abbrev q_X6_tellsPlaces (G : gG) (h0 kd mo st ro tp cd sr ir ih ss sq ce lw wo he sk na kp gb go fa ga vo : Nat) (pb : Nat) (jg : Nat) (td : Nat) (tx : Nat) (ru : Nat) (him : Int32) (s19 : Int32) (s20 : Int32) (s21 : Int32) (s22 : Int32) (s25 : Int32) (s26 : Int32) (s27 : Int32) (s31 : Int32) (s32 : Int32) (s33 : Int32) (s34 : Int32) (s39 : Int32) (s40 : Int32) (fst : Nat → Int32) (fro : Nat → Int32) (fmo : Nat → Int32) (fkd : Nat → Int32) (fcd : Nat → Int32) (fsr : Nat → Nat) (fsk : Nat → Int32) (fna : Nat → Int32) (fkp : Nat → Int32) (ffa : Nat → Int32) (fga : Nat → Int32) (jn : Nat) (nn : Nat) (A : Nat → Prop) : Array Value → State → Outcome → State → Prop := va_Qv (fun (u : Int32 × Int32 × Int32 × Int32 × (Nat → Int32) × (Nat → Int32) × (Nat → Int32)) => match u with | (z31, z32, z33, z34, ysk, yna, ykp) => True) (fun (u : Int32 × Int32 × Int32 × Int32 × (Nat → Int32) × (Nat → Int32) × (Nat → Int32)) t => match u with | (z31, z32, z33, z34, ysk, yna, ykp) => va_P G.1 vwCl [zo6 h0 (nI pb) kd mo st (nI jg) ro tp (nI td) cd sr (nI tx) (nI ru) him ir ih ss sq ce lw s19 s20 s21 s22 wo he s25 s26 s27 sk na kp z31 z32 z33 z34 gb go fa ga s39 s40 vo, zi G st 12 fst, zi G ro 12 (m_X6_tellsPlaces_ro pb ru fst fro fmo fkd fcd fsr ffa fga jn nn), zi G mo 6 fmo, zi G kd 6 fkd, zi G cd 1200 fcd, zi G sr 24 (nF fsr), zi G sk 200 ysk, zi G na 6 yna, zi G kp 24 ykp, zi G fa 36 (m_X6_tellsPlaces_fa pb ru fst fro fmo fkd fcd fsr ffa fga jn nn), zi G ga 36 (m_X6_tellsPlaces_ga pb ru fst fro fmo fkd fcd fsr ffa fga jn nn)] t.heap ∧ gK G t ∧ va_D A [zo6 h0 (nI pb) kd mo st (nI jg) ro tp (nI td) cd sr (nI tx) (nI ru) him ir ih ss sq ce lw s19 s20 s21 s22 wo he s25 s26 s27 sk na kp z31 z32 z33 z34 gb go fa ga s39 s40 vo, zi G st 12 fst, zi G ro 12 (m_X6_tellsPlaces_ro pb ru fst fro fmo fkd fcd fsr ffa fga jn nn), zi G mo 6 fmo, zi G kd 6 fkd, zi G cd 1200 fcd, zi G sr 24 (nF fsr), zi G sk 200 ysk, zi G na 6 yna, zi G kp 24 ykp, zi G fa 36 (m_X6_tellsPlaces_fa pb ru fst fro fmo fkd fcd fsr ffa fga jn nn), zi G ga 36 (m_X6_tellsPlaces_ga pb ru fst fro fmo fkd fcd fsr ffa fga jn nn)]) A
set_option maxHeartbeats 4000000 in
set_option maxRecDepth 100000 in
theorem c_X6_tellsPlaces (l : Launch) (G : gG) (h0 kd mo st ro tp cd sr ir ih ss sq ce lw wo he sk na kp gb go fa ga vo : Nat) (pb : Nat) (jg : Nat) (td : Nat) (tx : Nat) (ru : Nat) (him : Int32) (s19 : Int32) (s20 : Int32) (s21 : Int32) (s22 : Int32) (s25 : Int32) (s26 : Int32) (s27 : Int32) (s31 : Int32) (s32 : Int32) (s33 : Int32) (s34 : Int32) (s39 : Int32) (s40 : Int32) (fst : Nat → Int32) (fro : Nat → Int32) (fmo : Nat → Int32) (fkd : Nat → Int32) (fcd : Nat → Int32) (fsr : Nat → Nat) (fsk : Nat → Int32) (fna : Nat → Int32) (fkp : Nat → Int32) (ffa : Nat → Int32) (fga : Nat → Int32) (jn : Nat) (nn : Nat) (sz : Nat) (hj : jn < 4) (hnn : nn ≤ 60) (hwf : mWf fcd fsr ru) (hpb : pb ≤ 6) (hjg : jg ≤ 4) (htx : tx ≤ 6) (hru : ru < tx) : Met l yX6_tellsPlaces wsX6_tellsPlaces ({ frames := 7, cells := 0, slots := 0, locals := 168 }) (gPre G [.ref h0, .int (nI jn), .int (nI nn)] [zo6 h0 (nI pb) kd mo st (nI jg) ro tp (nI td) cd sr (nI tx) (nI ru) him ir ih ss sq ce lw s19 s20 s21 s22 wo he s25 s26 s27 sk na kp s31 s32 s33 s34 gb go fa ga s39 s40 vo, zi G st 12 fst, zi G ro 12 fro, zi G mo 6 fmo, zi G kd 6 fkd, zi G cd 1200 fcd, zi G sr 24 (nF fsr), zi G sk 200 fsk, zi G na 6 fna, zi G kp 24 fkp, zi G fa 36 ffa, zi G ga 36 fga] sz) (q_X6_tellsPlaces G h0 kd mo st ro tp cd sr ir ih ss sq ce lw wo he sk na kp gb go fa ga vo pb jg td tx ru him s19 s20 s21 s22 s25 s26 s27 s31 s32 s33 s34 s39 s40 fst fro fmo fkd fcd fsr fsk fna fkp ffa fga jn nn (va_A [zo6 h0 (nI pb) kd mo st (nI jg) ro tp (nI td) cd sr (nI tx) (nI ru) him ir ih ss sq ce lw s19 s20 s21 s22 wo he s25 s26 s27 sk na kp s31 s32 s33 s34 gb go fa ga s39 s40 vo, zi G st 12 fst, zi G ro 12 fro, zi G mo 6 fmo, zi G kd 6 fkd, zi G cd 1200 fcd, zi G sr 24 (nF fsr), zi G sk 200 fsk, zi G na 6 fna, zi G kp 24 fkp, zi G fa 36 ffa, zi G ga 36 fga] sz)) 0 0 (va_A [zo6 h0 (nI pb) kd mo st (nI jg) ro tp (nI td) cd sr (nI tx) (nI ru) him ir ih ss sq ce lw s19 s20 s21 s22 wo he s25 s26 s27 sk na kp s31 s32 s33 s34 gb go fa ga s39 s40 vo, zi G st 12 fst, zi G ro 12 fro, zi G mo 6 fmo, zi G kd 6 fkd, zi G cd 1200 fcd, zi G sr 24 (nF fsr), zi G sk 200 fsk, zi G na 6 fna, zi G kp 24 fkp, zi G fa 36 ffa, zi G ga 36 fga] sz) := by
  refine Met.ofW (cc := cX6_tellsPlaces) (maxL := 7) (ret := none) (by decide +kernel) rfl ?_
  intro p e s m args below meth c s₁ B hml hv
  obtain ⟨rfl, hsz, hP, hK, hD0⟩ := hv
  have hx := B.exec
  have hb := B.bytes
  have hr := B.returns
  have hts := atoms_spec (ws := wsX6_tellsPlaces) B.pre
  have hown : s.vm.findClass RX6 = some m.cls := findClass_of_methodNamed B.named
  have hlocks := B.notSynchronized
  subst hsz
  have hD := hD0.self (sz := s.heap.size)
  generalize hAe : va_A [zo6 h0 (nI pb) kd mo st (nI jg) ro tp (nI td) cd sr (nI tx) (nI ru) him ir ih ss sq ce lw s19 s20 s21 s22 wo he s25 s26 s27 sk na kp s31 s32 s33 s34 gb go fa ga s39 s40 vo, zi G st 12 fst, zi G ro 12 fro, zi G mo 6 fmo, zi G kd 6 fkd, zi G cd 1200 fcd, zi G sr 24 (nF fsr), zi G sk 200 fsk, zi G na 6 fna, zi G kp 24 fkp, zi G fa 36 ffa, zi G ga 36 fga] s.heap.size = A at hD ⊢
  have hA : ∀ q : Nat, s.heap.size ≤ q → A q := fun q h => by rw [← hAe]; exact Or.inr h
  have hS : va_S A s.heap s.heap [] := va_S.rf
  have hz9 : gPD G A [zo6 h0 (nI pb) kd mo st (nI jg) ro tp (nI td) cd sr (nI tx) (nI ru) him ir ih ss sq ce lw s19 s20 s21 s22 wo he s25 s26 s27 sk na kp s31 s32 s33 s34 gb go fa ga s39 s40 vo, zi G st 12 fst, zi G ro 12 fro, zi G mo 6 fmo, zi G kd 6 fkd, zi G cd 1200 fcd, zi G sr 24 (nF fsr), zi G sk 200 fsk, zi G na 6 fna, zi G kp 24 fkp, zi G fa 36 ffa, zi G ga 36 fga] s.heap := ⟨hP, hD⟩
  have hP := hz9.1
  have hD := hz9.2
  have hl := lv_entry ([.ref h0, .int (nI jn), .int (nI nn)]) (n := 7) (Nat.le_of_ble_eq_true rfl)
  rw [lg_entry_eq]
  generalize (lg_sl ([.ref h0, .int (nI jn), .int (nI nn)]) ++ List.replicate (7 - (lg_sl ([.ref h0, .int (nI jn), .int (nI nn)])).length) Slot.unset).toArray = ls at hl ⊢
  have hl : lv_has ls 7 [zR 0 h0, zI 1 (nI jn), zI 2 (nI nn)] := hl
  have kf19 := hts (.fieldLink RX6 19 "PebbleInShoeModel" "rows" "[I") (by decide +kernel)
  have hiX6 := (by decide +kernel : ∀ w ∈ wsX60, w ∈ wsX6_tellsPlaces)
  have kf88 := hts (.fieldLink RX6 88 "PebbleInShoeModel" "pebbles" "I") (by decide +kernel)
  have kf71 := hts (.fieldLink RX6 71 "PebbleInShoeModel" "feltAs" "[I") (by decide +kernel)
  have kf205 := hts (.fieldLink RX6 205 "PebbleInShoeModel" "caseFelt" "I") (by decide +kernel)
  have kf74 := hts (.fieldLink RX6 74 "PebbleInShoeModel" "guiltyAs" "[I") (by decide +kernel)
  have kf214 := hts (.fieldLink RX6 214 "PebbleInShoeModel" "isGuilty" "Z") (by decide +kernel)
  refine g_aget (D := G.1) (ci := 6) (v := .ref ro) (C := RX6) (T := TX6) (N := 42) hx hb dX6_tellsPlaces_0 rfl (lv_at hl 0 rfl) hts hiX6 hown hK hP 0 rfl rfl 5 (by decide +kernel) kf19 (fun _ h9 => h9) rfl dX6_tellsPlaces_1 ?_
  refine lv_iconst (v := 3) hx hb dX6_tellsPlaces_4 (by decide +kernel) ?_
  refine lv_iload_n hx hb dX6_tellsPlaces_5 rfl (lv_at hl 1 rfl) ?_
  refine lv_imul hx hb dX6_tellsPlaces_6 ?_
  refine g_topi (y := nI (3 * jn)) (pk_mul 3 jn) ?_
  refine g_iald (D := G.1) hx hb hK hP 2 0 rfl rfl (k := 3 * jn) (y := fro (3 * jn)) (by omega) rfl rfl dX6_tellsPlaces_7 ?_
  refine lv_istore_n (lv' := [zI 3 (fro (3 * jn)), zR 0 h0, zI 1 (nI jn), zI 2 (nI nn)]) hx hb dX6_tellsPlaces_8 rfl hl (by decide +kernel) rfl (fun ls hl => ?_)
  refine g_aget (D := G.1) (ci := 6) (v := .ref ro) (C := RX6) (T := TX6) (N := 42) hx hb dX6_tellsPlaces_9 rfl (lv_at hl 1 rfl) hts hiX6 hown hK hP 0 rfl rfl 5 (by decide +kernel) kf19 (fun _ h9 => h9) rfl dX6_tellsPlaces_10 ?_
  refine lv_iconst (v := 3) hx hb dX6_tellsPlaces_13 (by decide +kernel) ?_
  refine lv_iload_n hx hb dX6_tellsPlaces_14 rfl (lv_at hl 2 rfl) ?_
  refine lv_imul hx hb dX6_tellsPlaces_15 ?_
  refine g_topi (y := nI (3 * jn)) (pk_mul 3 jn) ?_
  refine lv_iconst (v := 1) hx hb dX6_tellsPlaces_16 (by decide +kernel) ?_
  refine lv_iadd hx hb dX6_tellsPlaces_17 ?_
  refine g_topi (y := nI ((3 * jn) + 1)) (nI_add (3 * jn) 1) ?_
  refine g_iald (D := G.1) hx hb hK hP 2 0 rfl rfl (k := (3 * jn) + 1) (y := fro ((3 * jn) + 1)) (by omega) rfl rfl dX6_tellsPlaces_18 ?_
  refine lv_istore (lv' := [zI 4 (fro ((3 * jn) + 1)), zI 3 (fro (3 * jn)), zR 0 h0, zI 1 (nI jn), zI 2 (nI nn)]) hx hb dX6_tellsPlaces_19 hl (by decide +kernel) rfl (fun ls hl => ?_)
  refine lv_iconst (v := 0) hx hb dX6_tellsPlaces_21 (by decide +kernel) ?_
  refine lv_istore (lv' := [zI 5 0, zI 4 (fro ((3 * jn) + 1)), zI 3 (fro (3 * jn)), zR 0 h0, zI 1 (nI jn), zI 2 (nI nn)]) hx hb dX6_tellsPlaces_22 hl (by decide +kernel) rfl (fun ls hl => ?_)
  have loop_24 : ∀ (n9 : Nat) (k5 : Nat) (y24ro : Nat → Int32) (y24fa : Nat → Int32) (y24ga : Nat → Int32) (x24sk : Nat → Int32) (x24na : Nat → Int32) (x24kp : Nat → Int32) (zz31 : Int32) (zz32 : Int32) (zz33 : Int32) (zz34 : Int32), (k5 ≤ pb) → (p_X6_tellsPlaces_24 pb ru fst fmo fkd fcd fsr jn nn (pb - k5) k5 y24ro y24fa y24ga = (g_X6_tellsPlaces_24 pb ru fst fro fmo fkd fcd fsr ffa fga jn nn)) → (pb - k5) < n9 → ∀ (H : Heap) (locs : List Loc), va_P G.1 vwCl [zo6 h0 (nI pb) kd mo st (nI jg) ro tp (nI td) cd sr (nI tx) (nI ru) him ir ih ss sq ce lw s19 s20 s21 s22 wo he s25 s26 s27 sk na kp zz31 zz32 zz33 zz34 gb go fa ga s39 s40 vo, zi G st 12 fst, zi G ro 12 y24ro, zi G mo 6 fmo, zi G kd 6 fkd, zi G cd 1200 fcd, zi G sr 24 (nF fsr), zi G sk 200 x24sk, zi G na 6 x24na, zi G kp 24 x24kp, zi G fa 36 y24fa, zi G ga 36 y24ga] H → va_D A [zo6 h0 (nI pb) kd mo st (nI jg) ro tp (nI td) cd sr (nI tx) (nI ru) him ir ih ss sq ce lw s19 s20 s21 s22 wo he s25 s26 s27 sk na kp zz31 zz32 zz33 zz34 gb go fa ga s39 s40 vo, zi G st 12 fst, zi G ro 12 y24ro, zi G mo 6 fmo, zi G kd 6 fkd, zi G cd 1200 fcd, zi G sr 24 (nF fsr), zi G sk 200 x24sk, zi G na 6 x24na, zi G kp 24 x24kp, zi G fa 36 y24fa, zi G ga 36 y24ga] → va_S A s.heap H locs → ∀ ls : Array Slot, lv_has ls 7 [zI 5 (nI k5), zI 4 (fro ((3 * jn) + 1)), zI 3 (fro (3 * jn)), zR 0 h0, zI 1 (nI jn), zI 2 (nI nn)] → W p l e (headSpec wsX6_tellsPlaces ({ frames := 7, cells := 0, slots := 0, locals := 168 })).room s m ([.ref h0, .int (nI jn), .int (nI nn)] : List Value).toArray below meth c H locs 0 0 (MQ below (q_X6_tellsPlaces G h0 kd mo st ro tp cd sr ir ih ss sq ce lw wo he sk na kp gb go fa ga vo pb jg td tx ru him s19 s20 s21 s22 s25 s26 s27 s31 s32 s33 s34 s39 s40 fst fro fmo fkd fcd fsr fsk fna fkp ffa fga jn nn A) ([.ref h0, .int (nI jn), .int (nI nn)] : List Value).toArray s 0 0 A) (F0 m 24 ls []) := by
    intro n9
    induction n9 with
    | zero => intro k5 y24ro y24fa y24ga x24sk x24na x24kp zz31 zz32 zz33 zz34 hk5 R24 hm9_24; exact absurd hm9_24 (Nat.not_lt_zero _)
    | succ n9 ih9_24 =>
      intro k5 y24ro y24fa y24ga x24sk x24na x24kp zz31 zz32 zz33 zz34 hk5 R24 hm9_24 H locs hP hD hS ls hl
      refine lv_iload hx hb dX6_tellsPlaces_24 (lv_at hl 0 rfl) ?_
      refine g_aget (D := G.1) (ci := 6) (v := .int (nI pb)) (C := RX6) (T := TX6) (N := 42) hx hb dX6_tellsPlaces_26 rfl (lv_at hl 3 rfl) hts hiX6 hown hK hP 0 rfl rfl 0 (by decide +kernel) kf88 (fun _ h9 => h9) rfl dX6_tellsPlaces_27 ?_
      refine lv_icmp_ge (tgt := 187) hx hb dX6_tellsPlaces_30 (by decide +kernel) (fun c_6 => ?_) (fun c_6 => ?_)
      · skip
        have c_6N : pb ≤ k5 := nI_le1 (a := pb) (b := k5) (by omega) (by omega) c_6
        have hF24 : (g_X6_tellsPlaces_24 pb ru fst fro fmo fkd fcd fsr ffa fga jn nn) = (k5, y24ro, y24fa, y24ga) := by rw [← R24, show pb - k5 = 0 by omega]; rfl
        have hE24_0 : k5 = ((g_X6_tellsPlaces_24 pb ru fst fro fmo fkd fcd fsr ffa fga jn nn).1) := by rw [hF24]
        have hE24_1 : y24ro = ((g_X6_tellsPlaces_24 pb ru fst fro fmo fkd fcd fsr ffa fga jn nn).2.1) := by rw [hF24]
        have hE24_2 : y24fa = ((g_X6_tellsPlaces_24 pb ru fst fro fmo fkd fcd fsr ffa fga jn nn).2.2.1) := by rw [hF24]
        have hE24_3 : y24ga = ((g_X6_tellsPlaces_24 pb ru fst fro fmo fkd fcd fsr ffa fga jn nn).2.2.2) := by rw [hF24]
        clear hF24 R24
        subst hE24_0
        subst hE24_1
        subst hE24_2
        subst hE24_3
        refine g_aget (D := G.1) (ci := 6) (v := .ref ro) (C := RX6) (T := TX6) (N := 42) hx hb dX6_tellsPlaces_187 rfl (lv_at hl 3 rfl) hts hiX6 hown hK hP 0 rfl rfl 5 (by decide +kernel) kf19 (fun _ h9 => h9) rfl dX6_tellsPlaces_188 ?_
        refine lv_iconst (v := 3) hx hb dX6_tellsPlaces_191 (by decide +kernel) ?_
        refine lv_iload_n hx hb dX6_tellsPlaces_192 rfl (lv_at hl 4 rfl) ?_
        refine lv_imul hx hb dX6_tellsPlaces_193 ?_
        refine g_topi (y := nI (3 * jn)) (pk_mul 3 jn) ?_
        refine lv_iload_n hx hb dX6_tellsPlaces_194 rfl (lv_at hl 2 rfl) ?_
        refine g_iast (D := G.1) hx hb hK hP hD hS 2 0 rfl rfl (k := 3 * jn) (x := (fro (3 * jn))) (by omega) rfl dX6_tellsPlaces_195 (fun H locs hP hD hS => ?_)
        have hz9 : gPD G A [zo6 h0 (nI pb) kd mo st (nI jg) ro tp (nI td) cd sr (nI tx) (nI ru) him ir ih ss sq ce lw s19 s20 s21 s22 wo he s25 s26 s27 sk na kp zz31 zz32 zz33 zz34 gb go fa ga s39 s40 vo, zi G st 12 fst, zi G ro 12 (upd ((g_X6_tellsPlaces_24 pb ru fst fro fmo fkd fcd fsr ffa fga jn nn).2.1) (3 * jn) (fro (3 * jn))), zi G mo 6 fmo, zi G kd 6 fkd, zi G cd 1200 fcd, zi G sr 24 (nF fsr), zi G sk 200 x24sk, zi G na 6 x24na, zi G kp 24 x24kp, zi G fa 36 ((g_X6_tellsPlaces_24 pb ru fst fro fmo fkd fcd fsr ffa fga jn nn).2.2.1), zi G ga 36 ((g_X6_tellsPlaces_24 pb ru fst fro fmo fkd fcd fsr ffa fga jn nn).2.2.2)] H := ⟨hP, hD⟩
        have hP := hz9.1
        have hD := hz9.2
        refine g_aget (D := G.1) (ci := 6) (v := .ref ro) (C := RX6) (T := TX6) (N := 42) hx hb dX6_tellsPlaces_196 rfl (lv_at hl 3 rfl) hts hiX6 hown hK hP 0 rfl rfl 5 (by decide +kernel) kf19 (fun _ h9 => h9) rfl dX6_tellsPlaces_197 ?_
        refine lv_iconst (v := 3) hx hb dX6_tellsPlaces_200 (by decide +kernel) ?_
        refine lv_iload_n hx hb dX6_tellsPlaces_201 rfl (lv_at hl 4 rfl) ?_
        refine lv_imul hx hb dX6_tellsPlaces_202 ?_
        refine g_topi (y := nI (3 * jn)) (pk_mul 3 jn) ?_
        refine lv_iconst (v := 1) hx hb dX6_tellsPlaces_203 (by decide +kernel) ?_
        refine lv_iadd hx hb dX6_tellsPlaces_204 ?_
        refine g_topi (y := nI ((3 * jn) + 1)) (nI_add (3 * jn) 1) ?_
        refine lv_iload hx hb dX6_tellsPlaces_205 (lv_at hl 1 rfl) ?_
        refine g_iast (D := G.1) hx hb hK hP hD hS 2 0 rfl rfl (k := (3 * jn) + 1) (x := (fro ((3 * jn) + 1))) (by omega) rfl dX6_tellsPlaces_207 (fun H locs hP hD hS => ?_)
        have hz9 : gPD G A [zo6 h0 (nI pb) kd mo st (nI jg) ro tp (nI td) cd sr (nI tx) (nI ru) him ir ih ss sq ce lw s19 s20 s21 s22 wo he s25 s26 s27 sk na kp zz31 zz32 zz33 zz34 gb go fa ga s39 s40 vo, zi G st 12 fst, zi G ro 12 (upd (upd ((g_X6_tellsPlaces_24 pb ru fst fro fmo fkd fcd fsr ffa fga jn nn).2.1) (3 * jn) (fro (3 * jn))) ((3 * jn) + 1) (fro ((3 * jn) + 1))), zi G mo 6 fmo, zi G kd 6 fkd, zi G cd 1200 fcd, zi G sr 24 (nF fsr), zi G sk 200 x24sk, zi G na 6 x24na, zi G kp 24 x24kp, zi G fa 36 ((g_X6_tellsPlaces_24 pb ru fst fro fmo fkd fcd fsr ffa fga jn nn).2.2.1), zi G ga 36 ((g_X6_tellsPlaces_24 pb ru fst fro fmo fkd fcd fsr ffa fga jn nn).2.2.2)] H := ⟨hP, hD⟩
        have hP := hz9.1
        have hD := hz9.2
        have q_10 : m_X6_tellsPlaces_ro pb ru fst fro fmo fkd fcd fsr ffa fga jn nn = upd (upd ((g_X6_tellsPlaces_24 pb ru fst fro fmo fkd fcd fsr ffa fga jn nn).2.1) (3 * jn) (fro (3 * jn))) ((3 * jn) + 1) (fro ((3 * jn) + 1)) := rfl
        have q_11 : m_X6_tellsPlaces_fa pb ru fst fro fmo fkd fcd fsr ffa fga jn nn = ((g_X6_tellsPlaces_24 pb ru fst fro fmo fkd fcd fsr ffa fga jn nn).2.2.1) := rfl
        have q_12 : m_X6_tellsPlaces_ga pb ru fst fro fmo fkd fcd fsr ffa fga jn nn = ((g_X6_tellsPlaces_24 pb ru fst fro fmo fkd fcd fsr ffa fga jn nn).2.2.2) := rfl
        have hz9 : gPD G A [zo6 h0 (nI pb) kd mo st (nI jg) ro tp (nI td) cd sr (nI tx) (nI ru) him ir ih ss sq ce lw s19 s20 s21 s22 wo he s25 s26 s27 sk na kp zz31 zz32 zz33 zz34 gb go fa ga s39 s40 vo, zi G st 12 fst, zi G ro 12 (m_X6_tellsPlaces_ro pb ru fst fro fmo fkd fcd fsr ffa fga jn nn), zi G mo 6 fmo, zi G kd 6 fkd, zi G cd 1200 fcd, zi G sr 24 (nF fsr), zi G sk 200 x24sk, zi G na 6 x24na, zi G kp 24 x24kp, zi G fa 36 (m_X6_tellsPlaces_fa pb ru fst fro fmo fkd fcd fsr ffa fga jn nn), zi G ga 36 (m_X6_tellsPlaces_ga pb ru fst fro fmo fkd fcd fsr ffa fga jn nn)] H := ⟨by rw [q_10, q_11, q_12]; exact hP, by rw [q_10, q_11, q_12]; exact hD⟩
        have hP9 := hz9.1
        have hD9 := hz9.2
        have hpost : (fun (u : Int32 × Int32 × Int32 × Int32 × (Nat → Int32) × (Nat → Int32) × (Nat → Int32)) => match u with | (z31, z32, z33, z34, ysk, yna, ykp) => True) (zz31, zz32, zz33, zz34, x24sk, x24na, x24kp) := trivial
        exact W.vret hx hb hr (fun t ht hW => ⟨⟨(zz31, zz32, zz33, zz34, x24sk, x24na, x24kp), rfl, hpost, by rw [ht]; exact hP9, va_K.moved hW.alike hK, hD9⟩, hS.F ht⟩) hS.2.2 dX6_tellsPlaces_208
      · skip
        have c_6N : k5 < pb := nI_le0 (a := pb) (b := k5) (by omega) (by omega) c_6
        refine lv_iconst (v := 0) hx hb dX6_tellsPlaces_33 (by decide +kernel) ?_
        refine lv_istore (lv' := [zI 6 0, zI 5 (nI k5), zI 4 (fro ((3 * jn) + 1)), zI 3 (fro (3 * jn)), zR 0 h0, zI 1 (nI jn), zI 2 (nI nn)]) hx hb dX6_tellsPlaces_34 hl (by decide +kernel) rfl (fun ls hl => ?_)
        have loop_36 : ∀ (n9 : Nat) (p5 : Nat) (y36fa : Nat → Int32) (y36ga : Nat → Int32) (x36sk : Nat → Int32) (x36na : Nat → Int32) (x36kp : Nat → Int32) (zy31 : Int32) (zy32 : Int32) (zy33 : Int32) (zy34 : Int32), (p5 ≤ pb) → (p_X6_tellsPlaces_36 ru fst fmo fkd fcd fsr jn nn k5 y24ro (pb - p5) p5 y36fa y36ga = (g_X6_tellsPlaces_36 pb ru fst fmo fkd fcd fsr jn nn k5 y24ro y24fa y24ga)) → (pb - p5) < n9 → ∀ (H : Heap) (locs : List Loc), va_P G.1 vwCl [zo6 h0 (nI pb) kd mo st (nI jg) ro tp (nI td) cd sr (nI tx) (nI ru) him ir ih ss sq ce lw s19 s20 s21 s22 wo he s25 s26 s27 sk na kp zy31 zy32 zy33 zy34 gb go fa ga s39 s40 vo, zi G st 12 fst, zi G ro 12 y24ro, zi G mo 6 fmo, zi G kd 6 fkd, zi G cd 1200 fcd, zi G sr 24 (nF fsr), zi G sk 200 x36sk, zi G na 6 x36na, zi G kp 24 x36kp, zi G fa 36 y36fa, zi G ga 36 y36ga] H → va_D A [zo6 h0 (nI pb) kd mo st (nI jg) ro tp (nI td) cd sr (nI tx) (nI ru) him ir ih ss sq ce lw s19 s20 s21 s22 wo he s25 s26 s27 sk na kp zy31 zy32 zy33 zy34 gb go fa ga s39 s40 vo, zi G st 12 fst, zi G ro 12 y24ro, zi G mo 6 fmo, zi G kd 6 fkd, zi G cd 1200 fcd, zi G sr 24 (nF fsr), zi G sk 200 x36sk, zi G na 6 x36na, zi G kp 24 x36kp, zi G fa 36 y36fa, zi G ga 36 y36ga] → va_S A s.heap H locs → ∀ ls : Array Slot, lv_has ls 7 [zI 6 (nI p5), zI 5 (nI k5), zI 4 (fro ((3 * jn) + 1)), zI 3 (fro (3 * jn)), zR 0 h0, zI 1 (nI jn), zI 2 (nI nn)] → W p l e (headSpec wsX6_tellsPlaces ({ frames := 7, cells := 0, slots := 0, locals := 168 })).room s m ([.ref h0, .int (nI jn), .int (nI nn)] : List Value).toArray below meth c H locs 0 0 (MQ below (q_X6_tellsPlaces G h0 kd mo st ro tp cd sr ir ih ss sq ce lw wo he sk na kp gb go fa ga vo pb jg td tx ru him s19 s20 s21 s22 s25 s26 s27 s31 s32 s33 s34 s39 s40 fst fro fmo fkd fcd fsr fsk fna fkp ffa fga jn nn A) ([.ref h0, .int (nI jn), .int (nI nn)] : List Value).toArray s 0 0 A) (F0 m 36 ls []) := by
          intro n9
          induction n9 with
          | zero => intro p5 y36fa y36ga x36sk x36na x36kp zy31 zy32 zy33 zy34 hp5 R36 hm9_36; exact absurd hm9_36 (Nat.not_lt_zero _)
          | succ n9 ih9_36 =>
            intro p5 y36fa y36ga x36sk x36na x36kp zy31 zy32 zy33 zy34 hp5 R36 hm9_36 H locs hP hD hS ls hl
            refine lv_iload hx hb dX6_tellsPlaces_36 (lv_at hl 0 rfl) ?_
            refine g_aget (D := G.1) (ci := 6) (v := .int (nI pb)) (C := RX6) (T := TX6) (N := 42) hx hb dX6_tellsPlaces_38 rfl (lv_at hl 4 rfl) hts hiX6 hown hK hP 0 rfl rfl 0 (by decide +kernel) kf88 (fun _ h9 => h9) rfl dX6_tellsPlaces_39 ?_
            refine lv_icmp_ge (tgt := 101) hx hb dX6_tellsPlaces_42 (by decide +kernel) (fun c_13 => ?_) (fun c_13 => ?_)
            · skip
              have c_13N : pb ≤ p5 := nI_le1 (a := pb) (b := p5) (by omega) (by omega) c_13
              have hF36 : (g_X6_tellsPlaces_36 pb ru fst fmo fkd fcd fsr jn nn k5 y24ro y24fa y24ga) = (p5, y36fa, y36ga) := by rw [← R36, show pb - p5 = 0 by omega]; rfl
              have hE36_0 : p5 = ((g_X6_tellsPlaces_36 pb ru fst fmo fkd fcd fsr jn nn k5 y24ro y24fa y24ga).1) := by rw [hF36]
              have hE36_1 : y36fa = ((g_X6_tellsPlaces_36 pb ru fst fmo fkd fcd fsr jn nn k5 y24ro y24fa y24ga).2.1) := by rw [hF36]
              have hE36_2 : y36ga = ((g_X6_tellsPlaces_36 pb ru fst fmo fkd fcd fsr jn nn k5 y24ro y24fa y24ga).2.2) := by rw [hF36]
              clear hF36 R36
              subst hE36_0
              subst hE36_1
              subst hE36_2
              refine lv_iconst (v := 0) hx hb dX6_tellsPlaces_101 (by decide +kernel) ?_
              refine lv_istore (lv' := [zI 6 0, zI 5 (nI k5), zI 4 (fro ((3 * jn) + 1)), zI 3 (fro (3 * jn)), zR 0 h0, zI 1 (nI jn), zI 2 (nI nn)]) hx hb dX6_tellsPlaces_102 hl (by decide +kernel) rfl (fun ls hl => ?_)
              have loop_104 : ∀ (n9 : Nat) (t5 : Nat) (y104ro : Nat → Int32), (t5 ≤ nn) → (p_X6_tellsPlaces_104 jn (nn - t5) t5 y104ro = (g_X6_tellsPlaces_104 jn nn y24ro)) → (nn - t5) < n9 → ∀ (H : Heap) (locs : List Loc), va_P G.1 vwCl [zo6 h0 (nI pb) kd mo st (nI jg) ro tp (nI td) cd sr (nI tx) (nI ru) him ir ih ss sq ce lw s19 s20 s21 s22 wo he s25 s26 s27 sk na kp zy31 zy32 zy33 zy34 gb go fa ga s39 s40 vo, zi G st 12 fst, zi G ro 12 y104ro, zi G mo 6 fmo, zi G kd 6 fkd, zi G cd 1200 fcd, zi G sr 24 (nF fsr), zi G sk 200 x36sk, zi G na 6 x36na, zi G kp 24 x36kp, zi G fa 36 ((g_X6_tellsPlaces_36 pb ru fst fmo fkd fcd fsr jn nn k5 y24ro y24fa y24ga).2.1), zi G ga 36 ((g_X6_tellsPlaces_36 pb ru fst fmo fkd fcd fsr jn nn k5 y24ro y24fa y24ga).2.2)] H → va_D A [zo6 h0 (nI pb) kd mo st (nI jg) ro tp (nI td) cd sr (nI tx) (nI ru) him ir ih ss sq ce lw s19 s20 s21 s22 wo he s25 s26 s27 sk na kp zy31 zy32 zy33 zy34 gb go fa ga s39 s40 vo, zi G st 12 fst, zi G ro 12 y104ro, zi G mo 6 fmo, zi G kd 6 fkd, zi G cd 1200 fcd, zi G sr 24 (nF fsr), zi G sk 200 x36sk, zi G na 6 x36na, zi G kp 24 x36kp, zi G fa 36 ((g_X6_tellsPlaces_36 pb ru fst fmo fkd fcd fsr jn nn k5 y24ro y24fa y24ga).2.1), zi G ga 36 ((g_X6_tellsPlaces_36 pb ru fst fmo fkd fcd fsr jn nn k5 y24ro y24fa y24ga).2.2)] → va_S A s.heap H locs → ∀ ls : Array Slot, lv_has ls 7 [zI 6 (nI t5), zI 5 (nI k5), zI 4 (fro ((3 * jn) + 1)), zI 3 (fro (3 * jn)), zR 0 h0, zI 1 (nI jn), zI 2 (nI nn)] → W p l e (headSpec wsX6_tellsPlaces ({ frames := 7, cells := 0, slots := 0, locals := 168 })).room s m ([.ref h0, .int (nI jn), .int (nI nn)] : List Value).toArray below meth c H locs 0 0 (MQ below (q_X6_tellsPlaces G h0 kd mo st ro tp cd sr ir ih ss sq ce lw wo he sk na kp gb go fa ga vo pb jg td tx ru him s19 s20 s21 s22 s25 s26 s27 s31 s32 s33 s34 s39 s40 fst fro fmo fkd fcd fsr fsk fna fkp ffa fga jn nn A) ([.ref h0, .int (nI jn), .int (nI nn)] : List Value).toArray s 0 0 A) (F0 m 104 ls []) := by
                intro n9
                induction n9 with
                | zero => intro t5 y104ro ht5 R104 hm9_104; exact absurd hm9_104 (Nat.not_lt_zero _)
                | succ n9 ih9_104 =>
                  intro t5 y104ro ht5 R104 hm9_104 H locs hP hD hS ls hl
                  refine lv_iload hx hb dX6_tellsPlaces_104 (lv_at hl 0 rfl) ?_
                  refine lv_iload_n hx hb dX6_tellsPlaces_106 rfl (lv_at hl 6 rfl) ?_
                  refine lv_icmp_ge (tgt := 181) hx hb dX6_tellsPlaces_107 (by decide +kernel) (fun c_14 => ?_) (fun c_14 => ?_)
                  · skip
                    have c_14N : nn ≤ t5 := nI_le1 (a := nn) (b := t5) (by omega) (by omega) c_14
                    have hF104 : (g_X6_tellsPlaces_104 jn nn y24ro) = (t5, y104ro) := by rw [← R104, show nn - t5 = 0 by omega]; rfl
                    have hE104_0 : t5 = ((g_X6_tellsPlaces_104 jn nn y24ro).1) := by rw [hF104]
                    have hE104_1 : y104ro = ((g_X6_tellsPlaces_104 jn nn y24ro).2) := by rw [hF104]
                    clear hF104 R104
                    subst hE104_0
                    subst hE104_1
                    refine lv_iinc (v := nI (k5 + 1)) (lv' := [zI 5 (nI (k5 + 1)), zI 6 (nI ((g_X6_tellsPlaces_104 jn nn y24ro).1)), zI 4 (fro ((3 * jn) + 1)), zI 3 (fro (3 * jn)), zR 0 h0, zI 1 (nI jn), zI 2 (nI nn)]) hx hb dX6_tellsPlaces_181 hl (k := 1) rfl (nI_add k5 1) (by decide +kernel) rfl (fun ls hl => ?_)
                    refine lv_goto (tgt := 24) hx hb dX6_tellsPlaces_184 (by decide +kernel) ?_
                    exact ih9_24 (k5 + 1) ((g_X6_tellsPlaces_104 jn nn y24ro).2) ((g_X6_tellsPlaces_36 pb ru fst fmo fkd fcd fsr jn nn k5 y24ro y24fa y24ga).2.1) ((g_X6_tellsPlaces_36 pb ru fst fmo fkd fcd fsr jn nn k5 y24ro y24fa y24ga).2.2) x36sk x36na x36kp zy31 zy32 zy33 zy34 (by omega) (Eq.trans (Eq.symm ((congrArg (fun z9 => p_X6_tellsPlaces_24 pb ru fst fmo fkd fcd fsr jn nn (z9) k5 y24ro y24fa y24ga) (show pb - k5 = pb - (k5 + 1) + 1 by omega)).trans (by show p_X6_tellsPlaces_24 pb ru fst fmo fkd fcd fsr jn nn (pb - (k5 + 1) + 1) k5 y24ro y24fa y24ga = _; rw [p_X6_tellsPlaces_24]))) R24) (by omega) _ _ hP hD hS ls (lv_sub hl [0, 2, 3, 4, 5, 6] rfl)
                  · skip
                    have c_14N : t5 < nn := nI_le0 (a := nn) (b := t5) (by omega) (by omega) c_14
                    refine g_aget (D := G.1) (ci := 6) (v := .ref ro) (C := RX6) (T := TX6) (N := 42) hx hb dX6_tellsPlaces_110 rfl (lv_at hl 4 rfl) hts hiX6 hown hK hP 0 rfl rfl 5 (by decide +kernel) kf19 (fun _ h9 => h9) rfl dX6_tellsPlaces_111 ?_
                    refine lv_iconst (v := 3) hx hb dX6_tellsPlaces_114 (by decide +kernel) ?_
                    refine lv_iload_n hx hb dX6_tellsPlaces_115 rfl (lv_at hl 5 rfl) ?_
                    refine lv_imul hx hb dX6_tellsPlaces_116 ?_
                    refine g_topi (y := nI (3 * jn)) (pk_mul 3 jn) ?_
                    refine lv_iconst (v := 1) hx hb dX6_tellsPlaces_117 (by decide +kernel) ?_
                    refine lv_iadd hx hb dX6_tellsPlaces_118 ?_
                    refine g_topi (y := nI ((3 * jn) + 1)) (nI_add (3 * jn) 1) ?_
                    refine lv_dup2_11 hx hb dX6_tellsPlaces_119 rfl rfl ?_
                    refine g_iald (D := G.1) hx hb hK hP 2 0 rfl rfl (k := (3 * jn) + 1) (y := y104ro ((3 * jn) + 1)) (by omega) rfl rfl dX6_tellsPlaces_120 ?_
                    refine lv_iconst (v := 1) hx hb dX6_tellsPlaces_121 (by decide +kernel) ?_
                    refine lv_iadd hx hb dX6_tellsPlaces_122 ?_
                    refine g_iast (D := G.1) hx hb hK hP hD hS 2 0 rfl rfl (k := (3 * jn) + 1) (x := ((y104ro ((3 * jn) + 1)) + 1)) (by omega) rfl dX6_tellsPlaces_123 (fun H locs hP hD hS => ?_)
                    have hz9 : gPD G A [zo6 h0 (nI pb) kd mo st (nI jg) ro tp (nI td) cd sr (nI tx) (nI ru) him ir ih ss sq ce lw s19 s20 s21 s22 wo he s25 s26 s27 sk na kp zy31 zy32 zy33 zy34 gb go fa ga s39 s40 vo, zi G st 12 fst, zi G ro 12 (upd y104ro ((3 * jn) + 1) ((y104ro ((3 * jn) + 1)) + 1)), zi G mo 6 fmo, zi G kd 6 fkd, zi G cd 1200 fcd, zi G sr 24 (nF fsr), zi G sk 200 x36sk, zi G na 6 x36na, zi G kp 24 x36kp, zi G fa 36 ((g_X6_tellsPlaces_36 pb ru fst fmo fkd fcd fsr jn nn k5 y24ro y24fa y24ga).2.1), zi G ga 36 ((g_X6_tellsPlaces_36 pb ru fst fmo fkd fcd fsr jn nn k5 y24ro y24fa y24ga).2.2)] H := ⟨hP, hD⟩
                    have hP := hz9.1
                    have hD := hz9.2
                    refine g_aget (D := G.1) (ci := 6) (v := .ref ro) (C := RX6) (T := TX6) (N := 42) hx hb dX6_tellsPlaces_124 rfl (lv_at hl 4 rfl) hts hiX6 hown hK hP 0 rfl rfl 5 (by decide +kernel) kf19 (fun _ h9 => h9) rfl dX6_tellsPlaces_125 ?_
                    refine lv_iconst (v := 3) hx hb dX6_tellsPlaces_128 (by decide +kernel) ?_
                    refine lv_iload_n hx hb dX6_tellsPlaces_129 rfl (lv_at hl 5 rfl) ?_
                    refine lv_imul hx hb dX6_tellsPlaces_130 ?_
                    refine g_topi (y := nI (3 * jn)) (pk_mul 3 jn) ?_
                    refine g_aget (D := G.1) (ci := 6) (v := .ref ro) (C := RX6) (T := TX6) (N := 42) hx hb dX6_tellsPlaces_131 rfl (lv_at hl 4 rfl) hts hiX6 hown hK hP 0 rfl rfl 5 (by decide +kernel) kf19 (fun _ h9 => h9) rfl dX6_tellsPlaces_132 ?_
                    refine lv_iconst (v := 3) hx hb dX6_tellsPlaces_135 (by decide +kernel) ?_
                    refine lv_iload_n hx hb dX6_tellsPlaces_136 rfl (lv_at hl 5 rfl) ?_
                    refine lv_imul hx hb dX6_tellsPlaces_137 ?_
                    refine g_topi (y := nI (3 * jn)) (pk_mul 3 jn) ?_
                    refine lv_iconst (v := 1) hx hb dX6_tellsPlaces_138 (by decide +kernel) ?_
                    refine lv_iadd hx hb dX6_tellsPlaces_139 ?_
                    refine g_topi (y := nI ((3 * jn) + 1)) (nI_add (3 * jn) 1) ?_
                    refine va_iald (D := G.1) hx hb hK hP 2 0 rfl rfl (i := (nI ((3 * jn) + 1))) (vpn (by omega) rfl) dX6_tellsPlaces_140 ?_
                    refine g_topi (y := (y104ro ((3 * jn) + 1)) + 1) (by rw [nI_clamp (by omega), upd_a9 (by omega)]) ?_
                    refine lv_bipush (v := 10) hx hb dX6_tellsPlaces_141 (by decide +kernel) ?_
                    refine lv_irem hx hb dX6_tellsPlaces_143 (by decide +kernel) ?_
                    refine g_topi (y := iRem ((y104ro ((3 * jn) + 1)) + 1) 10) (rfl) ?_
                    refine lv_if_ne (tgt := 166) hx hb dX6_tellsPlaces_144 (by decide +kernel) (fun c_23 => ?_) (fun c_23 => ?_)
                    · skip
                      refine g_aget (D := G.1) (ci := 6) (v := .ref ro) (C := RX6) (T := TX6) (N := 42) hx hb dX6_tellsPlaces_166 rfl (lv_at hl 4 rfl) hts hiX6 hown hK hP 0 rfl rfl 5 (by decide +kernel) kf19 (fun _ h9 => h9) rfl dX6_tellsPlaces_167 ?_
                      refine lv_iconst (v := 3) hx hb dX6_tellsPlaces_170 (by decide +kernel) ?_
                      refine lv_iload_n hx hb dX6_tellsPlaces_171 rfl (lv_at hl 5 rfl) ?_
                      refine lv_imul hx hb dX6_tellsPlaces_172 ?_
                      refine g_topi (y := nI (3 * jn)) (pk_mul 3 jn) ?_
                      refine va_iald (D := G.1) hx hb hK hP 2 0 rfl rfl (i := (nI (3 * jn))) (vpn (by omega) rfl) dX6_tellsPlaces_173 ?_
                      refine g_topi (y := y104ro (3 * jn)) (by rw [nI_clamp (by omega), upd_n9 (by omega)]) ?_
                      refine g_iast (D := G.1) hx hb hK hP hD hS 2 0 rfl rfl (k := 3 * jn) (x := (y104ro (3 * jn))) (by omega) rfl dX6_tellsPlaces_174 (fun H locs hP hD hS => ?_)
                      have hz9 : gPD G A [zo6 h0 (nI pb) kd mo st (nI jg) ro tp (nI td) cd sr (nI tx) (nI ru) him ir ih ss sq ce lw s19 s20 s21 s22 wo he s25 s26 s27 sk na kp zy31 zy32 zy33 zy34 gb go fa ga s39 s40 vo, zi G st 12 fst, zi G ro 12 (upd (upd y104ro ((3 * jn) + 1) ((y104ro ((3 * jn) + 1)) + 1)) (3 * jn) (y104ro (3 * jn))), zi G mo 6 fmo, zi G kd 6 fkd, zi G cd 1200 fcd, zi G sr 24 (nF fsr), zi G sk 200 x36sk, zi G na 6 x36na, zi G kp 24 x36kp, zi G fa 36 ((g_X6_tellsPlaces_36 pb ru fst fmo fkd fcd fsr jn nn k5 y24ro y24fa y24ga).2.1), zi G ga 36 ((g_X6_tellsPlaces_36 pb ru fst fmo fkd fcd fsr jn nn k5 y24ro y24fa y24ga).2.2)] H := ⟨hP, hD⟩
                      have hP := hz9.1
                      have hD := hz9.2
                      refine lv_iinc (v := nI (t5 + 1)) (lv' := [zI 6 (nI (t5 + 1)), zI 5 (nI k5), zI 4 (fro ((3 * jn) + 1)), zI 3 (fro (3 * jn)), zR 0 h0, zI 1 (nI jn), zI 2 (nI nn)]) hx hb dX6_tellsPlaces_175 hl (k := 0) rfl (nI_add t5 1) (by decide +kernel) rfl (fun ls hl => ?_)
                      refine lv_goto (tgt := 104) hx hb dX6_tellsPlaces_178 (by decide +kernel) ?_
                      exact ih9_104 (t5 + 1) (upd (upd y104ro ((3 * jn) + 1) ((y104ro ((3 * jn) + 1)) + 1)) (3 * jn) (y104ro (3 * jn))) (by omega) (Eq.trans (Eq.symm ((congrArg (fun z9 => p_X6_tellsPlaces_104 jn (z9) t5 y104ro) (show nn - t5 = nn - (t5 + 1) + 1 by omega)).trans (by show p_X6_tellsPlaces_104 jn (nn - (t5 + 1) + 1) t5 y104ro = _; rw [p_X6_tellsPlaces_104, if_neg c_23]))) R104) (by omega) _ _ hP hD hS ls hl
                    · skip
                      refine g_aget (D := G.1) (ci := 6) (v := .ref ro) (C := RX6) (T := TX6) (N := 42) hx hb dX6_tellsPlaces_147 rfl (lv_at hl 4 rfl) hts hiX6 hown hK hP 0 rfl rfl 5 (by decide +kernel) kf19 (fun _ h9 => h9) rfl dX6_tellsPlaces_148 ?_
                      refine lv_iconst (v := 3) hx hb dX6_tellsPlaces_151 (by decide +kernel) ?_
                      refine lv_iload_n hx hb dX6_tellsPlaces_152 rfl (lv_at hl 5 rfl) ?_
                      refine lv_imul hx hb dX6_tellsPlaces_153 ?_
                      refine g_topi (y := nI (3 * jn)) (pk_mul 3 jn) ?_
                      refine va_iald (D := G.1) hx hb hK hP 2 0 rfl rfl (i := (nI (3 * jn))) (vpn (by omega) rfl) dX6_tellsPlaces_154 ?_
                      refine g_topi (y := y104ro (3 * jn)) (by rw [nI_clamp (by omega), upd_n9 (by omega)]) ?_
                      refine lv_iconst (v := 1) hx hb dX6_tellsPlaces_155 (by decide +kernel) ?_
                      refine lv_iadd hx hb dX6_tellsPlaces_156 ?_
                      refine lv_iconst (v := 0) hx hb dX6_tellsPlaces_157 (by decide +kernel) ?_
                      refine lv_bipush (v := 20) hx hb dX6_tellsPlaces_158 (by decide +kernel) ?_
                      refine z_calli [] (v := m_X6_within ((y104ro (3 * jn)) + 1) 0 20) (fun _ _ h => h) (va_runS (As := [.int ((y104ro (3 * jn)) + 1), .int 0, .int 20]) (rest := [.int (nI (3 * jn)), .ref ro]) ⟨hx, hb, hml, hown, hts⟩ (c_X6_within l G ((y104ro (3 * jn)) + 1) 0 20 H.size) (va_cwS 3 hts gX6_tellsPlaces_X6_within rfl rfl rfl (by decide +kernel) ⟨Nat.le_of_ble_eq_true rfl, Nat.le_of_ble_eq_true rfl⟩) ⟨gPre_blind, fun U hU hW => gPre_ofF [] hU hW hK hP hD (by decide +kernel) rfl⟩ rfl rfl hl.1 rfl (lv_room (Nat.le_of_ble_eq_true rfl)) dX6_tellsPlaces_160 ⟨Nat.le_of_ble_eq_true rfl, Nat.le_of_ble_eq_true rfl⟩) hS hD hA rfl (fun u t H locs ht hvm hB hz1 hk1 hFq hAq hS => ?_)
                      obtain ⟨hP1, hK1, hD1⟩ := hB
                      have hP := zKeep hP hD [] hAq hk1 ht hP1 rfl
                      refine lv_goto (tgt := 174) hx hb dX6_tellsPlaces_163 (by decide +kernel) ?_
                      refine g_iast (D := G.1) hx hb hK hP hD hS 2 0 rfl rfl (k := 3 * jn) (x := (m_X6_within ((y104ro (3 * jn)) + 1) 0 20)) (by omega) rfl dX6_tellsPlaces_174 (fun H locs hP hD hS => ?_)
                      have hz9 : gPD G A [zo6 h0 (nI pb) kd mo st (nI jg) ro tp (nI td) cd sr (nI tx) (nI ru) him ir ih ss sq ce lw s19 s20 s21 s22 wo he s25 s26 s27 sk na kp zy31 zy32 zy33 zy34 gb go fa ga s39 s40 vo, zi G st 12 fst, zi G ro 12 (upd (upd y104ro ((3 * jn) + 1) ((y104ro ((3 * jn) + 1)) + 1)) (3 * jn) (m_X6_within ((y104ro (3 * jn)) + 1) 0 20)), zi G mo 6 fmo, zi G kd 6 fkd, zi G cd 1200 fcd, zi G sr 24 (nF fsr), zi G sk 200 x36sk, zi G na 6 x36na, zi G kp 24 x36kp, zi G fa 36 ((g_X6_tellsPlaces_36 pb ru fst fmo fkd fcd fsr jn nn k5 y24ro y24fa y24ga).2.1), zi G ga 36 ((g_X6_tellsPlaces_36 pb ru fst fmo fkd fcd fsr jn nn k5 y24ro y24fa y24ga).2.2)] H := ⟨hP, hD⟩
                      have hP := hz9.1
                      have hD := hz9.2
                      refine lv_iinc (v := nI (t5 + 1)) (lv' := [zI 6 (nI (t5 + 1)), zI 5 (nI k5), zI 4 (fro ((3 * jn) + 1)), zI 3 (fro (3 * jn)), zR 0 h0, zI 1 (nI jn), zI 2 (nI nn)]) hx hb dX6_tellsPlaces_175 hl (k := 0) rfl (nI_add t5 1) (by decide +kernel) rfl (fun ls hl => ?_)
                      refine lv_goto (tgt := 104) hx hb dX6_tellsPlaces_178 (by decide +kernel) ?_
                      exact ih9_104 (t5 + 1) (upd (upd y104ro ((3 * jn) + 1) ((y104ro ((3 * jn) + 1)) + 1)) (3 * jn) (m_X6_within ((y104ro (3 * jn)) + 1) 0 20)) (by omega) (Eq.trans (Eq.symm ((congrArg (fun z9 => p_X6_tellsPlaces_104 jn (z9) t5 y104ro) (show nn - t5 = nn - (t5 + 1) + 1 by omega)).trans (by show p_X6_tellsPlaces_104 jn (nn - (t5 + 1) + 1) t5 y104ro = _; rw [p_X6_tellsPlaces_104, if_pos c_23]))) R104) (by omega) _ _ hP hD hS ls hl
              exact loop_104 (nn - 0 + 1) 0 y24ro (by omega) (rfl) (by omega) _ _ hP hD hS ls hl
            · skip
              have c_13N : p5 < pb := nI_le0 (a := pb) (b := p5) (by omega) (by omega) c_13
              refine lv_aload_n hx hb dX6_tellsPlaces_45 rfl (lv_at hl 4 rfl) ?_
              refine lv_iload_n hx hb dX6_tellsPlaces_46 rfl (lv_at hl 5 rfl) ?_
              refine lv_iload hx hb dX6_tellsPlaces_47 (lv_at hl 0 rfl) ?_
              refine lv_iload_n hx hb dX6_tellsPlaces_49 rfl (lv_at hl 6 rfl) ?_
              refine z_callv [0, 1, 2, 3, 4, 5, 6, 7, 8, 9] (va_runV (As := [.int (nI jn), .int (nI p5), .int (nI nn)]) (rest := []) ⟨hx, hb, hml, hown, hts⟩ (c_X6_heard l G h0 kd mo st ro tp cd sr ir ih ss sq ce lw wo he sk na kp gb go fa ga vo pb jg td tx ru him s19 s20 s21 s22 s25 s26 s27 zy31 zy32 zy33 zy34 s39 s40 fst y24ro fmo fkd fcd fsr x36sk x36na x36kp jn p5 nn H.size (by first | exact hj | assumption | omega) (by first | exact hp | assumption | omega) (by first | exact hnn | assumption | omega) (by first | exact hwf | assumption | omega) (by first | exact hpb | assumption | omega) (by first | exact hjg | assumption | omega) (by first | exact htx | assumption | omega) (by first | exact hru | assumption | omega)) (cwV 3 hts gX6_tellsPlaces_X6_heard rfl rfl rfl (by decide +kernel) ⟨Nat.le_of_ble_eq_true rfl, Nat.le_of_ble_eq_true rfl⟩) ⟨gPre_blind, va_recv (q := (RX6, TX6, 42)) hK hP (ci := 6) (q0 := 0) rfl rfl, fun U hU hW => gPre_ofF [0, 1, 2, 3, 4, 5, 6, 7, 8, 9] hU hW hK hP hD (by decide +kernel) rfl⟩ rfl rfl hl.1 rfl (lv_room (Nat.le_of_ble_eq_true rfl)) dX6_tellsPlaces_50 ⟨Nat.le_of_ble_eq_true rfl, Nat.le_of_ble_eq_true rfl⟩) hS hD hA rfl (fun u t H locs ht hvm w_31 hB hz1 hk1 hFq hAq hS => ?_)
              obtain ⟨ysk_32, yna_33, ykp_34⟩ := u
              obtain ⟨hP1, hK1, hD1⟩ := hB
              have hz9 : gPD G A [zo6 h0 (nI pb) kd mo st (nI jg) ro tp (nI td) cd sr (nI tx) (nI ru) him ir ih ss sq ce lw s19 s20 s21 s22 wo he s25 s26 s27 sk na kp (m_X6_heard_h031 ru fst y24ro fmo fkd fcd fsr jn p5 nn) (m_X6_heard_h032 ru fst y24ro fmo fkd fcd fsr jn p5 nn) (m_X6_heard_h033 ru fst y24ro fmo fkd fcd fsr jn p5 nn) (m_X6_heard_h034 ru fst y24ro fmo fkd fcd fsr jn p5 nn) gb go fa ga s39 s40 vo, zi G st 12 fst, zi G ro 12 y24ro, zi G mo 6 fmo, zi G kd 6 fkd, zi G cd 1200 fcd, zi G sr 24 (nF fsr), zi G sk 200 ysk_32, zi G na 6 yna_33, zi G kp 24 ykp_34, zi G fa 36 y36fa, zi G ga 36 y36ga] H := zFill hP hD [0, 1, 2, 3, 4, 5, 6, 7, 8, 9] [1, 2, 3, 4, 5, 6, 7, 8, 9, 10] hAq hk1 hFq ht hP1 hD1 rfl (by decide +kernel)
              have hP := hz9.1
              have hD := hz9.2
              refine g_aget (D := G.1) (ci := 6) (v := .ref fa) (C := RX6) (T := TX6) (N := 42) hx hb dX6_tellsPlaces_53 rfl (lv_at hl 4 rfl) hts hiX6 hown hK hP 0 rfl rfl 37 (by decide +kernel) kf71 (fun _ h9 => h9) rfl dX6_tellsPlaces_54 ?_
              refine lv_bipush (v := 6) hx hb dX6_tellsPlaces_57 (by decide +kernel) ?_
              refine lv_iload hx hb dX6_tellsPlaces_59 (lv_at hl 1 rfl) ?_
              refine lv_imul hx hb dX6_tellsPlaces_61 ?_
              refine g_topi (y := nI (6 * k5)) (pk_mul 6 k5) ?_
              refine lv_iload hx hb dX6_tellsPlaces_62 (lv_at hl 0 rfl) ?_
              refine lv_iadd hx hb dX6_tellsPlaces_64 ?_
              refine g_topi (y := nI ((6 * k5) + p5)) (nI_add (6 * k5) p5) ?_
              refine g_aget (D := G.1) (ci := 6) (v := .int (m_X6_heard_h031 ru fst y24ro fmo fkd fcd fsr jn p5 nn)) (C := RX6) (T := TX6) (N := 42) hx hb dX6_tellsPlaces_65 rfl (lv_at hl 4 rfl) hts hiX6 hown hK hP 0 rfl rfl 31 (by decide +kernel) kf205 (fun _ h9 => h9) rfl dX6_tellsPlaces_66 ?_
              refine g_iast (D := G.1) hx hb hK hP hD hS 10 0 rfl rfl (k := (6 * k5) + p5) (x := (m_X6_heard_h031 ru fst y24ro fmo fkd fcd fsr jn p5 nn)) (by omega) rfl dX6_tellsPlaces_69 (fun H locs hP hD hS => ?_)
              have hz9 : gPD G A [zo6 h0 (nI pb) kd mo st (nI jg) ro tp (nI td) cd sr (nI tx) (nI ru) him ir ih ss sq ce lw s19 s20 s21 s22 wo he s25 s26 s27 sk na kp (m_X6_heard_h031 ru fst y24ro fmo fkd fcd fsr jn p5 nn) (m_X6_heard_h032 ru fst y24ro fmo fkd fcd fsr jn p5 nn) (m_X6_heard_h033 ru fst y24ro fmo fkd fcd fsr jn p5 nn) (m_X6_heard_h034 ru fst y24ro fmo fkd fcd fsr jn p5 nn) gb go fa ga s39 s40 vo, zi G st 12 fst, zi G ro 12 y24ro, zi G mo 6 fmo, zi G kd 6 fkd, zi G cd 1200 fcd, zi G sr 24 (nF fsr), zi G sk 200 ysk_32, zi G na 6 yna_33, zi G kp 24 ykp_34, zi G fa 36 (upd y36fa ((6 * k5) + p5) (m_X6_heard_h031 ru fst y24ro fmo fkd fcd fsr jn p5 nn)), zi G ga 36 y36ga] H := ⟨hP, hD⟩
              have hP := hz9.1
              have hD := hz9.2
              refine g_aget (D := G.1) (ci := 6) (v := .ref ga) (C := RX6) (T := TX6) (N := 42) hx hb dX6_tellsPlaces_70 rfl (lv_at hl 4 rfl) hts hiX6 hown hK hP 0 rfl rfl 38 (by decide +kernel) kf74 (fun _ h9 => h9) rfl dX6_tellsPlaces_71 ?_
              refine lv_bipush (v := 6) hx hb dX6_tellsPlaces_74 (by decide +kernel) ?_
              refine lv_iload hx hb dX6_tellsPlaces_76 (lv_at hl 1 rfl) ?_
              refine lv_imul hx hb dX6_tellsPlaces_78 ?_
              refine g_topi (y := nI (6 * k5)) (pk_mul 6 k5) ?_
              refine lv_iload hx hb dX6_tellsPlaces_79 (lv_at hl 0 rfl) ?_
              refine lv_iadd hx hb dX6_tellsPlaces_81 ?_
              refine g_topi (y := nI ((6 * k5) + p5)) (nI_add (6 * k5) p5) ?_
              refine g_aget (D := G.1) (ci := 6) (v := .int (m_X6_heard_h034 ru fst y24ro fmo fkd fcd fsr jn p5 nn)) (C := RX6) (T := TX6) (N := 42) hx hb dX6_tellsPlaces_82 rfl (lv_at hl 4 rfl) hts hiX6 hown hK hP 0 rfl rfl 34 (by decide +kernel) kf214 (fun _ h9 => h9) rfl dX6_tellsPlaces_83 ?_
              refine lv_if_eq (tgt := 93) hx hb dX6_tellsPlaces_86 (by decide +kernel) (fun c_39 => ?_) (fun c_39 => ?_)
              · skip
                refine lv_iconst (v := 0) hx hb dX6_tellsPlaces_93 (by decide +kernel) ?_
                refine g_iast (D := G.1) hx hb hK hP hD hS 11 0 rfl rfl (k := (6 * k5) + p5) (x := 0) (by omega) rfl dX6_tellsPlaces_94 (fun H locs hP hD hS => ?_)
                have hz9 : gPD G A [zo6 h0 (nI pb) kd mo st (nI jg) ro tp (nI td) cd sr (nI tx) (nI ru) him ir ih ss sq ce lw s19 s20 s21 s22 wo he s25 s26 s27 sk na kp (m_X6_heard_h031 ru fst y24ro fmo fkd fcd fsr jn p5 nn) (m_X6_heard_h032 ru fst y24ro fmo fkd fcd fsr jn p5 nn) (m_X6_heard_h033 ru fst y24ro fmo fkd fcd fsr jn p5 nn) (m_X6_heard_h034 ru fst y24ro fmo fkd fcd fsr jn p5 nn) gb go fa ga s39 s40 vo, zi G st 12 fst, zi G ro 12 y24ro, zi G mo 6 fmo, zi G kd 6 fkd, zi G cd 1200 fcd, zi G sr 24 (nF fsr), zi G sk 200 ysk_32, zi G na 6 yna_33, zi G kp 24 ykp_34, zi G fa 36 (upd y36fa ((6 * k5) + p5) (m_X6_heard_h031 ru fst y24ro fmo fkd fcd fsr jn p5 nn)), zi G ga 36 (upd y36ga ((6 * k5) + p5) 0)] H := ⟨hP, hD⟩
                have hP := hz9.1
                have hD := hz9.2
                refine lv_iinc (v := nI (p5 + 1)) (lv' := [zI 6 (nI (p5 + 1)), zI 5 (nI k5), zI 4 (fro ((3 * jn) + 1)), zI 3 (fro (3 * jn)), zR 0 h0, zI 1 (nI jn), zI 2 (nI nn)]) hx hb dX6_tellsPlaces_95 hl (k := 0) rfl (nI_add p5 1) (by decide +kernel) rfl (fun ls hl => ?_)
                refine lv_goto (tgt := 36) hx hb dX6_tellsPlaces_98 (by decide +kernel) ?_
                exact ih9_36 (p5 + 1) (upd y36fa ((6 * k5) + p5) (m_X6_heard_h031 ru fst y24ro fmo fkd fcd fsr jn p5 nn)) (upd y36ga ((6 * k5) + p5) 0) ysk_32 yna_33 ykp_34 (m_X6_heard_h031 ru fst y24ro fmo fkd fcd fsr jn p5 nn) (m_X6_heard_h032 ru fst y24ro fmo fkd fcd fsr jn p5 nn) (m_X6_heard_h033 ru fst y24ro fmo fkd fcd fsr jn p5 nn) (m_X6_heard_h034 ru fst y24ro fmo fkd fcd fsr jn p5 nn) (by omega) (Eq.trans (Eq.symm ((congrArg (fun z9 => p_X6_tellsPlaces_36 ru fst fmo fkd fcd fsr jn nn k5 y24ro (z9) p5 y36fa y36ga) (show pb - p5 = pb - (p5 + 1) + 1 by omega)).trans (by show p_X6_tellsPlaces_36 ru fst fmo fkd fcd fsr jn nn k5 y24ro (pb - (p5 + 1) + 1) p5 y36fa y36ga = _; rw [p_X6_tellsPlaces_36, if_pos c_39]))) R36) (by omega) _ _ hP hD hS ls hl
              · skip
                refine lv_iconst (v := 1) hx hb dX6_tellsPlaces_89 (by decide +kernel) ?_
                refine lv_goto (tgt := 94) hx hb dX6_tellsPlaces_90 (by decide +kernel) ?_
                refine g_iast (D := G.1) hx hb hK hP hD hS 11 0 rfl rfl (k := (6 * k5) + p5) (x := 1) (by omega) rfl dX6_tellsPlaces_94 (fun H locs hP hD hS => ?_)
                have hz9 : gPD G A [zo6 h0 (nI pb) kd mo st (nI jg) ro tp (nI td) cd sr (nI tx) (nI ru) him ir ih ss sq ce lw s19 s20 s21 s22 wo he s25 s26 s27 sk na kp (m_X6_heard_h031 ru fst y24ro fmo fkd fcd fsr jn p5 nn) (m_X6_heard_h032 ru fst y24ro fmo fkd fcd fsr jn p5 nn) (m_X6_heard_h033 ru fst y24ro fmo fkd fcd fsr jn p5 nn) (m_X6_heard_h034 ru fst y24ro fmo fkd fcd fsr jn p5 nn) gb go fa ga s39 s40 vo, zi G st 12 fst, zi G ro 12 y24ro, zi G mo 6 fmo, zi G kd 6 fkd, zi G cd 1200 fcd, zi G sr 24 (nF fsr), zi G sk 200 ysk_32, zi G na 6 yna_33, zi G kp 24 ykp_34, zi G fa 36 (upd y36fa ((6 * k5) + p5) (m_X6_heard_h031 ru fst y24ro fmo fkd fcd fsr jn p5 nn)), zi G ga 36 (upd y36ga ((6 * k5) + p5) 1)] H := ⟨hP, hD⟩
                have hP := hz9.1
                have hD := hz9.2
                refine lv_iinc (v := nI (p5 + 1)) (lv' := [zI 6 (nI (p5 + 1)), zI 5 (nI k5), zI 4 (fro ((3 * jn) + 1)), zI 3 (fro (3 * jn)), zR 0 h0, zI 1 (nI jn), zI 2 (nI nn)]) hx hb dX6_tellsPlaces_95 hl (k := 0) rfl (nI_add p5 1) (by decide +kernel) rfl (fun ls hl => ?_)
                refine lv_goto (tgt := 36) hx hb dX6_tellsPlaces_98 (by decide +kernel) ?_
                exact ih9_36 (p5 + 1) (upd y36fa ((6 * k5) + p5) (m_X6_heard_h031 ru fst y24ro fmo fkd fcd fsr jn p5 nn)) (upd y36ga ((6 * k5) + p5) 1) ysk_32 yna_33 ykp_34 (m_X6_heard_h031 ru fst y24ro fmo fkd fcd fsr jn p5 nn) (m_X6_heard_h032 ru fst y24ro fmo fkd fcd fsr jn p5 nn) (m_X6_heard_h033 ru fst y24ro fmo fkd fcd fsr jn p5 nn) (m_X6_heard_h034 ru fst y24ro fmo fkd fcd fsr jn p5 nn) (by omega) (Eq.trans (Eq.symm ((congrArg (fun z9 => p_X6_tellsPlaces_36 ru fst fmo fkd fcd fsr jn nn k5 y24ro (z9) p5 y36fa y36ga) (show pb - p5 = pb - (p5 + 1) + 1 by omega)).trans (by show p_X6_tellsPlaces_36 ru fst fmo fkd fcd fsr jn nn k5 y24ro (pb - (p5 + 1) + 1) p5 y36fa y36ga = _; rw [p_X6_tellsPlaces_36, if_neg c_39]))) R36) (by omega) _ _ hP hD hS ls hl
        exact loop_36 (pb - 0 + 1) 0 y24fa y24ga x24sk x24na x24kp zz31 zz32 zz33 zz34 (by omega) (rfl) (by omega) _ _ hP hD hS ls hl
  exact loop_24 (pb - 0 + 1) 0 fro ffa fga fsk fna fkp s31 s32 s33 s34 (by omega) (rfl) (by omega) _ _ hP hD hS ls hl
noncomputable def p_X6_tells_26 (pb : Nat) (ffa : Nat → Int32) (fga : Nat → Int32) (v2 : Int32) : Nat → Nat → Nat → Int32 → Int32 → Int32 → Int32 → Nat × Nat × Int32 × Int32 × Int32 × Int32
  | 0, k9, re, se, te, z39v, z40v => (k9, re, se, te, z39v, z40v)
  | q9 + 1, k9, re, se, te, z39v, z40v => if v2 = 0 then p_X6_tells_26 pb ffa fga v2 q9 (k9 + 1) (re / pb) (se ||| (1 <<< ((nI (re % pb)) &&& 31))) (te * 10) (z39v + (ffa ((6 * (pb - k9 - 1)) + (re % pb)))) (z40v + (te * (nI ((re % pb) + 1)))) else p_X6_tells_26 pb ffa fga v2 q9 (k9 + 1) (re / pb) (se ||| (1 <<< ((nI (re % pb)) &&& 31))) (te * 10) (z39v + (fga ((6 * (pb - k9 - 1)) + (re % pb)))) (z40v + (te * (nI ((re % pb) + 1))))
noncomputable def g_X6_tells_26 (pb : Nat) (ffa : Nat → Int32) (fga : Nat → Int32) (v2 : Int32) (nu : Nat) : Nat × Nat × Int32 × Int32 × Int32 × Int32 := p_X6_tells_26 pb ffa fga v2 (pb - 0) 0 nu 0 1 0 0
noncomputable def m_X6_tells (pb : Nat) (ffa : Nat → Int32) (fga : Nat → Int32) (v2 : Int32) (nu : Nat) : Int32 := if ((g_X6_tells_26 pb ffa fga v2 nu).2.2.1) = ((1 <<< ((nI pb) &&& 31)) - 1) then 1 else 0
noncomputable def m_X6_tells_h039 (pb : Nat) (ffa : Nat → Int32) (fga : Nat → Int32) (v2 : Int32) (nu : Nat) : Int32 := ((g_X6_tells_26 pb ffa fga v2 nu).2.2.2.2.1)
noncomputable def m_X6_tells_h040 (pb : Nat) (ffa : Nat → Int32) (fga : Nat → Int32) (v2 : Int32) (nu : Nat) : Int32 := ((g_X6_tells_26 pb ffa fga v2 nu).2.2.2.2.2)
abbrev q_X6_tells (G : gG) (h0 kd mo st ro tp cd sr ir ih ss sq ce lw wo he sk na kp gb go fa ga vo : Nat) (pb : Nat) (jg : Nat) (td : Nat) (tx : Nat) (ru : Nat) (him : Int32) (s19 : Int32) (s20 : Int32) (s21 : Int32) (s22 : Int32) (s25 : Int32) (s26 : Int32) (s27 : Int32) (s31 : Int32) (s32 : Int32) (s33 : Int32) (s34 : Int32) (s39 : Int32) (s40 : Int32) (ffa : Nat → Int32) (fga : Nat → Int32) (v2 : Int32) (nu : Nat) (A : Nat → Prop) : Array Value → State → Outcome → State → Prop := va_Qi (fun (r : Int32) (u : Unit) => match u with | _ => r = m_X6_tells pb ffa fga v2 nu) (fun (u : Unit) t => match u with | _ => va_P G.1 vwCl [zo6 h0 (nI pb) kd mo st (nI jg) ro tp (nI td) cd sr (nI tx) (nI ru) him ir ih ss sq ce lw s19 s20 s21 s22 wo he s25 s26 s27 sk na kp s31 s32 s33 s34 gb go fa ga (m_X6_tells_h039 pb ffa fga v2 nu) (m_X6_tells_h040 pb ffa fga v2 nu) vo, zi G fa 36 ffa, zi G ga 36 fga] t.heap ∧ gK G t ∧ va_D A [zo6 h0 (nI pb) kd mo st (nI jg) ro tp (nI td) cd sr (nI tx) (nI ru) him ir ih ss sq ce lw s19 s20 s21 s22 wo he s25 s26 s27 sk na kp s31 s32 s33 s34 gb go fa ga (m_X6_tells_h039 pb ffa fga v2 nu) (m_X6_tells_h040 pb ffa fga v2 nu) vo, zi G fa 36 ffa, zi G ga 36 fga]) A
set_option maxHeartbeats 4000000 in
set_option maxRecDepth 100000 in
theorem c_X6_tells (l : Launch) (G : gG) (h0 kd mo st ro tp cd sr ir ih ss sq ce lw wo he sk na kp gb go fa ga vo : Nat) (pb : Nat) (jg : Nat) (td : Nat) (tx : Nat) (ru : Nat) (him : Int32) (s19 : Int32) (s20 : Int32) (s21 : Int32) (s22 : Int32) (s25 : Int32) (s26 : Int32) (s27 : Int32) (s31 : Int32) (s32 : Int32) (s33 : Int32) (s34 : Int32) (s39 : Int32) (s40 : Int32) (ffa : Nat → Int32) (fga : Nat → Int32) (v2 : Int32) (nu : Nat) (sz : Nat) (hnu : nu ≤ 100000) (hpb : pb ≤ 6) (hjg : jg ≤ 4) (htx : tx ≤ 6) (hru : ru < tx) : Met l yX6_tells wsX6_tells ({ frames := 0, cells := 0, slots := 0, locals := 0 }) (gPre G [.ref h0, .int (nI nu), .int v2] [zo6 h0 (nI pb) kd mo st (nI jg) ro tp (nI td) cd sr (nI tx) (nI ru) him ir ih ss sq ce lw s19 s20 s21 s22 wo he s25 s26 s27 sk na kp s31 s32 s33 s34 gb go fa ga s39 s40 vo, zi G fa 36 ffa, zi G ga 36 fga] sz) (q_X6_tells G h0 kd mo st ro tp cd sr ir ih ss sq ce lw wo he sk na kp gb go fa ga vo pb jg td tx ru him s19 s20 s21 s22 s25 s26 s27 s31 s32 s33 s34 s39 s40 ffa fga v2 nu (va_A [zo6 h0 (nI pb) kd mo st (nI jg) ro tp (nI td) cd sr (nI tx) (nI ru) him ir ih ss sq ce lw s19 s20 s21 s22 wo he s25 s26 s27 sk na kp s31 s32 s33 s34 gb go fa ga s39 s40 vo, zi G fa 36 ffa, zi G ga 36 fga] sz)) 0 0 (va_A [zo6 h0 (nI pb) kd mo st (nI jg) ro tp (nI td) cd sr (nI tx) (nI ru) him ir ih ss sq ce lw s19 s20 s21 s22 wo he s25 s26 s27 sk na kp s31 s32 s33 s34 gb go fa ga s39 s40 vo, zi G fa 36 ffa, zi G ga 36 fga] sz) := by
  refine Met.ofW (cc := cX6_tells) (maxL := 8) (ret := (some .boolean)) (by decide +kernel) rfl ?_
  intro p e s m args below meth c s₁ B hml hv
  obtain ⟨rfl, hsz, hP, hK, hD0⟩ := hv
  have hx := B.exec
  have hb := B.bytes
  have hr := B.returns
  have hts := atoms_spec (ws := wsX6_tells) B.pre
  have hown : s.vm.findClass RX6 = some m.cls := findClass_of_methodNamed B.named
  have hlocks := B.notSynchronized
  subst hsz
  have hD := hD0.self (sz := s.heap.size)
  generalize hAe : va_A [zo6 h0 (nI pb) kd mo st (nI jg) ro tp (nI td) cd sr (nI tx) (nI ru) him ir ih ss sq ce lw s19 s20 s21 s22 wo he s25 s26 s27 sk na kp s31 s32 s33 s34 gb go fa ga s39 s40 vo, zi G fa 36 ffa, zi G ga 36 fga] s.heap.size = A at hD ⊢
  have hA : ∀ q : Nat, s.heap.size ≤ q → A q := fun q h => by rw [← hAe]; exact Or.inr h
  have hS : va_S A s.heap s.heap [] := va_S.rf
  have hz9 : gPD G A [zo6 h0 (nI pb) kd mo st (nI jg) ro tp (nI td) cd sr (nI tx) (nI ru) him ir ih ss sq ce lw s19 s20 s21 s22 wo he s25 s26 s27 sk na kp s31 s32 s33 s34 gb go fa ga s39 s40 vo, zi G fa 36 ffa, zi G ga 36 fga] s.heap := ⟨hP, hD⟩
  have hP := hz9.1
  have hD := hz9.2
  have hl := lv_entry ([.ref h0, .int (nI nu), .int v2]) (n := 8) (Nat.le_of_ble_eq_true rfl)
  rw [lg_entry_eq]
  generalize (lg_sl ([.ref h0, .int (nI nu), .int v2]) ++ List.replicate (8 - (lg_sl ([.ref h0, .int (nI nu), .int v2])).length) Slot.unset).toArray = ls at hl ⊢
  have hl : lv_has ls 8 [zR 0 h0, zI 1 (nI nu), zI 2 v2] := hl
  have kf231 := hts (.fieldLink RX6 231 "PebbleInShoeModel" "orderValue" "I") (by decide +kernel)
  have hiX6 := (by decide +kernel : ∀ w ∈ wsX60, w ∈ wsX6_tells)
  have kf234 := hts (.fieldLink RX6 234 "PebbleInShoeModel" "orderDigits" "I") (by decide +kernel)
  have kf88 := hts (.fieldLink RX6 88 "PebbleInShoeModel" "pebbles" "I") (by decide +kernel)
  have kf74 := hts (.fieldLink RX6 74 "PebbleInShoeModel" "guiltyAs" "[I") (by decide +kernel)
  have kf71 := hts (.fieldLink RX6 71 "PebbleInShoeModel" "feltAs" "[I") (by decide +kernel)
  refine lv_iload_n hx hb dX6_tells_0 rfl (lv_at hl 1 rfl) ?_
  refine lv_istore_n (lv' := [zI 3 (nI nu), zR 0 h0, zI 1 (nI nu), zI 2 v2]) hx hb dX6_tells_1 rfl hl (by decide +kernel) rfl (fun ls hl => ?_)
  refine lv_iconst (v := 0) hx hb dX6_tells_2 (by decide +kernel) ?_
  refine lv_istore (lv' := [zI 4 0, zI 3 (nI nu), zR 0 h0, zI 1 (nI nu), zI 2 v2]) hx hb dX6_tells_3 hl (by decide +kernel) rfl (fun ls hl => ?_)
  refine lv_iconst (v := 1) hx hb dX6_tells_5 (by decide +kernel) ?_
  refine lv_istore (lv' := [zI 5 1, zI 4 0, zI 3 (nI nu), zR 0 h0, zI 1 (nI nu), zI 2 v2]) hx hb dX6_tells_6 hl (by decide +kernel) rfl (fun ls hl => ?_)
  refine lv_aload_n hx hb dX6_tells_8 rfl (lv_at hl 3 rfl) ?_
  refine lv_iconst (v := 0) hx hb dX6_tells_9 (by decide +kernel) ?_
  refine va_put (D := G.1) (ci := 6) (v := .int 0) (ty := .int) (C := RX6) (T := TX6) (N := 42) hx hb hts hiX6 tyX6 tyX6_ok nmX6 hown hK hP hD hS 0 rfl rfl 39 (by decide +kernel) kf231 (fun _ h9 => h9) rfl (by decide +kernel) rfl rfl (Nat.le_of_ble_eq_true rfl) dX6_tells_10 (fun H locs hP hD hS => ?_)
  have hz9 : gPD G A [zo6 h0 (nI pb) kd mo st (nI jg) ro tp (nI td) cd sr (nI tx) (nI ru) him ir ih ss sq ce lw s19 s20 s21 s22 wo he s25 s26 s27 sk na kp s31 s32 s33 s34 gb go fa ga 0 s40 vo, zi G fa 36 ffa, zi G ga 36 fga] H := ⟨hP, hD⟩
  have hP := hz9.1
  have hD := hz9.2
  refine lv_aload_n hx hb dX6_tells_13 rfl (lv_at hl 3 rfl) ?_
  refine lv_iconst (v := 0) hx hb dX6_tells_14 (by decide +kernel) ?_
  refine va_put (D := G.1) (ci := 6) (v := .int 0) (ty := .int) (C := RX6) (T := TX6) (N := 42) hx hb hts hiX6 tyX6 tyX6_ok nmX6 hown hK hP hD hS 0 rfl rfl 40 (by decide +kernel) kf234 (fun _ h9 => h9) rfl (by decide +kernel) rfl rfl (Nat.le_of_ble_eq_true rfl) dX6_tells_15 (fun H locs hP hD hS => ?_)
  have hz9 : gPD G A [zo6 h0 (nI pb) kd mo st (nI jg) ro tp (nI td) cd sr (nI tx) (nI ru) him ir ih ss sq ce lw s19 s20 s21 s22 wo he s25 s26 s27 sk na kp s31 s32 s33 s34 gb go fa ga 0 0 vo, zi G fa 36 ffa, zi G ga 36 fga] H := ⟨hP, hD⟩
  have hP := hz9.1
  have hD := hz9.2
  refine g_aget (D := G.1) (ci := 6) (v := .int (nI pb)) (C := RX6) (T := TX6) (N := 42) hx hb dX6_tells_18 rfl (lv_at hl 3 rfl) hts hiX6 hown hK hP 0 rfl rfl 0 (by decide +kernel) kf88 (fun _ h9 => h9) rfl dX6_tells_19 ?_
  refine lv_iconst (v := 1) hx hb dX6_tells_22 (by decide +kernel) ?_
  refine lv_isub hx hb dX6_tells_23 ?_
  refine lv_istore (lv' := [zI 6 ((nI pb) - 1), zI 5 1, zI 4 0, zI 3 (nI nu), zR 0 h0, zI 1 (nI nu), zI 2 v2]) hx hb dX6_tells_24 hl (by decide +kernel) rfl (fun ls hl => ?_)
  have loop_26 : ∀ (n9 : Nat) (k9 : Nat) (re : Nat) (se : Int32) (te : Int32) (z39v : Int32) (z40v : Int32), (k9 ≤ pb) → (p_X6_tells_26 pb ffa fga v2 (pb - k9) k9 re se te z39v z40v = (g_X6_tells_26 pb ffa fga v2 nu)) → (re ≤ 100000) → (pb - k9) < n9 → ∀ (H : Heap) (locs : List Loc), va_P G.1 vwCl [zo6 h0 (nI pb) kd mo st (nI jg) ro tp (nI td) cd sr (nI tx) (nI ru) him ir ih ss sq ce lw s19 s20 s21 s22 wo he s25 s26 s27 sk na kp s31 s32 s33 s34 gb go fa ga z39v z40v vo, zi G fa 36 ffa, zi G ga 36 fga] H → va_D A [zo6 h0 (nI pb) kd mo st (nI jg) ro tp (nI td) cd sr (nI tx) (nI ru) him ir ih ss sq ce lw s19 s20 s21 s22 wo he s25 s26 s27 sk na kp s31 s32 s33 s34 gb go fa ga z39v z40v vo, zi G fa 36 ffa, zi G ga 36 fga] → va_S A s.heap H locs → ∀ ls : Array Slot, lv_has ls 8 [zI 6 (nI (pb - k9) - 1), zI 5 te, zI 4 se, zI 3 (nI re), zR 0 h0, zI 1 (nI nu), zI 2 v2] → W p l e (headSpec wsX6_tells ({ frames := 0, cells := 0, slots := 0, locals := 0 })).room s m ([.ref h0, .int (nI nu), .int v2] : List Value).toArray below meth c H locs 0 0 (MQ below (q_X6_tells G h0 kd mo st ro tp cd sr ir ih ss sq ce lw wo he sk na kp gb go fa ga vo pb jg td tx ru him s19 s20 s21 s22 s25 s26 s27 s31 s32 s33 s34 s39 s40 ffa fga v2 nu A) ([.ref h0, .int (nI nu), .int v2] : List Value).toArray s 0 0 A) (F0 m 26 ls []) := by
    intro n9
    induction n9 with
    | zero => intro k9 re se te z39v z40v hk9 R26 hre hm9_26; exact absurd hm9_26 (Nat.not_lt_zero _)
    | succ n9 ih9_26 =>
      intro k9 re se te z39v z40v hk9 R26 hre hm9_26 H locs hP hD hS ls hl
      refine lv_iload hx hb dX6_tells_26 (lv_at hl 0 rfl) ?_
      refine lv_if_lt (tgt := 126) hx hb dX6_tells_28 (by decide +kernel) (fun c_1 => ?_) (fun c_1 => ?_)
      · skip
        have hxd : pb - k9 = 0 := nI_neg1 (by omega) c_1
        have hF26 : (g_X6_tells_26 pb ffa fga v2 nu) = (k9, re, se, te, z39v, z40v) := by rw [← R26, show pb - k9 = 0 by omega]; rfl
        have hE26_0 : k9 = ((g_X6_tells_26 pb ffa fga v2 nu).1) := by rw [hF26]
        have hE26_1 : re = ((g_X6_tells_26 pb ffa fga v2 nu).2.1) := by rw [hF26]
        have hE26_2 : se = ((g_X6_tells_26 pb ffa fga v2 nu).2.2.1) := by rw [hF26]
        have hE26_3 : te = ((g_X6_tells_26 pb ffa fga v2 nu).2.2.2.1) := by rw [hF26]
        have hE26_4 : z39v = ((g_X6_tells_26 pb ffa fga v2 nu).2.2.2.2.1) := by rw [hF26]
        have hE26_5 : z40v = ((g_X6_tells_26 pb ffa fga v2 nu).2.2.2.2.2) := by rw [hF26]
        clear hF26 R26
        subst hE26_0
        subst hE26_1
        subst hE26_2
        subst hE26_3
        subst hE26_4
        subst hE26_5
        refine lv_iload hx hb dX6_tells_126 (lv_at hl 2 rfl) ?_
        refine lv_iconst (v := 1) hx hb dX6_tells_128 (by decide +kernel) ?_
        refine g_aget (D := G.1) (ci := 6) (v := .int (nI pb)) (C := RX6) (T := TX6) (N := 42) hx hb dX6_tells_129 rfl (lv_at hl 4 rfl) hts hiX6 hown hK hP 0 rfl rfl 0 (by decide +kernel) kf88 (fun _ h9 => h9) rfl dX6_tells_130 ?_
        refine lv_ishl hx hb dX6_tells_133 ?_
        refine lv_iconst (v := 1) hx hb dX6_tells_134 (by decide +kernel) ?_
        refine lv_isub hx hb dX6_tells_135 ?_
        refine lv_icmp_ne (tgt := 143) hx hb dX6_tells_136 (by decide +kernel) (fun c_2 => ?_) (fun c_2 => ?_)
        · skip
          refine lv_iconst (v := 0) hx hb dX6_tells_143 (by decide +kernel) ?_
          have q_3 : m_X6_tells_h039 pb ffa fga v2 nu = ((g_X6_tells_26 pb ffa fga v2 nu).2.2.2.2.1) := rfl
          have q_4 : m_X6_tells_h040 pb ffa fga v2 nu = ((g_X6_tells_26 pb ffa fga v2 nu).2.2.2.2.2) := rfl
          have hz9 : gPD G A [zo6 h0 (nI pb) kd mo st (nI jg) ro tp (nI td) cd sr (nI tx) (nI ru) him ir ih ss sq ce lw s19 s20 s21 s22 wo he s25 s26 s27 sk na kp s31 s32 s33 s34 gb go fa ga (m_X6_tells_h039 pb ffa fga v2 nu) (m_X6_tells_h040 pb ffa fga v2 nu) vo, zi G fa 36 ffa, zi G ga 36 fga] H := ⟨by rw [q_3, q_4]; exact hP, by rw [q_3, q_4]; exact hD⟩
          have hP9 := hz9.1
          have hD9 := hz9.2
          have hpost : (fun (r : Int32) (u : Unit) => match u with | _ => r = m_X6_tells pb ffa fga v2 nu) 0 () := (show m_X6_tells pb ffa fga v2 nu = 0 from by unfold m_X6_tells; rw [if_neg c_2]).symm
          exact W.zret (v := 0) hx hb hr (rfl) (fun t ht hW => ⟨⟨0, (), rfl, hpost, by rw [ht]; exact hP9, va_K.moved hW.alike hK, hD9⟩, hS.F ht⟩) hS.2.2 dX6_tells_144
        · skip
          refine lv_iconst (v := 1) hx hb dX6_tells_139 (by decide +kernel) ?_
          refine lv_goto (tgt := 144) hx hb dX6_tells_140 (by decide +kernel) ?_
          have q_5 : m_X6_tells_h039 pb ffa fga v2 nu = ((g_X6_tells_26 pb ffa fga v2 nu).2.2.2.2.1) := rfl
          have q_6 : m_X6_tells_h040 pb ffa fga v2 nu = ((g_X6_tells_26 pb ffa fga v2 nu).2.2.2.2.2) := rfl
          have hz9 : gPD G A [zo6 h0 (nI pb) kd mo st (nI jg) ro tp (nI td) cd sr (nI tx) (nI ru) him ir ih ss sq ce lw s19 s20 s21 s22 wo he s25 s26 s27 sk na kp s31 s32 s33 s34 gb go fa ga (m_X6_tells_h039 pb ffa fga v2 nu) (m_X6_tells_h040 pb ffa fga v2 nu) vo, zi G fa 36 ffa, zi G ga 36 fga] H := ⟨by rw [q_5, q_6]; exact hP, by rw [q_5, q_6]; exact hD⟩
          have hP9 := hz9.1
          have hD9 := hz9.2
          have hpost : (fun (r : Int32) (u : Unit) => match u with | _ => r = m_X6_tells pb ffa fga v2 nu) 1 () := (show m_X6_tells pb ffa fga v2 nu = 1 from by unfold m_X6_tells; rw [if_pos c_2]).symm
          exact W.zret (v := 1) hx hb hr (rfl) (fun t ht hW => ⟨⟨1, (), rfl, hpost, by rw [ht]; exact hP9, va_K.moved hW.alike hK, hD9⟩, hS.F ht⟩) hS.2.2 dX6_tells_144
      · skip
        have hxd : 0 < pb - k9 := nI_nneg1 c_1
        have e9 : nI (pb - k9) - 1 = nI (pb - k9 - 1) := pk_sub (a := pb - k9) (b := 1) (by omega)
        rw [e9] at hl
        have hl : lv_has ls 8 [zI 6 (nI (pb - k9 - 1)), zI 5 te, zI 4 se, zI 3 (nI re), zR 0 h0, zI 1 (nI nu), zI 2 v2] := hl
        refine lv_iload_n hx hb dX6_tells_31 rfl (lv_at hl 3 rfl) ?_
        refine g_aget (D := G.1) (ci := 6) (v := .int (nI pb)) (C := RX6) (T := TX6) (N := 42) hx hb dX6_tells_32 rfl (lv_at hl 4 rfl) hts hiX6 hown hK hP 0 rfl rfl 0 (by decide +kernel) kf88 (fun _ h9 => h9) rfl dX6_tells_33 ?_
        refine lv_irem hx hb dX6_tells_36 (nI_ne0 (by omega) (by omega)) ?_
        refine g_topi (y := nI (re % pb)) (nI_rem (a := re) (d := pb) (by omega) (by omega) (by omega)) ?_
        have hmd : re % pb < pb := Nat.mod_lt _ (by omega)
        refine lv_istore (lv' := [zI 7 (nI (re % pb)), zI 6 (nI (pb - k9 - 1)), zI 5 te, zI 4 se, zI 3 (nI re), zR 0 h0, zI 1 (nI nu), zI 2 v2]) hx hb dX6_tells_37 hl (by decide +kernel) rfl (fun ls hl => ?_)
        refine lv_iload_n hx hb dX6_tells_39 rfl (lv_at hl 4 rfl) ?_
        refine g_aget (D := G.1) (ci := 6) (v := .int (nI pb)) (C := RX6) (T := TX6) (N := 42) hx hb dX6_tells_40 rfl (lv_at hl 5 rfl) hts hiX6 hown hK hP 0 rfl rfl 0 (by decide +kernel) kf88 (fun _ h9 => h9) rfl dX6_tells_41 ?_
        refine lv_idiv hx hb dX6_tells_44 (nI_ne0 (by omega) (by omega)) ?_
        refine g_topi (y := nI (re / pb)) (pk_div (a := re) (d := pb) (by omega) (by omega) (by omega)) ?_
        refine lv_istore_n (lv' := [zI 3 (nI (re / pb)), zI 7 (nI (re % pb)), zI 6 (nI (pb - k9 - 1)), zI 5 te, zI 4 se, zR 0 h0, zI 1 (nI nu), zI 2 v2]) hx hb dX6_tells_45 rfl hl (by decide +kernel) rfl (fun ls hl => ?_)
        refine lv_iload hx hb dX6_tells_46 (lv_at hl 4 rfl) ?_
        refine lv_iconst (v := 1) hx hb dX6_tells_48 (by decide +kernel) ?_
        refine lv_iload hx hb dX6_tells_49 (lv_at hl 1 rfl) ?_
        refine lv_ishl hx hb dX6_tells_51 ?_
        refine lv_ior hx hb dX6_tells_52 ?_
        refine lv_istore (lv' := [zI 4 (se ||| (1 <<< ((nI (re % pb)) &&& 31))), zI 3 (nI (re / pb)), zI 7 (nI (re % pb)), zI 6 (nI (pb - k9 - 1)), zI 5 te, zR 0 h0, zI 1 (nI nu), zI 2 v2]) hx hb dX6_tells_53 hl (by decide +kernel) rfl (fun ls hl => ?_)
        refine lv_aload_n hx hb dX6_tells_55 rfl (lv_at hl 5 rfl) ?_
        refine lv_dup hx hb dX6_tells_56 rfl ?_
        refine va_get (D := G.1) (ci := 6) (v := .int z40v) (C := RX6) (T := TX6) (N := 42) hx hb hts hiX6 hown hK hP 0 rfl rfl 40 (by decide +kernel) kf234 (fun _ h9 => h9) rfl dX6_tells_57 ?_
        refine lv_iload hx hb dX6_tells_60 (lv_at hl 4 rfl) ?_
        refine lv_iload hx hb dX6_tells_62 (lv_at hl 2 rfl) ?_
        refine lv_iconst (v := 1) hx hb dX6_tells_64 (by decide +kernel) ?_
        refine lv_iadd hx hb dX6_tells_65 ?_
        refine g_topi (y := nI ((re % pb) + 1)) (nI_add (re % pb) 1) ?_
        refine lv_imul hx hb dX6_tells_66 ?_
        refine lv_iadd hx hb dX6_tells_67 ?_
        refine va_put (D := G.1) (ci := 6) (v := .int (z40v + (te * (nI ((re % pb) + 1))))) (ty := .int) (C := RX6) (T := TX6) (N := 42) hx hb hts hiX6 tyX6 tyX6_ok nmX6 hown hK hP hD hS 0 rfl rfl 40 (by decide +kernel) kf234 (fun _ h9 => h9) rfl (by decide +kernel) rfl rfl (Nat.le_of_ble_eq_true rfl) dX6_tells_68 (fun H locs hP hD hS => ?_)
        have hz9 : gPD G A [zo6 h0 (nI pb) kd mo st (nI jg) ro tp (nI td) cd sr (nI tx) (nI ru) him ir ih ss sq ce lw s19 s20 s21 s22 wo he s25 s26 s27 sk na kp s31 s32 s33 s34 gb go fa ga z39v (z40v + (te * (nI ((re % pb) + 1)))) vo, zi G fa 36 ffa, zi G ga 36 fga] H := ⟨hP, hD⟩
        have hP := hz9.1
        have hD := hz9.2
        refine lv_iload hx hb dX6_tells_71 (lv_at hl 4 rfl) ?_
        refine lv_bipush (v := 10) hx hb dX6_tells_73 (by decide +kernel) ?_
        refine lv_imul hx hb dX6_tells_75 ?_
        refine lv_istore (lv' := [zI 5 (te * 10), zI 4 (se ||| (1 <<< ((nI (re % pb)) &&& 31))), zI 3 (nI (re / pb)), zI 7 (nI (re % pb)), zI 6 (nI (pb - k9 - 1)), zR 0 h0, zI 1 (nI nu), zI 2 v2]) hx hb dX6_tells_76 hl (by decide +kernel) rfl (fun ls hl => ?_)
        refine lv_aload_n hx hb dX6_tells_78 rfl (lv_at hl 5 rfl) ?_
        refine lv_dup hx hb dX6_tells_79 rfl ?_
        refine va_get (D := G.1) (ci := 6) (v := .int z39v) (C := RX6) (T := TX6) (N := 42) hx hb hts hiX6 hown hK hP 0 rfl rfl 39 (by decide +kernel) kf231 (fun _ h9 => h9) rfl dX6_tells_80 ?_
        refine lv_iload_n hx hb dX6_tells_83 rfl (lv_at hl 7 rfl) ?_
        refine lv_if_ne (tgt := 103) hx hb dX6_tells_84 (by decide +kernel) (fun c_10 => ?_) (fun c_10 => ?_)
        · skip
          refine g_aget (D := G.1) (ci := 6) (v := .ref ga) (C := RX6) (T := TX6) (N := 42) hx hb dX6_tells_103 rfl (lv_at hl 5 rfl) hts hiX6 hown hK hP 0 rfl rfl 38 (by decide +kernel) kf74 (fun _ h9 => h9) rfl dX6_tells_104 ?_
          refine lv_bipush (v := 6) hx hb dX6_tells_107 (by decide +kernel) ?_
          refine lv_iload hx hb dX6_tells_109 (lv_at hl 4 rfl) ?_
          refine lv_imul hx hb dX6_tells_111 ?_
          refine g_topi (y := nI (6 * (pb - k9 - 1))) (pk_mul 6 (pb - k9 - 1)) ?_
          refine lv_iload hx hb dX6_tells_112 (lv_at hl 3 rfl) ?_
          refine lv_iadd hx hb dX6_tells_114 ?_
          refine g_topi (y := nI ((6 * (pb - k9 - 1)) + (re % pb))) (nI_add (6 * (pb - k9 - 1)) (re % pb)) ?_
          refine g_iald (D := G.1) hx hb hK hP 2 0 rfl rfl (k := (6 * (pb - k9 - 1)) + (re % pb)) (y := fga ((6 * (pb - k9 - 1)) + (re % pb))) (by omega) rfl rfl dX6_tells_115 ?_
          refine lv_iadd hx hb dX6_tells_116 ?_
          refine va_put (D := G.1) (ci := 6) (v := .int (z39v + (fga ((6 * (pb - k9 - 1)) + (re % pb))))) (ty := .int) (C := RX6) (T := TX6) (N := 42) hx hb hts hiX6 tyX6 tyX6_ok nmX6 hown hK hP hD hS 0 rfl rfl 39 (by decide +kernel) kf231 (fun _ h9 => h9) rfl (by decide +kernel) rfl rfl (Nat.le_of_ble_eq_true rfl) dX6_tells_117 (fun H locs hP hD hS => ?_)
          have hz9 : gPD G A [zo6 h0 (nI pb) kd mo st (nI jg) ro tp (nI td) cd sr (nI tx) (nI ru) him ir ih ss sq ce lw s19 s20 s21 s22 wo he s25 s26 s27 sk na kp s31 s32 s33 s34 gb go fa ga (z39v + (fga ((6 * (pb - k9 - 1)) + (re % pb)))) (z40v + (te * (nI ((re % pb) + 1)))) vo, zi G fa 36 ffa, zi G ga 36 fga] H := ⟨hP, hD⟩
          have hP := hz9.1
          have hD := hz9.2
          refine lv_iinc (v := nI (pb - (k9 + 1)) - 1) (lv' := [zI 6 (nI (pb - (k9 + 1)) - 1), zI 5 (te * 10), zI 4 (se ||| (1 <<< ((nI (re % pb)) &&& 31))), zI 3 (nI (re / pb)), zI 7 (nI (re % pb)), zR 0 h0, zI 1 (nI nu), zI 2 v2]) hx hb dX6_tells_120 hl (k := 4) rfl (show nI (pb - k9 - 1) + (-1) = nI (pb - (k9 + 1)) - 1 from by rw [nI_p1, show pb - (k9 + 1) = pb - k9 - 1 by omega]) (by decide +kernel) rfl (fun ls hl => ?_)
          refine lv_goto (tgt := 26) hx hb dX6_tells_123 (by decide +kernel) ?_
          exact ih9_26 (k9 + 1) (re / pb) (se ||| (1 <<< ((nI (re % pb)) &&& 31))) (te * 10) (z39v + (fga ((6 * (pb - k9 - 1)) + (re % pb)))) (z40v + (te * (nI ((re % pb) + 1)))) (by omega) (Eq.trans (Eq.symm ((congrArg (fun z9 => p_X6_tells_26 pb ffa fga v2 (z9) k9 re se te z39v z40v) (show pb - k9 = pb - (k9 + 1) + 1 by omega)).trans (by show p_X6_tells_26 pb ffa fga v2 (pb - (k9 + 1) + 1) k9 re se te z39v z40v = _; rw [p_X6_tells_26, if_neg c_10]))) R26) (Nat.le_trans (Nat.div_le_self _ _) hre) (by omega) _ _ hP hD hS ls (lv_sub hl [0, 1, 2, 3, 5, 6, 7] rfl)
        · skip
          refine g_aget (D := G.1) (ci := 6) (v := .ref fa) (C := RX6) (T := TX6) (N := 42) hx hb dX6_tells_87 rfl (lv_at hl 5 rfl) hts hiX6 hown hK hP 0 rfl rfl 37 (by decide +kernel) kf71 (fun _ h9 => h9) rfl dX6_tells_88 ?_
          refine lv_bipush (v := 6) hx hb dX6_tells_91 (by decide +kernel) ?_
          refine lv_iload hx hb dX6_tells_93 (lv_at hl 4 rfl) ?_
          refine lv_imul hx hb dX6_tells_95 ?_
          refine g_topi (y := nI (6 * (pb - k9 - 1))) (pk_mul 6 (pb - k9 - 1)) ?_
          refine lv_iload hx hb dX6_tells_96 (lv_at hl 3 rfl) ?_
          refine lv_iadd hx hb dX6_tells_98 ?_
          refine g_topi (y := nI ((6 * (pb - k9 - 1)) + (re % pb))) (nI_add (6 * (pb - k9 - 1)) (re % pb)) ?_
          refine g_iald (D := G.1) hx hb hK hP 1 0 rfl rfl (k := (6 * (pb - k9 - 1)) + (re % pb)) (y := ffa ((6 * (pb - k9 - 1)) + (re % pb))) (by omega) rfl rfl dX6_tells_99 ?_
          refine lv_goto (tgt := 116) hx hb dX6_tells_100 (by decide +kernel) ?_
          refine lv_iadd hx hb dX6_tells_116 ?_
          refine va_put (D := G.1) (ci := 6) (v := .int (z39v + (ffa ((6 * (pb - k9 - 1)) + (re % pb))))) (ty := .int) (C := RX6) (T := TX6) (N := 42) hx hb hts hiX6 tyX6 tyX6_ok nmX6 hown hK hP hD hS 0 rfl rfl 39 (by decide +kernel) kf231 (fun _ h9 => h9) rfl (by decide +kernel) rfl rfl (Nat.le_of_ble_eq_true rfl) dX6_tells_117 (fun H locs hP hD hS => ?_)
          have hz9 : gPD G A [zo6 h0 (nI pb) kd mo st (nI jg) ro tp (nI td) cd sr (nI tx) (nI ru) him ir ih ss sq ce lw s19 s20 s21 s22 wo he s25 s26 s27 sk na kp s31 s32 s33 s34 gb go fa ga (z39v + (ffa ((6 * (pb - k9 - 1)) + (re % pb)))) (z40v + (te * (nI ((re % pb) + 1)))) vo, zi G fa 36 ffa, zi G ga 36 fga] H := ⟨hP, hD⟩
          have hP := hz9.1
          have hD := hz9.2
          refine lv_iinc (v := nI (pb - (k9 + 1)) - 1) (lv' := [zI 6 (nI (pb - (k9 + 1)) - 1), zI 5 (te * 10), zI 4 (se ||| (1 <<< ((nI (re % pb)) &&& 31))), zI 3 (nI (re / pb)), zI 7 (nI (re % pb)), zR 0 h0, zI 1 (nI nu), zI 2 v2]) hx hb dX6_tells_120 hl (k := 4) rfl (show nI (pb - k9 - 1) + (-1) = nI (pb - (k9 + 1)) - 1 from by rw [nI_p1, show pb - (k9 + 1) = pb - k9 - 1 by omega]) (by decide +kernel) rfl (fun ls hl => ?_)
          refine lv_goto (tgt := 26) hx hb dX6_tells_123 (by decide +kernel) ?_
          exact ih9_26 (k9 + 1) (re / pb) (se ||| (1 <<< ((nI (re % pb)) &&& 31))) (te * 10) (z39v + (ffa ((6 * (pb - k9 - 1)) + (re % pb)))) (z40v + (te * (nI ((re % pb) + 1)))) (by omega) (Eq.trans (Eq.symm ((congrArg (fun z9 => p_X6_tells_26 pb ffa fga v2 (z9) k9 re se te z39v z40v) (show pb - k9 = pb - (k9 + 1) + 1 by omega)).trans (by show p_X6_tells_26 pb ffa fga v2 (pb - (k9 + 1) + 1) k9 re se te z39v z40v = _; rw [p_X6_tells_26, if_pos c_10]))) R26) (Nat.le_trans (Nat.div_le_self _ _) hre) (by omega) _ _ hP hD hS ls (lv_sub hl [0, 1, 2, 3, 5, 6, 7] rfl)
  exact loop_26 (pb - 0 + 1) 0 nu 0 1 0 0 (by omega) (rfl) (hnu) (by omega) _ _ hP hD hS ls hl
noncomputable def p_X6_order_62 (pb : Nat) : Nat → Nat → Nat → Nat × Nat
  | 0, i62, nu => (i62, nu)
  | q9 + 1, i62, nu => p_X6_order_62 pb q9 (i62 + 1) (nu * pb)
noncomputable def g_X6_order_62 (pb : Nat) : Nat × Nat := p_X6_order_62 pb (pb - 0) 0 1
noncomputable def p_X6_order_95 (pb : Nat) (ru : Nat) (fst : Nat → Int32) (fro : Nat → Int32) (fmo : Nat → Int32) (fkd : Nat → Int32) (fcd : Nat → Int32) (fsr : Nat → Nat) (ffa : Nat → Int32) (fga : Nat → Int32) (v0 : Int32) (v1 : Int32) (v2 : Int32) : Nat → Nat → Int32 → Int32 → Int32 → Int32 → Nat × Int32 × Int32 × Int32 × Int32
  | 0, n95, be, le, z39w, z40w => (n95, be, le, z39w, z40w)
  | q9 + 1, n95, be, le, z39w, z40w => if (m_X6_tells pb (m_X6_tellsPlaces_fa pb ru fst fro fmo fkd fcd fsr ffa fga (nC v0) (nC v1)) (m_X6_tellsPlaces_ga pb ru fst fro fmo fkd fcd fsr ffa fga (nC v0) (nC v1)) (nI ((nC v2) / 10)) n95) = 0 then p_X6_order_95 pb ru fst fro fmo fkd fcd fsr ffa fga v0 v1 v2 q9 (n95 + 1) be le (m_X6_tells_h039 pb (m_X6_tellsPlaces_fa pb ru fst fro fmo fkd fcd fsr ffa fga (nC v0) (nC v1)) (m_X6_tellsPlaces_ga pb ru fst fro fmo fkd fcd fsr ffa fga (nC v0) (nC v1)) (nI ((nC v2) / 10)) n95) (m_X6_tells_h040 pb (m_X6_tellsPlaces_fa pb ru fst fro fmo fkd fcd fsr ffa fga (nC v0) (nC v1)) (m_X6_tellsPlaces_ga pb ru fst fro fmo fkd fcd fsr ffa fga (nC v0) (nC v1)) (nI ((nC v2) / 10)) n95) else (if be = (-1) then p_X6_order_95 pb ru fst fro fmo fkd fcd fsr ffa fga v0 v1 v2 q9 (n95 + 1) (m_X6_tells_h040 pb (m_X6_tellsPlaces_fa pb ru fst fro fmo fkd fcd fsr ffa fga (nC v0) (nC v1)) (m_X6_tellsPlaces_ga pb ru fst fro fmo fkd fcd fsr ffa fga (nC v0) (nC v1)) (nI ((nC v2) / 10)) n95) (m_X6_tells_h039 pb (m_X6_tellsPlaces_fa pb ru fst fro fmo fkd fcd fsr ffa fga (nC v0) (nC v1)) (m_X6_tellsPlaces_ga pb ru fst fro fmo fkd fcd fsr ffa fga (nC v0) (nC v1)) (nI ((nC v2) / 10)) n95) (m_X6_tells_h039 pb (m_X6_tellsPlaces_fa pb ru fst fro fmo fkd fcd fsr ffa fga (nC v0) (nC v1)) (m_X6_tellsPlaces_ga pb ru fst fro fmo fkd fcd fsr ffa fga (nC v0) (nC v1)) (nI ((nC v2) / 10)) n95) (m_X6_tells_h040 pb (m_X6_tellsPlaces_fa pb ru fst fro fmo fkd fcd fsr ffa fga (nC v0) (nC v1)) (m_X6_tellsPlaces_ga pb ru fst fro fmo fkd fcd fsr ffa fga (nC v0) (nC v1)) (nI ((nC v2) / 10)) n95) else (if le ≤ (m_X6_tells_h039 pb (m_X6_tellsPlaces_fa pb ru fst fro fmo fkd fcd fsr ffa fga (nC v0) (nC v1)) (m_X6_tellsPlaces_ga pb ru fst fro fmo fkd fcd fsr ffa fga (nC v0) (nC v1)) (nI ((nC v2) / 10)) n95) then p_X6_order_95 pb ru fst fro fmo fkd fcd fsr ffa fga v0 v1 v2 q9 (n95 + 1) be le (m_X6_tells_h039 pb (m_X6_tellsPlaces_fa pb ru fst fro fmo fkd fcd fsr ffa fga (nC v0) (nC v1)) (m_X6_tellsPlaces_ga pb ru fst fro fmo fkd fcd fsr ffa fga (nC v0) (nC v1)) (nI ((nC v2) / 10)) n95) (m_X6_tells_h040 pb (m_X6_tellsPlaces_fa pb ru fst fro fmo fkd fcd fsr ffa fga (nC v0) (nC v1)) (m_X6_tellsPlaces_ga pb ru fst fro fmo fkd fcd fsr ffa fga (nC v0) (nC v1)) (nI ((nC v2) / 10)) n95) else p_X6_order_95 pb ru fst fro fmo fkd fcd fsr ffa fga v0 v1 v2 q9 (n95 + 1) (m_X6_tells_h040 pb (m_X6_tellsPlaces_fa pb ru fst fro fmo fkd fcd fsr ffa fga (nC v0) (nC v1)) (m_X6_tellsPlaces_ga pb ru fst fro fmo fkd fcd fsr ffa fga (nC v0) (nC v1)) (nI ((nC v2) / 10)) n95) (m_X6_tells_h039 pb (m_X6_tellsPlaces_fa pb ru fst fro fmo fkd fcd fsr ffa fga (nC v0) (nC v1)) (m_X6_tellsPlaces_ga pb ru fst fro fmo fkd fcd fsr ffa fga (nC v0) (nC v1)) (nI ((nC v2) / 10)) n95) (m_X6_tells_h039 pb (m_X6_tellsPlaces_fa pb ru fst fro fmo fkd fcd fsr ffa fga (nC v0) (nC v1)) (m_X6_tellsPlaces_ga pb ru fst fro fmo fkd fcd fsr ffa fga (nC v0) (nC v1)) (nI ((nC v2) / 10)) n95) (m_X6_tells_h040 pb (m_X6_tellsPlaces_fa pb ru fst fro fmo fkd fcd fsr ffa fga (nC v0) (nC v1)) (m_X6_tellsPlaces_ga pb ru fst fro fmo fkd fcd fsr ffa fga (nC v0) (nC v1)) (nI ((nC v2) / 10)) n95)))
noncomputable def g_X6_order_95 (pb : Nat) (ru : Nat) (s39 : Int32) (s40 : Int32) (fst : Nat → Int32) (fro : Nat → Int32) (fmo : Nat → Int32) (fkd : Nat → Int32) (fcd : Nat → Int32) (fsr : Nat → Nat) (ffa : Nat → Int32) (fga : Nat → Int32) (v0 : Int32) (v1 : Int32) (v2 : Int32) : Nat × Int32 × Int32 × Int32 × Int32 := p_X6_order_95 pb ru fst fro fmo fkd fcd fsr ffa fga v0 v1 v2 ((g_X6_order_62 pb).2 - 0) 0 (-1) 0 s39 s40
noncomputable def p_X6_order_62q1 (pb : Nat) : Nat → Nat → Nat → Nat × Nat
  | 0, i62, nu => (i62, nu)
  | q9 + 1, i62, nu => p_X6_order_62q1 pb q9 (i62 + 1) (nu * pb)
noncomputable def g_X6_order_62q1 (pb : Nat) : Nat × Nat := p_X6_order_62q1 pb (pb - 0) 0 0
noncomputable def p_X6_order_95q1 (pb : Nat) (ru : Nat) (fst : Nat → Int32) (fro : Nat → Int32) (fmo : Nat → Int32) (fkd : Nat → Int32) (fcd : Nat → Int32) (fsr : Nat → Nat) (ffa : Nat → Int32) (fga : Nat → Int32) (v0 : Int32) (v1 : Int32) (v2 : Int32) : Nat → Nat → Int32 → Int32 → Int32 → Int32 → Nat × Int32 × Int32 × Int32 × Int32
  | 0, n95, be, le, z39w, z40w => (n95, be, le, z39w, z40w)
  | q9 + 1, n95, be, le, z39w, z40w => if (m_X6_tells pb (m_X6_tellsPlaces_fa pb ru fst fro fmo fkd fcd fsr ffa fga (nC v0) (nC v1)) (m_X6_tellsPlaces_ga pb ru fst fro fmo fkd fcd fsr ffa fga (nC v0) (nC v1)) (nI ((nC v2) / 10)) n95) = 0 then p_X6_order_95q1 pb ru fst fro fmo fkd fcd fsr ffa fga v0 v1 v2 q9 (n95 + 1) be le (m_X6_tells_h039 pb (m_X6_tellsPlaces_fa pb ru fst fro fmo fkd fcd fsr ffa fga (nC v0) (nC v1)) (m_X6_tellsPlaces_ga pb ru fst fro fmo fkd fcd fsr ffa fga (nC v0) (nC v1)) (nI ((nC v2) / 10)) n95) (m_X6_tells_h040 pb (m_X6_tellsPlaces_fa pb ru fst fro fmo fkd fcd fsr ffa fga (nC v0) (nC v1)) (m_X6_tellsPlaces_ga pb ru fst fro fmo fkd fcd fsr ffa fga (nC v0) (nC v1)) (nI ((nC v2) / 10)) n95) else (if be = (-1) then p_X6_order_95q1 pb ru fst fro fmo fkd fcd fsr ffa fga v0 v1 v2 q9 (n95 + 1) (m_X6_tells_h040 pb (m_X6_tellsPlaces_fa pb ru fst fro fmo fkd fcd fsr ffa fga (nC v0) (nC v1)) (m_X6_tellsPlaces_ga pb ru fst fro fmo fkd fcd fsr ffa fga (nC v0) (nC v1)) (nI ((nC v2) / 10)) n95) (m_X6_tells_h039 pb (m_X6_tellsPlaces_fa pb ru fst fro fmo fkd fcd fsr ffa fga (nC v0) (nC v1)) (m_X6_tellsPlaces_ga pb ru fst fro fmo fkd fcd fsr ffa fga (nC v0) (nC v1)) (nI ((nC v2) / 10)) n95) (m_X6_tells_h039 pb (m_X6_tellsPlaces_fa pb ru fst fro fmo fkd fcd fsr ffa fga (nC v0) (nC v1)) (m_X6_tellsPlaces_ga pb ru fst fro fmo fkd fcd fsr ffa fga (nC v0) (nC v1)) (nI ((nC v2) / 10)) n95) (m_X6_tells_h040 pb (m_X6_tellsPlaces_fa pb ru fst fro fmo fkd fcd fsr ffa fga (nC v0) (nC v1)) (m_X6_tellsPlaces_ga pb ru fst fro fmo fkd fcd fsr ffa fga (nC v0) (nC v1)) (nI ((nC v2) / 10)) n95) else (if le ≤ (m_X6_tells_h039 pb (m_X6_tellsPlaces_fa pb ru fst fro fmo fkd fcd fsr ffa fga (nC v0) (nC v1)) (m_X6_tellsPlaces_ga pb ru fst fro fmo fkd fcd fsr ffa fga (nC v0) (nC v1)) (nI ((nC v2) / 10)) n95) then p_X6_order_95q1 pb ru fst fro fmo fkd fcd fsr ffa fga v0 v1 v2 q9 (n95 + 1) be le (m_X6_tells_h039 pb (m_X6_tellsPlaces_fa pb ru fst fro fmo fkd fcd fsr ffa fga (nC v0) (nC v1)) (m_X6_tellsPlaces_ga pb ru fst fro fmo fkd fcd fsr ffa fga (nC v0) (nC v1)) (nI ((nC v2) / 10)) n95) (m_X6_tells_h040 pb (m_X6_tellsPlaces_fa pb ru fst fro fmo fkd fcd fsr ffa fga (nC v0) (nC v1)) (m_X6_tellsPlaces_ga pb ru fst fro fmo fkd fcd fsr ffa fga (nC v0) (nC v1)) (nI ((nC v2) / 10)) n95) else p_X6_order_95q1 pb ru fst fro fmo fkd fcd fsr ffa fga v0 v1 v2 q9 (n95 + 1) (m_X6_tells_h040 pb (m_X6_tellsPlaces_fa pb ru fst fro fmo fkd fcd fsr ffa fga (nC v0) (nC v1)) (m_X6_tellsPlaces_ga pb ru fst fro fmo fkd fcd fsr ffa fga (nC v0) (nC v1)) (nI ((nC v2) / 10)) n95) (m_X6_tells_h039 pb (m_X6_tellsPlaces_fa pb ru fst fro fmo fkd fcd fsr ffa fga (nC v0) (nC v1)) (m_X6_tellsPlaces_ga pb ru fst fro fmo fkd fcd fsr ffa fga (nC v0) (nC v1)) (nI ((nC v2) / 10)) n95) (m_X6_tells_h039 pb (m_X6_tellsPlaces_fa pb ru fst fro fmo fkd fcd fsr ffa fga (nC v0) (nC v1)) (m_X6_tellsPlaces_ga pb ru fst fro fmo fkd fcd fsr ffa fga (nC v0) (nC v1)) (nI ((nC v2) / 10)) n95) (m_X6_tells_h040 pb (m_X6_tellsPlaces_fa pb ru fst fro fmo fkd fcd fsr ffa fga (nC v0) (nC v1)) (m_X6_tellsPlaces_ga pb ru fst fro fmo fkd fcd fsr ffa fga (nC v0) (nC v1)) (nI ((nC v2) / 10)) n95)))
noncomputable def g_X6_order_95q1 (pb : Nat) (ru : Nat) (s39 : Int32) (s40 : Int32) (fst : Nat → Int32) (fro : Nat → Int32) (fmo : Nat → Int32) (fkd : Nat → Int32) (fcd : Nat → Int32) (fsr : Nat → Nat) (ffa : Nat → Int32) (fga : Nat → Int32) (v0 : Int32) (v1 : Int32) (v2 : Int32) : Nat × Int32 × Int32 × Int32 × Int32 := p_X6_order_95q1 pb ru fst fro fmo fkd fcd fsr ffa fga v0 v1 v2 ((g_X6_order_62q1 pb).2 - 0) 0 (-1) 0 s39 s40
noncomputable def m_X6_order (pb : Nat) (jg : Nat) (ru : Nat) (s39 : Int32) (s40 : Int32) (fst : Nat → Int32) (fro : Nat → Int32) (fmo : Nat → Int32) (fkd : Nat → Int32) (fcd : Nat → Int32) (fsr : Nat → Nat) (ffa : Nat → Int32) (fga : Nat → Int32) (v0 : Int32) (v1 : Int32) (v2 : Int32) : Int32 := if (mHas jg v0) = true then (if 0 ≤ v1 ∧ v1 ≤ 60 then (if 0 ≤ v2 ∧ v2 ≤ 11 then (if (nI ((nC v2) % 10)) ≤ 1 then (if (nI pb) = 0 then (if (nI ((nC v2) % 10)) = 0 then ((g_X6_order_95q1 pb ru s39 s40 fst fro fmo fkd fcd fsr ffa fga v0 v1 v2).2.1) else ((g_X6_order_95q1 pb ru s39 s40 fst fro fmo fkd fcd fsr ffa fga v0 v1 v2).2.2.1)) else (if (nI ((nC v2) % 10)) = 0 then ((g_X6_order_95 pb ru s39 s40 fst fro fmo fkd fcd fsr ffa fga v0 v1 v2).2.1) else ((g_X6_order_95 pb ru s39 s40 fst fro fmo fkd fcd fsr ffa fga v0 v1 v2).2.2.1))) else -7) else -7) else -7) else -5
noncomputable def m_X6_order_ro (pb : Nat) (jg : Nat) (ru : Nat) (fst : Nat → Int32) (fro : Nat → Int32) (fmo : Nat → Int32) (fkd : Nat → Int32) (fcd : Nat → Int32) (fsr : Nat → Nat) (ffa : Nat → Int32) (fga : Nat → Int32) (v0 : Int32) (v1 : Int32) (v2 : Int32) : Nat → Int32 := if (mHas jg v0) = true then (if 0 ≤ v1 ∧ v1 ≤ 60 then (if 0 ≤ v2 ∧ v2 ≤ 11 then (if (nI ((nC v2) % 10)) ≤ 1 then (m_X6_tellsPlaces_ro pb ru fst fro fmo fkd fcd fsr ffa fga (nC v0) (nC v1)) else fro) else fro) else fro) else fro
abbrev q_X6_order (G : gG) (h0 kd mo st ro tp cd sr ir ih ss sq ce lw wo he sk na kp gb go fa ga vo : Nat) (pb : Nat) (jg : Nat) (td : Nat) (tx : Nat) (ru : Nat) (him : Int32) (s19 : Int32) (s20 : Int32) (s21 : Int32) (s22 : Int32) (s25 : Int32) (s26 : Int32) (s27 : Int32) (s31 : Int32) (s32 : Int32) (s33 : Int32) (s34 : Int32) (s39 : Int32) (s40 : Int32) (fst : Nat → Int32) (fro : Nat → Int32) (fmo : Nat → Int32) (fkd : Nat → Int32) (fcd : Nat → Int32) (fsr : Nat → Nat) (fsk : Nat → Int32) (fna : Nat → Int32) (fkp : Nat → Int32) (ffa : Nat → Int32) (fga : Nat → Int32) (v0 : Int32) (v1 : Int32) (v2 : Int32) (A : Nat → Prop) : Array Value → State → Outcome → State → Prop := va_Qi (fun (r : Int32) (u : Int32 × Int32 × Int32 × Int32 × Int32 × Int32 × (Nat → Int32) × (Nat → Int32) × (Nat → Int32) × (Nat → Int32) × (Nat → Int32)) => match u with | (z31, z32, z33, z34, z39, z40, ysk, yna, ykp, yfa, yga) => r = m_X6_order pb jg ru s39 s40 fst fro fmo fkd fcd fsr ffa fga v0 v1 v2) (fun (u : Int32 × Int32 × Int32 × Int32 × Int32 × Int32 × (Nat → Int32) × (Nat → Int32) × (Nat → Int32) × (Nat → Int32) × (Nat → Int32)) t => match u with | (z31, z32, z33, z34, z39, z40, ysk, yna, ykp, yfa, yga) => va_P G.1 vwCl [zo6 h0 (nI pb) kd mo st (nI jg) ro tp (nI td) cd sr (nI tx) (nI ru) him ir ih ss sq ce lw s19 s20 s21 s22 wo he s25 s26 s27 sk na kp z31 z32 z33 z34 gb go fa ga z39 z40 vo, zi G st 12 fst, zi G ro 12 (m_X6_order_ro pb jg ru fst fro fmo fkd fcd fsr ffa fga v0 v1 v2), zi G mo 6 fmo, zi G kd 6 fkd, zi G cd 1200 fcd, zi G sr 24 (nF fsr), zi G sk 200 ysk, zi G na 6 yna, zi G kp 24 ykp, zi G fa 36 yfa, zi G ga 36 yga] t.heap ∧ gK G t ∧ va_D A [zo6 h0 (nI pb) kd mo st (nI jg) ro tp (nI td) cd sr (nI tx) (nI ru) him ir ih ss sq ce lw s19 s20 s21 s22 wo he s25 s26 s27 sk na kp z31 z32 z33 z34 gb go fa ga z39 z40 vo, zi G st 12 fst, zi G ro 12 (m_X6_order_ro pb jg ru fst fro fmo fkd fcd fsr ffa fga v0 v1 v2), zi G mo 6 fmo, zi G kd 6 fkd, zi G cd 1200 fcd, zi G sr 24 (nF fsr), zi G sk 200 ysk, zi G na 6 yna, zi G kp 24 ykp, zi G fa 36 yfa, zi G ga 36 yga]) A
set_option maxHeartbeats 4000000 in
set_option maxRecDepth 100000 in
theorem c_X6_order (l : Launch) (G : gG) (h0 kd mo st ro tp cd sr ir ih ss sq ce lw wo he sk na kp gb go fa ga vo : Nat) (pb : Nat) (jg : Nat) (td : Nat) (tx : Nat) (ru : Nat) (him : Int32) (s19 : Int32) (s20 : Int32) (s21 : Int32) (s22 : Int32) (s25 : Int32) (s26 : Int32) (s27 : Int32) (s31 : Int32) (s32 : Int32) (s33 : Int32) (s34 : Int32) (s39 : Int32) (s40 : Int32) (fst : Nat → Int32) (fro : Nat → Int32) (fmo : Nat → Int32) (fkd : Nat → Int32) (fcd : Nat → Int32) (fsr : Nat → Nat) (fsk : Nat → Int32) (fna : Nat → Int32) (fkp : Nat → Int32) (ffa : Nat → Int32) (fga : Nat → Int32) (v0 : Int32) (v1 : Int32) (v2 : Int32) (sz : Nat) (hwa : ∀ t9, t9 < tx → mWf fcd fsr t9) (hpb : pb ≤ 6) (hjg : jg ≤ 4) (htx : tx ≤ 6) (hru : ru < tx) : Met l yX6_order wsX6_order ({ frames := 8, cells := 0, slots := 0, locals := 194 }) (gPre G [.ref h0, .int v0, .int v1, .int v2] [zo6 h0 (nI pb) kd mo st (nI jg) ro tp (nI td) cd sr (nI tx) (nI ru) him ir ih ss sq ce lw s19 s20 s21 s22 wo he s25 s26 s27 sk na kp s31 s32 s33 s34 gb go fa ga s39 s40 vo, zi G st 12 fst, zi G ro 12 fro, zi G mo 6 fmo, zi G kd 6 fkd, zi G cd 1200 fcd, zi G sr 24 (nF fsr), zi G sk 200 fsk, zi G na 6 fna, zi G kp 24 fkp, zi G fa 36 ffa, zi G ga 36 fga] sz) (q_X6_order G h0 kd mo st ro tp cd sr ir ih ss sq ce lw wo he sk na kp gb go fa ga vo pb jg td tx ru him s19 s20 s21 s22 s25 s26 s27 s31 s32 s33 s34 s39 s40 fst fro fmo fkd fcd fsr fsk fna fkp ffa fga v0 v1 v2 (va_A [zo6 h0 (nI pb) kd mo st (nI jg) ro tp (nI td) cd sr (nI tx) (nI ru) him ir ih ss sq ce lw s19 s20 s21 s22 wo he s25 s26 s27 sk na kp s31 s32 s33 s34 gb go fa ga s39 s40 vo, zi G st 12 fst, zi G ro 12 fro, zi G mo 6 fmo, zi G kd 6 fkd, zi G cd 1200 fcd, zi G sr 24 (nF fsr), zi G sk 200 fsk, zi G na 6 fna, zi G kp 24 fkp, zi G fa 36 ffa, zi G ga 36 fga] sz)) 0 0 (va_A [zo6 h0 (nI pb) kd mo st (nI jg) ro tp (nI td) cd sr (nI tx) (nI ru) him ir ih ss sq ce lw s19 s20 s21 s22 wo he s25 s26 s27 sk na kp s31 s32 s33 s34 gb go fa ga s39 s40 vo, zi G st 12 fst, zi G ro 12 fro, zi G mo 6 fmo, zi G kd 6 fkd, zi G cd 1200 fcd, zi G sr 24 (nF fsr), zi G sk 200 fsk, zi G na 6 fna, zi G kp 24 fkp, zi G fa 36 ffa, zi G ga 36 fga] sz) := by
  refine Met.ofW (cc := cX6_order) (maxL := 8) (ret := (some .int)) (by decide +kernel) rfl ?_
  intro p e s m args below meth c s₁ B hml hv
  obtain ⟨rfl, hsz, hP, hK, hD0⟩ := hv
  have hx := B.exec
  have hb := B.bytes
  have hr := B.returns
  have hts := atoms_spec (ws := wsX6_order) B.pre
  have hown : s.vm.findClass RX6 = some m.cls := findClass_of_methodNamed B.named
  have hlocks := B.notSynchronized
  subst hsz
  have hD := hD0.self (sz := s.heap.size)
  generalize hAe : va_A [zo6 h0 (nI pb) kd mo st (nI jg) ro tp (nI td) cd sr (nI tx) (nI ru) him ir ih ss sq ce lw s19 s20 s21 s22 wo he s25 s26 s27 sk na kp s31 s32 s33 s34 gb go fa ga s39 s40 vo, zi G st 12 fst, zi G ro 12 fro, zi G mo 6 fmo, zi G kd 6 fkd, zi G cd 1200 fcd, zi G sr 24 (nF fsr), zi G sk 200 fsk, zi G na 6 fna, zi G kp 24 fkp, zi G fa 36 ffa, zi G ga 36 fga] s.heap.size = A at hD ⊢
  have hA : ∀ q : Nat, s.heap.size ≤ q → A q := fun q h => by rw [← hAe]; exact Or.inr h
  have hS : va_S A s.heap s.heap [] := va_S.rf
  have hz9 : gPD G A [zo6 h0 (nI pb) kd mo st (nI jg) ro tp (nI td) cd sr (nI tx) (nI ru) him ir ih ss sq ce lw s19 s20 s21 s22 wo he s25 s26 s27 sk na kp s31 s32 s33 s34 gb go fa ga s39 s40 vo, zi G st 12 fst, zi G ro 12 fro, zi G mo 6 fmo, zi G kd 6 fkd, zi G cd 1200 fcd, zi G sr 24 (nF fsr), zi G sk 200 fsk, zi G na 6 fna, zi G kp 24 fkp, zi G fa 36 ffa, zi G ga 36 fga] s.heap := ⟨hP, hD⟩
  have hP := hz9.1
  have hD := hz9.2
  have hl := lv_entry ([.ref h0, .int v0, .int v1, .int v2]) (n := 8) (Nat.le_of_ble_eq_true rfl)
  rw [lg_entry_eq]
  generalize (lg_sl ([.ref h0, .int v0, .int v1, .int v2]) ++ List.replicate (8 - (lg_sl ([.ref h0, .int v0, .int v1, .int v2])).length) Slot.unset).toArray = ls at hl ⊢
  have hl : lv_has ls 8 [zR 0 h0, zI 1 v0, zI 2 v1, zI 3 v2] := hl
  have kf88 := hts (.fieldLink RX6 88 "PebbleInShoeModel" "pebbles" "I") (by decide +kernel)
  have hiX6 := (by decide +kernel : ∀ w ∈ wsX60, w ∈ wsX6_order)
  have kf234 := hts (.fieldLink RX6 234 "PebbleInShoeModel" "orderDigits" "I") (by decide +kernel)
  have kf231 := hts (.fieldLink RX6 231 "PebbleInShoeModel" "orderValue" "I") (by decide +kernel)
  refine lv_aload_n hx hb dX6_order_0 rfl (lv_at hl 0 rfl) ?_
  refine lv_iload_n hx hb dX6_order_1 rfl (lv_at hl 1 rfl) ?_
  refine z_calli [0] (v := bz (mHas jg v0)) (fun _ _ h => h) (va_runV (As := [.int v0]) (rest := []) ⟨hx, hb, hml, hown, hts⟩ (c_X6_isJudge l G h0 kd mo st ro tp cd sr ir ih ss sq ce lw wo he sk na kp gb go fa ga vo pb jg td tx ru him s19 s20 s21 s22 s25 s26 s27 s31 s32 s33 s34 s39 s40 v0 s.heap.size (by first | exact hpb | assumption | omega) (by first | exact hjg | assumption | omega) (by first | exact htx | assumption | omega) (by first | exact hru | assumption | omega)) (cwV 1 hts gX6_order_X6_isJudge rfl rfl rfl (by decide +kernel) ⟨Nat.le_of_ble_eq_true rfl, Nat.le_of_ble_eq_true rfl⟩) ⟨gPre_blind, va_recv (q := (RX6, TX6, 42)) hK hP (ci := 6) (q0 := 0) rfl rfl, fun U hU hW => gPre_ofF [0] hU hW hK hP hD (by decide +kernel) rfl⟩ rfl rfl hl.1 rfl (lv_room (Nat.le_of_ble_eq_true rfl)) dX6_order_2 ⟨Nat.le_of_ble_eq_true rfl, Nat.le_of_ble_eq_true rfl⟩) hS hD hA rfl (fun u t H locs ht hvm hB hz1 hk1 hFq hAq hS => ?_)
  obtain ⟨hP1, hK1, hD1⟩ := hB
  have hP := zKeep hP hD [0] hAq hk1 ht hP1 rfl
  refine lv_if_ne (tgt := 11) hx hb dX6_order_5 (by decide +kernel) (fun c_3 => ?_) (fun c_3 => ?_)
  · skip
    have p_4 : (mHas jg v0) = true := bz_ne rfl c_3
    have hv_6 : v0 = nI (nC v0) := mHas_eq p_4
    have hk_7 : nC v0 < jg := mHas_lt (by omega) p_4
    refine lv_iload_n hx hb dX6_order_11 rfl (lv_at hl 2 rfl) ?_
    refine z_calli [] (v := bz (decide (0 ≤ v1 ∧ v1 ≤ 60))) (fun _ _ h => h) (va_runS (As := [.int v1]) (rest := []) ⟨hx, hb, hml, hown, hts⟩ (c_X6_isCase l G v1 H.size) (va_cwS 1 hts gX6_order_X6_isCase rfl rfl rfl (by decide +kernel) ⟨Nat.le_of_ble_eq_true rfl, Nat.le_of_ble_eq_true rfl⟩) ⟨gPre_blind, fun U hU hW => gPre_ofF [] hU hW hK hP hD (by decide +kernel) rfl⟩ rfl rfl hl.1 rfl (lv_room (Nat.le_of_ble_eq_true rfl)) dX6_order_12 ⟨Nat.le_of_ble_eq_true rfl, Nat.le_of_ble_eq_true rfl⟩) hS hD hA rfl (fun u t H locs ht hvm hB hz1 hk1 hFq hAq hS => ?_)
    obtain ⟨hP1, hK1, hD1⟩ := hB
    have hP := zKeep hP hD [] hAq hk1 ht hP1 rfl
    refine lv_if_eq (tgt := 36) hx hb dX6_order_15 (by decide +kernel) (fun c_10 => ?_) (fun c_10 => ?_)
    · skip
      have n_12 : ¬ (0 ≤ v1 ∧ v1 ≤ 60) := of_decide_eq_false (bz_eq rfl c_10)
      refine lv_bipush (v := -7) hx hb dX6_order_36 (by decide +kernel) ?_
      have q_15 : m_X6_order_ro pb jg ru fst fro fmo fkd fcd fsr ffa fga v0 v1 v2 = fro := by unfold m_X6_order_ro; rw [if_pos p_4, if_neg n_12]
      have hz9 : gPD G A [zo6 h0 (nI pb) kd mo st (nI jg) ro tp (nI td) cd sr (nI tx) (nI ru) him ir ih ss sq ce lw s19 s20 s21 s22 wo he s25 s26 s27 sk na kp s31 s32 s33 s34 gb go fa ga s39 s40 vo, zi G st 12 fst, zi G ro 12 (m_X6_order_ro pb jg ru fst fro fmo fkd fcd fsr ffa fga v0 v1 v2), zi G mo 6 fmo, zi G kd 6 fkd, zi G cd 1200 fcd, zi G sr 24 (nF fsr), zi G sk 200 fsk, zi G na 6 fna, zi G kp 24 fkp, zi G fa 36 ffa, zi G ga 36 fga] H := ⟨by rw [q_15]; exact hP, by rw [q_15]; exact hD⟩
      have hP9 := hz9.1
      have hD9 := hz9.2
      have hpost : (fun (r : Int32) (u : Int32 × Int32 × Int32 × Int32 × Int32 × Int32 × (Nat → Int32) × (Nat → Int32) × (Nat → Int32) × (Nat → Int32) × (Nat → Int32)) => match u with | (z31, z32, z33, z34, z39, z40, ysk, yna, ykp, yfa, yga) => r = m_X6_order pb jg ru s39 s40 fst fro fmo fkd fcd fsr ffa fga v0 v1 v2) (-7) (s31, s32, s33, s34, s39, s40, fsk, fna, fkp, ffa, fga) := (show m_X6_order pb jg ru s39 s40 fst fro fmo fkd fcd fsr ffa fga v0 v1 v2 = (-7) from by unfold m_X6_order; rw [if_pos p_4, if_neg n_12]).symm
      exact W.iret (v := (-7)) hx hb hr (fun t ht hW => ⟨⟨(-7), (s31, s32, s33, s34, s39, s40, fsk, fna, fkp, ffa, fga), rfl, hpost, by rw [ht]; exact hP9, va_K.moved hW.alike hK, hD9⟩, hS.F ht⟩) hS.2.2 dX6_order_38
    · skip
      have p_11 : 0 ≤ v1 ∧ v1 ≤ 60 := of_decide_eq_true (bz_ne rfl c_10)
      have hv_13 : v1 = nI (nC v1) := nC_eq p_11.1
      have hk_14 : nC v1 ≤ 60 := nC_le (n := 60) (by omega) p_11
      refine lv_iload_n hx hb dX6_order_18 rfl (lv_at hl 3 rfl) ?_
      refine lv_iconst (v := 0) hx hb dX6_order_19 (by decide +kernel) ?_
      refine lv_bipush (v := 11) hx hb dX6_order_20 (by decide +kernel) ?_
      refine z_calli [] (v := bz (decide (0 ≤ v2 ∧ v2 ≤ 11))) (fun _ _ h => h) (va_runS (As := [.int v2, .int 0, .int 11]) (rest := []) ⟨hx, hb, hml, hown, hts⟩ (c_X6_in l G v2 0 11 H.size) (va_cwS 3 hts gX6_order_X6_in rfl rfl rfl (by decide +kernel) ⟨Nat.le_of_ble_eq_true rfl, Nat.le_of_ble_eq_true rfl⟩) ⟨gPre_blind, fun U hU hW => gPre_ofF [] hU hW hK hP hD (by decide +kernel) rfl⟩ rfl rfl hl.1 rfl (lv_room (Nat.le_of_ble_eq_true rfl)) dX6_order_22 ⟨Nat.le_of_ble_eq_true rfl, Nat.le_of_ble_eq_true rfl⟩) hS hD hA rfl (fun u t H locs ht hvm hB hz1 hk1 hFq hAq hS => ?_)
      obtain ⟨hP1, hK1, hD1⟩ := hB
      have hP := zKeep hP hD [] hAq hk1 ht hP1 rfl
      refine lv_if_eq (tgt := 36) hx hb dX6_order_25 (by decide +kernel) (fun c_18 => ?_) (fun c_18 => ?_)
      · skip
        have n_20 : ¬ (0 ≤ v2 ∧ v2 ≤ 11) := of_decide_eq_false (bz_eq rfl c_18)
        refine lv_bipush (v := -7) hx hb dX6_order_36 (by decide +kernel) ?_
        have q_23 : m_X6_order_ro pb jg ru fst fro fmo fkd fcd fsr ffa fga v0 v1 v2 = fro := by unfold m_X6_order_ro; rw [if_pos p_4, if_pos p_11, if_neg n_20]
        have hz9 : gPD G A [zo6 h0 (nI pb) kd mo st (nI jg) ro tp (nI td) cd sr (nI tx) (nI ru) him ir ih ss sq ce lw s19 s20 s21 s22 wo he s25 s26 s27 sk na kp s31 s32 s33 s34 gb go fa ga s39 s40 vo, zi G st 12 fst, zi G ro 12 (m_X6_order_ro pb jg ru fst fro fmo fkd fcd fsr ffa fga v0 v1 v2), zi G mo 6 fmo, zi G kd 6 fkd, zi G cd 1200 fcd, zi G sr 24 (nF fsr), zi G sk 200 fsk, zi G na 6 fna, zi G kp 24 fkp, zi G fa 36 ffa, zi G ga 36 fga] H := ⟨by rw [q_23]; exact hP, by rw [q_23]; exact hD⟩
        have hP9 := hz9.1
        have hD9 := hz9.2
        have hpost : (fun (r : Int32) (u : Int32 × Int32 × Int32 × Int32 × Int32 × Int32 × (Nat → Int32) × (Nat → Int32) × (Nat → Int32) × (Nat → Int32) × (Nat → Int32)) => match u with | (z31, z32, z33, z34, z39, z40, ysk, yna, ykp, yfa, yga) => r = m_X6_order pb jg ru s39 s40 fst fro fmo fkd fcd fsr ffa fga v0 v1 v2) (-7) (s31, s32, s33, s34, s39, s40, fsk, fna, fkp, ffa, fga) := (show m_X6_order pb jg ru s39 s40 fst fro fmo fkd fcd fsr ffa fga v0 v1 v2 = (-7) from by unfold m_X6_order; rw [if_pos p_4, if_pos p_11, if_neg n_20]).symm
        exact W.iret (v := (-7)) hx hb hr (fun t ht hW => ⟨⟨(-7), (s31, s32, s33, s34, s39, s40, fsk, fna, fkp, ffa, fga), rfl, hpost, by rw [ht]; exact hP9, va_K.moved hW.alike hK, hD9⟩, hS.F ht⟩) hS.2.2 dX6_order_38
      · skip
        have p_19 : 0 ≤ v2 ∧ v2 ≤ 11 := of_decide_eq_true (bz_ne rfl c_18)
        have hv_21 : v2 = nI (nC v2) := nC_eq p_19.1
        have hk_22 : nC v2 ≤ 11 := nC_le (n := 11) (by omega) p_19
        refine lv_iload_n hx hb dX6_order_28 rfl (lv_at hl 3 rfl) ?_
        refine g_topi (y := nI (nC v2)) hv_21 ?_
        refine lv_bipush (v := 10) hx hb dX6_order_29 (by decide +kernel) ?_
        refine lv_irem hx hb dX6_order_31 (by decide +kernel) ?_
        refine g_topi (y := nI ((nC v2) % 10)) (nI_rem (a := (nC v2)) (d := 10) (by omega) (by omega) (by omega)) ?_
        refine lv_iconst (v := 1) hx hb dX6_order_32 (by decide +kernel) ?_
        refine lv_icmp_le (tgt := 39) hx hb dX6_order_33 (by decide +kernel) (fun c_26 => ?_) (fun c_26 => ?_)
        · skip
          have c_26N : ((nC v2) % 10) ≤ 1 := nI_le1 (a := ((nC v2) % 10)) (b := 1) (by omega) (by omega) c_26
          refine lv_iconst (v := -1) hx hb dX6_order_39 (by decide +kernel) ?_
          refine lv_istore (lv' := [zI 4 (-1), zR 0 h0, zI 1 v0, zI 2 v1, zI 3 v2]) hx hb dX6_order_40 hl (by decide +kernel) rfl (fun ls hl => ?_)
          refine lv_iconst (v := 0) hx hb dX6_order_42 (by decide +kernel) ?_
          refine lv_istore (lv' := [zI 5 0, zI 4 (-1), zR 0 h0, zI 1 v0, zI 2 v1, zI 3 v2]) hx hb dX6_order_43 hl (by decide +kernel) rfl (fun ls hl => ?_)
          refine g_aget (D := G.1) (ci := 6) (v := .int (nI pb)) (C := RX6) (T := TX6) (N := 42) hx hb dX6_order_45 rfl (lv_at hl 2 rfl) hts hiX6 hown hK hP 0 rfl rfl 0 (by decide +kernel) kf88 (fun _ h9 => h9) rfl dX6_order_46 ?_
          refine lv_if_ne (tgt := 56) hx hb dX6_order_49 (by decide +kernel) (fun c_27 => ?_) (fun c_27 => ?_)
          · skip
            have c_27N : ¬ pb = 0 := nI_eq0 (a := pb) (b := 0) (by omega) (by omega) c_27
            refine lv_iconst (v := 1) hx hb dX6_order_56 (by decide +kernel) ?_
            refine lv_istore (lv' := [zI 6 1, zI 5 0, zI 4 (-1), zR 0 h0, zI 1 v0, zI 2 v1, zI 3 v2]) hx hb dX6_order_57 hl (by decide +kernel) rfl (fun ls hl => ?_)
            refine lv_iconst (v := 0) hx hb dX6_order_59 (by decide +kernel) ?_
            refine lv_istore (lv' := [zI 7 0, zI 6 1, zI 5 0, zI 4 (-1), zR 0 h0, zI 1 v0, zI 2 v1, zI 3 v2]) hx hb dX6_order_60 hl (by decide +kernel) rfl (fun ls hl => ?_)
            have loop_62 : ∀ (n9 : Nat) (i62 : Nat) (nu : Nat), (i62 ≤ pb) → (p_X6_order_62 pb (pb - i62) i62 nu = (g_X6_order_62 pb)) → (nu ≤ 6 ^ i62) → (pb - i62) < n9 → ∀ (H : Heap) (locs : List Loc), va_P G.1 vwCl [zo6 h0 (nI pb) kd mo st (nI jg) ro tp (nI td) cd sr (nI tx) (nI ru) him ir ih ss sq ce lw s19 s20 s21 s22 wo he s25 s26 s27 sk na kp s31 s32 s33 s34 gb go fa ga s39 s40 vo, zi G st 12 fst, zi G ro 12 fro, zi G mo 6 fmo, zi G kd 6 fkd, zi G cd 1200 fcd, zi G sr 24 (nF fsr), zi G sk 200 fsk, zi G na 6 fna, zi G kp 24 fkp, zi G fa 36 ffa, zi G ga 36 fga] H → va_D A [zo6 h0 (nI pb) kd mo st (nI jg) ro tp (nI td) cd sr (nI tx) (nI ru) him ir ih ss sq ce lw s19 s20 s21 s22 wo he s25 s26 s27 sk na kp s31 s32 s33 s34 gb go fa ga s39 s40 vo, zi G st 12 fst, zi G ro 12 fro, zi G mo 6 fmo, zi G kd 6 fkd, zi G cd 1200 fcd, zi G sr 24 (nF fsr), zi G sk 200 fsk, zi G na 6 fna, zi G kp 24 fkp, zi G fa 36 ffa, zi G ga 36 fga] → va_S A s.heap H locs → ∀ ls : Array Slot, lv_has ls 8 [zI 7 (nI i62), zI 6 (nI nu), zI 5 0, zI 4 (-1), zR 0 h0, zI 1 v0, zI 2 v1, zI 3 v2] → W p l e (headSpec wsX6_order ({ frames := 8, cells := 0, slots := 0, locals := 194 })).room s m ([.ref h0, .int v0, .int v1, .int v2] : List Value).toArray below meth c H locs 0 0 (MQ below (q_X6_order G h0 kd mo st ro tp cd sr ir ih ss sq ce lw wo he sk na kp gb go fa ga vo pb jg td tx ru him s19 s20 s21 s22 s25 s26 s27 s31 s32 s33 s34 s39 s40 fst fro fmo fkd fcd fsr fsk fna fkp ffa fga v0 v1 v2 A) ([.ref h0, .int v0, .int v1, .int v2] : List Value).toArray s 0 0 A) (F0 m 62 ls []) := by
              intro n9
              induction n9 with
              | zero => intro i62 nu hi62 R62 hnu hm9_62; exact absurd hm9_62 (Nat.not_lt_zero _)
              | succ n9 ih9_62 =>
                intro i62 nu hi62 R62 hnu hm9_62 H locs hP hD hS ls hl
                refine lv_iload hx hb dX6_order_62 (lv_at hl 0 rfl) ?_
                refine g_aget (D := G.1) (ci := 6) (v := .int (nI pb)) (C := RX6) (T := TX6) (N := 42) hx hb dX6_order_64 rfl (lv_at hl 4 rfl) hts hiX6 hown hK hP 0 rfl rfl 0 (by decide +kernel) kf88 (fun _ h9 => h9) rfl dX6_order_65 ?_
                refine lv_icmp_ge (tgt := 86) hx hb dX6_order_68 (by decide +kernel) (fun c_28 => ?_) (fun c_28 => ?_)
                · skip
                  have c_28N : pb ≤ i62 := nI_le1 (a := pb) (b := i62) (by omega) (by omega) c_28
                  have hF62 : (g_X6_order_62 pb) = (i62, nu) := by rw [← R62, show pb - i62 = 0 by omega]; rfl
                  have hE62_0 : i62 = ((g_X6_order_62 pb).1) := by rw [hF62]
                  have hE62_1 : nu = ((g_X6_order_62 pb).2) := by rw [hF62]
                  clear hF62 R62
                  subst hE62_0
                  subst hE62_1
                  have hnu7 : (g_X6_order_62 pb).2 ≤ 46656 := Nat.le_trans hnu (Nat.pow_le_pow_right (by decide +kernel) (show _ ≤ 6 by omega))
                  refine lv_aload_n hx hb dX6_order_86 rfl (lv_at hl 4 rfl) ?_
                  refine lv_iload_n hx hb dX6_order_87 rfl (lv_at hl 5 rfl) ?_
                  refine g_topi (y := nI (nC v0)) hv_6 ?_
                  refine lv_iload_n hx hb dX6_order_88 rfl (lv_at hl 6 rfl) ?_
                  refine g_topi (y := nI (nC v1)) hv_13 ?_
                  refine z_callv [0, 1, 2, 3, 4, 5, 6, 7, 8, 9, 10, 11] (va_runV (As := [.int (nI (nC v0)), .int (nI (nC v1))]) (rest := []) ⟨hx, hb, hml, hown, hts⟩ (c_X6_tellsPlaces l G h0 kd mo st ro tp cd sr ir ih ss sq ce lw wo he sk na kp gb go fa ga vo pb jg td tx ru him s19 s20 s21 s22 s25 s26 s27 s31 s32 s33 s34 s39 s40 fst fro fmo fkd fcd fsr fsk fna fkp ffa fga (nC v0) (nC v1) H.size (by omega) (by omega) (hwa _ (by omega)) (by first | exact hpb | assumption | omega) (by first | exact hjg | assumption | omega) (by first | exact htx | assumption | omega) (by first | exact hru | assumption | omega)) (cwV 2 hts gX6_order_X6_tellsPlaces rfl rfl rfl (by decide +kernel) ⟨Nat.le_of_ble_eq_true rfl, Nat.le_of_ble_eq_true rfl⟩) ⟨gPre_blind, va_recv (q := (RX6, TX6, 42)) hK hP (ci := 6) (q0 := 0) rfl rfl, fun U hU hW => gPre_of hU hW hK hP hD⟩ rfl rfl hl.1 rfl (lv_room (Nat.le_of_ble_eq_true rfl)) dX6_order_89 ⟨Nat.le_of_ble_eq_true rfl, Nat.le_of_ble_eq_true rfl⟩) hS hD hA rfl (fun u t H locs ht hvm w_32 hB hz1 hk1 hFq hAq hS => ?_)
                  obtain ⟨z31_33, z32_34, z33_35, z34_36, ysk_37, yna_38, ykp_39⟩ := u
                  obtain ⟨hP1, hK1, hD1⟩ := hB
                  have hz9 : gPD G A [zo6 h0 (nI pb) kd mo st (nI jg) ro tp (nI td) cd sr (nI tx) (nI ru) him ir ih ss sq ce lw s19 s20 s21 s22 wo he s25 s26 s27 sk na kp z31_33 z32_34 z33_35 z34_36 gb go fa ga s39 s40 vo, zi G st 12 fst, zi G ro 12 (m_X6_tellsPlaces_ro pb ru fst fro fmo fkd fcd fsr ffa fga (nC v0) (nC v1)), zi G mo 6 fmo, zi G kd 6 fkd, zi G cd 1200 fcd, zi G sr 24 (nF fsr), zi G sk 200 ysk_37, zi G na 6 yna_38, zi G kp 24 ykp_39, zi G fa 36 (m_X6_tellsPlaces_fa pb ru fst fro fmo fkd fcd fsr ffa fga (nC v0) (nC v1)), zi G ga 36 (m_X6_tellsPlaces_ga pb ru fst fro fmo fkd fcd fsr ffa fga (nC v0) (nC v1))] H := zFill hP hD [0, 1, 2, 3, 4, 5, 6, 7, 8, 9, 10, 11] [1, 2, 3, 4, 5, 6, 7, 8, 9, 10, 11, 12] hAq hk1 hFq ht hP1 hD1 rfl (by decide +kernel)
                  have hP := hz9.1
                  have hD := hz9.2
                  refine lv_iconst (v := 0) hx hb dX6_order_92 (by decide +kernel) ?_
                  refine lv_istore (lv' := [zI 7 0, zI 6 (nI ((g_X6_order_62 pb).2)), zI 5 0, zI 4 (-1), zR 0 h0, zI 1 v0, zI 2 v1, zI 3 v2]) hx hb dX6_order_93 hl (by decide +kernel) rfl (fun ls hl => ?_)
                  have loop_95 : ∀ (n9 : Nat) (n95 : Nat) (be : Int32) (le : Int32) (z39w : Int32) (z40w : Int32), (n95 ≤ ((g_X6_order_62 pb).2)) → (p_X6_order_95 pb ru fst fro fmo fkd fcd fsr ffa fga v0 v1 v2 (((g_X6_order_62 pb).2) - n95) n95 be le z39w z40w = (g_X6_order_95 pb ru s39 s40 fst fro fmo fkd fcd fsr ffa fga v0 v1 v2)) → (((g_X6_order_62 pb).2) - n95) < n9 → ∀ (H : Heap) (locs : List Loc), va_P G.1 vwCl [zo6 h0 (nI pb) kd mo st (nI jg) ro tp (nI td) cd sr (nI tx) (nI ru) him ir ih ss sq ce lw s19 s20 s21 s22 wo he s25 s26 s27 sk na kp z31_33 z32_34 z33_35 z34_36 gb go fa ga z39w z40w vo, zi G st 12 fst, zi G ro 12 (m_X6_tellsPlaces_ro pb ru fst fro fmo fkd fcd fsr ffa fga (nC v0) (nC v1)), zi G mo 6 fmo, zi G kd 6 fkd, zi G cd 1200 fcd, zi G sr 24 (nF fsr), zi G sk 200 ysk_37, zi G na 6 yna_38, zi G kp 24 ykp_39, zi G fa 36 (m_X6_tellsPlaces_fa pb ru fst fro fmo fkd fcd fsr ffa fga (nC v0) (nC v1)), zi G ga 36 (m_X6_tellsPlaces_ga pb ru fst fro fmo fkd fcd fsr ffa fga (nC v0) (nC v1))] H → va_D A [zo6 h0 (nI pb) kd mo st (nI jg) ro tp (nI td) cd sr (nI tx) (nI ru) him ir ih ss sq ce lw s19 s20 s21 s22 wo he s25 s26 s27 sk na kp z31_33 z32_34 z33_35 z34_36 gb go fa ga z39w z40w vo, zi G st 12 fst, zi G ro 12 (m_X6_tellsPlaces_ro pb ru fst fro fmo fkd fcd fsr ffa fga (nC v0) (nC v1)), zi G mo 6 fmo, zi G kd 6 fkd, zi G cd 1200 fcd, zi G sr 24 (nF fsr), zi G sk 200 ysk_37, zi G na 6 yna_38, zi G kp 24 ykp_39, zi G fa 36 (m_X6_tellsPlaces_fa pb ru fst fro fmo fkd fcd fsr ffa fga (nC v0) (nC v1)), zi G ga 36 (m_X6_tellsPlaces_ga pb ru fst fro fmo fkd fcd fsr ffa fga (nC v0) (nC v1))] → va_S A s.heap H locs → ∀ ls : Array Slot, lv_has ls 8 [zI 7 (nI n95), zI 6 (nI ((g_X6_order_62 pb).2)), zI 5 le, zI 4 be, zR 0 h0, zI 1 v0, zI 2 v1, zI 3 v2] → W p l e (headSpec wsX6_order ({ frames := 8, cells := 0, slots := 0, locals := 194 })).room s m ([.ref h0, .int v0, .int v1, .int v2] : List Value).toArray below meth c H locs 0 0 (MQ below (q_X6_order G h0 kd mo st ro tp cd sr ir ih ss sq ce lw wo he sk na kp gb go fa ga vo pb jg td tx ru him s19 s20 s21 s22 s25 s26 s27 s31 s32 s33 s34 s39 s40 fst fro fmo fkd fcd fsr fsk fna fkp ffa fga v0 v1 v2 A) ([.ref h0, .int v0, .int v1, .int v2] : List Value).toArray s 0 0 A) (F0 m 95 ls []) := by
                    intro n9
                    induction n9 with
                    | zero => intro n95 be le z39w z40w hn95 R95 hm9_95; exact absurd hm9_95 (Nat.not_lt_zero _)
                    | succ n9 ih9_95 =>
                      intro n95 be le z39w z40w hn95 R95 hm9_95 H locs hP hD hS ls hl
                      refine lv_iload hx hb dX6_order_95 (lv_at hl 0 rfl) ?_
                      refine lv_iload hx hb dX6_order_97 (lv_at hl 1 rfl) ?_
                      refine lv_icmp_ge (tgt := 148) hx hb dX6_order_99 (by decide +kernel) (fun c_40 => ?_) (fun c_40 => ?_)
                      · skip
                        have c_40N : ((g_X6_order_62 pb).2) ≤ n95 := nI_le1 (a := ((g_X6_order_62 pb).2)) (b := n95) (by omega) (by omega) c_40
                        have hF95 : (g_X6_order_95 pb ru s39 s40 fst fro fmo fkd fcd fsr ffa fga v0 v1 v2) = (n95, be, le, z39w, z40w) := by rw [← R95, show ((g_X6_order_62 pb).2) - n95 = 0 by omega]; rfl
                        have hE95_0 : n95 = ((g_X6_order_95 pb ru s39 s40 fst fro fmo fkd fcd fsr ffa fga v0 v1 v2).1) := by rw [hF95]
                        have hE95_1 : be = ((g_X6_order_95 pb ru s39 s40 fst fro fmo fkd fcd fsr ffa fga v0 v1 v2).2.1) := by rw [hF95]
                        have hE95_2 : le = ((g_X6_order_95 pb ru s39 s40 fst fro fmo fkd fcd fsr ffa fga v0 v1 v2).2.2.1) := by rw [hF95]
                        have hE95_3 : z39w = ((g_X6_order_95 pb ru s39 s40 fst fro fmo fkd fcd fsr ffa fga v0 v1 v2).2.2.2.1) := by rw [hF95]
                        have hE95_4 : z40w = ((g_X6_order_95 pb ru s39 s40 fst fro fmo fkd fcd fsr ffa fga v0 v1 v2).2.2.2.2) := by rw [hF95]
                        clear hF95 R95
                        subst hE95_0
                        subst hE95_1
                        subst hE95_2
                        subst hE95_3
                        subst hE95_4
                        refine lv_iload_n hx hb dX6_order_148 rfl (lv_at hl 7 rfl) ?_
                        refine g_topi (y := nI (nC v2)) hv_21 ?_
                        refine lv_bipush (v := 10) hx hb dX6_order_149 (by decide +kernel) ?_
                        refine lv_irem hx hb dX6_order_151 (by decide +kernel) ?_
                        refine g_topi (y := nI ((nC v2) % 10)) (nI_rem (a := (nC v2)) (d := 10) (by omega) (by omega) (by omega)) ?_
                        refine lv_if_ne (tgt := 160) hx hb dX6_order_152 (by decide +kernel) (fun c_43 => ?_) (fun c_43 => ?_)
                        · skip
                          have c_43N : ¬ ((nC v2) % 10) = 0 := nI_eq0 (a := ((nC v2) % 10)) (b := 0) (by omega) (by omega) c_43
                          refine lv_iload hx hb dX6_order_160 (lv_at hl 2 rfl) ?_
                          have q_44 : m_X6_order_ro pb jg ru fst fro fmo fkd fcd fsr ffa fga v0 v1 v2 = (m_X6_tellsPlaces_ro pb ru fst fro fmo fkd fcd fsr ffa fga (nC v0) (nC v1)) := by unfold m_X6_order_ro; rw [if_pos p_4, if_pos p_11, if_pos p_19, if_pos c_26]
                          have hz9 : gPD G A [zo6 h0 (nI pb) kd mo st (nI jg) ro tp (nI td) cd sr (nI tx) (nI ru) him ir ih ss sq ce lw s19 s20 s21 s22 wo he s25 s26 s27 sk na kp z31_33 z32_34 z33_35 z34_36 gb go fa ga ((g_X6_order_95 pb ru s39 s40 fst fro fmo fkd fcd fsr ffa fga v0 v1 v2).2.2.2.1) ((g_X6_order_95 pb ru s39 s40 fst fro fmo fkd fcd fsr ffa fga v0 v1 v2).2.2.2.2) vo, zi G st 12 fst, zi G ro 12 (m_X6_order_ro pb jg ru fst fro fmo fkd fcd fsr ffa fga v0 v1 v2), zi G mo 6 fmo, zi G kd 6 fkd, zi G cd 1200 fcd, zi G sr 24 (nF fsr), zi G sk 200 ysk_37, zi G na 6 yna_38, zi G kp 24 ykp_39, zi G fa 36 (m_X6_tellsPlaces_fa pb ru fst fro fmo fkd fcd fsr ffa fga (nC v0) (nC v1)), zi G ga 36 (m_X6_tellsPlaces_ga pb ru fst fro fmo fkd fcd fsr ffa fga (nC v0) (nC v1))] H := ⟨by rw [q_44]; exact hP, by rw [q_44]; exact hD⟩
                          have hP9 := hz9.1
                          have hD9 := hz9.2
                          have hpost : (fun (r : Int32) (u : Int32 × Int32 × Int32 × Int32 × Int32 × Int32 × (Nat → Int32) × (Nat → Int32) × (Nat → Int32) × (Nat → Int32) × (Nat → Int32)) => match u with | (z31, z32, z33, z34, z39, z40, ysk, yna, ykp, yfa, yga) => r = m_X6_order pb jg ru s39 s40 fst fro fmo fkd fcd fsr ffa fga v0 v1 v2) ((g_X6_order_95 pb ru s39 s40 fst fro fmo fkd fcd fsr ffa fga v0 v1 v2).2.2.1) (z31_33, z32_34, z33_35, z34_36, ((g_X6_order_95 pb ru s39 s40 fst fro fmo fkd fcd fsr ffa fga v0 v1 v2).2.2.2.1), ((g_X6_order_95 pb ru s39 s40 fst fro fmo fkd fcd fsr ffa fga v0 v1 v2).2.2.2.2), ysk_37, yna_38, ykp_39, (m_X6_tellsPlaces_fa pb ru fst fro fmo fkd fcd fsr ffa fga (nC v0) (nC v1)), (m_X6_tellsPlaces_ga pb ru fst fro fmo fkd fcd fsr ffa fga (nC v0) (nC v1))) := (show m_X6_order pb jg ru s39 s40 fst fro fmo fkd fcd fsr ffa fga v0 v1 v2 = ((g_X6_order_95 pb ru s39 s40 fst fro fmo fkd fcd fsr ffa fga v0 v1 v2).2.2.1) from by unfold m_X6_order; rw [if_pos p_4, if_pos p_11, if_pos p_19, if_pos c_26, if_neg c_27, if_neg c_43]).symm
                          exact W.iret (v := ((g_X6_order_95 pb ru s39 s40 fst fro fmo fkd fcd fsr ffa fga v0 v1 v2).2.2.1)) hx hb hr (fun t ht hW => ⟨⟨((g_X6_order_95 pb ru s39 s40 fst fro fmo fkd fcd fsr ffa fga v0 v1 v2).2.2.1), (z31_33, z32_34, z33_35, z34_36, ((g_X6_order_95 pb ru s39 s40 fst fro fmo fkd fcd fsr ffa fga v0 v1 v2).2.2.2.1), ((g_X6_order_95 pb ru s39 s40 fst fro fmo fkd fcd fsr ffa fga v0 v1 v2).2.2.2.2), ysk_37, yna_38, ykp_39, (m_X6_tellsPlaces_fa pb ru fst fro fmo fkd fcd fsr ffa fga (nC v0) (nC v1)), (m_X6_tellsPlaces_ga pb ru fst fro fmo fkd fcd fsr ffa fga (nC v0) (nC v1))), rfl, hpost, by rw [ht]; exact hP9, va_K.moved hW.alike hK, hD9⟩, hS.F ht⟩) hS.2.2 dX6_order_162
                        · skip
                          have c_43N : ((nC v2) % 10) = 0 := nI_eq1 (a := ((nC v2) % 10)) (b := 0) (by omega) (by omega) c_43
                          refine lv_iload hx hb dX6_order_155 (lv_at hl 3 rfl) ?_
                          refine lv_goto (tgt := 162) hx hb dX6_order_157 (by decide +kernel) ?_
                          have q_45 : m_X6_order_ro pb jg ru fst fro fmo fkd fcd fsr ffa fga v0 v1 v2 = (m_X6_tellsPlaces_ro pb ru fst fro fmo fkd fcd fsr ffa fga (nC v0) (nC v1)) := by unfold m_X6_order_ro; rw [if_pos p_4, if_pos p_11, if_pos p_19, if_pos c_26]
                          have hz9 : gPD G A [zo6 h0 (nI pb) kd mo st (nI jg) ro tp (nI td) cd sr (nI tx) (nI ru) him ir ih ss sq ce lw s19 s20 s21 s22 wo he s25 s26 s27 sk na kp z31_33 z32_34 z33_35 z34_36 gb go fa ga ((g_X6_order_95 pb ru s39 s40 fst fro fmo fkd fcd fsr ffa fga v0 v1 v2).2.2.2.1) ((g_X6_order_95 pb ru s39 s40 fst fro fmo fkd fcd fsr ffa fga v0 v1 v2).2.2.2.2) vo, zi G st 12 fst, zi G ro 12 (m_X6_order_ro pb jg ru fst fro fmo fkd fcd fsr ffa fga v0 v1 v2), zi G mo 6 fmo, zi G kd 6 fkd, zi G cd 1200 fcd, zi G sr 24 (nF fsr), zi G sk 200 ysk_37, zi G na 6 yna_38, zi G kp 24 ykp_39, zi G fa 36 (m_X6_tellsPlaces_fa pb ru fst fro fmo fkd fcd fsr ffa fga (nC v0) (nC v1)), zi G ga 36 (m_X6_tellsPlaces_ga pb ru fst fro fmo fkd fcd fsr ffa fga (nC v0) (nC v1))] H := ⟨by rw [q_45]; exact hP, by rw [q_45]; exact hD⟩
                          have hP9 := hz9.1
                          have hD9 := hz9.2
                          have hpost : (fun (r : Int32) (u : Int32 × Int32 × Int32 × Int32 × Int32 × Int32 × (Nat → Int32) × (Nat → Int32) × (Nat → Int32) × (Nat → Int32) × (Nat → Int32)) => match u with | (z31, z32, z33, z34, z39, z40, ysk, yna, ykp, yfa, yga) => r = m_X6_order pb jg ru s39 s40 fst fro fmo fkd fcd fsr ffa fga v0 v1 v2) ((g_X6_order_95 pb ru s39 s40 fst fro fmo fkd fcd fsr ffa fga v0 v1 v2).2.1) (z31_33, z32_34, z33_35, z34_36, ((g_X6_order_95 pb ru s39 s40 fst fro fmo fkd fcd fsr ffa fga v0 v1 v2).2.2.2.1), ((g_X6_order_95 pb ru s39 s40 fst fro fmo fkd fcd fsr ffa fga v0 v1 v2).2.2.2.2), ysk_37, yna_38, ykp_39, (m_X6_tellsPlaces_fa pb ru fst fro fmo fkd fcd fsr ffa fga (nC v0) (nC v1)), (m_X6_tellsPlaces_ga pb ru fst fro fmo fkd fcd fsr ffa fga (nC v0) (nC v1))) := (show m_X6_order pb jg ru s39 s40 fst fro fmo fkd fcd fsr ffa fga v0 v1 v2 = ((g_X6_order_95 pb ru s39 s40 fst fro fmo fkd fcd fsr ffa fga v0 v1 v2).2.1) from by unfold m_X6_order; rw [if_pos p_4, if_pos p_11, if_pos p_19, if_pos c_26, if_neg c_27, if_pos c_43]).symm
                          exact W.iret (v := ((g_X6_order_95 pb ru s39 s40 fst fro fmo fkd fcd fsr ffa fga v0 v1 v2).2.1)) hx hb hr (fun t ht hW => ⟨⟨((g_X6_order_95 pb ru s39 s40 fst fro fmo fkd fcd fsr ffa fga v0 v1 v2).2.1), (z31_33, z32_34, z33_35, z34_36, ((g_X6_order_95 pb ru s39 s40 fst fro fmo fkd fcd fsr ffa fga v0 v1 v2).2.2.2.1), ((g_X6_order_95 pb ru s39 s40 fst fro fmo fkd fcd fsr ffa fga v0 v1 v2).2.2.2.2), ysk_37, yna_38, ykp_39, (m_X6_tellsPlaces_fa pb ru fst fro fmo fkd fcd fsr ffa fga (nC v0) (nC v1)), (m_X6_tellsPlaces_ga pb ru fst fro fmo fkd fcd fsr ffa fga (nC v0) (nC v1))), rfl, hpost, by rw [ht]; exact hP9, va_K.moved hW.alike hK, hD9⟩, hS.F ht⟩) hS.2.2 dX6_order_162
                      · skip
                        have c_40N : n95 < ((g_X6_order_62 pb).2) := nI_le0 (a := ((g_X6_order_62 pb).2)) (b := n95) (by omega) (by omega) c_40
                        refine lv_aload_n hx hb dX6_order_102 rfl (lv_at hl 4 rfl) ?_
                        refine lv_iload hx hb dX6_order_103 (lv_at hl 0 rfl) ?_
                        refine lv_iload_n hx hb dX6_order_105 rfl (lv_at hl 7 rfl) ?_
                        refine g_topi (y := nI (nC v2)) hv_21 ?_
                        refine lv_bipush (v := 10) hx hb dX6_order_106 (by decide +kernel) ?_
                        refine lv_idiv hx hb dX6_order_108 (by decide +kernel) ?_
                        refine g_topi (y := nI ((nC v2) / 10)) (pk_div (a := (nC v2)) (d := 10) (by omega) (by omega) (by omega)) ?_
                        refine z_calli [0, 10, 11] (v := m_X6_tells pb (m_X6_tellsPlaces_fa pb ru fst fro fmo fkd fcd fsr ffa fga (nC v0) (nC v1)) (m_X6_tellsPlaces_ga pb ru fst fro fmo fkd fcd fsr ffa fga (nC v0) (nC v1)) (nI ((nC v2) / 10)) n95) (fun _ _ h => h) (va_runV (As := [.int (nI n95), .int (nI ((nC v2) / 10))]) (rest := []) ⟨hx, hb, hml, hown, hts⟩ (c_X6_tells l G h0 kd mo st ro tp cd sr ir ih ss sq ce lw wo he sk na kp gb go fa ga vo pb jg td tx ru him s19 s20 s21 s22 s25 s26 s27 z31_33 z32_34 z33_35 z34_36 z39w z40w (m_X6_tellsPlaces_fa pb ru fst fro fmo fkd fcd fsr ffa fga (nC v0) (nC v1)) (m_X6_tellsPlaces_ga pb ru fst fro fmo fkd fcd fsr ffa fga (nC v0) (nC v1)) (nI ((nC v2) / 10)) n95 H.size (by omega) (by first | exact hpb | assumption | omega) (by first | exact hjg | assumption | omega) (by first | exact htx | assumption | omega) (by first | exact hru | assumption | omega)) (cwV 2 hts gX6_order_X6_tells rfl rfl rfl (by decide +kernel) ⟨Nat.le_of_ble_eq_true rfl, Nat.le_of_ble_eq_true rfl⟩) ⟨gPre_blind, va_recv (q := (RX6, TX6, 42)) hK hP (ci := 6) (q0 := 0) rfl rfl, fun U hU hW => gPre_ofF [0, 10, 11] hU hW hK hP hD (by decide +kernel) rfl⟩ rfl rfl hl.1 rfl (lv_room (Nat.le_of_ble_eq_true rfl)) dX6_order_109 ⟨Nat.le_of_ble_eq_true rfl, Nat.le_of_ble_eq_true rfl⟩) hS hD hA rfl (fun u t H locs ht hvm hB hz1 hk1 hFq hAq hS => ?_)
                        obtain ⟨hP1, hK1, hD1⟩ := hB
                        have hz9 : gPD G A [zo6 h0 (nI pb) kd mo st (nI jg) ro tp (nI td) cd sr (nI tx) (nI ru) him ir ih ss sq ce lw s19 s20 s21 s22 wo he s25 s26 s27 sk na kp z31_33 z32_34 z33_35 z34_36 gb go fa ga (m_X6_tells_h039 pb (m_X6_tellsPlaces_fa pb ru fst fro fmo fkd fcd fsr ffa fga (nC v0) (nC v1)) (m_X6_tellsPlaces_ga pb ru fst fro fmo fkd fcd fsr ffa fga (nC v0) (nC v1)) (nI ((nC v2) / 10)) n95) (m_X6_tells_h040 pb (m_X6_tellsPlaces_fa pb ru fst fro fmo fkd fcd fsr ffa fga (nC v0) (nC v1)) (m_X6_tellsPlaces_ga pb ru fst fro fmo fkd fcd fsr ffa fga (nC v0) (nC v1)) (nI ((nC v2) / 10)) n95) vo, zi G st 12 fst, zi G ro 12 (m_X6_tellsPlaces_ro pb ru fst fro fmo fkd fcd fsr ffa fga (nC v0) (nC v1)), zi G mo 6 fmo, zi G kd 6 fkd, zi G cd 1200 fcd, zi G sr 24 (nF fsr), zi G sk 200 ysk_37, zi G na 6 yna_38, zi G kp 24 ykp_39, zi G fa 36 (m_X6_tellsPlaces_fa pb ru fst fro fmo fkd fcd fsr ffa fga (nC v0) (nC v1)), zi G ga 36 (m_X6_tellsPlaces_ga pb ru fst fro fmo fkd fcd fsr ffa fga (nC v0) (nC v1))] H := zFill hP hD [0, 10, 11] [1, 0, 0, 0, 0, 0, 0, 0, 0, 0, 2, 3] hAq hk1 hFq ht hP1 hD1 rfl (by decide +kernel)
                        have hP := hz9.1
                        have hD := hz9.2
                        refine lv_if_eq (tgt := 142) hx hb dX6_order_112 (by decide +kernel) (fun c_50 => ?_) (fun c_50 => ?_)
                        · skip
                          refine lv_iinc (v := nI (n95 + 1)) (lv' := [zI 7 (nI (n95 + 1)), zI 6 (nI ((g_X6_order_62 pb).2)), zI 5 le, zI 4 be, zR 0 h0, zI 1 v0, zI 2 v1, zI 3 v2]) hx hb dX6_order_142 hl (k := 0) rfl (nI_add n95 1) (by decide +kernel) rfl (fun ls hl => ?_)
                          refine lv_goto (tgt := 95) hx hb dX6_order_145 (by decide +kernel) ?_
                          exact ih9_95 (n95 + 1) be le (m_X6_tells_h039 pb (m_X6_tellsPlaces_fa pb ru fst fro fmo fkd fcd fsr ffa fga (nC v0) (nC v1)) (m_X6_tellsPlaces_ga pb ru fst fro fmo fkd fcd fsr ffa fga (nC v0) (nC v1)) (nI ((nC v2) / 10)) n95) (m_X6_tells_h040 pb (m_X6_tellsPlaces_fa pb ru fst fro fmo fkd fcd fsr ffa fga (nC v0) (nC v1)) (m_X6_tellsPlaces_ga pb ru fst fro fmo fkd fcd fsr ffa fga (nC v0) (nC v1)) (nI ((nC v2) / 10)) n95) (by omega) (Eq.trans (Eq.symm ((congrArg (fun z9 => p_X6_order_95 pb ru fst fro fmo fkd fcd fsr ffa fga v0 v1 v2 (z9) n95 be le z39w z40w) (show ((g_X6_order_62 pb).2) - n95 = ((g_X6_order_62 pb).2) - (n95 + 1) + 1 by omega)).trans (by show p_X6_order_95 pb ru fst fro fmo fkd fcd fsr ffa fga v0 v1 v2 (((g_X6_order_62 pb).2) - (n95 + 1) + 1) n95 be le z39w z40w = _; rw [p_X6_order_95, if_pos c_50]))) R95) (by omega) _ _ hP hD hS ls hl
                        · skip
                          refine lv_iload hx hb dX6_order_115 (lv_at hl 3 rfl) ?_
                          refine lv_iconst (v := -1) hx hb dX6_order_117 (by decide +kernel) ?_
                          refine lv_icmp_eq (tgt := 130) hx hb dX6_order_118 (by decide +kernel) (fun c_51 => ?_) (fun c_51 => ?_)
                          · skip
                            refine g_aget (D := G.1) (ci := 6) (v := .int (m_X6_tells_h040 pb (m_X6_tellsPlaces_fa pb ru fst fro fmo fkd fcd fsr ffa fga (nC v0) (nC v1)) (m_X6_tellsPlaces_ga pb ru fst fro fmo fkd fcd fsr ffa fga (nC v0) (nC v1)) (nI ((nC v2) / 10)) n95)) (C := RX6) (T := TX6) (N := 42) hx hb dX6_order_130 rfl (lv_at hl 4 rfl) hts hiX6 hown hK hP 0 rfl rfl 40 (by decide +kernel) kf234 (fun _ h9 => h9) rfl dX6_order_131 ?_
                            refine lv_istore (lv' := [zI 4 (m_X6_tells_h040 pb (m_X6_tellsPlaces_fa pb ru fst fro fmo fkd fcd fsr ffa fga (nC v0) (nC v1)) (m_X6_tellsPlaces_ga pb ru fst fro fmo fkd fcd fsr ffa fga (nC v0) (nC v1)) (nI ((nC v2) / 10)) n95), zI 7 (nI n95), zI 6 (nI ((g_X6_order_62 pb).2)), zI 5 le, zR 0 h0, zI 1 v0, zI 2 v1, zI 3 v2]) hx hb dX6_order_134 hl (by decide +kernel) rfl (fun ls hl => ?_)
                            refine g_aget (D := G.1) (ci := 6) (v := .int (m_X6_tells_h039 pb (m_X6_tellsPlaces_fa pb ru fst fro fmo fkd fcd fsr ffa fga (nC v0) (nC v1)) (m_X6_tellsPlaces_ga pb ru fst fro fmo fkd fcd fsr ffa fga (nC v0) (nC v1)) (nI ((nC v2) / 10)) n95)) (C := RX6) (T := TX6) (N := 42) hx hb dX6_order_136 rfl (lv_at hl 4 rfl) hts hiX6 hown hK hP 0 rfl rfl 39 (by decide +kernel) kf231 (fun _ h9 => h9) rfl dX6_order_137 ?_
                            refine lv_istore (lv' := [zI 5 (m_X6_tells_h039 pb (m_X6_tellsPlaces_fa pb ru fst fro fmo fkd fcd fsr ffa fga (nC v0) (nC v1)) (m_X6_tellsPlaces_ga pb ru fst fro fmo fkd fcd fsr ffa fga (nC v0) (nC v1)) (nI ((nC v2) / 10)) n95), zI 4 (m_X6_tells_h040 pb (m_X6_tellsPlaces_fa pb ru fst fro fmo fkd fcd fsr ffa fga (nC v0) (nC v1)) (m_X6_tellsPlaces_ga pb ru fst fro fmo fkd fcd fsr ffa fga (nC v0) (nC v1)) (nI ((nC v2) / 10)) n95), zI 7 (nI n95), zI 6 (nI ((g_X6_order_62 pb).2)), zR 0 h0, zI 1 v0, zI 2 v1, zI 3 v2]) hx hb dX6_order_140 hl (by decide +kernel) rfl (fun ls hl => ?_)
                            refine lv_iinc (v := nI (n95 + 1)) (lv' := [zI 7 (nI (n95 + 1)), zI 5 (m_X6_tells_h039 pb (m_X6_tellsPlaces_fa pb ru fst fro fmo fkd fcd fsr ffa fga (nC v0) (nC v1)) (m_X6_tellsPlaces_ga pb ru fst fro fmo fkd fcd fsr ffa fga (nC v0) (nC v1)) (nI ((nC v2) / 10)) n95), zI 4 (m_X6_tells_h040 pb (m_X6_tellsPlaces_fa pb ru fst fro fmo fkd fcd fsr ffa fga (nC v0) (nC v1)) (m_X6_tellsPlaces_ga pb ru fst fro fmo fkd fcd fsr ffa fga (nC v0) (nC v1)) (nI ((nC v2) / 10)) n95), zI 6 (nI ((g_X6_order_62 pb).2)), zR 0 h0, zI 1 v0, zI 2 v1, zI 3 v2]) hx hb dX6_order_142 hl (k := 2) rfl (nI_add n95 1) (by decide +kernel) rfl (fun ls hl => ?_)
                            refine lv_goto (tgt := 95) hx hb dX6_order_145 (by decide +kernel) ?_
                            exact ih9_95 (n95 + 1) (m_X6_tells_h040 pb (m_X6_tellsPlaces_fa pb ru fst fro fmo fkd fcd fsr ffa fga (nC v0) (nC v1)) (m_X6_tellsPlaces_ga pb ru fst fro fmo fkd fcd fsr ffa fga (nC v0) (nC v1)) (nI ((nC v2) / 10)) n95) (m_X6_tells_h039 pb (m_X6_tellsPlaces_fa pb ru fst fro fmo fkd fcd fsr ffa fga (nC v0) (nC v1)) (m_X6_tellsPlaces_ga pb ru fst fro fmo fkd fcd fsr ffa fga (nC v0) (nC v1)) (nI ((nC v2) / 10)) n95) (m_X6_tells_h039 pb (m_X6_tellsPlaces_fa pb ru fst fro fmo fkd fcd fsr ffa fga (nC v0) (nC v1)) (m_X6_tellsPlaces_ga pb ru fst fro fmo fkd fcd fsr ffa fga (nC v0) (nC v1)) (nI ((nC v2) / 10)) n95) (m_X6_tells_h040 pb (m_X6_tellsPlaces_fa pb ru fst fro fmo fkd fcd fsr ffa fga (nC v0) (nC v1)) (m_X6_tellsPlaces_ga pb ru fst fro fmo fkd fcd fsr ffa fga (nC v0) (nC v1)) (nI ((nC v2) / 10)) n95) (by omega) (Eq.trans (Eq.symm ((congrArg (fun z9 => p_X6_order_95 pb ru fst fro fmo fkd fcd fsr ffa fga v0 v1 v2 (z9) n95 be le z39w z40w) (show ((g_X6_order_62 pb).2) - n95 = ((g_X6_order_62 pb).2) - (n95 + 1) + 1 by omega)).trans (by show p_X6_order_95 pb ru fst fro fmo fkd fcd fsr ffa fga v0 v1 v2 (((g_X6_order_62 pb).2) - (n95 + 1) + 1) n95 be le z39w z40w = _; rw [p_X6_order_95, if_neg c_50, if_pos c_51]))) R95) (by omega) _ _ hP hD hS ls (lv_sub hl [0, 3, 1, 2, 4, 5, 6, 7] rfl)
                          · skip
                            refine g_aget (D := G.1) (ci := 6) (v := .int (m_X6_tells_h039 pb (m_X6_tellsPlaces_fa pb ru fst fro fmo fkd fcd fsr ffa fga (nC v0) (nC v1)) (m_X6_tellsPlaces_ga pb ru fst fro fmo fkd fcd fsr ffa fga (nC v0) (nC v1)) (nI ((nC v2) / 10)) n95)) (C := RX6) (T := TX6) (N := 42) hx hb dX6_order_121 rfl (lv_at hl 4 rfl) hts hiX6 hown hK hP 0 rfl rfl 39 (by decide +kernel) kf231 (fun _ h9 => h9) rfl dX6_order_122 ?_
                            refine lv_iload hx hb dX6_order_125 (lv_at hl 2 rfl) ?_
                            refine lv_icmp_ge (tgt := 142) hx hb dX6_order_127 (by decide +kernel) (fun c_52 => ?_) (fun c_52 => ?_)
                            · skip
                              refine lv_iinc (v := nI (n95 + 1)) (lv' := [zI 7 (nI (n95 + 1)), zI 6 (nI ((g_X6_order_62 pb).2)), zI 5 le, zI 4 be, zR 0 h0, zI 1 v0, zI 2 v1, zI 3 v2]) hx hb dX6_order_142 hl (k := 0) rfl (nI_add n95 1) (by decide +kernel) rfl (fun ls hl => ?_)
                              refine lv_goto (tgt := 95) hx hb dX6_order_145 (by decide +kernel) ?_
                              exact ih9_95 (n95 + 1) be le (m_X6_tells_h039 pb (m_X6_tellsPlaces_fa pb ru fst fro fmo fkd fcd fsr ffa fga (nC v0) (nC v1)) (m_X6_tellsPlaces_ga pb ru fst fro fmo fkd fcd fsr ffa fga (nC v0) (nC v1)) (nI ((nC v2) / 10)) n95) (m_X6_tells_h040 pb (m_X6_tellsPlaces_fa pb ru fst fro fmo fkd fcd fsr ffa fga (nC v0) (nC v1)) (m_X6_tellsPlaces_ga pb ru fst fro fmo fkd fcd fsr ffa fga (nC v0) (nC v1)) (nI ((nC v2) / 10)) n95) (by omega) (Eq.trans (Eq.symm ((congrArg (fun z9 => p_X6_order_95 pb ru fst fro fmo fkd fcd fsr ffa fga v0 v1 v2 (z9) n95 be le z39w z40w) (show ((g_X6_order_62 pb).2) - n95 = ((g_X6_order_62 pb).2) - (n95 + 1) + 1 by omega)).trans (by show p_X6_order_95 pb ru fst fro fmo fkd fcd fsr ffa fga v0 v1 v2 (((g_X6_order_62 pb).2) - (n95 + 1) + 1) n95 be le z39w z40w = _; rw [p_X6_order_95, if_neg c_50, if_neg c_51, if_pos c_52]))) R95) (by omega) _ _ hP hD hS ls hl
                            · skip
                              refine g_aget (D := G.1) (ci := 6) (v := .int (m_X6_tells_h040 pb (m_X6_tellsPlaces_fa pb ru fst fro fmo fkd fcd fsr ffa fga (nC v0) (nC v1)) (m_X6_tellsPlaces_ga pb ru fst fro fmo fkd fcd fsr ffa fga (nC v0) (nC v1)) (nI ((nC v2) / 10)) n95)) (C := RX6) (T := TX6) (N := 42) hx hb dX6_order_130 rfl (lv_at hl 4 rfl) hts hiX6 hown hK hP 0 rfl rfl 40 (by decide +kernel) kf234 (fun _ h9 => h9) rfl dX6_order_131 ?_
                              refine lv_istore (lv' := [zI 4 (m_X6_tells_h040 pb (m_X6_tellsPlaces_fa pb ru fst fro fmo fkd fcd fsr ffa fga (nC v0) (nC v1)) (m_X6_tellsPlaces_ga pb ru fst fro fmo fkd fcd fsr ffa fga (nC v0) (nC v1)) (nI ((nC v2) / 10)) n95), zI 7 (nI n95), zI 6 (nI ((g_X6_order_62 pb).2)), zI 5 le, zR 0 h0, zI 1 v0, zI 2 v1, zI 3 v2]) hx hb dX6_order_134 hl (by decide +kernel) rfl (fun ls hl => ?_)
                              refine g_aget (D := G.1) (ci := 6) (v := .int (m_X6_tells_h039 pb (m_X6_tellsPlaces_fa pb ru fst fro fmo fkd fcd fsr ffa fga (nC v0) (nC v1)) (m_X6_tellsPlaces_ga pb ru fst fro fmo fkd fcd fsr ffa fga (nC v0) (nC v1)) (nI ((nC v2) / 10)) n95)) (C := RX6) (T := TX6) (N := 42) hx hb dX6_order_136 rfl (lv_at hl 4 rfl) hts hiX6 hown hK hP 0 rfl rfl 39 (by decide +kernel) kf231 (fun _ h9 => h9) rfl dX6_order_137 ?_
                              refine lv_istore (lv' := [zI 5 (m_X6_tells_h039 pb (m_X6_tellsPlaces_fa pb ru fst fro fmo fkd fcd fsr ffa fga (nC v0) (nC v1)) (m_X6_tellsPlaces_ga pb ru fst fro fmo fkd fcd fsr ffa fga (nC v0) (nC v1)) (nI ((nC v2) / 10)) n95), zI 4 (m_X6_tells_h040 pb (m_X6_tellsPlaces_fa pb ru fst fro fmo fkd fcd fsr ffa fga (nC v0) (nC v1)) (m_X6_tellsPlaces_ga pb ru fst fro fmo fkd fcd fsr ffa fga (nC v0) (nC v1)) (nI ((nC v2) / 10)) n95), zI 7 (nI n95), zI 6 (nI ((g_X6_order_62 pb).2)), zR 0 h0, zI 1 v0, zI 2 v1, zI 3 v2]) hx hb dX6_order_140 hl (by decide +kernel) rfl (fun ls hl => ?_)
                              refine lv_iinc (v := nI (n95 + 1)) (lv' := [zI 7 (nI (n95 + 1)), zI 5 (m_X6_tells_h039 pb (m_X6_tellsPlaces_fa pb ru fst fro fmo fkd fcd fsr ffa fga (nC v0) (nC v1)) (m_X6_tellsPlaces_ga pb ru fst fro fmo fkd fcd fsr ffa fga (nC v0) (nC v1)) (nI ((nC v2) / 10)) n95), zI 4 (m_X6_tells_h040 pb (m_X6_tellsPlaces_fa pb ru fst fro fmo fkd fcd fsr ffa fga (nC v0) (nC v1)) (m_X6_tellsPlaces_ga pb ru fst fro fmo fkd fcd fsr ffa fga (nC v0) (nC v1)) (nI ((nC v2) / 10)) n95), zI 6 (nI ((g_X6_order_62 pb).2)), zR 0 h0, zI 1 v0, zI 2 v1, zI 3 v2]) hx hb dX6_order_142 hl (k := 2) rfl (nI_add n95 1) (by decide +kernel) rfl (fun ls hl => ?_)
                              refine lv_goto (tgt := 95) hx hb dX6_order_145 (by decide +kernel) ?_
                              exact ih9_95 (n95 + 1) (m_X6_tells_h040 pb (m_X6_tellsPlaces_fa pb ru fst fro fmo fkd fcd fsr ffa fga (nC v0) (nC v1)) (m_X6_tellsPlaces_ga pb ru fst fro fmo fkd fcd fsr ffa fga (nC v0) (nC v1)) (nI ((nC v2) / 10)) n95) (m_X6_tells_h039 pb (m_X6_tellsPlaces_fa pb ru fst fro fmo fkd fcd fsr ffa fga (nC v0) (nC v1)) (m_X6_tellsPlaces_ga pb ru fst fro fmo fkd fcd fsr ffa fga (nC v0) (nC v1)) (nI ((nC v2) / 10)) n95) (m_X6_tells_h039 pb (m_X6_tellsPlaces_fa pb ru fst fro fmo fkd fcd fsr ffa fga (nC v0) (nC v1)) (m_X6_tellsPlaces_ga pb ru fst fro fmo fkd fcd fsr ffa fga (nC v0) (nC v1)) (nI ((nC v2) / 10)) n95) (m_X6_tells_h040 pb (m_X6_tellsPlaces_fa pb ru fst fro fmo fkd fcd fsr ffa fga (nC v0) (nC v1)) (m_X6_tellsPlaces_ga pb ru fst fro fmo fkd fcd fsr ffa fga (nC v0) (nC v1)) (nI ((nC v2) / 10)) n95) (by omega) (Eq.trans (Eq.symm ((congrArg (fun z9 => p_X6_order_95 pb ru fst fro fmo fkd fcd fsr ffa fga v0 v1 v2 (z9) n95 be le z39w z40w) (show ((g_X6_order_62 pb).2) - n95 = ((g_X6_order_62 pb).2) - (n95 + 1) + 1 by omega)).trans (by show p_X6_order_95 pb ru fst fro fmo fkd fcd fsr ffa fga v0 v1 v2 (((g_X6_order_62 pb).2) - (n95 + 1) + 1) n95 be le z39w z40w = _; rw [p_X6_order_95, if_neg c_50, if_neg c_51, if_neg c_52]))) R95) (by omega) _ _ hP hD hS ls (lv_sub hl [0, 3, 1, 2, 4, 5, 6, 7] rfl)
                  exact loop_95 (((g_X6_order_62 pb).2) - 0 + 1) 0 (-1) 0 s39 s40 (by omega) (rfl) (by omega) _ _ hP hD hS ls hl
                · skip
                  have c_28N : i62 < pb := nI_le0 (a := pb) (b := i62) (by omega) (by omega) c_28
                  refine lv_iload hx hb dX6_order_71 (lv_at hl 1 rfl) ?_
                  refine g_aget (D := G.1) (ci := 6) (v := .int (nI pb)) (C := RX6) (T := TX6) (N := 42) hx hb dX6_order_73 rfl (lv_at hl 4 rfl) hts hiX6 hown hK hP 0 rfl rfl 0 (by decide +kernel) kf88 (fun _ h9 => h9) rfl dX6_order_74 ?_
                  refine lv_imul hx hb dX6_order_77 ?_
                  refine g_topi (y := nI (nu * pb)) (pk_mul nu pb) ?_
                  refine lv_istore (lv' := [zI 6 (nI (nu * pb)), zI 7 (nI i62), zI 5 0, zI 4 (-1), zR 0 h0, zI 1 v0, zI 2 v1, zI 3 v2]) hx hb dX6_order_78 hl (by decide +kernel) rfl (fun ls hl => ?_)
                  refine lv_iinc (v := nI (i62 + 1)) (lv' := [zI 7 (nI (i62 + 1)), zI 6 (nI (nu * pb)), zI 5 0, zI 4 (-1), zR 0 h0, zI 1 v0, zI 2 v1, zI 3 v2]) hx hb dX6_order_80 hl (k := 1) rfl (nI_add i62 1) (by decide +kernel) rfl (fun ls hl => ?_)
                  refine lv_goto (tgt := 62) hx hb dX6_order_83 (by decide +kernel) ?_
                  exact ih9_62 (i62 + 1) (nu * pb) (by omega) (Eq.trans (Eq.symm ((congrArg (fun z9 => p_X6_order_62 pb (z9) i62 nu) (show pb - i62 = pb - (i62 + 1) + 1 by omega)).trans (by show p_X6_order_62 pb (pb - (i62 + 1) + 1) i62 nu = _; rw [p_X6_order_62]))) R62) (by have := Nat.mul_le_mul hnu hpb; rw [Nat.pow_succ]; exact this) (by omega) _ _ hP hD hS ls hl
            exact loop_62 (pb - 0 + 1) 0 1 (by omega) (rfl) (by decide +kernel) (by omega) _ _ hP hD hS ls hl
          · skip
            have c_27N : pb = 0 := nI_eq1 (a := pb) (b := 0) (by omega) (by omega) c_27
            refine lv_iconst (v := 0) hx hb dX6_order_52 (by decide +kernel) ?_
            refine lv_goto (tgt := 57) hx hb dX6_order_53 (by decide +kernel) ?_
            refine lv_istore (lv' := [zI 6 0, zI 5 0, zI 4 (-1), zR 0 h0, zI 1 v0, zI 2 v1, zI 3 v2]) hx hb dX6_order_57 hl (by decide +kernel) rfl (fun ls hl => ?_)
            refine lv_iconst (v := 0) hx hb dX6_order_59 (by decide +kernel) ?_
            refine lv_istore (lv' := [zI 7 0, zI 6 0, zI 5 0, zI 4 (-1), zR 0 h0, zI 1 v0, zI 2 v1, zI 3 v2]) hx hb dX6_order_60 hl (by decide +kernel) rfl (fun ls hl => ?_)
            have loop_62 : ∀ (n9 : Nat) (i62 : Nat) (nu : Nat), (i62 ≤ pb) → (p_X6_order_62q1 pb (pb - i62) i62 nu = (g_X6_order_62q1 pb)) → (nu ≤ 6 ^ i62) → (pb - i62) < n9 → ∀ (H : Heap) (locs : List Loc), va_P G.1 vwCl [zo6 h0 (nI pb) kd mo st (nI jg) ro tp (nI td) cd sr (nI tx) (nI ru) him ir ih ss sq ce lw s19 s20 s21 s22 wo he s25 s26 s27 sk na kp s31 s32 s33 s34 gb go fa ga s39 s40 vo, zi G st 12 fst, zi G ro 12 fro, zi G mo 6 fmo, zi G kd 6 fkd, zi G cd 1200 fcd, zi G sr 24 (nF fsr), zi G sk 200 fsk, zi G na 6 fna, zi G kp 24 fkp, zi G fa 36 ffa, zi G ga 36 fga] H → va_D A [zo6 h0 (nI pb) kd mo st (nI jg) ro tp (nI td) cd sr (nI tx) (nI ru) him ir ih ss sq ce lw s19 s20 s21 s22 wo he s25 s26 s27 sk na kp s31 s32 s33 s34 gb go fa ga s39 s40 vo, zi G st 12 fst, zi G ro 12 fro, zi G mo 6 fmo, zi G kd 6 fkd, zi G cd 1200 fcd, zi G sr 24 (nF fsr), zi G sk 200 fsk, zi G na 6 fna, zi G kp 24 fkp, zi G fa 36 ffa, zi G ga 36 fga] → va_S A s.heap H locs → ∀ ls : Array Slot, lv_has ls 8 [zI 7 (nI i62), zI 6 (nI nu), zI 5 0, zI 4 (-1), zR 0 h0, zI 1 v0, zI 2 v1, zI 3 v2] → W p l e (headSpec wsX6_order ({ frames := 8, cells := 0, slots := 0, locals := 194 })).room s m ([.ref h0, .int v0, .int v1, .int v2] : List Value).toArray below meth c H locs 0 0 (MQ below (q_X6_order G h0 kd mo st ro tp cd sr ir ih ss sq ce lw wo he sk na kp gb go fa ga vo pb jg td tx ru him s19 s20 s21 s22 s25 s26 s27 s31 s32 s33 s34 s39 s40 fst fro fmo fkd fcd fsr fsk fna fkp ffa fga v0 v1 v2 A) ([.ref h0, .int v0, .int v1, .int v2] : List Value).toArray s 0 0 A) (F0 m 62 ls []) := by
              intro n9
              induction n9 with
              | zero => intro i62 nu hi62 R62 hnu hm9_62; exact absurd hm9_62 (Nat.not_lt_zero _)
              | succ n9 ih9_62 =>
                intro i62 nu hi62 R62 hnu hm9_62 H locs hP hD hS ls hl
                refine lv_iload hx hb dX6_order_62 (lv_at hl 0 rfl) ?_
                refine g_aget (D := G.1) (ci := 6) (v := .int (nI pb)) (C := RX6) (T := TX6) (N := 42) hx hb dX6_order_64 rfl (lv_at hl 4 rfl) hts hiX6 hown hK hP 0 rfl rfl 0 (by decide +kernel) kf88 (fun _ h9 => h9) rfl dX6_order_65 ?_
                refine lv_icmp_ge (tgt := 86) hx hb dX6_order_68 (by decide +kernel) (fun c_54 => ?_) (fun c_54 => ?_)
                · skip
                  have c_54N : pb ≤ i62 := nI_le1 (a := pb) (b := i62) (by omega) (by omega) c_54
                  have hF62 : (g_X6_order_62q1 pb) = (i62, nu) := by rw [← R62, show pb - i62 = 0 by omega]; rfl
                  have hE62_0 : i62 = ((g_X6_order_62q1 pb).1) := by rw [hF62]
                  have hE62_1 : nu = ((g_X6_order_62q1 pb).2) := by rw [hF62]
                  clear hF62 R62
                  subst hE62_0
                  subst hE62_1
                  have hnu7 : (g_X6_order_62q1 pb).2 ≤ 46656 := Nat.le_trans hnu (Nat.pow_le_pow_right (by decide +kernel) (show _ ≤ 6 by omega))
                  refine lv_aload_n hx hb dX6_order_86 rfl (lv_at hl 4 rfl) ?_
                  refine lv_iload_n hx hb dX6_order_87 rfl (lv_at hl 5 rfl) ?_
                  refine g_topi (y := nI (nC v0)) hv_6 ?_
                  refine lv_iload_n hx hb dX6_order_88 rfl (lv_at hl 6 rfl) ?_
                  refine g_topi (y := nI (nC v1)) hv_13 ?_
                  refine z_callv [0, 1, 2, 3, 4, 5, 6, 7, 8, 9, 10, 11] (va_runV (As := [.int (nI (nC v0)), .int (nI (nC v1))]) (rest := []) ⟨hx, hb, hml, hown, hts⟩ (c_X6_tellsPlaces l G h0 kd mo st ro tp cd sr ir ih ss sq ce lw wo he sk na kp gb go fa ga vo pb jg td tx ru him s19 s20 s21 s22 s25 s26 s27 s31 s32 s33 s34 s39 s40 fst fro fmo fkd fcd fsr fsk fna fkp ffa fga (nC v0) (nC v1) H.size (by omega) (by omega) (hwa _ (by omega)) (by first | exact hpb | assumption | omega) (by first | exact hjg | assumption | omega) (by first | exact htx | assumption | omega) (by first | exact hru | assumption | omega)) (cwV 2 hts gX6_order_X6_tellsPlaces rfl rfl rfl (by decide +kernel) ⟨Nat.le_of_ble_eq_true rfl, Nat.le_of_ble_eq_true rfl⟩) ⟨gPre_blind, va_recv (q := (RX6, TX6, 42)) hK hP (ci := 6) (q0 := 0) rfl rfl, fun U hU hW => gPre_of hU hW hK hP hD⟩ rfl rfl hl.1 rfl (lv_room (Nat.le_of_ble_eq_true rfl)) dX6_order_89 ⟨Nat.le_of_ble_eq_true rfl, Nat.le_of_ble_eq_true rfl⟩) hS hD hA rfl (fun u t H locs ht hvm w_58 hB hz1 hk1 hFq hAq hS => ?_)
                  obtain ⟨z31_59, z32_60, z33_61, z34_62, ysk_63, yna_64, ykp_65⟩ := u
                  obtain ⟨hP1, hK1, hD1⟩ := hB
                  have hz9 : gPD G A [zo6 h0 (nI pb) kd mo st (nI jg) ro tp (nI td) cd sr (nI tx) (nI ru) him ir ih ss sq ce lw s19 s20 s21 s22 wo he s25 s26 s27 sk na kp z31_59 z32_60 z33_61 z34_62 gb go fa ga s39 s40 vo, zi G st 12 fst, zi G ro 12 (m_X6_tellsPlaces_ro pb ru fst fro fmo fkd fcd fsr ffa fga (nC v0) (nC v1)), zi G mo 6 fmo, zi G kd 6 fkd, zi G cd 1200 fcd, zi G sr 24 (nF fsr), zi G sk 200 ysk_63, zi G na 6 yna_64, zi G kp 24 ykp_65, zi G fa 36 (m_X6_tellsPlaces_fa pb ru fst fro fmo fkd fcd fsr ffa fga (nC v0) (nC v1)), zi G ga 36 (m_X6_tellsPlaces_ga pb ru fst fro fmo fkd fcd fsr ffa fga (nC v0) (nC v1))] H := zFill hP hD [0, 1, 2, 3, 4, 5, 6, 7, 8, 9, 10, 11] [1, 2, 3, 4, 5, 6, 7, 8, 9, 10, 11, 12] hAq hk1 hFq ht hP1 hD1 rfl (by decide +kernel)
                  have hP := hz9.1
                  have hD := hz9.2
                  refine lv_iconst (v := 0) hx hb dX6_order_92 (by decide +kernel) ?_
                  refine lv_istore (lv' := [zI 7 0, zI 6 (nI ((g_X6_order_62q1 pb).2)), zI 5 0, zI 4 (-1), zR 0 h0, zI 1 v0, zI 2 v1, zI 3 v2]) hx hb dX6_order_93 hl (by decide +kernel) rfl (fun ls hl => ?_)
                  have loop_95 : ∀ (n9 : Nat) (n95 : Nat) (be : Int32) (le : Int32) (z39w : Int32) (z40w : Int32), (n95 ≤ ((g_X6_order_62q1 pb).2)) → (p_X6_order_95q1 pb ru fst fro fmo fkd fcd fsr ffa fga v0 v1 v2 (((g_X6_order_62q1 pb).2) - n95) n95 be le z39w z40w = (g_X6_order_95q1 pb ru s39 s40 fst fro fmo fkd fcd fsr ffa fga v0 v1 v2)) → (((g_X6_order_62q1 pb).2) - n95) < n9 → ∀ (H : Heap) (locs : List Loc), va_P G.1 vwCl [zo6 h0 (nI pb) kd mo st (nI jg) ro tp (nI td) cd sr (nI tx) (nI ru) him ir ih ss sq ce lw s19 s20 s21 s22 wo he s25 s26 s27 sk na kp z31_59 z32_60 z33_61 z34_62 gb go fa ga z39w z40w vo, zi G st 12 fst, zi G ro 12 (m_X6_tellsPlaces_ro pb ru fst fro fmo fkd fcd fsr ffa fga (nC v0) (nC v1)), zi G mo 6 fmo, zi G kd 6 fkd, zi G cd 1200 fcd, zi G sr 24 (nF fsr), zi G sk 200 ysk_63, zi G na 6 yna_64, zi G kp 24 ykp_65, zi G fa 36 (m_X6_tellsPlaces_fa pb ru fst fro fmo fkd fcd fsr ffa fga (nC v0) (nC v1)), zi G ga 36 (m_X6_tellsPlaces_ga pb ru fst fro fmo fkd fcd fsr ffa fga (nC v0) (nC v1))] H → va_D A [zo6 h0 (nI pb) kd mo st (nI jg) ro tp (nI td) cd sr (nI tx) (nI ru) him ir ih ss sq ce lw s19 s20 s21 s22 wo he s25 s26 s27 sk na kp z31_59 z32_60 z33_61 z34_62 gb go fa ga z39w z40w vo, zi G st 12 fst, zi G ro 12 (m_X6_tellsPlaces_ro pb ru fst fro fmo fkd fcd fsr ffa fga (nC v0) (nC v1)), zi G mo 6 fmo, zi G kd 6 fkd, zi G cd 1200 fcd, zi G sr 24 (nF fsr), zi G sk 200 ysk_63, zi G na 6 yna_64, zi G kp 24 ykp_65, zi G fa 36 (m_X6_tellsPlaces_fa pb ru fst fro fmo fkd fcd fsr ffa fga (nC v0) (nC v1)), zi G ga 36 (m_X6_tellsPlaces_ga pb ru fst fro fmo fkd fcd fsr ffa fga (nC v0) (nC v1))] → va_S A s.heap H locs → ∀ ls : Array Slot, lv_has ls 8 [zI 7 (nI n95), zI 6 (nI ((g_X6_order_62q1 pb).2)), zI 5 le, zI 4 be, zR 0 h0, zI 1 v0, zI 2 v1, zI 3 v2] → W p l e (headSpec wsX6_order ({ frames := 8, cells := 0, slots := 0, locals := 194 })).room s m ([.ref h0, .int v0, .int v1, .int v2] : List Value).toArray below meth c H locs 0 0 (MQ below (q_X6_order G h0 kd mo st ro tp cd sr ir ih ss sq ce lw wo he sk na kp gb go fa ga vo pb jg td tx ru him s19 s20 s21 s22 s25 s26 s27 s31 s32 s33 s34 s39 s40 fst fro fmo fkd fcd fsr fsk fna fkp ffa fga v0 v1 v2 A) ([.ref h0, .int v0, .int v1, .int v2] : List Value).toArray s 0 0 A) (F0 m 95 ls []) := by
                    intro n9
                    induction n9 with
                    | zero => intro n95 be le z39w z40w hn95 R95 hm9_95; exact absurd hm9_95 (Nat.not_lt_zero _)
                    | succ n9 ih9_95 =>
                      intro n95 be le z39w z40w hn95 R95 hm9_95 H locs hP hD hS ls hl
                      refine lv_iload hx hb dX6_order_95 (lv_at hl 0 rfl) ?_
                      refine lv_iload hx hb dX6_order_97 (lv_at hl 1 rfl) ?_
                      refine lv_icmp_ge (tgt := 148) hx hb dX6_order_99 (by decide +kernel) (fun c_66 => ?_) (fun c_66 => ?_)
                      · skip
                        have c_66N : ((g_X6_order_62q1 pb).2) ≤ n95 := nI_le1 (a := ((g_X6_order_62q1 pb).2)) (b := n95) (by omega) (by omega) c_66
                        have hF95 : (g_X6_order_95q1 pb ru s39 s40 fst fro fmo fkd fcd fsr ffa fga v0 v1 v2) = (n95, be, le, z39w, z40w) := by rw [← R95, show ((g_X6_order_62q1 pb).2) - n95 = 0 by omega]; rfl
                        have hE95_0 : n95 = ((g_X6_order_95q1 pb ru s39 s40 fst fro fmo fkd fcd fsr ffa fga v0 v1 v2).1) := by rw [hF95]
                        have hE95_1 : be = ((g_X6_order_95q1 pb ru s39 s40 fst fro fmo fkd fcd fsr ffa fga v0 v1 v2).2.1) := by rw [hF95]
                        have hE95_2 : le = ((g_X6_order_95q1 pb ru s39 s40 fst fro fmo fkd fcd fsr ffa fga v0 v1 v2).2.2.1) := by rw [hF95]
                        have hE95_3 : z39w = ((g_X6_order_95q1 pb ru s39 s40 fst fro fmo fkd fcd fsr ffa fga v0 v1 v2).2.2.2.1) := by rw [hF95]
                        have hE95_4 : z40w = ((g_X6_order_95q1 pb ru s39 s40 fst fro fmo fkd fcd fsr ffa fga v0 v1 v2).2.2.2.2) := by rw [hF95]
                        clear hF95 R95
                        subst hE95_0
                        subst hE95_1
                        subst hE95_2
                        subst hE95_3
                        subst hE95_4
                        refine lv_iload_n hx hb dX6_order_148 rfl (lv_at hl 7 rfl) ?_
                        refine g_topi (y := nI (nC v2)) hv_21 ?_
                        refine lv_bipush (v := 10) hx hb dX6_order_149 (by decide +kernel) ?_
                        refine lv_irem hx hb dX6_order_151 (by decide +kernel) ?_
                        refine g_topi (y := nI ((nC v2) % 10)) (nI_rem (a := (nC v2)) (d := 10) (by omega) (by omega) (by omega)) ?_
                        refine lv_if_ne (tgt := 160) hx hb dX6_order_152 (by decide +kernel) (fun c_69 => ?_) (fun c_69 => ?_)
                        · skip
                          have c_69N : ¬ ((nC v2) % 10) = 0 := nI_eq0 (a := ((nC v2) % 10)) (b := 0) (by omega) (by omega) c_69
                          refine lv_iload hx hb dX6_order_160 (lv_at hl 2 rfl) ?_
                          have q_70 : m_X6_order_ro pb jg ru fst fro fmo fkd fcd fsr ffa fga v0 v1 v2 = (m_X6_tellsPlaces_ro pb ru fst fro fmo fkd fcd fsr ffa fga (nC v0) (nC v1)) := by unfold m_X6_order_ro; rw [if_pos p_4, if_pos p_11, if_pos p_19, if_pos c_26]
                          have hz9 : gPD G A [zo6 h0 (nI pb) kd mo st (nI jg) ro tp (nI td) cd sr (nI tx) (nI ru) him ir ih ss sq ce lw s19 s20 s21 s22 wo he s25 s26 s27 sk na kp z31_59 z32_60 z33_61 z34_62 gb go fa ga ((g_X6_order_95q1 pb ru s39 s40 fst fro fmo fkd fcd fsr ffa fga v0 v1 v2).2.2.2.1) ((g_X6_order_95q1 pb ru s39 s40 fst fro fmo fkd fcd fsr ffa fga v0 v1 v2).2.2.2.2) vo, zi G st 12 fst, zi G ro 12 (m_X6_order_ro pb jg ru fst fro fmo fkd fcd fsr ffa fga v0 v1 v2), zi G mo 6 fmo, zi G kd 6 fkd, zi G cd 1200 fcd, zi G sr 24 (nF fsr), zi G sk 200 ysk_63, zi G na 6 yna_64, zi G kp 24 ykp_65, zi G fa 36 (m_X6_tellsPlaces_fa pb ru fst fro fmo fkd fcd fsr ffa fga (nC v0) (nC v1)), zi G ga 36 (m_X6_tellsPlaces_ga pb ru fst fro fmo fkd fcd fsr ffa fga (nC v0) (nC v1))] H := ⟨by rw [q_70]; exact hP, by rw [q_70]; exact hD⟩
                          have hP9 := hz9.1
                          have hD9 := hz9.2
                          have hpost : (fun (r : Int32) (u : Int32 × Int32 × Int32 × Int32 × Int32 × Int32 × (Nat → Int32) × (Nat → Int32) × (Nat → Int32) × (Nat → Int32) × (Nat → Int32)) => match u with | (z31, z32, z33, z34, z39, z40, ysk, yna, ykp, yfa, yga) => r = m_X6_order pb jg ru s39 s40 fst fro fmo fkd fcd fsr ffa fga v0 v1 v2) ((g_X6_order_95q1 pb ru s39 s40 fst fro fmo fkd fcd fsr ffa fga v0 v1 v2).2.2.1) (z31_59, z32_60, z33_61, z34_62, ((g_X6_order_95q1 pb ru s39 s40 fst fro fmo fkd fcd fsr ffa fga v0 v1 v2).2.2.2.1), ((g_X6_order_95q1 pb ru s39 s40 fst fro fmo fkd fcd fsr ffa fga v0 v1 v2).2.2.2.2), ysk_63, yna_64, ykp_65, (m_X6_tellsPlaces_fa pb ru fst fro fmo fkd fcd fsr ffa fga (nC v0) (nC v1)), (m_X6_tellsPlaces_ga pb ru fst fro fmo fkd fcd fsr ffa fga (nC v0) (nC v1))) := (show m_X6_order pb jg ru s39 s40 fst fro fmo fkd fcd fsr ffa fga v0 v1 v2 = ((g_X6_order_95q1 pb ru s39 s40 fst fro fmo fkd fcd fsr ffa fga v0 v1 v2).2.2.1) from by unfold m_X6_order; rw [if_pos p_4, if_pos p_11, if_pos p_19, if_pos c_26, if_pos c_27, if_neg c_69]).symm
                          exact W.iret (v := ((g_X6_order_95q1 pb ru s39 s40 fst fro fmo fkd fcd fsr ffa fga v0 v1 v2).2.2.1)) hx hb hr (fun t ht hW => ⟨⟨((g_X6_order_95q1 pb ru s39 s40 fst fro fmo fkd fcd fsr ffa fga v0 v1 v2).2.2.1), (z31_59, z32_60, z33_61, z34_62, ((g_X6_order_95q1 pb ru s39 s40 fst fro fmo fkd fcd fsr ffa fga v0 v1 v2).2.2.2.1), ((g_X6_order_95q1 pb ru s39 s40 fst fro fmo fkd fcd fsr ffa fga v0 v1 v2).2.2.2.2), ysk_63, yna_64, ykp_65, (m_X6_tellsPlaces_fa pb ru fst fro fmo fkd fcd fsr ffa fga (nC v0) (nC v1)), (m_X6_tellsPlaces_ga pb ru fst fro fmo fkd fcd fsr ffa fga (nC v0) (nC v1))), rfl, hpost, by rw [ht]; exact hP9, va_K.moved hW.alike hK, hD9⟩, hS.F ht⟩) hS.2.2 dX6_order_162
                        · skip
                          have c_69N : ((nC v2) % 10) = 0 := nI_eq1 (a := ((nC v2) % 10)) (b := 0) (by omega) (by omega) c_69
                          refine lv_iload hx hb dX6_order_155 (lv_at hl 3 rfl) ?_
                          refine lv_goto (tgt := 162) hx hb dX6_order_157 (by decide +kernel) ?_
                          have q_71 : m_X6_order_ro pb jg ru fst fro fmo fkd fcd fsr ffa fga v0 v1 v2 = (m_X6_tellsPlaces_ro pb ru fst fro fmo fkd fcd fsr ffa fga (nC v0) (nC v1)) := by unfold m_X6_order_ro; rw [if_pos p_4, if_pos p_11, if_pos p_19, if_pos c_26]
                          have hz9 : gPD G A [zo6 h0 (nI pb) kd mo st (nI jg) ro tp (nI td) cd sr (nI tx) (nI ru) him ir ih ss sq ce lw s19 s20 s21 s22 wo he s25 s26 s27 sk na kp z31_59 z32_60 z33_61 z34_62 gb go fa ga ((g_X6_order_95q1 pb ru s39 s40 fst fro fmo fkd fcd fsr ffa fga v0 v1 v2).2.2.2.1) ((g_X6_order_95q1 pb ru s39 s40 fst fro fmo fkd fcd fsr ffa fga v0 v1 v2).2.2.2.2) vo, zi G st 12 fst, zi G ro 12 (m_X6_order_ro pb jg ru fst fro fmo fkd fcd fsr ffa fga v0 v1 v2), zi G mo 6 fmo, zi G kd 6 fkd, zi G cd 1200 fcd, zi G sr 24 (nF fsr), zi G sk 200 ysk_63, zi G na 6 yna_64, zi G kp 24 ykp_65, zi G fa 36 (m_X6_tellsPlaces_fa pb ru fst fro fmo fkd fcd fsr ffa fga (nC v0) (nC v1)), zi G ga 36 (m_X6_tellsPlaces_ga pb ru fst fro fmo fkd fcd fsr ffa fga (nC v0) (nC v1))] H := ⟨by rw [q_71]; exact hP, by rw [q_71]; exact hD⟩
                          have hP9 := hz9.1
                          have hD9 := hz9.2
                          have hpost : (fun (r : Int32) (u : Int32 × Int32 × Int32 × Int32 × Int32 × Int32 × (Nat → Int32) × (Nat → Int32) × (Nat → Int32) × (Nat → Int32) × (Nat → Int32)) => match u with | (z31, z32, z33, z34, z39, z40, ysk, yna, ykp, yfa, yga) => r = m_X6_order pb jg ru s39 s40 fst fro fmo fkd fcd fsr ffa fga v0 v1 v2) ((g_X6_order_95q1 pb ru s39 s40 fst fro fmo fkd fcd fsr ffa fga v0 v1 v2).2.1) (z31_59, z32_60, z33_61, z34_62, ((g_X6_order_95q1 pb ru s39 s40 fst fro fmo fkd fcd fsr ffa fga v0 v1 v2).2.2.2.1), ((g_X6_order_95q1 pb ru s39 s40 fst fro fmo fkd fcd fsr ffa fga v0 v1 v2).2.2.2.2), ysk_63, yna_64, ykp_65, (m_X6_tellsPlaces_fa pb ru fst fro fmo fkd fcd fsr ffa fga (nC v0) (nC v1)), (m_X6_tellsPlaces_ga pb ru fst fro fmo fkd fcd fsr ffa fga (nC v0) (nC v1))) := (show m_X6_order pb jg ru s39 s40 fst fro fmo fkd fcd fsr ffa fga v0 v1 v2 = ((g_X6_order_95q1 pb ru s39 s40 fst fro fmo fkd fcd fsr ffa fga v0 v1 v2).2.1) from by unfold m_X6_order; rw [if_pos p_4, if_pos p_11, if_pos p_19, if_pos c_26, if_pos c_27, if_pos c_69]).symm
                          exact W.iret (v := ((g_X6_order_95q1 pb ru s39 s40 fst fro fmo fkd fcd fsr ffa fga v0 v1 v2).2.1)) hx hb hr (fun t ht hW => ⟨⟨((g_X6_order_95q1 pb ru s39 s40 fst fro fmo fkd fcd fsr ffa fga v0 v1 v2).2.1), (z31_59, z32_60, z33_61, z34_62, ((g_X6_order_95q1 pb ru s39 s40 fst fro fmo fkd fcd fsr ffa fga v0 v1 v2).2.2.2.1), ((g_X6_order_95q1 pb ru s39 s40 fst fro fmo fkd fcd fsr ffa fga v0 v1 v2).2.2.2.2), ysk_63, yna_64, ykp_65, (m_X6_tellsPlaces_fa pb ru fst fro fmo fkd fcd fsr ffa fga (nC v0) (nC v1)), (m_X6_tellsPlaces_ga pb ru fst fro fmo fkd fcd fsr ffa fga (nC v0) (nC v1))), rfl, hpost, by rw [ht]; exact hP9, va_K.moved hW.alike hK, hD9⟩, hS.F ht⟩) hS.2.2 dX6_order_162
                      · skip
                        have c_66N : n95 < ((g_X6_order_62q1 pb).2) := nI_le0 (a := ((g_X6_order_62q1 pb).2)) (b := n95) (by omega) (by omega) c_66
                        refine lv_aload_n hx hb dX6_order_102 rfl (lv_at hl 4 rfl) ?_
                        refine lv_iload hx hb dX6_order_103 (lv_at hl 0 rfl) ?_
                        refine lv_iload_n hx hb dX6_order_105 rfl (lv_at hl 7 rfl) ?_
                        refine g_topi (y := nI (nC v2)) hv_21 ?_
                        refine lv_bipush (v := 10) hx hb dX6_order_106 (by decide +kernel) ?_
                        refine lv_idiv hx hb dX6_order_108 (by decide +kernel) ?_
                        refine g_topi (y := nI ((nC v2) / 10)) (pk_div (a := (nC v2)) (d := 10) (by omega) (by omega) (by omega)) ?_
                        refine z_calli [0, 10, 11] (v := m_X6_tells pb (m_X6_tellsPlaces_fa pb ru fst fro fmo fkd fcd fsr ffa fga (nC v0) (nC v1)) (m_X6_tellsPlaces_ga pb ru fst fro fmo fkd fcd fsr ffa fga (nC v0) (nC v1)) (nI ((nC v2) / 10)) n95) (fun _ _ h => h) (va_runV (As := [.int (nI n95), .int (nI ((nC v2) / 10))]) (rest := []) ⟨hx, hb, hml, hown, hts⟩ (c_X6_tells l G h0 kd mo st ro tp cd sr ir ih ss sq ce lw wo he sk na kp gb go fa ga vo pb jg td tx ru him s19 s20 s21 s22 s25 s26 s27 z31_59 z32_60 z33_61 z34_62 z39w z40w (m_X6_tellsPlaces_fa pb ru fst fro fmo fkd fcd fsr ffa fga (nC v0) (nC v1)) (m_X6_tellsPlaces_ga pb ru fst fro fmo fkd fcd fsr ffa fga (nC v0) (nC v1)) (nI ((nC v2) / 10)) n95 H.size (by omega) (by first | exact hpb | assumption | omega) (by first | exact hjg | assumption | omega) (by first | exact htx | assumption | omega) (by first | exact hru | assumption | omega)) (cwV 2 hts gX6_order_X6_tells rfl rfl rfl (by decide +kernel) ⟨Nat.le_of_ble_eq_true rfl, Nat.le_of_ble_eq_true rfl⟩) ⟨gPre_blind, va_recv (q := (RX6, TX6, 42)) hK hP (ci := 6) (q0 := 0) rfl rfl, fun U hU hW => gPre_ofF [0, 10, 11] hU hW hK hP hD (by decide +kernel) rfl⟩ rfl rfl hl.1 rfl (lv_room (Nat.le_of_ble_eq_true rfl)) dX6_order_109 ⟨Nat.le_of_ble_eq_true rfl, Nat.le_of_ble_eq_true rfl⟩) hS hD hA rfl (fun u t H locs ht hvm hB hz1 hk1 hFq hAq hS => ?_)
                        obtain ⟨hP1, hK1, hD1⟩ := hB
                        have hz9 : gPD G A [zo6 h0 (nI pb) kd mo st (nI jg) ro tp (nI td) cd sr (nI tx) (nI ru) him ir ih ss sq ce lw s19 s20 s21 s22 wo he s25 s26 s27 sk na kp z31_59 z32_60 z33_61 z34_62 gb go fa ga (m_X6_tells_h039 pb (m_X6_tellsPlaces_fa pb ru fst fro fmo fkd fcd fsr ffa fga (nC v0) (nC v1)) (m_X6_tellsPlaces_ga pb ru fst fro fmo fkd fcd fsr ffa fga (nC v0) (nC v1)) (nI ((nC v2) / 10)) n95) (m_X6_tells_h040 pb (m_X6_tellsPlaces_fa pb ru fst fro fmo fkd fcd fsr ffa fga (nC v0) (nC v1)) (m_X6_tellsPlaces_ga pb ru fst fro fmo fkd fcd fsr ffa fga (nC v0) (nC v1)) (nI ((nC v2) / 10)) n95) vo, zi G st 12 fst, zi G ro 12 (m_X6_tellsPlaces_ro pb ru fst fro fmo fkd fcd fsr ffa fga (nC v0) (nC v1)), zi G mo 6 fmo, zi G kd 6 fkd, zi G cd 1200 fcd, zi G sr 24 (nF fsr), zi G sk 200 ysk_63, zi G na 6 yna_64, zi G kp 24 ykp_65, zi G fa 36 (m_X6_tellsPlaces_fa pb ru fst fro fmo fkd fcd fsr ffa fga (nC v0) (nC v1)), zi G ga 36 (m_X6_tellsPlaces_ga pb ru fst fro fmo fkd fcd fsr ffa fga (nC v0) (nC v1))] H := zFill hP hD [0, 10, 11] [1, 0, 0, 0, 0, 0, 0, 0, 0, 0, 2, 3] hAq hk1 hFq ht hP1 hD1 rfl (by decide +kernel)
                        have hP := hz9.1
                        have hD := hz9.2
                        refine lv_if_eq (tgt := 142) hx hb dX6_order_112 (by decide +kernel) (fun c_76 => ?_) (fun c_76 => ?_)
                        · skip
                          refine lv_iinc (v := nI (n95 + 1)) (lv' := [zI 7 (nI (n95 + 1)), zI 6 (nI ((g_X6_order_62q1 pb).2)), zI 5 le, zI 4 be, zR 0 h0, zI 1 v0, zI 2 v1, zI 3 v2]) hx hb dX6_order_142 hl (k := 0) rfl (nI_add n95 1) (by decide +kernel) rfl (fun ls hl => ?_)
                          refine lv_goto (tgt := 95) hx hb dX6_order_145 (by decide +kernel) ?_
                          exact ih9_95 (n95 + 1) be le (m_X6_tells_h039 pb (m_X6_tellsPlaces_fa pb ru fst fro fmo fkd fcd fsr ffa fga (nC v0) (nC v1)) (m_X6_tellsPlaces_ga pb ru fst fro fmo fkd fcd fsr ffa fga (nC v0) (nC v1)) (nI ((nC v2) / 10)) n95) (m_X6_tells_h040 pb (m_X6_tellsPlaces_fa pb ru fst fro fmo fkd fcd fsr ffa fga (nC v0) (nC v1)) (m_X6_tellsPlaces_ga pb ru fst fro fmo fkd fcd fsr ffa fga (nC v0) (nC v1)) (nI ((nC v2) / 10)) n95) (by omega) (Eq.trans (Eq.symm ((congrArg (fun z9 => p_X6_order_95q1 pb ru fst fro fmo fkd fcd fsr ffa fga v0 v1 v2 (z9) n95 be le z39w z40w) (show ((g_X6_order_62q1 pb).2) - n95 = ((g_X6_order_62q1 pb).2) - (n95 + 1) + 1 by omega)).trans (by show p_X6_order_95q1 pb ru fst fro fmo fkd fcd fsr ffa fga v0 v1 v2 (((g_X6_order_62q1 pb).2) - (n95 + 1) + 1) n95 be le z39w z40w = _; rw [p_X6_order_95q1, if_pos c_76]))) R95) (by omega) _ _ hP hD hS ls hl
                        · skip
                          refine lv_iload hx hb dX6_order_115 (lv_at hl 3 rfl) ?_
                          refine lv_iconst (v := -1) hx hb dX6_order_117 (by decide +kernel) ?_
                          refine lv_icmp_eq (tgt := 130) hx hb dX6_order_118 (by decide +kernel) (fun c_77 => ?_) (fun c_77 => ?_)
                          · skip
                            refine g_aget (D := G.1) (ci := 6) (v := .int (m_X6_tells_h040 pb (m_X6_tellsPlaces_fa pb ru fst fro fmo fkd fcd fsr ffa fga (nC v0) (nC v1)) (m_X6_tellsPlaces_ga pb ru fst fro fmo fkd fcd fsr ffa fga (nC v0) (nC v1)) (nI ((nC v2) / 10)) n95)) (C := RX6) (T := TX6) (N := 42) hx hb dX6_order_130 rfl (lv_at hl 4 rfl) hts hiX6 hown hK hP 0 rfl rfl 40 (by decide +kernel) kf234 (fun _ h9 => h9) rfl dX6_order_131 ?_
                            refine lv_istore (lv' := [zI 4 (m_X6_tells_h040 pb (m_X6_tellsPlaces_fa pb ru fst fro fmo fkd fcd fsr ffa fga (nC v0) (nC v1)) (m_X6_tellsPlaces_ga pb ru fst fro fmo fkd fcd fsr ffa fga (nC v0) (nC v1)) (nI ((nC v2) / 10)) n95), zI 7 (nI n95), zI 6 (nI ((g_X6_order_62q1 pb).2)), zI 5 le, zR 0 h0, zI 1 v0, zI 2 v1, zI 3 v2]) hx hb dX6_order_134 hl (by decide +kernel) rfl (fun ls hl => ?_)
                            refine g_aget (D := G.1) (ci := 6) (v := .int (m_X6_tells_h039 pb (m_X6_tellsPlaces_fa pb ru fst fro fmo fkd fcd fsr ffa fga (nC v0) (nC v1)) (m_X6_tellsPlaces_ga pb ru fst fro fmo fkd fcd fsr ffa fga (nC v0) (nC v1)) (nI ((nC v2) / 10)) n95)) (C := RX6) (T := TX6) (N := 42) hx hb dX6_order_136 rfl (lv_at hl 4 rfl) hts hiX6 hown hK hP 0 rfl rfl 39 (by decide +kernel) kf231 (fun _ h9 => h9) rfl dX6_order_137 ?_
                            refine lv_istore (lv' := [zI 5 (m_X6_tells_h039 pb (m_X6_tellsPlaces_fa pb ru fst fro fmo fkd fcd fsr ffa fga (nC v0) (nC v1)) (m_X6_tellsPlaces_ga pb ru fst fro fmo fkd fcd fsr ffa fga (nC v0) (nC v1)) (nI ((nC v2) / 10)) n95), zI 4 (m_X6_tells_h040 pb (m_X6_tellsPlaces_fa pb ru fst fro fmo fkd fcd fsr ffa fga (nC v0) (nC v1)) (m_X6_tellsPlaces_ga pb ru fst fro fmo fkd fcd fsr ffa fga (nC v0) (nC v1)) (nI ((nC v2) / 10)) n95), zI 7 (nI n95), zI 6 (nI ((g_X6_order_62q1 pb).2)), zR 0 h0, zI 1 v0, zI 2 v1, zI 3 v2]) hx hb dX6_order_140 hl (by decide +kernel) rfl (fun ls hl => ?_)
                            refine lv_iinc (v := nI (n95 + 1)) (lv' := [zI 7 (nI (n95 + 1)), zI 5 (m_X6_tells_h039 pb (m_X6_tellsPlaces_fa pb ru fst fro fmo fkd fcd fsr ffa fga (nC v0) (nC v1)) (m_X6_tellsPlaces_ga pb ru fst fro fmo fkd fcd fsr ffa fga (nC v0) (nC v1)) (nI ((nC v2) / 10)) n95), zI 4 (m_X6_tells_h040 pb (m_X6_tellsPlaces_fa pb ru fst fro fmo fkd fcd fsr ffa fga (nC v0) (nC v1)) (m_X6_tellsPlaces_ga pb ru fst fro fmo fkd fcd fsr ffa fga (nC v0) (nC v1)) (nI ((nC v2) / 10)) n95), zI 6 (nI ((g_X6_order_62q1 pb).2)), zR 0 h0, zI 1 v0, zI 2 v1, zI 3 v2]) hx hb dX6_order_142 hl (k := 2) rfl (nI_add n95 1) (by decide +kernel) rfl (fun ls hl => ?_)
                            refine lv_goto (tgt := 95) hx hb dX6_order_145 (by decide +kernel) ?_
                            exact ih9_95 (n95 + 1) (m_X6_tells_h040 pb (m_X6_tellsPlaces_fa pb ru fst fro fmo fkd fcd fsr ffa fga (nC v0) (nC v1)) (m_X6_tellsPlaces_ga pb ru fst fro fmo fkd fcd fsr ffa fga (nC v0) (nC v1)) (nI ((nC v2) / 10)) n95) (m_X6_tells_h039 pb (m_X6_tellsPlaces_fa pb ru fst fro fmo fkd fcd fsr ffa fga (nC v0) (nC v1)) (m_X6_tellsPlaces_ga pb ru fst fro fmo fkd fcd fsr ffa fga (nC v0) (nC v1)) (nI ((nC v2) / 10)) n95) (m_X6_tells_h039 pb (m_X6_tellsPlaces_fa pb ru fst fro fmo fkd fcd fsr ffa fga (nC v0) (nC v1)) (m_X6_tellsPlaces_ga pb ru fst fro fmo fkd fcd fsr ffa fga (nC v0) (nC v1)) (nI ((nC v2) / 10)) n95) (m_X6_tells_h040 pb (m_X6_tellsPlaces_fa pb ru fst fro fmo fkd fcd fsr ffa fga (nC v0) (nC v1)) (m_X6_tellsPlaces_ga pb ru fst fro fmo fkd fcd fsr ffa fga (nC v0) (nC v1)) (nI ((nC v2) / 10)) n95) (by omega) (Eq.trans (Eq.symm ((congrArg (fun z9 => p_X6_order_95q1 pb ru fst fro fmo fkd fcd fsr ffa fga v0 v1 v2 (z9) n95 be le z39w z40w) (show ((g_X6_order_62q1 pb).2) - n95 = ((g_X6_order_62q1 pb).2) - (n95 + 1) + 1 by omega)).trans (by show p_X6_order_95q1 pb ru fst fro fmo fkd fcd fsr ffa fga v0 v1 v2 (((g_X6_order_62q1 pb).2) - (n95 + 1) + 1) n95 be le z39w z40w = _; rw [p_X6_order_95q1, if_neg c_76, if_pos c_77]))) R95) (by omega) _ _ hP hD hS ls (lv_sub hl [0, 3, 1, 2, 4, 5, 6, 7] rfl)
                          · skip
                            refine g_aget (D := G.1) (ci := 6) (v := .int (m_X6_tells_h039 pb (m_X6_tellsPlaces_fa pb ru fst fro fmo fkd fcd fsr ffa fga (nC v0) (nC v1)) (m_X6_tellsPlaces_ga pb ru fst fro fmo fkd fcd fsr ffa fga (nC v0) (nC v1)) (nI ((nC v2) / 10)) n95)) (C := RX6) (T := TX6) (N := 42) hx hb dX6_order_121 rfl (lv_at hl 4 rfl) hts hiX6 hown hK hP 0 rfl rfl 39 (by decide +kernel) kf231 (fun _ h9 => h9) rfl dX6_order_122 ?_
                            refine lv_iload hx hb dX6_order_125 (lv_at hl 2 rfl) ?_
                            refine lv_icmp_ge (tgt := 142) hx hb dX6_order_127 (by decide +kernel) (fun c_78 => ?_) (fun c_78 => ?_)
                            · skip
                              refine lv_iinc (v := nI (n95 + 1)) (lv' := [zI 7 (nI (n95 + 1)), zI 6 (nI ((g_X6_order_62q1 pb).2)), zI 5 le, zI 4 be, zR 0 h0, zI 1 v0, zI 2 v1, zI 3 v2]) hx hb dX6_order_142 hl (k := 0) rfl (nI_add n95 1) (by decide +kernel) rfl (fun ls hl => ?_)
                              refine lv_goto (tgt := 95) hx hb dX6_order_145 (by decide +kernel) ?_
                              exact ih9_95 (n95 + 1) be le (m_X6_tells_h039 pb (m_X6_tellsPlaces_fa pb ru fst fro fmo fkd fcd fsr ffa fga (nC v0) (nC v1)) (m_X6_tellsPlaces_ga pb ru fst fro fmo fkd fcd fsr ffa fga (nC v0) (nC v1)) (nI ((nC v2) / 10)) n95) (m_X6_tells_h040 pb (m_X6_tellsPlaces_fa pb ru fst fro fmo fkd fcd fsr ffa fga (nC v0) (nC v1)) (m_X6_tellsPlaces_ga pb ru fst fro fmo fkd fcd fsr ffa fga (nC v0) (nC v1)) (nI ((nC v2) / 10)) n95) (by omega) (Eq.trans (Eq.symm ((congrArg (fun z9 => p_X6_order_95q1 pb ru fst fro fmo fkd fcd fsr ffa fga v0 v1 v2 (z9) n95 be le z39w z40w) (show ((g_X6_order_62q1 pb).2) - n95 = ((g_X6_order_62q1 pb).2) - (n95 + 1) + 1 by omega)).trans (by show p_X6_order_95q1 pb ru fst fro fmo fkd fcd fsr ffa fga v0 v1 v2 (((g_X6_order_62q1 pb).2) - (n95 + 1) + 1) n95 be le z39w z40w = _; rw [p_X6_order_95q1, if_neg c_76, if_neg c_77, if_pos c_78]))) R95) (by omega) _ _ hP hD hS ls hl
                            · skip
                              refine g_aget (D := G.1) (ci := 6) (v := .int (m_X6_tells_h040 pb (m_X6_tellsPlaces_fa pb ru fst fro fmo fkd fcd fsr ffa fga (nC v0) (nC v1)) (m_X6_tellsPlaces_ga pb ru fst fro fmo fkd fcd fsr ffa fga (nC v0) (nC v1)) (nI ((nC v2) / 10)) n95)) (C := RX6) (T := TX6) (N := 42) hx hb dX6_order_130 rfl (lv_at hl 4 rfl) hts hiX6 hown hK hP 0 rfl rfl 40 (by decide +kernel) kf234 (fun _ h9 => h9) rfl dX6_order_131 ?_
                              refine lv_istore (lv' := [zI 4 (m_X6_tells_h040 pb (m_X6_tellsPlaces_fa pb ru fst fro fmo fkd fcd fsr ffa fga (nC v0) (nC v1)) (m_X6_tellsPlaces_ga pb ru fst fro fmo fkd fcd fsr ffa fga (nC v0) (nC v1)) (nI ((nC v2) / 10)) n95), zI 7 (nI n95), zI 6 (nI ((g_X6_order_62q1 pb).2)), zI 5 le, zR 0 h0, zI 1 v0, zI 2 v1, zI 3 v2]) hx hb dX6_order_134 hl (by decide +kernel) rfl (fun ls hl => ?_)
                              refine g_aget (D := G.1) (ci := 6) (v := .int (m_X6_tells_h039 pb (m_X6_tellsPlaces_fa pb ru fst fro fmo fkd fcd fsr ffa fga (nC v0) (nC v1)) (m_X6_tellsPlaces_ga pb ru fst fro fmo fkd fcd fsr ffa fga (nC v0) (nC v1)) (nI ((nC v2) / 10)) n95)) (C := RX6) (T := TX6) (N := 42) hx hb dX6_order_136 rfl (lv_at hl 4 rfl) hts hiX6 hown hK hP 0 rfl rfl 39 (by decide +kernel) kf231 (fun _ h9 => h9) rfl dX6_order_137 ?_
                              refine lv_istore (lv' := [zI 5 (m_X6_tells_h039 pb (m_X6_tellsPlaces_fa pb ru fst fro fmo fkd fcd fsr ffa fga (nC v0) (nC v1)) (m_X6_tellsPlaces_ga pb ru fst fro fmo fkd fcd fsr ffa fga (nC v0) (nC v1)) (nI ((nC v2) / 10)) n95), zI 4 (m_X6_tells_h040 pb (m_X6_tellsPlaces_fa pb ru fst fro fmo fkd fcd fsr ffa fga (nC v0) (nC v1)) (m_X6_tellsPlaces_ga pb ru fst fro fmo fkd fcd fsr ffa fga (nC v0) (nC v1)) (nI ((nC v2) / 10)) n95), zI 7 (nI n95), zI 6 (nI ((g_X6_order_62q1 pb).2)), zR 0 h0, zI 1 v0, zI 2 v1, zI 3 v2]) hx hb dX6_order_140 hl (by decide +kernel) rfl (fun ls hl => ?_)
                              refine lv_iinc (v := nI (n95 + 1)) (lv' := [zI 7 (nI (n95 + 1)), zI 5 (m_X6_tells_h039 pb (m_X6_tellsPlaces_fa pb ru fst fro fmo fkd fcd fsr ffa fga (nC v0) (nC v1)) (m_X6_tellsPlaces_ga pb ru fst fro fmo fkd fcd fsr ffa fga (nC v0) (nC v1)) (nI ((nC v2) / 10)) n95), zI 4 (m_X6_tells_h040 pb (m_X6_tellsPlaces_fa pb ru fst fro fmo fkd fcd fsr ffa fga (nC v0) (nC v1)) (m_X6_tellsPlaces_ga pb ru fst fro fmo fkd fcd fsr ffa fga (nC v0) (nC v1)) (nI ((nC v2) / 10)) n95), zI 6 (nI ((g_X6_order_62q1 pb).2)), zR 0 h0, zI 1 v0, zI 2 v1, zI 3 v2]) hx hb dX6_order_142 hl (k := 2) rfl (nI_add n95 1) (by decide +kernel) rfl (fun ls hl => ?_)
                              refine lv_goto (tgt := 95) hx hb dX6_order_145 (by decide +kernel) ?_
                              exact ih9_95 (n95 + 1) (m_X6_tells_h040 pb (m_X6_tellsPlaces_fa pb ru fst fro fmo fkd fcd fsr ffa fga (nC v0) (nC v1)) (m_X6_tellsPlaces_ga pb ru fst fro fmo fkd fcd fsr ffa fga (nC v0) (nC v1)) (nI ((nC v2) / 10)) n95) (m_X6_tells_h039 pb (m_X6_tellsPlaces_fa pb ru fst fro fmo fkd fcd fsr ffa fga (nC v0) (nC v1)) (m_X6_tellsPlaces_ga pb ru fst fro fmo fkd fcd fsr ffa fga (nC v0) (nC v1)) (nI ((nC v2) / 10)) n95) (m_X6_tells_h039 pb (m_X6_tellsPlaces_fa pb ru fst fro fmo fkd fcd fsr ffa fga (nC v0) (nC v1)) (m_X6_tellsPlaces_ga pb ru fst fro fmo fkd fcd fsr ffa fga (nC v0) (nC v1)) (nI ((nC v2) / 10)) n95) (m_X6_tells_h040 pb (m_X6_tellsPlaces_fa pb ru fst fro fmo fkd fcd fsr ffa fga (nC v0) (nC v1)) (m_X6_tellsPlaces_ga pb ru fst fro fmo fkd fcd fsr ffa fga (nC v0) (nC v1)) (nI ((nC v2) / 10)) n95) (by omega) (Eq.trans (Eq.symm ((congrArg (fun z9 => p_X6_order_95q1 pb ru fst fro fmo fkd fcd fsr ffa fga v0 v1 v2 (z9) n95 be le z39w z40w) (show ((g_X6_order_62q1 pb).2) - n95 = ((g_X6_order_62q1 pb).2) - (n95 + 1) + 1 by omega)).trans (by show p_X6_order_95q1 pb ru fst fro fmo fkd fcd fsr ffa fga v0 v1 v2 (((g_X6_order_62q1 pb).2) - (n95 + 1) + 1) n95 be le z39w z40w = _; rw [p_X6_order_95q1, if_neg c_76, if_neg c_77, if_neg c_78]))) R95) (by omega) _ _ hP hD hS ls (lv_sub hl [0, 3, 1, 2, 4, 5, 6, 7] rfl)
                  exact loop_95 (((g_X6_order_62q1 pb).2) - 0 + 1) 0 (-1) 0 s39 s40 (by omega) (rfl) (by omega) _ _ hP hD hS ls hl
                · skip
                  have c_54N : i62 < pb := nI_le0 (a := pb) (b := i62) (by omega) (by omega) c_54
                  refine lv_iload hx hb dX6_order_71 (lv_at hl 1 rfl) ?_
                  refine g_aget (D := G.1) (ci := 6) (v := .int (nI pb)) (C := RX6) (T := TX6) (N := 42) hx hb dX6_order_73 rfl (lv_at hl 4 rfl) hts hiX6 hown hK hP 0 rfl rfl 0 (by decide +kernel) kf88 (fun _ h9 => h9) rfl dX6_order_74 ?_
                  refine lv_imul hx hb dX6_order_77 ?_
                  refine g_topi (y := nI (nu * pb)) (pk_mul nu pb) ?_
                  refine lv_istore (lv' := [zI 6 (nI (nu * pb)), zI 7 (nI i62), zI 5 0, zI 4 (-1), zR 0 h0, zI 1 v0, zI 2 v1, zI 3 v2]) hx hb dX6_order_78 hl (by decide +kernel) rfl (fun ls hl => ?_)
                  refine lv_iinc (v := nI (i62 + 1)) (lv' := [zI 7 (nI (i62 + 1)), zI 6 (nI (nu * pb)), zI 5 0, zI 4 (-1), zR 0 h0, zI 1 v0, zI 2 v1, zI 3 v2]) hx hb dX6_order_80 hl (k := 1) rfl (nI_add i62 1) (by decide +kernel) rfl (fun ls hl => ?_)
                  refine lv_goto (tgt := 62) hx hb dX6_order_83 (by decide +kernel) ?_
                  exact ih9_62 (i62 + 1) (nu * pb) (by omega) (Eq.trans (Eq.symm ((congrArg (fun z9 => p_X6_order_62q1 pb (z9) i62 nu) (show pb - i62 = pb - (i62 + 1) + 1 by omega)).trans (by show p_X6_order_62q1 pb (pb - (i62 + 1) + 1) i62 nu = _; rw [p_X6_order_62q1]))) R62) (by have := Nat.mul_le_mul hnu hpb; rw [Nat.pow_succ]; exact this) (by omega) _ _ hP hD hS ls hl
            exact loop_62 (pb - 0 + 1) 0 0 (by omega) (rfl) (by decide +kernel) (by omega) _ _ hP hD hS ls hl
        · skip
          have c_26N : 1 < ((nC v2) % 10) := nI_le0 (a := ((nC v2) % 10)) (b := 1) (by omega) (by omega) c_26
          refine lv_bipush (v := -7) hx hb dX6_order_36 (by decide +kernel) ?_
          have q_80 : m_X6_order_ro pb jg ru fst fro fmo fkd fcd fsr ffa fga v0 v1 v2 = fro := by unfold m_X6_order_ro; rw [if_pos p_4, if_pos p_11, if_pos p_19, if_neg c_26]
          have hz9 : gPD G A [zo6 h0 (nI pb) kd mo st (nI jg) ro tp (nI td) cd sr (nI tx) (nI ru) him ir ih ss sq ce lw s19 s20 s21 s22 wo he s25 s26 s27 sk na kp s31 s32 s33 s34 gb go fa ga s39 s40 vo, zi G st 12 fst, zi G ro 12 (m_X6_order_ro pb jg ru fst fro fmo fkd fcd fsr ffa fga v0 v1 v2), zi G mo 6 fmo, zi G kd 6 fkd, zi G cd 1200 fcd, zi G sr 24 (nF fsr), zi G sk 200 fsk, zi G na 6 fna, zi G kp 24 fkp, zi G fa 36 ffa, zi G ga 36 fga] H := ⟨by rw [q_80]; exact hP, by rw [q_80]; exact hD⟩
          have hP9 := hz9.1
          have hD9 := hz9.2
          have hpost : (fun (r : Int32) (u : Int32 × Int32 × Int32 × Int32 × Int32 × Int32 × (Nat → Int32) × (Nat → Int32) × (Nat → Int32) × (Nat → Int32) × (Nat → Int32)) => match u with | (z31, z32, z33, z34, z39, z40, ysk, yna, ykp, yfa, yga) => r = m_X6_order pb jg ru s39 s40 fst fro fmo fkd fcd fsr ffa fga v0 v1 v2) (-7) (s31, s32, s33, s34, s39, s40, fsk, fna, fkp, ffa, fga) := (show m_X6_order pb jg ru s39 s40 fst fro fmo fkd fcd fsr ffa fga v0 v1 v2 = (-7) from by unfold m_X6_order; rw [if_pos p_4, if_pos p_11, if_pos p_19, if_neg c_26]).symm
          exact W.iret (v := (-7)) hx hb hr (fun t ht hW => ⟨⟨(-7), (s31, s32, s33, s34, s39, s40, fsk, fna, fkp, ffa, fga), rfl, hpost, by rw [ht]; exact hP9, va_K.moved hW.alike hK, hD9⟩, hS.F ht⟩) hS.2.2 dX6_order_38
  · skip
    have n_5 : (mHas jg v0) = false := bz_eq rfl c_3
    have n_5N : ¬ ((mHas jg v0) = true) := by rw [n_5]; decide
    refine lv_bipush (v := -5) hx hb dX6_order_8 (by decide +kernel) ?_
    have q_81 : m_X6_order_ro pb jg ru fst fro fmo fkd fcd fsr ffa fga v0 v1 v2 = fro := by unfold m_X6_order_ro; rw [if_neg n_5N]
    have hz9 : gPD G A [zo6 h0 (nI pb) kd mo st (nI jg) ro tp (nI td) cd sr (nI tx) (nI ru) him ir ih ss sq ce lw s19 s20 s21 s22 wo he s25 s26 s27 sk na kp s31 s32 s33 s34 gb go fa ga s39 s40 vo, zi G st 12 fst, zi G ro 12 (m_X6_order_ro pb jg ru fst fro fmo fkd fcd fsr ffa fga v0 v1 v2), zi G mo 6 fmo, zi G kd 6 fkd, zi G cd 1200 fcd, zi G sr 24 (nF fsr), zi G sk 200 fsk, zi G na 6 fna, zi G kp 24 fkp, zi G fa 36 ffa, zi G ga 36 fga] H := ⟨by rw [q_81]; exact hP, by rw [q_81]; exact hD⟩
    have hP9 := hz9.1
    have hD9 := hz9.2
    have hpost : (fun (r : Int32) (u : Int32 × Int32 × Int32 × Int32 × Int32 × Int32 × (Nat → Int32) × (Nat → Int32) × (Nat → Int32) × (Nat → Int32) × (Nat → Int32)) => match u with | (z31, z32, z33, z34, z39, z40, ysk, yna, ykp, yfa, yga) => r = m_X6_order pb jg ru s39 s40 fst fro fmo fkd fcd fsr ffa fga v0 v1 v2) (-5) (s31, s32, s33, s34, s39, s40, fsk, fna, fkp, ffa, fga) := (show m_X6_order pb jg ru s39 s40 fst fro fmo fkd fcd fsr ffa fga v0 v1 v2 = (-5) from by unfold m_X6_order; rw [if_neg n_5N]).symm
    exact W.iret (v := (-5)) hx hb hr (fun t ht hW => ⟨⟨(-5), (s31, s32, s33, s34, s39, s40, fsk, fna, fkp, ffa, fga), rfl, hpost, by rw [ht]; exact hP9, va_K.moved hW.alike hK, hD9⟩, hS.F ht⟩) hS.2.2 dX6_order_10
noncomputable def p_X6_counsel_98 (pb : Nat) (ru : Nat) (fst : Nat → Int32) (fro : Nat → Int32) (fmo : Nat → Int32) (fkd : Nat → Int32) (fcd : Nat → Int32) (fsr : Nat → Nat) (ffa : Nat → Int32) (fga : Nat → Int32) (v0 : Int32) (v1 : Int32) (s9 : Nat) (y63vo : Nat → Int32) : Nat → Nat → Int32 → Int32 → Nat × Int32 × Int32
  | 0, p98, bs, ms => (p98, bs, ms)
  | q9 + 1, p98, bs, ms => if (((nI (nAll pb - s9 - 1)) >>> ((nI p98) &&& 31)) &&& 1) = 0 then (if bs = (-1) then p_X6_counsel_98 pb ru fst fro fmo fkd fcd fsr ffa fga v0 v1 s9 y63vo q9 (p98 + 1) (nI p98) ((-1) * (((m_X6_tellsPlaces_ga pb ru fst fro fmo fkd fcd fsr ffa fga (nC v0) (nC v1)) ((6 * (nOn (nAll pb - s9 - 1))) + p98)) + (y63vo (nOr (nAll pb - s9 - 1) p98)))) else (if ((-1) * (((m_X6_tellsPlaces_ga pb ru fst fro fmo fkd fcd fsr ffa fga (nC v0) (nC v1)) ((6 * (nOn (nAll pb - s9 - 1))) + p98)) + (y63vo (nOr (nAll pb - s9 - 1) p98)))) ≤ ms then p_X6_counsel_98 pb ru fst fro fmo fkd fcd fsr ffa fga v0 v1 s9 y63vo q9 (p98 + 1) bs ms else p_X6_counsel_98 pb ru fst fro fmo fkd fcd fsr ffa fga v0 v1 s9 y63vo q9 (p98 + 1) (nI p98) ((-1) * (((m_X6_tellsPlaces_ga pb ru fst fro fmo fkd fcd fsr ffa fga (nC v0) (nC v1)) ((6 * (nOn (nAll pb - s9 - 1))) + p98)) + (y63vo (nOr (nAll pb - s9 - 1) p98)))))) else p_X6_counsel_98 pb ru fst fro fmo fkd fcd fsr ffa fga v0 v1 s9 y63vo q9 (p98 + 1) bs ms
noncomputable def g_X6_counsel_98 (pb : Nat) (ru : Nat) (fst : Nat → Int32) (fro : Nat → Int32) (fmo : Nat → Int32) (fkd : Nat → Int32) (fcd : Nat → Int32) (fsr : Nat → Nat) (ffa : Nat → Int32) (fga : Nat → Int32) (v0 : Int32) (v1 : Int32) (s9 : Nat) (y63vo : Nat → Int32) : Nat × Int32 × Int32 := p_X6_counsel_98 pb ru fst fro fmo fkd fcd fsr ffa fga v0 v1 s9 y63vo (pb - 0) 0 (-1) 0
noncomputable def p_X6_counsel_98q1 (pb : Nat) (ru : Nat) (fst : Nat → Int32) (fro : Nat → Int32) (fmo : Nat → Int32) (fkd : Nat → Int32) (fcd : Nat → Int32) (fsr : Nat → Nat) (ffa : Nat → Int32) (fga : Nat → Int32) (v0 : Int32) (v1 : Int32) (s9 : Nat) (y63vo : Nat → Int32) : Nat → Nat → Int32 → Int32 → Nat × Int32 × Int32
  | 0, p98, bs, ms => (p98, bs, ms)
  | q9 + 1, p98, bs, ms => if (((nI (nAll pb - s9 - 1)) >>> ((nI p98) &&& 31)) &&& 1) = 0 then (if bs = (-1) then p_X6_counsel_98q1 pb ru fst fro fmo fkd fcd fsr ffa fga v0 v1 s9 y63vo q9 (p98 + 1) (nI p98) (1 * (((m_X6_tellsPlaces_ga pb ru fst fro fmo fkd fcd fsr ffa fga (nC v0) (nC v1)) ((6 * (nOn (nAll pb - s9 - 1))) + p98)) + (y63vo (nOr (nAll pb - s9 - 1) p98)))) else (if (1 * (((m_X6_tellsPlaces_ga pb ru fst fro fmo fkd fcd fsr ffa fga (nC v0) (nC v1)) ((6 * (nOn (nAll pb - s9 - 1))) + p98)) + (y63vo (nOr (nAll pb - s9 - 1) p98)))) ≤ ms then p_X6_counsel_98q1 pb ru fst fro fmo fkd fcd fsr ffa fga v0 v1 s9 y63vo q9 (p98 + 1) bs ms else p_X6_counsel_98q1 pb ru fst fro fmo fkd fcd fsr ffa fga v0 v1 s9 y63vo q9 (p98 + 1) (nI p98) (1 * (((m_X6_tellsPlaces_ga pb ru fst fro fmo fkd fcd fsr ffa fga (nC v0) (nC v1)) ((6 * (nOn (nAll pb - s9 - 1))) + p98)) + (y63vo (nOr (nAll pb - s9 - 1) p98)))))) else p_X6_counsel_98q1 pb ru fst fro fmo fkd fcd fsr ffa fga v0 v1 s9 y63vo q9 (p98 + 1) bs ms
noncomputable def g_X6_counsel_98q1 (pb : Nat) (ru : Nat) (fst : Nat → Int32) (fro : Nat → Int32) (fmo : Nat → Int32) (fkd : Nat → Int32) (fcd : Nat → Int32) (fsr : Nat → Nat) (ffa : Nat → Int32) (fga : Nat → Int32) (v0 : Int32) (v1 : Int32) (s9 : Nat) (y63vo : Nat → Int32) : Nat × Int32 × Int32 := p_X6_counsel_98q1 pb ru fst fro fmo fkd fcd fsr ffa fga v0 v1 s9 y63vo (pb - 0) 0 (-1) 0
noncomputable def p_X6_counsel_63 (pb : Nat) (ru : Nat) (fst : Nat → Int32) (fro : Nat → Int32) (fmo : Nat → Int32) (fkd : Nat → Int32) (fcd : Nat → Int32) (fsr : Nat → Nat) (ffa : Nat → Int32) (fga : Nat → Int32) (v0 : Int32) (v1 : Int32) : Nat → Nat → Int32 → (Nat → Int32) → Nat × Int32 × (Nat → Int32)
  | 0, s9, fi, y63vo => (s9, fi, y63vo)
  | q9 + 1, s9, fi, y63vo => if (nI ((nOn (nAll pb - s9 - 1)) % 2)) = 0 then p_X6_counsel_63 pb ru fst fro fmo fkd fcd fsr ffa fga v0 v1 q9 (s9 + 1) ((g_X6_counsel_98q1 pb ru fst fro fmo fkd fcd fsr ffa fga v0 v1 s9 y63vo).2.1) (upd y63vo (nAll pb - s9 - 1) (1 * ((g_X6_counsel_98q1 pb ru fst fro fmo fkd fcd fsr ffa fga v0 v1 s9 y63vo).2.2))) else p_X6_counsel_63 pb ru fst fro fmo fkd fcd fsr ffa fga v0 v1 q9 (s9 + 1) ((g_X6_counsel_98 pb ru fst fro fmo fkd fcd fsr ffa fga v0 v1 s9 y63vo).2.1) (upd y63vo (nAll pb - s9 - 1) ((-1) * ((g_X6_counsel_98 pb ru fst fro fmo fkd fcd fsr ffa fga v0 v1 s9 y63vo).2.2)))
noncomputable def g_X6_counsel_63 (pb : Nat) (ru : Nat) (fst : Nat → Int32) (fro : Nat → Int32) (fmo : Nat → Int32) (fkd : Nat → Int32) (fcd : Nat → Int32) (fsr : Nat → Nat) (ffa : Nat → Int32) (fga : Nat → Int32) (fvo : Nat → Int32) (v0 : Int32) (v1 : Int32) : Nat × Int32 × (Nat → Int32) := p_X6_counsel_63 pb ru fst fro fmo fkd fcd fsr ffa fga v0 v1 (nAll pb - 0) 0 (-1) (upd fvo (nAll pb) 0)
noncomputable def m_X6_counsel (pb : Nat) (jg : Nat) (ru : Nat) (fst : Nat → Int32) (fro : Nat → Int32) (fmo : Nat → Int32) (fkd : Nat → Int32) (fcd : Nat → Int32) (fsr : Nat → Nat) (ffa : Nat → Int32) (fga : Nat → Int32) (fvo : Nat → Int32) (v0 : Int32) (v1 : Int32) (v2 : Int32) : Int32 := if (mHas jg v0) = true then (if 0 ≤ v1 ∧ v1 ≤ 60 then (if 0 ≤ v2 ∧ v2 ≤ 1 then (if (nI (nC v2)) = 0 then ((g_X6_counsel_63 pb ru fst fro fmo fkd fcd fsr ffa fga fvo v0 v1).2.2) 0 else ((g_X6_counsel_63 pb ru fst fro fmo fkd fcd fsr ffa fga fvo v0 v1).2.1)) else -7) else -7) else -5
noncomputable def m_X6_counsel_ro (pb : Nat) (jg : Nat) (ru : Nat) (fst : Nat → Int32) (fro : Nat → Int32) (fmo : Nat → Int32) (fkd : Nat → Int32) (fcd : Nat → Int32) (fsr : Nat → Nat) (ffa : Nat → Int32) (fga : Nat → Int32) (v0 : Int32) (v1 : Int32) (v2 : Int32) : Nat → Int32 := if (mHas jg v0) = true then (if 0 ≤ v1 ∧ v1 ≤ 60 then (if 0 ≤ v2 ∧ v2 ≤ 1 then (m_X6_tellsPlaces_ro pb ru fst fro fmo fkd fcd fsr ffa fga (nC v0) (nC v1)) else fro) else fro) else fro
abbrev q_X6_counsel (G : gG) (h0 kd mo st ro tp cd sr ir ih ss sq ce lw wo he sk na kp gb go fa ga vo : Nat) (pb : Nat) (jg : Nat) (td : Nat) (tx : Nat) (ru : Nat) (him : Int32) (s19 : Int32) (s20 : Int32) (s21 : Int32) (s22 : Int32) (s25 : Int32) (s26 : Int32) (s27 : Int32) (s31 : Int32) (s32 : Int32) (s33 : Int32) (s34 : Int32) (s39 : Int32) (s40 : Int32) (fst : Nat → Int32) (fro : Nat → Int32) (fmo : Nat → Int32) (fkd : Nat → Int32) (fcd : Nat → Int32) (fsr : Nat → Nat) (fsk : Nat → Int32) (fna : Nat → Int32) (fkp : Nat → Int32) (ffa : Nat → Int32) (fga : Nat → Int32) (fvo : Nat → Int32) (v0 : Int32) (v1 : Int32) (v2 : Int32) (A : Nat → Prop) : Array Value → State → Outcome → State → Prop := va_Qi (fun (r : Int32) (u : Int32 × Int32 × Int32 × Int32 × (Nat → Int32) × (Nat → Int32) × (Nat → Int32) × (Nat → Int32) × (Nat → Int32) × (Nat → Int32)) => match u with | (z31, z32, z33, z34, ysk, yna, ykp, yfa, yga, yvo) => r = m_X6_counsel pb jg ru fst fro fmo fkd fcd fsr ffa fga fvo v0 v1 v2) (fun (u : Int32 × Int32 × Int32 × Int32 × (Nat → Int32) × (Nat → Int32) × (Nat → Int32) × (Nat → Int32) × (Nat → Int32) × (Nat → Int32)) t => match u with | (z31, z32, z33, z34, ysk, yna, ykp, yfa, yga, yvo) => va_P G.1 vwCl [zo6 h0 (nI pb) kd mo st (nI jg) ro tp (nI td) cd sr (nI tx) (nI ru) him ir ih ss sq ce lw s19 s20 s21 s22 wo he s25 s26 s27 sk na kp z31 z32 z33 z34 gb go fa ga s39 s40 vo, zi G st 12 fst, zi G ro 12 (m_X6_counsel_ro pb jg ru fst fro fmo fkd fcd fsr ffa fga v0 v1 v2), zi G mo 6 fmo, zi G kd 6 fkd, zi G cd 1200 fcd, zi G sr 24 (nF fsr), zi G sk 200 ysk, zi G na 6 yna, zi G kp 24 ykp, zi G fa 36 yfa, zi G ga 36 yga, zi G vo 64 yvo] t.heap ∧ gK G t ∧ va_D A [zo6 h0 (nI pb) kd mo st (nI jg) ro tp (nI td) cd sr (nI tx) (nI ru) him ir ih ss sq ce lw s19 s20 s21 s22 wo he s25 s26 s27 sk na kp z31 z32 z33 z34 gb go fa ga s39 s40 vo, zi G st 12 fst, zi G ro 12 (m_X6_counsel_ro pb jg ru fst fro fmo fkd fcd fsr ffa fga v0 v1 v2), zi G mo 6 fmo, zi G kd 6 fkd, zi G cd 1200 fcd, zi G sr 24 (nF fsr), zi G sk 200 ysk, zi G na 6 yna, zi G kp 24 ykp, zi G fa 36 yfa, zi G ga 36 yga, zi G vo 64 yvo]) A
set_option maxHeartbeats 4000000 in
set_option maxRecDepth 100000 in
theorem c_X6_counsel (l : Launch) (G : gG) (h0 kd mo st ro tp cd sr ir ih ss sq ce lw wo he sk na kp gb go fa ga vo : Nat) (pb : Nat) (jg : Nat) (td : Nat) (tx : Nat) (ru : Nat) (him : Int32) (s19 : Int32) (s20 : Int32) (s21 : Int32) (s22 : Int32) (s25 : Int32) (s26 : Int32) (s27 : Int32) (s31 : Int32) (s32 : Int32) (s33 : Int32) (s34 : Int32) (s39 : Int32) (s40 : Int32) (fst : Nat → Int32) (fro : Nat → Int32) (fmo : Nat → Int32) (fkd : Nat → Int32) (fcd : Nat → Int32) (fsr : Nat → Nat) (fsk : Nat → Int32) (fna : Nat → Int32) (fkp : Nat → Int32) (ffa : Nat → Int32) (fga : Nat → Int32) (fvo : Nat → Int32) (v0 : Int32) (v1 : Int32) (v2 : Int32) (sz : Nat) (hwa : ∀ t9, t9 < tx → mWf fcd fsr t9) (hpb : pb ≤ 6) (hjg : jg ≤ 4) (htx : tx ≤ 6) (hru : ru < tx) : Met l yX6_counsel wsX6_counsel ({ frames := 8, cells := 0, slots := 0, locals := 194 }) (gPre G [.ref h0, .int v0, .int v1, .int v2] [zo6 h0 (nI pb) kd mo st (nI jg) ro tp (nI td) cd sr (nI tx) (nI ru) him ir ih ss sq ce lw s19 s20 s21 s22 wo he s25 s26 s27 sk na kp s31 s32 s33 s34 gb go fa ga s39 s40 vo, zi G st 12 fst, zi G ro 12 fro, zi G mo 6 fmo, zi G kd 6 fkd, zi G cd 1200 fcd, zi G sr 24 (nF fsr), zi G sk 200 fsk, zi G na 6 fna, zi G kp 24 fkp, zi G fa 36 ffa, zi G ga 36 fga, zi G vo 64 fvo] sz) (q_X6_counsel G h0 kd mo st ro tp cd sr ir ih ss sq ce lw wo he sk na kp gb go fa ga vo pb jg td tx ru him s19 s20 s21 s22 s25 s26 s27 s31 s32 s33 s34 s39 s40 fst fro fmo fkd fcd fsr fsk fna fkp ffa fga fvo v0 v1 v2 (va_A [zo6 h0 (nI pb) kd mo st (nI jg) ro tp (nI td) cd sr (nI tx) (nI ru) him ir ih ss sq ce lw s19 s20 s21 s22 wo he s25 s26 s27 sk na kp s31 s32 s33 s34 gb go fa ga s39 s40 vo, zi G st 12 fst, zi G ro 12 fro, zi G mo 6 fmo, zi G kd 6 fkd, zi G cd 1200 fcd, zi G sr 24 (nF fsr), zi G sk 200 fsk, zi G na 6 fna, zi G kp 24 fkp, zi G fa 36 ffa, zi G ga 36 fga, zi G vo 64 fvo] sz)) 0 0 (va_A [zo6 h0 (nI pb) kd mo st (nI jg) ro tp (nI td) cd sr (nI tx) (nI ru) him ir ih ss sq ce lw s19 s20 s21 s22 wo he s25 s26 s27 sk na kp s31 s32 s33 s34 gb go fa ga s39 s40 vo, zi G st 12 fst, zi G ro 12 fro, zi G mo 6 fmo, zi G kd 6 fkd, zi G cd 1200 fcd, zi G sr 24 (nF fsr), zi G sk 200 fsk, zi G na 6 fna, zi G kp 24 fkp, zi G fa 36 ffa, zi G ga 36 fga, zi G vo 64 fvo] sz) := by
  refine Met.ofW (cc := cX6_counsel) (maxL := 14) (ret := (some .int)) (by decide +kernel) rfl ?_
  intro p e s m args below meth c s₁ B hml hv
  obtain ⟨rfl, hsz, hP, hK, hD0⟩ := hv
  have hx := B.exec
  have hb := B.bytes
  have hr := B.returns
  have hts := atoms_spec (ws := wsX6_counsel) B.pre
  have hown : s.vm.findClass RX6 = some m.cls := findClass_of_methodNamed B.named
  have hlocks := B.notSynchronized
  subst hsz
  have hD := hD0.self (sz := s.heap.size)
  generalize hAe : va_A [zo6 h0 (nI pb) kd mo st (nI jg) ro tp (nI td) cd sr (nI tx) (nI ru) him ir ih ss sq ce lw s19 s20 s21 s22 wo he s25 s26 s27 sk na kp s31 s32 s33 s34 gb go fa ga s39 s40 vo, zi G st 12 fst, zi G ro 12 fro, zi G mo 6 fmo, zi G kd 6 fkd, zi G cd 1200 fcd, zi G sr 24 (nF fsr), zi G sk 200 fsk, zi G na 6 fna, zi G kp 24 fkp, zi G fa 36 ffa, zi G ga 36 fga, zi G vo 64 fvo] s.heap.size = A at hD ⊢
  have hA : ∀ q : Nat, s.heap.size ≤ q → A q := fun q h => by rw [← hAe]; exact Or.inr h
  have hS : va_S A s.heap s.heap [] := va_S.rf
  have hz9 : gPD G A [zo6 h0 (nI pb) kd mo st (nI jg) ro tp (nI td) cd sr (nI tx) (nI ru) him ir ih ss sq ce lw s19 s20 s21 s22 wo he s25 s26 s27 sk na kp s31 s32 s33 s34 gb go fa ga s39 s40 vo, zi G st 12 fst, zi G ro 12 fro, zi G mo 6 fmo, zi G kd 6 fkd, zi G cd 1200 fcd, zi G sr 24 (nF fsr), zi G sk 200 fsk, zi G na 6 fna, zi G kp 24 fkp, zi G fa 36 ffa, zi G ga 36 fga, zi G vo 64 fvo] s.heap := ⟨hP, hD⟩
  have hP := hz9.1
  have hD := hz9.2
  have hl := lv_entry ([.ref h0, .int v0, .int v1, .int v2]) (n := 14) (Nat.le_of_ble_eq_true rfl)
  rw [lg_entry_eq]
  generalize (lg_sl ([.ref h0, .int v0, .int v1, .int v2]) ++ List.replicate (14 - (lg_sl ([.ref h0, .int v0, .int v1, .int v2])).length) Slot.unset).toArray = ls at hl ⊢
  have hl : lv_has ls 14 [zR 0 h0, zI 1 v0, zI 2 v1, zI 3 v2] := hl
  have kf88 := hts (.fieldLink RX6 88 "PebbleInShoeModel" "pebbles" "I") (by decide +kernel)
  have hiX6 := (by decide +kernel : ∀ w ∈ wsX60, w ∈ wsX6_counsel)
  have kf77 := hts (.fieldLink RX6 77 "PebbleInShoeModel" "valueOf" "[I") (by decide +kernel)
  have kf74 := hts (.fieldLink RX6 74 "PebbleInShoeModel" "guiltyAs" "[I") (by decide +kernel)
  refine lv_aload_n hx hb dX6_counsel_0 rfl (lv_at hl 0 rfl) ?_
  refine lv_iload_n hx hb dX6_counsel_1 rfl (lv_at hl 1 rfl) ?_
  refine z_calli [0] (v := bz (mHas jg v0)) (fun _ _ h => h) (va_runV (As := [.int v0]) (rest := []) ⟨hx, hb, hml, hown, hts⟩ (c_X6_isJudge l G h0 kd mo st ro tp cd sr ir ih ss sq ce lw wo he sk na kp gb go fa ga vo pb jg td tx ru him s19 s20 s21 s22 s25 s26 s27 s31 s32 s33 s34 s39 s40 v0 s.heap.size (by first | exact hpb | assumption | omega) (by first | exact hjg | assumption | omega) (by first | exact htx | assumption | omega) (by first | exact hru | assumption | omega)) (cwV 1 hts gX6_counsel_X6_isJudge rfl rfl rfl (by decide +kernel) ⟨Nat.le_of_ble_eq_true rfl, Nat.le_of_ble_eq_true rfl⟩) ⟨gPre_blind, va_recv (q := (RX6, TX6, 42)) hK hP (ci := 6) (q0 := 0) rfl rfl, fun U hU hW => gPre_ofF [0] hU hW hK hP hD (by decide +kernel) rfl⟩ rfl rfl hl.1 rfl (lv_room (Nat.le_of_ble_eq_true rfl)) dX6_counsel_2 ⟨Nat.le_of_ble_eq_true rfl, Nat.le_of_ble_eq_true rfl⟩) hS hD hA rfl (fun u t H locs ht hvm hB hz1 hk1 hFq hAq hS => ?_)
  obtain ⟨hP1, hK1, hD1⟩ := hB
  have hP := zKeep hP hD [0] hAq hk1 ht hP1 rfl
  refine lv_if_ne (tgt := 11) hx hb dX6_counsel_5 (by decide +kernel) (fun c_3 => ?_) (fun c_3 => ?_)
  · skip
    have p_4 : (mHas jg v0) = true := bz_ne rfl c_3
    have hv_6 : v0 = nI (nC v0) := mHas_eq p_4
    have hk_7 : nC v0 < jg := mHas_lt (by omega) p_4
    refine lv_iload_n hx hb dX6_counsel_11 rfl (lv_at hl 2 rfl) ?_
    refine z_calli [] (v := bz (decide (0 ≤ v1 ∧ v1 ≤ 60))) (fun _ _ h => h) (va_runS (As := [.int v1]) (rest := []) ⟨hx, hb, hml, hown, hts⟩ (c_X6_isCase l G v1 H.size) (va_cwS 1 hts gX6_counsel_X6_isCase rfl rfl rfl (by decide +kernel) ⟨Nat.le_of_ble_eq_true rfl, Nat.le_of_ble_eq_true rfl⟩) ⟨gPre_blind, fun U hU hW => gPre_ofF [] hU hW hK hP hD (by decide +kernel) rfl⟩ rfl rfl hl.1 rfl (lv_room (Nat.le_of_ble_eq_true rfl)) dX6_counsel_12 ⟨Nat.le_of_ble_eq_true rfl, Nat.le_of_ble_eq_true rfl⟩) hS hD hA rfl (fun u t H locs ht hvm hB hz1 hk1 hFq hAq hS => ?_)
    obtain ⟨hP1, hK1, hD1⟩ := hB
    have hP := zKeep hP hD [] hAq hk1 ht hP1 rfl
    refine lv_if_eq (tgt := 27) hx hb dX6_counsel_15 (by decide +kernel) (fun c_10 => ?_) (fun c_10 => ?_)
    · skip
      have n_12 : ¬ (0 ≤ v1 ∧ v1 ≤ 60) := of_decide_eq_false (bz_eq rfl c_10)
      refine lv_bipush (v := -7) hx hb dX6_counsel_27 (by decide +kernel) ?_
      have q_15 : m_X6_counsel_ro pb jg ru fst fro fmo fkd fcd fsr ffa fga v0 v1 v2 = fro := by unfold m_X6_counsel_ro; rw [if_pos p_4, if_neg n_12]
      have hz9 : gPD G A [zo6 h0 (nI pb) kd mo st (nI jg) ro tp (nI td) cd sr (nI tx) (nI ru) him ir ih ss sq ce lw s19 s20 s21 s22 wo he s25 s26 s27 sk na kp s31 s32 s33 s34 gb go fa ga s39 s40 vo, zi G st 12 fst, zi G ro 12 (m_X6_counsel_ro pb jg ru fst fro fmo fkd fcd fsr ffa fga v0 v1 v2), zi G mo 6 fmo, zi G kd 6 fkd, zi G cd 1200 fcd, zi G sr 24 (nF fsr), zi G sk 200 fsk, zi G na 6 fna, zi G kp 24 fkp, zi G fa 36 ffa, zi G ga 36 fga, zi G vo 64 fvo] H := ⟨by rw [q_15]; exact hP, by rw [q_15]; exact hD⟩
      have hP9 := hz9.1
      have hD9 := hz9.2
      have hpost : (fun (r : Int32) (u : Int32 × Int32 × Int32 × Int32 × (Nat → Int32) × (Nat → Int32) × (Nat → Int32) × (Nat → Int32) × (Nat → Int32) × (Nat → Int32)) => match u with | (z31, z32, z33, z34, ysk, yna, ykp, yfa, yga, yvo) => r = m_X6_counsel pb jg ru fst fro fmo fkd fcd fsr ffa fga fvo v0 v1 v2) (-7) (s31, s32, s33, s34, fsk, fna, fkp, ffa, fga, fvo) := (show m_X6_counsel pb jg ru fst fro fmo fkd fcd fsr ffa fga fvo v0 v1 v2 = (-7) from by unfold m_X6_counsel; rw [if_pos p_4, if_neg n_12]).symm
      exact W.iret (v := (-7)) hx hb hr (fun t ht hW => ⟨⟨(-7), (s31, s32, s33, s34, fsk, fna, fkp, ffa, fga, fvo), rfl, hpost, by rw [ht]; exact hP9, va_K.moved hW.alike hK, hD9⟩, hS.F ht⟩) hS.2.2 dX6_counsel_29
    · skip
      have p_11 : 0 ≤ v1 ∧ v1 ≤ 60 := of_decide_eq_true (bz_ne rfl c_10)
      have hv_13 : v1 = nI (nC v1) := nC_eq p_11.1
      have hk_14 : nC v1 ≤ 60 := nC_le (n := 60) (by omega) p_11
      refine lv_iload_n hx hb dX6_counsel_18 rfl (lv_at hl 3 rfl) ?_
      refine lv_iconst (v := 0) hx hb dX6_counsel_19 (by decide +kernel) ?_
      refine lv_iconst (v := 1) hx hb dX6_counsel_20 (by decide +kernel) ?_
      refine z_calli [] (v := bz (decide (0 ≤ v2 ∧ v2 ≤ 1))) (fun _ _ h => h) (va_runS (As := [.int v2, .int 0, .int 1]) (rest := []) ⟨hx, hb, hml, hown, hts⟩ (c_X6_in l G v2 0 1 H.size) (va_cwS 3 hts gX6_counsel_X6_in rfl rfl rfl (by decide +kernel) ⟨Nat.le_of_ble_eq_true rfl, Nat.le_of_ble_eq_true rfl⟩) ⟨gPre_blind, fun U hU hW => gPre_ofF [] hU hW hK hP hD (by decide +kernel) rfl⟩ rfl rfl hl.1 rfl (lv_room (Nat.le_of_ble_eq_true rfl)) dX6_counsel_21 ⟨Nat.le_of_ble_eq_true rfl, Nat.le_of_ble_eq_true rfl⟩) hS hD hA rfl (fun u t H locs ht hvm hB hz1 hk1 hFq hAq hS => ?_)
      obtain ⟨hP1, hK1, hD1⟩ := hB
      have hP := zKeep hP hD [] hAq hk1 ht hP1 rfl
      refine lv_if_ne (tgt := 30) hx hb dX6_counsel_24 (by decide +kernel) (fun c_18 => ?_) (fun c_18 => ?_)
      · skip
        have p_19 : 0 ≤ v2 ∧ v2 ≤ 1 := of_decide_eq_true (bz_ne rfl c_18)
        have hv_21 : v2 = nI (nC v2) := nC_eq p_19.1
        have hk_22 : nC v2 ≤ 1 := nC_le (n := 1) (by omega) p_19
        refine lv_aload_n hx hb dX6_counsel_30 rfl (lv_at hl 0 rfl) ?_
        refine lv_iload_n hx hb dX6_counsel_31 rfl (lv_at hl 1 rfl) ?_
        refine g_topi (y := nI (nC v0)) hv_6 ?_
        refine lv_iload_n hx hb dX6_counsel_32 rfl (lv_at hl 2 rfl) ?_
        refine g_topi (y := nI (nC v1)) hv_13 ?_
        refine z_callv [0, 1, 2, 3, 4, 5, 6, 7, 8, 9, 10, 11] (va_runV (As := [.int (nI (nC v0)), .int (nI (nC v1))]) (rest := []) ⟨hx, hb, hml, hown, hts⟩ (c_X6_tellsPlaces l G h0 kd mo st ro tp cd sr ir ih ss sq ce lw wo he sk na kp gb go fa ga vo pb jg td tx ru him s19 s20 s21 s22 s25 s26 s27 s31 s32 s33 s34 s39 s40 fst fro fmo fkd fcd fsr fsk fna fkp ffa fga (nC v0) (nC v1) H.size (by omega) (by omega) (hwa _ (by omega)) (by first | exact hpb | assumption | omega) (by first | exact hjg | assumption | omega) (by first | exact htx | assumption | omega) (by first | exact hru | assumption | omega)) (cwV 2 hts gX6_counsel_X6_tellsPlaces rfl rfl rfl (by decide +kernel) ⟨Nat.le_of_ble_eq_true rfl, Nat.le_of_ble_eq_true rfl⟩) ⟨gPre_blind, va_recv (q := (RX6, TX6, 42)) hK hP (ci := 6) (q0 := 0) rfl rfl, fun U hU hW => gPre_ofF [0, 1, 2, 3, 4, 5, 6, 7, 8, 9, 10, 11] hU hW hK hP hD (by decide +kernel) rfl⟩ rfl rfl hl.1 rfl (lv_room (Nat.le_of_ble_eq_true rfl)) dX6_counsel_33 ⟨Nat.le_of_ble_eq_true rfl, Nat.le_of_ble_eq_true rfl⟩) hS hD hA rfl (fun u t H locs ht hvm w_26 hB hz1 hk1 hFq hAq hS => ?_)
        obtain ⟨z31_27, z32_28, z33_29, z34_30, ysk_31, yna_32, ykp_33⟩ := u
        obtain ⟨hP1, hK1, hD1⟩ := hB
        have hz9 : gPD G A [zo6 h0 (nI pb) kd mo st (nI jg) ro tp (nI td) cd sr (nI tx) (nI ru) him ir ih ss sq ce lw s19 s20 s21 s22 wo he s25 s26 s27 sk na kp z31_27 z32_28 z33_29 z34_30 gb go fa ga s39 s40 vo, zi G st 12 fst, zi G ro 12 (m_X6_tellsPlaces_ro pb ru fst fro fmo fkd fcd fsr ffa fga (nC v0) (nC v1)), zi G mo 6 fmo, zi G kd 6 fkd, zi G cd 1200 fcd, zi G sr 24 (nF fsr), zi G sk 200 ysk_31, zi G na 6 yna_32, zi G kp 24 ykp_33, zi G fa 36 (m_X6_tellsPlaces_fa pb ru fst fro fmo fkd fcd fsr ffa fga (nC v0) (nC v1)), zi G ga 36 (m_X6_tellsPlaces_ga pb ru fst fro fmo fkd fcd fsr ffa fga (nC v0) (nC v1)), zi G vo 64 fvo] H := zFill hP hD [0, 1, 2, 3, 4, 5, 6, 7, 8, 9, 10, 11] [1, 2, 3, 4, 5, 6, 7, 8, 9, 10, 11, 12] hAq hk1 hFq ht hP1 hD1 rfl (by decide +kernel)
        have hP := hz9.1
        have hD := hz9.2
        refine lv_iconst (v := -1) hx hb dX6_counsel_36 (by decide +kernel) ?_
        refine lv_istore (lv' := [zI 4 (-1), zR 0 h0, zI 1 v0, zI 2 v1, zI 3 v2]) hx hb dX6_counsel_37 hl (by decide +kernel) rfl (fun ls hl => ?_)
        refine lv_iconst (v := 1) hx hb dX6_counsel_39 (by decide +kernel) ?_
        refine g_aget (D := G.1) (ci := 6) (v := .int (nI pb)) (C := RX6) (T := TX6) (N := 42) hx hb dX6_counsel_40 rfl (lv_at hl 1 rfl) hts hiX6 hown hK hP 0 rfl rfl 0 (by decide +kernel) kf88 (fun _ h9 => h9) rfl dX6_counsel_41 ?_
        refine lv_ishl hx hb dX6_counsel_44 ?_
        refine lv_iconst (v := 1) hx hb dX6_counsel_45 (by decide +kernel) ?_
        refine lv_isub hx hb dX6_counsel_46 ?_
        refine g_topi (y := nI (nAll pb)) (nAll_eq hpb) ?_
        have hall : nAll pb ≤ 63 := nAll_le hpb
        refine lv_istore (lv' := [zI 5 (nI (nAll pb)), zI 4 (-1), zR 0 h0, zI 1 v0, zI 2 v1, zI 3 v2]) hx hb dX6_counsel_47 hl (by decide +kernel) rfl (fun ls hl => ?_)
        refine g_aget (D := G.1) (ci := 6) (v := .ref vo) (C := RX6) (T := TX6) (N := 42) hx hb dX6_counsel_49 rfl (lv_at hl 2 rfl) hts hiX6 hown hK hP 0 rfl rfl 41 (by decide +kernel) kf77 (fun _ h9 => h9) rfl dX6_counsel_50 ?_
        refine lv_iload hx hb dX6_counsel_53 (lv_at hl 0 rfl) ?_
        refine lv_iconst (v := 0) hx hb dX6_counsel_55 (by decide +kernel) ?_
        refine g_iast (D := G.1) hx hb hK hP hD hS 12 0 rfl rfl (k := nAll pb) (x := 0) (by omega) rfl dX6_counsel_56 (fun H locs hP hD hS => ?_)
        have hz9 : gPD G A [zo6 h0 (nI pb) kd mo st (nI jg) ro tp (nI td) cd sr (nI tx) (nI ru) him ir ih ss sq ce lw s19 s20 s21 s22 wo he s25 s26 s27 sk na kp z31_27 z32_28 z33_29 z34_30 gb go fa ga s39 s40 vo, zi G st 12 fst, zi G ro 12 (m_X6_tellsPlaces_ro pb ru fst fro fmo fkd fcd fsr ffa fga (nC v0) (nC v1)), zi G mo 6 fmo, zi G kd 6 fkd, zi G cd 1200 fcd, zi G sr 24 (nF fsr), zi G sk 200 ysk_31, zi G na 6 yna_32, zi G kp 24 ykp_33, zi G fa 36 (m_X6_tellsPlaces_fa pb ru fst fro fmo fkd fcd fsr ffa fga (nC v0) (nC v1)), zi G ga 36 (m_X6_tellsPlaces_ga pb ru fst fro fmo fkd fcd fsr ffa fga (nC v0) (nC v1)), zi G vo 64 (upd fvo (nAll pb) 0)] H := ⟨hP, hD⟩
        have hP := hz9.1
        have hD := hz9.2
        refine lv_iload hx hb dX6_counsel_57 (lv_at hl 0 rfl) ?_
        refine lv_iconst (v := 1) hx hb dX6_counsel_59 (by decide +kernel) ?_
        refine lv_isub hx hb dX6_counsel_60 ?_
        refine lv_istore (lv' := [zI 6 ((nI (nAll pb)) - 1), zI 5 (nI (nAll pb)), zI 4 (-1), zR 0 h0, zI 1 v0, zI 2 v1, zI 3 v2]) hx hb dX6_counsel_61 hl (by decide +kernel) rfl (fun ls hl => ?_)
        have loop_63 : ∀ (n9 : Nat) (s9 : Nat) (fi : Int32) (y63vo : Nat → Int32), (s9 ≤ nAll pb) → (p_X6_counsel_63 pb ru fst fro fmo fkd fcd fsr ffa fga v0 v1 (nAll pb - s9) s9 fi y63vo = (g_X6_counsel_63 pb ru fst fro fmo fkd fcd fsr ffa fga fvo v0 v1)) → (nAll pb - s9) < n9 → ∀ (H : Heap) (locs : List Loc), va_P G.1 vwCl [zo6 h0 (nI pb) kd mo st (nI jg) ro tp (nI td) cd sr (nI tx) (nI ru) him ir ih ss sq ce lw s19 s20 s21 s22 wo he s25 s26 s27 sk na kp z31_27 z32_28 z33_29 z34_30 gb go fa ga s39 s40 vo, zi G st 12 fst, zi G ro 12 (m_X6_tellsPlaces_ro pb ru fst fro fmo fkd fcd fsr ffa fga (nC v0) (nC v1)), zi G mo 6 fmo, zi G kd 6 fkd, zi G cd 1200 fcd, zi G sr 24 (nF fsr), zi G sk 200 ysk_31, zi G na 6 yna_32, zi G kp 24 ykp_33, zi G fa 36 (m_X6_tellsPlaces_fa pb ru fst fro fmo fkd fcd fsr ffa fga (nC v0) (nC v1)), zi G ga 36 (m_X6_tellsPlaces_ga pb ru fst fro fmo fkd fcd fsr ffa fga (nC v0) (nC v1)), zi G vo 64 y63vo] H → va_D A [zo6 h0 (nI pb) kd mo st (nI jg) ro tp (nI td) cd sr (nI tx) (nI ru) him ir ih ss sq ce lw s19 s20 s21 s22 wo he s25 s26 s27 sk na kp z31_27 z32_28 z33_29 z34_30 gb go fa ga s39 s40 vo, zi G st 12 fst, zi G ro 12 (m_X6_tellsPlaces_ro pb ru fst fro fmo fkd fcd fsr ffa fga (nC v0) (nC v1)), zi G mo 6 fmo, zi G kd 6 fkd, zi G cd 1200 fcd, zi G sr 24 (nF fsr), zi G sk 200 ysk_31, zi G na 6 yna_32, zi G kp 24 ykp_33, zi G fa 36 (m_X6_tellsPlaces_fa pb ru fst fro fmo fkd fcd fsr ffa fga (nC v0) (nC v1)), zi G ga 36 (m_X6_tellsPlaces_ga pb ru fst fro fmo fkd fcd fsr ffa fga (nC v0) (nC v1)), zi G vo 64 y63vo] → va_S A s.heap H locs → ∀ ls : Array Slot, lv_has ls 14 [zI 6 (nI (nAll pb - s9) - 1), zI 5 (nI (nAll pb)), zI 4 fi, zR 0 h0, zI 1 v0, zI 2 v1, zI 3 v2] → W p l e (headSpec wsX6_counsel ({ frames := 8, cells := 0, slots := 0, locals := 194 })).room s m ([.ref h0, .int v0, .int v1, .int v2] : List Value).toArray below meth c H locs 0 0 (MQ below (q_X6_counsel G h0 kd mo st ro tp cd sr ir ih ss sq ce lw wo he sk na kp gb go fa ga vo pb jg td tx ru him s19 s20 s21 s22 s25 s26 s27 s31 s32 s33 s34 s39 s40 fst fro fmo fkd fcd fsr fsk fna fkp ffa fga fvo v0 v1 v2 A) ([.ref h0, .int v0, .int v1, .int v2] : List Value).toArray s 0 0 A) (F0 m 63 ls []) := by
          intro n9
          induction n9 with
          | zero => intro s9 fi y63vo hs9 R63 hm9_63; exact absurd hm9_63 (Nat.not_lt_zero _)
          | succ n9 ih9_63 =>
            intro s9 fi y63vo hs9 R63 hm9_63 H locs hP hD hS ls hl
            refine lv_iload hx hb dX6_counsel_63 (lv_at hl 0 rfl) ?_
            refine lv_if_lt (tgt := 224) hx hb dX6_counsel_65 (by decide +kernel) (fun c_35 => ?_) (fun c_35 => ?_)
            · skip
              have hxd : nAll pb - s9 = 0 := nI_neg1 (by omega) c_35
              have hF63 : (g_X6_counsel_63 pb ru fst fro fmo fkd fcd fsr ffa fga fvo v0 v1) = (s9, fi, y63vo) := by rw [← R63, show nAll pb - s9 = 0 by omega]; rfl
              have hE63_0 : s9 = ((g_X6_counsel_63 pb ru fst fro fmo fkd fcd fsr ffa fga fvo v0 v1).1) := by rw [hF63]
              have hE63_1 : fi = ((g_X6_counsel_63 pb ru fst fro fmo fkd fcd fsr ffa fga fvo v0 v1).2.1) := by rw [hF63]
              have hE63_2 : y63vo = ((g_X6_counsel_63 pb ru fst fro fmo fkd fcd fsr ffa fga fvo v0 v1).2.2) := by rw [hF63]
              clear hF63 R63
              subst hE63_0
              subst hE63_1
              subst hE63_2
              refine lv_iload_n hx hb dX6_counsel_224 rfl (lv_at hl 6 rfl) ?_
              refine g_topi (y := nI (nC v2)) hv_21 ?_
              refine lv_if_ne (tgt := 237) hx hb dX6_counsel_225 (by decide +kernel) (fun c_37 => ?_) (fun c_37 => ?_)
              · skip
                have c_37N : ¬ (nC v2) = 0 := nI_eq0 (a := (nC v2)) (b := 0) (by omega) (by omega) c_37
                refine lv_iload hx hb dX6_counsel_237 (lv_at hl 2 rfl) ?_
                have q_38 : m_X6_counsel_ro pb jg ru fst fro fmo fkd fcd fsr ffa fga v0 v1 v2 = (m_X6_tellsPlaces_ro pb ru fst fro fmo fkd fcd fsr ffa fga (nC v0) (nC v1)) := by unfold m_X6_counsel_ro; rw [if_pos p_4, if_pos p_11, if_pos p_19]
                have hz9 : gPD G A [zo6 h0 (nI pb) kd mo st (nI jg) ro tp (nI td) cd sr (nI tx) (nI ru) him ir ih ss sq ce lw s19 s20 s21 s22 wo he s25 s26 s27 sk na kp z31_27 z32_28 z33_29 z34_30 gb go fa ga s39 s40 vo, zi G st 12 fst, zi G ro 12 (m_X6_counsel_ro pb jg ru fst fro fmo fkd fcd fsr ffa fga v0 v1 v2), zi G mo 6 fmo, zi G kd 6 fkd, zi G cd 1200 fcd, zi G sr 24 (nF fsr), zi G sk 200 ysk_31, zi G na 6 yna_32, zi G kp 24 ykp_33, zi G fa 36 (m_X6_tellsPlaces_fa pb ru fst fro fmo fkd fcd fsr ffa fga (nC v0) (nC v1)), zi G ga 36 (m_X6_tellsPlaces_ga pb ru fst fro fmo fkd fcd fsr ffa fga (nC v0) (nC v1)), zi G vo 64 ((g_X6_counsel_63 pb ru fst fro fmo fkd fcd fsr ffa fga fvo v0 v1).2.2)] H := ⟨by rw [q_38]; exact hP, by rw [q_38]; exact hD⟩
                have hP9 := hz9.1
                have hD9 := hz9.2
                have hpost : (fun (r : Int32) (u : Int32 × Int32 × Int32 × Int32 × (Nat → Int32) × (Nat → Int32) × (Nat → Int32) × (Nat → Int32) × (Nat → Int32) × (Nat → Int32)) => match u with | (z31, z32, z33, z34, ysk, yna, ykp, yfa, yga, yvo) => r = m_X6_counsel pb jg ru fst fro fmo fkd fcd fsr ffa fga fvo v0 v1 v2) ((g_X6_counsel_63 pb ru fst fro fmo fkd fcd fsr ffa fga fvo v0 v1).2.1) (z31_27, z32_28, z33_29, z34_30, ysk_31, yna_32, ykp_33, (m_X6_tellsPlaces_fa pb ru fst fro fmo fkd fcd fsr ffa fga (nC v0) (nC v1)), (m_X6_tellsPlaces_ga pb ru fst fro fmo fkd fcd fsr ffa fga (nC v0) (nC v1)), ((g_X6_counsel_63 pb ru fst fro fmo fkd fcd fsr ffa fga fvo v0 v1).2.2)) := (show m_X6_counsel pb jg ru fst fro fmo fkd fcd fsr ffa fga fvo v0 v1 v2 = ((g_X6_counsel_63 pb ru fst fro fmo fkd fcd fsr ffa fga fvo v0 v1).2.1) from by unfold m_X6_counsel; rw [if_pos p_4, if_pos p_11, if_pos p_19, if_neg c_37]).symm
                exact W.iret (v := ((g_X6_counsel_63 pb ru fst fro fmo fkd fcd fsr ffa fga fvo v0 v1).2.1)) hx hb hr (fun t ht hW => ⟨⟨((g_X6_counsel_63 pb ru fst fro fmo fkd fcd fsr ffa fga fvo v0 v1).2.1), (z31_27, z32_28, z33_29, z34_30, ysk_31, yna_32, ykp_33, (m_X6_tellsPlaces_fa pb ru fst fro fmo fkd fcd fsr ffa fga (nC v0) (nC v1)), (m_X6_tellsPlaces_ga pb ru fst fro fmo fkd fcd fsr ffa fga (nC v0) (nC v1)), ((g_X6_counsel_63 pb ru fst fro fmo fkd fcd fsr ffa fga fvo v0 v1).2.2)), rfl, hpost, by rw [ht]; exact hP9, va_K.moved hW.alike hK, hD9⟩, hS.F ht⟩) hS.2.2 dX6_counsel_239
              · skip
                have c_37N : (nC v2) = 0 := nI_eq1 (a := (nC v2)) (b := 0) (by omega) (by omega) c_37
                refine g_aget (D := G.1) (ci := 6) (v := .ref vo) (C := RX6) (T := TX6) (N := 42) hx hb dX6_counsel_228 rfl (lv_at hl 3 rfl) hts hiX6 hown hK hP 0 rfl rfl 41 (by decide +kernel) kf77 (fun _ h9 => h9) rfl dX6_counsel_229 ?_
                refine lv_iconst (v := 0) hx hb dX6_counsel_232 (by decide +kernel) ?_
                refine va_iald (D := G.1) hx hb hK hP 12 0 rfl rfl (i := 0) (gIn (by decide +kernel)) dX6_counsel_233 ?_
                refine lv_topi (fun v_39 ev_39 => ?_)
                have ev_39 : v_39 = ((g_X6_counsel_63 pb ru fst fro fmo fkd fcd fsr ffa fga fvo v0 v1).2.2) 0 := ev_39
                subst ev_39
                refine lv_goto (tgt := 239) hx hb dX6_counsel_234 (by decide +kernel) ?_
                have q_40 : m_X6_counsel_ro pb jg ru fst fro fmo fkd fcd fsr ffa fga v0 v1 v2 = (m_X6_tellsPlaces_ro pb ru fst fro fmo fkd fcd fsr ffa fga (nC v0) (nC v1)) := by unfold m_X6_counsel_ro; rw [if_pos p_4, if_pos p_11, if_pos p_19]
                have hz9 : gPD G A [zo6 h0 (nI pb) kd mo st (nI jg) ro tp (nI td) cd sr (nI tx) (nI ru) him ir ih ss sq ce lw s19 s20 s21 s22 wo he s25 s26 s27 sk na kp z31_27 z32_28 z33_29 z34_30 gb go fa ga s39 s40 vo, zi G st 12 fst, zi G ro 12 (m_X6_counsel_ro pb jg ru fst fro fmo fkd fcd fsr ffa fga v0 v1 v2), zi G mo 6 fmo, zi G kd 6 fkd, zi G cd 1200 fcd, zi G sr 24 (nF fsr), zi G sk 200 ysk_31, zi G na 6 yna_32, zi G kp 24 ykp_33, zi G fa 36 (m_X6_tellsPlaces_fa pb ru fst fro fmo fkd fcd fsr ffa fga (nC v0) (nC v1)), zi G ga 36 (m_X6_tellsPlaces_ga pb ru fst fro fmo fkd fcd fsr ffa fga (nC v0) (nC v1)), zi G vo 64 ((g_X6_counsel_63 pb ru fst fro fmo fkd fcd fsr ffa fga fvo v0 v1).2.2)] H := ⟨by rw [q_40]; exact hP, by rw [q_40]; exact hD⟩
                have hP9 := hz9.1
                have hD9 := hz9.2
                have hpost : (fun (r : Int32) (u : Int32 × Int32 × Int32 × Int32 × (Nat → Int32) × (Nat → Int32) × (Nat → Int32) × (Nat → Int32) × (Nat → Int32) × (Nat → Int32)) => match u with | (z31, z32, z33, z34, ysk, yna, ykp, yfa, yga, yvo) => r = m_X6_counsel pb jg ru fst fro fmo fkd fcd fsr ffa fga fvo v0 v1 v2) (((g_X6_counsel_63 pb ru fst fro fmo fkd fcd fsr ffa fga fvo v0 v1).2.2) 0) (z31_27, z32_28, z33_29, z34_30, ysk_31, yna_32, ykp_33, (m_X6_tellsPlaces_fa pb ru fst fro fmo fkd fcd fsr ffa fga (nC v0) (nC v1)), (m_X6_tellsPlaces_ga pb ru fst fro fmo fkd fcd fsr ffa fga (nC v0) (nC v1)), ((g_X6_counsel_63 pb ru fst fro fmo fkd fcd fsr ffa fga fvo v0 v1).2.2)) := (show m_X6_counsel pb jg ru fst fro fmo fkd fcd fsr ffa fga fvo v0 v1 v2 = (((g_X6_counsel_63 pb ru fst fro fmo fkd fcd fsr ffa fga fvo v0 v1).2.2) 0) from by unfold m_X6_counsel; rw [if_pos p_4, if_pos p_11, if_pos p_19, if_pos c_37]).symm
                exact W.iret (v := (((g_X6_counsel_63 pb ru fst fro fmo fkd fcd fsr ffa fga fvo v0 v1).2.2) 0)) hx hb hr (fun t ht hW => ⟨⟨(((g_X6_counsel_63 pb ru fst fro fmo fkd fcd fsr ffa fga fvo v0 v1).2.2) 0), (z31_27, z32_28, z33_29, z34_30, ysk_31, yna_32, ykp_33, (m_X6_tellsPlaces_fa pb ru fst fro fmo fkd fcd fsr ffa fga (nC v0) (nC v1)), (m_X6_tellsPlaces_ga pb ru fst fro fmo fkd fcd fsr ffa fga (nC v0) (nC v1)), ((g_X6_counsel_63 pb ru fst fro fmo fkd fcd fsr ffa fga fvo v0 v1).2.2)), rfl, hpost, by rw [ht]; exact hP9, va_K.moved hW.alike hK, hD9⟩, hS.F ht⟩) hS.2.2 dX6_counsel_239
            · skip
              have hxd : 0 < nAll pb - s9 := nI_nneg1 c_35
              have e9 : nI (nAll pb - s9) - 1 = nI (nAll pb - s9 - 1) := pk_sub (a := nAll pb - s9) (b := 1) (by omega)
              rw [e9] at hl
              have hl : lv_has ls 14 [zI 6 (nI (nAll pb - s9 - 1)), zI 5 (nI (nAll pb)), zI 4 fi, zR 0 h0, zI 1 v0, zI 2 v1, zI 3 v2] := hl
              refine lv_iload hx hb dX6_counsel_68 (lv_at hl 0 rfl) ?_
              refine z_callp [] (va_runS (As := [.int (nI (nAll pb - s9 - 1))]) (rest := []) ⟨hx, hb, hml, hown, hts⟩ (c_X6_ones l G (nI (nAll pb - s9 - 1)) H.size) (va_cwS 1 hts gX6_counsel_X6_ones rfl rfl rfl (by decide +kernel) ⟨Nat.le_of_ble_eq_true rfl, Nat.le_of_ble_eq_true rfl⟩) ⟨gPre_blind, fun U hU hW => gPre_ofF [] hU hW hK hP hD (by decide +kernel) rfl⟩ rfl rfl hl.1 rfl (lv_room (Nat.le_of_ble_eq_true rfl)) dX6_counsel_70 ⟨Nat.le_of_ble_eq_true rfl, Nat.le_of_ble_eq_true rfl⟩) hS hD hA rfl (fun r_41 u t H locs ht hvm w_42 hB hz1 hk1 hFq hAq hS => ?_)
              obtain ⟨hP1, hK1, hD1⟩ := hB
              have w_42 : r_41 = m_X6_ones (nI (nAll pb - s9 - 1)) := w_42
              have hP := zKeep hP hD [] hAq hk1 ht hP1 rfl
              have hon : nOn (nAll pb - s9 - 1) ≤ 5 := nOn_le (by omega)
              have w_42 : r_41 = nI (nOn (nAll pb - s9 - 1)) := w_42.trans (nOn_eq (by omega))
              subst w_42
              refine lv_istore (lv' := [zI 7 (nI (nOn (nAll pb - s9 - 1))), zI 6 (nI (nAll pb - s9 - 1)), zI 5 (nI (nAll pb)), zI 4 fi, zR 0 h0, zI 1 v0, zI 2 v1, zI 3 v2]) hx hb dX6_counsel_73 hl (by decide +kernel) rfl (fun ls hl => ?_)
              refine lv_iload hx hb dX6_counsel_75 (lv_at hl 0 rfl) ?_
              refine lv_iconst (v := 2) hx hb dX6_counsel_77 (by decide +kernel) ?_
              refine lv_irem hx hb dX6_counsel_78 (by decide +kernel) ?_
              refine g_topi (y := nI ((nOn (nAll pb - s9 - 1)) % 2)) (nI_rem (a := (nOn (nAll pb - s9 - 1))) (d := 2) (by omega) (by omega) (by omega)) ?_
              refine lv_if_ne (tgt := 86) hx hb dX6_counsel_79 (by decide +kernel) (fun c_44 => ?_) (fun c_44 => ?_)
              · skip
                have c_44N : ¬ ((nOn (nAll pb - s9 - 1)) % 2) = 0 := nI_eq0 (a := ((nOn (nAll pb - s9 - 1)) % 2)) (b := 0) (by omega) (by omega) c_44
                refine lv_iconst (v := -1) hx hb dX6_counsel_86 (by decide +kernel) ?_
                refine lv_istore (lv' := [zI 8 (-1), zI 7 (nI (nOn (nAll pb - s9 - 1))), zI 6 (nI (nAll pb - s9 - 1)), zI 5 (nI (nAll pb)), zI 4 fi, zR 0 h0, zI 1 v0, zI 2 v1, zI 3 v2]) hx hb dX6_counsel_87 hl (by decide +kernel) rfl (fun ls hl => ?_)
                refine lv_iconst (v := -1) hx hb dX6_counsel_89 (by decide +kernel) ?_
                refine lv_istore (lv' := [zI 9 (-1), zI 8 (-1), zI 7 (nI (nOn (nAll pb - s9 - 1))), zI 6 (nI (nAll pb - s9 - 1)), zI 5 (nI (nAll pb)), zI 4 fi, zR 0 h0, zI 1 v0, zI 2 v1, zI 3 v2]) hx hb dX6_counsel_90 hl (by decide +kernel) rfl (fun ls hl => ?_)
                refine lv_iconst (v := 0) hx hb dX6_counsel_92 (by decide +kernel) ?_
                refine lv_istore (lv' := [zI 10 0, zI 9 (-1), zI 8 (-1), zI 7 (nI (nOn (nAll pb - s9 - 1))), zI 6 (nI (nAll pb - s9 - 1)), zI 5 (nI (nAll pb)), zI 4 fi, zR 0 h0, zI 1 v0, zI 2 v1, zI 3 v2]) hx hb dX6_counsel_93 hl (by decide +kernel) rfl (fun ls hl => ?_)
                refine lv_iconst (v := 0) hx hb dX6_counsel_95 (by decide +kernel) ?_
                refine lv_istore (lv' := [zI 11 0, zI 10 0, zI 9 (-1), zI 8 (-1), zI 7 (nI (nOn (nAll pb - s9 - 1))), zI 6 (nI (nAll pb - s9 - 1)), zI 5 (nI (nAll pb)), zI 4 fi, zR 0 h0, zI 1 v0, zI 2 v1, zI 3 v2]) hx hb dX6_counsel_96 hl (by decide +kernel) rfl (fun ls hl => ?_)
                have loop_98 : ∀ (n9 : Nat) (p98 : Nat) (bs : Int32) (ms : Int32), (p98 ≤ pb) → (p_X6_counsel_98 pb ru fst fro fmo fkd fcd fsr ffa fga v0 v1 s9 y63vo (pb - p98) p98 bs ms = (g_X6_counsel_98 pb ru fst fro fmo fkd fcd fsr ffa fga v0 v1 s9 y63vo)) → (pb - p98) < n9 → ∀ (H : Heap) (locs : List Loc), va_P G.1 vwCl [zo6 h0 (nI pb) kd mo st (nI jg) ro tp (nI td) cd sr (nI tx) (nI ru) him ir ih ss sq ce lw s19 s20 s21 s22 wo he s25 s26 s27 sk na kp z31_27 z32_28 z33_29 z34_30 gb go fa ga s39 s40 vo, zi G st 12 fst, zi G ro 12 (m_X6_tellsPlaces_ro pb ru fst fro fmo fkd fcd fsr ffa fga (nC v0) (nC v1)), zi G mo 6 fmo, zi G kd 6 fkd, zi G cd 1200 fcd, zi G sr 24 (nF fsr), zi G sk 200 ysk_31, zi G na 6 yna_32, zi G kp 24 ykp_33, zi G fa 36 (m_X6_tellsPlaces_fa pb ru fst fro fmo fkd fcd fsr ffa fga (nC v0) (nC v1)), zi G ga 36 (m_X6_tellsPlaces_ga pb ru fst fro fmo fkd fcd fsr ffa fga (nC v0) (nC v1)), zi G vo 64 y63vo] H → va_D A [zo6 h0 (nI pb) kd mo st (nI jg) ro tp (nI td) cd sr (nI tx) (nI ru) him ir ih ss sq ce lw s19 s20 s21 s22 wo he s25 s26 s27 sk na kp z31_27 z32_28 z33_29 z34_30 gb go fa ga s39 s40 vo, zi G st 12 fst, zi G ro 12 (m_X6_tellsPlaces_ro pb ru fst fro fmo fkd fcd fsr ffa fga (nC v0) (nC v1)), zi G mo 6 fmo, zi G kd 6 fkd, zi G cd 1200 fcd, zi G sr 24 (nF fsr), zi G sk 200 ysk_31, zi G na 6 yna_32, zi G kp 24 ykp_33, zi G fa 36 (m_X6_tellsPlaces_fa pb ru fst fro fmo fkd fcd fsr ffa fga (nC v0) (nC v1)), zi G ga 36 (m_X6_tellsPlaces_ga pb ru fst fro fmo fkd fcd fsr ffa fga (nC v0) (nC v1)), zi G vo 64 y63vo] → va_S A s.heap H locs → ∀ ls : Array Slot, lv_has ls 14 [zI 11 (nI p98), zI 10 ms, zI 9 bs, zI 8 (-1), zI 7 (nI (nOn (nAll pb - s9 - 1))), zI 6 (nI (nAll pb - s9 - 1)), zI 5 (nI (nAll pb)), zI 4 fi, zR 0 h0, zI 1 v0, zI 2 v1, zI 3 v2] → W p l e (headSpec wsX6_counsel ({ frames := 8, cells := 0, slots := 0, locals := 194 })).room s m ([.ref h0, .int v0, .int v1, .int v2] : List Value).toArray below meth c H locs 0 0 (MQ below (q_X6_counsel G h0 kd mo st ro tp cd sr ir ih ss sq ce lw wo he sk na kp gb go fa ga vo pb jg td tx ru him s19 s20 s21 s22 s25 s26 s27 s31 s32 s33 s34 s39 s40 fst fro fmo fkd fcd fsr fsk fna fkp ffa fga fvo v0 v1 v2 A) ([.ref h0, .int v0, .int v1, .int v2] : List Value).toArray s 0 0 A) (F0 m 98 ls []) := by
                  intro n9
                  induction n9 with
                  | zero => intro p98 bs ms hp98 R98 hm9_98; exact absurd hm9_98 (Nat.not_lt_zero _)
                  | succ n9 ih9_98 =>
                    intro p98 bs ms hp98 R98 hm9_98 H locs hP hD hS ls hl
                    refine lv_iload hx hb dX6_counsel_98 (lv_at hl 0 rfl) ?_
                    refine g_aget (D := G.1) (ci := 6) (v := .int (nI pb)) (C := RX6) (T := TX6) (N := 42) hx hb dX6_counsel_100 rfl (lv_at hl 8 rfl) hts hiX6 hown hK hP 0 rfl rfl 0 (by decide +kernel) kf88 (fun _ h9 => h9) rfl dX6_counsel_101 ?_
                    refine lv_icmp_ge (tgt := 202) hx hb dX6_counsel_104 (by decide +kernel) (fun c_45 => ?_) (fun c_45 => ?_)
                    · skip
                      have c_45N : pb ≤ p98 := nI_le1 (a := pb) (b := p98) (by omega) (by omega) c_45
                      have hF98 : (g_X6_counsel_98 pb ru fst fro fmo fkd fcd fsr ffa fga v0 v1 s9 y63vo) = (p98, bs, ms) := by rw [← R98, show pb - p98 = 0 by omega]; rfl
                      have hE98_0 : p98 = ((g_X6_counsel_98 pb ru fst fro fmo fkd fcd fsr ffa fga v0 v1 s9 y63vo).1) := by rw [hF98]
                      have hE98_1 : bs = ((g_X6_counsel_98 pb ru fst fro fmo fkd fcd fsr ffa fga v0 v1 s9 y63vo).2.1) := by rw [hF98]
                      have hE98_2 : ms = ((g_X6_counsel_98 pb ru fst fro fmo fkd fcd fsr ffa fga v0 v1 s9 y63vo).2.2) := by rw [hF98]
                      clear hF98 R98
                      subst hE98_0
                      subst hE98_1
                      subst hE98_2
                      refine g_aget (D := G.1) (ci := 6) (v := .ref vo) (C := RX6) (T := TX6) (N := 42) hx hb dX6_counsel_202 rfl (lv_at hl 8 rfl) hts hiX6 hown hK hP 0 rfl rfl 41 (by decide +kernel) kf77 (fun _ h9 => h9) rfl dX6_counsel_203 ?_
                      refine lv_iload hx hb dX6_counsel_206 (lv_at hl 5 rfl) ?_
                      refine lv_iload hx hb dX6_counsel_208 (lv_at hl 3 rfl) ?_
                      refine lv_iload hx hb dX6_counsel_210 (lv_at hl 1 rfl) ?_
                      refine lv_imul hx hb dX6_counsel_212 ?_
                      refine g_iast (D := G.1) hx hb hK hP hD hS 12 0 rfl rfl (k := nAll pb - s9 - 1) (x := ((-1) * ((g_X6_counsel_98 pb ru fst fro fmo fkd fcd fsr ffa fga v0 v1 s9 y63vo).2.2))) (by omega) rfl dX6_counsel_213 (fun H locs hP hD hS => ?_)
                      have hz9 : gPD G A [zo6 h0 (nI pb) kd mo st (nI jg) ro tp (nI td) cd sr (nI tx) (nI ru) him ir ih ss sq ce lw s19 s20 s21 s22 wo he s25 s26 s27 sk na kp z31_27 z32_28 z33_29 z34_30 gb go fa ga s39 s40 vo, zi G st 12 fst, zi G ro 12 (m_X6_tellsPlaces_ro pb ru fst fro fmo fkd fcd fsr ffa fga (nC v0) (nC v1)), zi G mo 6 fmo, zi G kd 6 fkd, zi G cd 1200 fcd, zi G sr 24 (nF fsr), zi G sk 200 ysk_31, zi G na 6 yna_32, zi G kp 24 ykp_33, zi G fa 36 (m_X6_tellsPlaces_fa pb ru fst fro fmo fkd fcd fsr ffa fga (nC v0) (nC v1)), zi G ga 36 (m_X6_tellsPlaces_ga pb ru fst fro fmo fkd fcd fsr ffa fga (nC v0) (nC v1)), zi G vo 64 (upd y63vo (nAll pb - s9 - 1) ((-1) * ((g_X6_counsel_98 pb ru fst fro fmo fkd fcd fsr ffa fga v0 v1 s9 y63vo).2.2)))] H := ⟨hP, hD⟩
                      have hP := hz9.1
                      have hD := hz9.2
                      refine lv_iload hx hb dX6_counsel_214 (lv_at hl 2 rfl) ?_
                      refine lv_istore (lv' := [zI 4 ((g_X6_counsel_98 pb ru fst fro fmo fkd fcd fsr ffa fga v0 v1 s9 y63vo).2.1), zI 11 (nI ((g_X6_counsel_98 pb ru fst fro fmo fkd fcd fsr ffa fga v0 v1 s9 y63vo).1)), zI 10 ((g_X6_counsel_98 pb ru fst fro fmo fkd fcd fsr ffa fga v0 v1 s9 y63vo).2.2), zI 9 ((g_X6_counsel_98 pb ru fst fro fmo fkd fcd fsr ffa fga v0 v1 s9 y63vo).2.1), zI 8 (-1), zI 7 (nI (nOn (nAll pb - s9 - 1))), zI 6 (nI (nAll pb - s9 - 1)), zI 5 (nI (nAll pb)), zR 0 h0, zI 1 v0, zI 2 v1, zI 3 v2]) hx hb dX6_counsel_216 hl (by decide +kernel) rfl (fun ls hl => ?_)
                      refine lv_iinc (v := nI (nAll pb - (s9 + 1)) - 1) (lv' := [zI 6 (nI (nAll pb - (s9 + 1)) - 1), zI 4 ((g_X6_counsel_98 pb ru fst fro fmo fkd fcd fsr ffa fga v0 v1 s9 y63vo).2.1), zI 11 (nI ((g_X6_counsel_98 pb ru fst fro fmo fkd fcd fsr ffa fga v0 v1 s9 y63vo).1)), zI 10 ((g_X6_counsel_98 pb ru fst fro fmo fkd fcd fsr ffa fga v0 v1 s9 y63vo).2.2), zI 9 ((g_X6_counsel_98 pb ru fst fro fmo fkd fcd fsr ffa fga v0 v1 s9 y63vo).2.1), zI 8 (-1), zI 7 (nI (nOn (nAll pb - s9 - 1))), zI 5 (nI (nAll pb)), zR 0 h0, zI 1 v0, zI 2 v1, zI 3 v2]) hx hb dX6_counsel_218 hl (k := 6) rfl (show nI (nAll pb - s9 - 1) + (-1) = nI (nAll pb - (s9 + 1)) - 1 from by rw [nI_p1, show nAll pb - (s9 + 1) = nAll pb - s9 - 1 by omega]) (by decide +kernel) rfl (fun ls hl => ?_)
                      refine lv_goto (tgt := 63) hx hb dX6_counsel_221 (by decide +kernel) ?_
                      exact ih9_63 (s9 + 1) ((g_X6_counsel_98 pb ru fst fro fmo fkd fcd fsr ffa fga v0 v1 s9 y63vo).2.1) (upd y63vo (nAll pb - s9 - 1) ((-1) * ((g_X6_counsel_98 pb ru fst fro fmo fkd fcd fsr ffa fga v0 v1 s9 y63vo).2.2))) (by omega) (Eq.trans (Eq.symm ((congrArg (fun z9 => p_X6_counsel_63 pb ru fst fro fmo fkd fcd fsr ffa fga v0 v1 (z9) s9 fi y63vo) (show nAll pb - s9 = nAll pb - (s9 + 1) + 1 by omega)).trans (by show p_X6_counsel_63 pb ru fst fro fmo fkd fcd fsr ffa fga v0 v1 (nAll pb - (s9 + 1) + 1) s9 fi y63vo = _; rw [p_X6_counsel_63, if_neg c_44]))) R63) (by omega) _ _ hP hD hS ls (lv_sub hl [0, 7, 1, 8, 9, 10, 11] rfl)
                    · skip
                      have c_45N : p98 < pb := nI_le0 (a := pb) (b := p98) (by omega) (by omega) c_45
                      refine lv_iload hx hb dX6_counsel_107 (lv_at hl 5 rfl) ?_
                      refine lv_iload hx hb dX6_counsel_109 (lv_at hl 0 rfl) ?_
                      refine lv_ishr hx hb dX6_counsel_111 ?_
                      refine lv_iconst (v := 1) hx hb dX6_counsel_112 (by decide +kernel) ?_
                      refine lv_iand hx hb dX6_counsel_113 ?_
                      refine lv_if_ne (tgt := 196) hx hb dX6_counsel_114 (by decide +kernel) (fun c_46 => ?_) (fun c_46 => ?_)
                      · skip
                        refine lv_iinc (v := nI (p98 + 1)) (lv' := [zI 11 (nI (p98 + 1)), zI 10 ms, zI 9 bs, zI 8 (-1), zI 7 (nI (nOn (nAll pb - s9 - 1))), zI 6 (nI (nAll pb - s9 - 1)), zI 5 (nI (nAll pb)), zI 4 fi, zR 0 h0, zI 1 v0, zI 2 v1, zI 3 v2]) hx hb dX6_counsel_196 hl (k := 0) rfl (nI_add p98 1) (by decide +kernel) rfl (fun ls hl => ?_)
                        refine lv_goto (tgt := 98) hx hb dX6_counsel_199 (by decide +kernel) ?_
                        exact ih9_98 (p98 + 1) bs ms (by omega) (Eq.trans (Eq.symm ((congrArg (fun z9 => p_X6_counsel_98 pb ru fst fro fmo fkd fcd fsr ffa fga v0 v1 s9 y63vo (z9) p98 bs ms) (show pb - p98 = pb - (p98 + 1) + 1 by omega)).trans (by show p_X6_counsel_98 pb ru fst fro fmo fkd fcd fsr ffa fga v0 v1 s9 y63vo (pb - (p98 + 1) + 1) p98 bs ms = _; rw [p_X6_counsel_98, if_neg c_46]))) R98) (by omega) _ _ hP hD hS ls hl
                      · skip
                        refine lv_iload hx hb dX6_counsel_117 (lv_at hl 3 rfl) ?_
                        refine g_aget (D := G.1) (ci := 6) (v := .ref ga) (C := RX6) (T := TX6) (N := 42) hx hb dX6_counsel_119 rfl (lv_at hl 8 rfl) hts hiX6 hown hK hP 0 rfl rfl 38 (by decide +kernel) kf74 (fun _ h9 => h9) rfl dX6_counsel_120 ?_
                        refine lv_bipush (v := 6) hx hb dX6_counsel_123 (by decide +kernel) ?_
                        refine lv_iload hx hb dX6_counsel_125 (lv_at hl 4 rfl) ?_
                        refine lv_imul hx hb dX6_counsel_127 ?_
                        refine g_topi (y := nI (6 * (nOn (nAll pb - s9 - 1)))) (pk_mul 6 (nOn (nAll pb - s9 - 1))) ?_
                        refine lv_iload hx hb dX6_counsel_128 (lv_at hl 0 rfl) ?_
                        refine lv_iadd hx hb dX6_counsel_130 ?_
                        refine g_topi (y := nI ((6 * (nOn (nAll pb - s9 - 1))) + p98)) (nI_add (6 * (nOn (nAll pb - s9 - 1))) p98) ?_
                        refine g_iald (D := G.1) hx hb hK hP 11 0 rfl rfl (k := (6 * (nOn (nAll pb - s9 - 1))) + p98) (y := (m_X6_tellsPlaces_ga pb ru fst fro fmo fkd fcd fsr ffa fga (nC v0) (nC v1)) ((6 * (nOn (nAll pb - s9 - 1))) + p98)) (by omega) rfl rfl dX6_counsel_131 ?_
                        refine g_aget (D := G.1) (ci := 6) (v := .ref vo) (C := RX6) (T := TX6) (N := 42) hx hb dX6_counsel_132 rfl (lv_at hl 8 rfl) hts hiX6 hown hK hP 0 rfl rfl 41 (by decide +kernel) kf77 (fun _ h9 => h9) rfl dX6_counsel_133 ?_
                        refine lv_iload hx hb dX6_counsel_136 (lv_at hl 5 rfl) ?_
                        refine lv_iconst (v := 1) hx hb dX6_counsel_138 (by decide +kernel) ?_
                        refine lv_iload hx hb dX6_counsel_139 (lv_at hl 0 rfl) ?_
                        refine lv_ishl hx hb dX6_counsel_141 ?_
                        refine lv_ior hx hb dX6_counsel_142 ?_
                        refine g_topi (y := nI (nOr (nAll pb - s9 - 1) p98)) (nOr_eq (by omega) (by omega)) ?_
                        have hor : nOr (nAll pb - s9 - 1) p98 < 64 := nOr_lt (by omega) (by omega)
                        refine g_iald (D := G.1) hx hb hK hP 12 0 rfl rfl (k := nOr (nAll pb - s9 - 1) p98) (y := y63vo (nOr (nAll pb - s9 - 1) p98)) (by omega) rfl rfl dX6_counsel_143 ?_
                        refine lv_iadd hx hb dX6_counsel_144 ?_
                        refine lv_imul hx hb dX6_counsel_145 ?_
                        refine lv_istore (lv' := [zI 12 ((-1) * (((m_X6_tellsPlaces_ga pb ru fst fro fmo fkd fcd fsr ffa fga (nC v0) (nC v1)) ((6 * (nOn (nAll pb - s9 - 1))) + p98)) + (y63vo (nOr (nAll pb - s9 - 1) p98)))), zI 11 (nI p98), zI 10 ms, zI 9 bs, zI 8 (-1), zI 7 (nI (nOn (nAll pb - s9 - 1))), zI 6 (nI (nAll pb - s9 - 1)), zI 5 (nI (nAll pb)), zI 4 fi, zR 0 h0, zI 1 v0, zI 2 v1, zI 3 v2]) hx hb dX6_counsel_146 hl (by decide +kernel) rfl (fun ls hl => ?_)
                        refine lv_iload hx hb dX6_counsel_148 (lv_at hl 3 rfl) ?_
                        refine lv_iconst (v := -1) hx hb dX6_counsel_150 (by decide +kernel) ?_
                        refine lv_icmp_eq (tgt := 161) hx hb dX6_counsel_151 (by decide +kernel) (fun c_52 => ?_) (fun c_52 => ?_)
                        · skip
                          refine lv_iconst (v := 1) hx hb dX6_counsel_161 (by decide +kernel) ?_
                          refine lv_goto (tgt := 166) hx hb dX6_counsel_162 (by decide +kernel) ?_
                          refine lv_istore (lv' := [zI 13 1, zI 12 ((-1) * (((m_X6_tellsPlaces_ga pb ru fst fro fmo fkd fcd fsr ffa fga (nC v0) (nC v1)) ((6 * (nOn (nAll pb - s9 - 1))) + p98)) + (y63vo (nOr (nAll pb - s9 - 1) p98)))), zI 11 (nI p98), zI 10 ms, zI 9 bs, zI 8 (-1), zI 7 (nI (nOn (nAll pb - s9 - 1))), zI 6 (nI (nAll pb - s9 - 1)), zI 5 (nI (nAll pb)), zI 4 fi, zR 0 h0, zI 1 v0, zI 2 v1, zI 3 v2]) hx hb dX6_counsel_166 hl (by decide +kernel) rfl (fun ls hl => ?_)
                          refine lv_iload hx hb dX6_counsel_168 (lv_at hl 0 rfl) ?_
                          refine lv_if_eq (tgt := 178) hx hb dX6_counsel_170 (by decide +kernel) (fun c_53 => ?_) (fun c_53 => ?_)
                          · exact absurd c_53 (by decide +kernel)
                          refine lv_iload hx hb dX6_counsel_173 (lv_at hl 2 rfl) ?_
                          refine lv_goto (tgt := 180) hx hb dX6_counsel_175 (by decide +kernel) ?_
                          refine lv_istore (lv' := [zI 9 (nI p98), zI 13 1, zI 12 ((-1) * (((m_X6_tellsPlaces_ga pb ru fst fro fmo fkd fcd fsr ffa fga (nC v0) (nC v1)) ((6 * (nOn (nAll pb - s9 - 1))) + p98)) + (y63vo (nOr (nAll pb - s9 - 1) p98)))), zI 11 (nI p98), zI 10 ms, zI 8 (-1), zI 7 (nI (nOn (nAll pb - s9 - 1))), zI 6 (nI (nAll pb - s9 - 1)), zI 5 (nI (nAll pb)), zI 4 fi, zR 0 h0, zI 1 v0, zI 2 v1, zI 3 v2]) hx hb dX6_counsel_180 hl (by decide +kernel) rfl (fun ls hl => ?_)
                          refine lv_iload hx hb dX6_counsel_182 (lv_at hl 1 rfl) ?_
                          refine lv_if_eq (tgt := 192) hx hb dX6_counsel_184 (by decide +kernel) (fun c_54 => ?_) (fun c_54 => ?_)
                          · exact absurd c_54 (by decide +kernel)
                          refine lv_iload hx hb dX6_counsel_187 (lv_at hl 2 rfl) ?_
                          refine lv_goto (tgt := 194) hx hb dX6_counsel_189 (by decide +kernel) ?_
                          refine lv_istore (lv' := [zI 10 ((-1) * (((m_X6_tellsPlaces_ga pb ru fst fro fmo fkd fcd fsr ffa fga (nC v0) (nC v1)) ((6 * (nOn (nAll pb - s9 - 1))) + p98)) + (y63vo (nOr (nAll pb - s9 - 1) p98)))), zI 9 (nI p98), zI 13 1, zI 12 ((-1) * (((m_X6_tellsPlaces_ga pb ru fst fro fmo fkd fcd fsr ffa fga (nC v0) (nC v1)) ((6 * (nOn (nAll pb - s9 - 1))) + p98)) + (y63vo (nOr (nAll pb - s9 - 1) p98)))), zI 11 (nI p98), zI 8 (-1), zI 7 (nI (nOn (nAll pb - s9 - 1))), zI 6 (nI (nAll pb - s9 - 1)), zI 5 (nI (nAll pb)), zI 4 fi, zR 0 h0, zI 1 v0, zI 2 v1, zI 3 v2]) hx hb dX6_counsel_194 hl (by decide +kernel) rfl (fun ls hl => ?_)
                          refine lv_iinc (v := nI (p98 + 1)) (lv' := [zI 11 (nI (p98 + 1)), zI 10 ((-1) * (((m_X6_tellsPlaces_ga pb ru fst fro fmo fkd fcd fsr ffa fga (nC v0) (nC v1)) ((6 * (nOn (nAll pb - s9 - 1))) + p98)) + (y63vo (nOr (nAll pb - s9 - 1) p98)))), zI 9 (nI p98), zI 13 1, zI 12 ((-1) * (((m_X6_tellsPlaces_ga pb ru fst fro fmo fkd fcd fsr ffa fga (nC v0) (nC v1)) ((6 * (nOn (nAll pb - s9 - 1))) + p98)) + (y63vo (nOr (nAll pb - s9 - 1) p98)))), zI 8 (-1), zI 7 (nI (nOn (nAll pb - s9 - 1))), zI 6 (nI (nAll pb - s9 - 1)), zI 5 (nI (nAll pb)), zI 4 fi, zR 0 h0, zI 1 v0, zI 2 v1, zI 3 v2]) hx hb dX6_counsel_196 hl (k := 4) rfl (nI_add p98 1) (by decide +kernel) rfl (fun ls hl => ?_)
                          refine lv_goto (tgt := 98) hx hb dX6_counsel_199 (by decide +kernel) ?_
                          exact ih9_98 (p98 + 1) (nI p98) ((-1) * (((m_X6_tellsPlaces_ga pb ru fst fro fmo fkd fcd fsr ffa fga (nC v0) (nC v1)) ((6 * (nOn (nAll pb - s9 - 1))) + p98)) + (y63vo (nOr (nAll pb - s9 - 1) p98)))) (by omega) (Eq.trans (Eq.symm ((congrArg (fun z9 => p_X6_counsel_98 pb ru fst fro fmo fkd fcd fsr ffa fga v0 v1 s9 y63vo (z9) p98 bs ms) (show pb - p98 = pb - (p98 + 1) + 1 by omega)).trans (by show p_X6_counsel_98 pb ru fst fro fmo fkd fcd fsr ffa fga v0 v1 s9 y63vo (pb - (p98 + 1) + 1) p98 bs ms = _; rw [p_X6_counsel_98, if_pos c_46, if_pos c_52]))) R98) (by omega) _ _ hP hD hS ls (lv_sub hl [0, 1, 2, 5, 6, 7, 8, 9, 10, 11, 12, 13] rfl)
                        · skip
                          refine lv_iload hx hb dX6_counsel_154 (lv_at hl 0 rfl) ?_
                          refine lv_iload hx hb dX6_counsel_156 (lv_at hl 2 rfl) ?_
                          refine lv_icmp_le (tgt := 165) hx hb dX6_counsel_158 (by decide +kernel) (fun c_55 => ?_) (fun c_55 => ?_)
                          · skip
                            refine lv_iconst (v := 0) hx hb dX6_counsel_165 (by decide +kernel) ?_
                            refine lv_istore (lv' := [zI 13 0, zI 12 ((-1) * (((m_X6_tellsPlaces_ga pb ru fst fro fmo fkd fcd fsr ffa fga (nC v0) (nC v1)) ((6 * (nOn (nAll pb - s9 - 1))) + p98)) + (y63vo (nOr (nAll pb - s9 - 1) p98)))), zI 11 (nI p98), zI 10 ms, zI 9 bs, zI 8 (-1), zI 7 (nI (nOn (nAll pb - s9 - 1))), zI 6 (nI (nAll pb - s9 - 1)), zI 5 (nI (nAll pb)), zI 4 fi, zR 0 h0, zI 1 v0, zI 2 v1, zI 3 v2]) hx hb dX6_counsel_166 hl (by decide +kernel) rfl (fun ls hl => ?_)
                            refine lv_iload hx hb dX6_counsel_168 (lv_at hl 0 rfl) ?_
                            refine lv_if_eq (tgt := 178) hx hb dX6_counsel_170 (by decide +kernel) (fun c_56 => ?_) (fun c_56 => ?_)
                            rotate_left
                            · exact absurd (by decide +kernel) c_56
                            refine lv_iload hx hb dX6_counsel_178 (lv_at hl 4 rfl) ?_
                            refine lv_istore (lv' := [zI 9 bs, zI 13 0, zI 12 ((-1) * (((m_X6_tellsPlaces_ga pb ru fst fro fmo fkd fcd fsr ffa fga (nC v0) (nC v1)) ((6 * (nOn (nAll pb - s9 - 1))) + p98)) + (y63vo (nOr (nAll pb - s9 - 1) p98)))), zI 11 (nI p98), zI 10 ms, zI 8 (-1), zI 7 (nI (nOn (nAll pb - s9 - 1))), zI 6 (nI (nAll pb - s9 - 1)), zI 5 (nI (nAll pb)), zI 4 fi, zR 0 h0, zI 1 v0, zI 2 v1, zI 3 v2]) hx hb dX6_counsel_180 hl (by decide +kernel) rfl (fun ls hl => ?_)
                            refine lv_iload hx hb dX6_counsel_182 (lv_at hl 1 rfl) ?_
                            refine lv_if_eq (tgt := 192) hx hb dX6_counsel_184 (by decide +kernel) (fun c_57 => ?_) (fun c_57 => ?_)
                            rotate_left
                            · exact absurd (by decide +kernel) c_57
                            refine lv_iload hx hb dX6_counsel_192 (lv_at hl 4 rfl) ?_
                            refine lv_istore (lv' := [zI 10 ms, zI 9 bs, zI 13 0, zI 12 ((-1) * (((m_X6_tellsPlaces_ga pb ru fst fro fmo fkd fcd fsr ffa fga (nC v0) (nC v1)) ((6 * (nOn (nAll pb - s9 - 1))) + p98)) + (y63vo (nOr (nAll pb - s9 - 1) p98)))), zI 11 (nI p98), zI 8 (-1), zI 7 (nI (nOn (nAll pb - s9 - 1))), zI 6 (nI (nAll pb - s9 - 1)), zI 5 (nI (nAll pb)), zI 4 fi, zR 0 h0, zI 1 v0, zI 2 v1, zI 3 v2]) hx hb dX6_counsel_194 hl (by decide +kernel) rfl (fun ls hl => ?_)
                            refine lv_iinc (v := nI (p98 + 1)) (lv' := [zI 11 (nI (p98 + 1)), zI 10 ms, zI 9 bs, zI 13 0, zI 12 ((-1) * (((m_X6_tellsPlaces_ga pb ru fst fro fmo fkd fcd fsr ffa fga (nC v0) (nC v1)) ((6 * (nOn (nAll pb - s9 - 1))) + p98)) + (y63vo (nOr (nAll pb - s9 - 1) p98)))), zI 8 (-1), zI 7 (nI (nOn (nAll pb - s9 - 1))), zI 6 (nI (nAll pb - s9 - 1)), zI 5 (nI (nAll pb)), zI 4 fi, zR 0 h0, zI 1 v0, zI 2 v1, zI 3 v2]) hx hb dX6_counsel_196 hl (k := 4) rfl (nI_add p98 1) (by decide +kernel) rfl (fun ls hl => ?_)
                            refine lv_goto (tgt := 98) hx hb dX6_counsel_199 (by decide +kernel) ?_
                            exact ih9_98 (p98 + 1) bs ms (by omega) (Eq.trans (Eq.symm ((congrArg (fun z9 => p_X6_counsel_98 pb ru fst fro fmo fkd fcd fsr ffa fga v0 v1 s9 y63vo (z9) p98 bs ms) (show pb - p98 = pb - (p98 + 1) + 1 by omega)).trans (by show p_X6_counsel_98 pb ru fst fro fmo fkd fcd fsr ffa fga v0 v1 s9 y63vo (pb - (p98 + 1) + 1) p98 bs ms = _; rw [p_X6_counsel_98, if_pos c_46, if_neg c_52, if_pos c_55]))) R98) (by omega) _ _ hP hD hS ls (lv_sub hl [0, 1, 2, 5, 6, 7, 8, 9, 10, 11, 12, 13] rfl)
                          · skip
                            refine lv_iconst (v := 1) hx hb dX6_counsel_161 (by decide +kernel) ?_
                            refine lv_goto (tgt := 166) hx hb dX6_counsel_162 (by decide +kernel) ?_
                            refine lv_istore (lv' := [zI 13 1, zI 12 ((-1) * (((m_X6_tellsPlaces_ga pb ru fst fro fmo fkd fcd fsr ffa fga (nC v0) (nC v1)) ((6 * (nOn (nAll pb - s9 - 1))) + p98)) + (y63vo (nOr (nAll pb - s9 - 1) p98)))), zI 11 (nI p98), zI 10 ms, zI 9 bs, zI 8 (-1), zI 7 (nI (nOn (nAll pb - s9 - 1))), zI 6 (nI (nAll pb - s9 - 1)), zI 5 (nI (nAll pb)), zI 4 fi, zR 0 h0, zI 1 v0, zI 2 v1, zI 3 v2]) hx hb dX6_counsel_166 hl (by decide +kernel) rfl (fun ls hl => ?_)
                            refine lv_iload hx hb dX6_counsel_168 (lv_at hl 0 rfl) ?_
                            refine lv_if_eq (tgt := 178) hx hb dX6_counsel_170 (by decide +kernel) (fun c_58 => ?_) (fun c_58 => ?_)
                            · exact absurd c_58 (by decide +kernel)
                            refine lv_iload hx hb dX6_counsel_173 (lv_at hl 2 rfl) ?_
                            refine lv_goto (tgt := 180) hx hb dX6_counsel_175 (by decide +kernel) ?_
                            refine lv_istore (lv' := [zI 9 (nI p98), zI 13 1, zI 12 ((-1) * (((m_X6_tellsPlaces_ga pb ru fst fro fmo fkd fcd fsr ffa fga (nC v0) (nC v1)) ((6 * (nOn (nAll pb - s9 - 1))) + p98)) + (y63vo (nOr (nAll pb - s9 - 1) p98)))), zI 11 (nI p98), zI 10 ms, zI 8 (-1), zI 7 (nI (nOn (nAll pb - s9 - 1))), zI 6 (nI (nAll pb - s9 - 1)), zI 5 (nI (nAll pb)), zI 4 fi, zR 0 h0, zI 1 v0, zI 2 v1, zI 3 v2]) hx hb dX6_counsel_180 hl (by decide +kernel) rfl (fun ls hl => ?_)
                            refine lv_iload hx hb dX6_counsel_182 (lv_at hl 1 rfl) ?_
                            refine lv_if_eq (tgt := 192) hx hb dX6_counsel_184 (by decide +kernel) (fun c_59 => ?_) (fun c_59 => ?_)
                            · exact absurd c_59 (by decide +kernel)
                            refine lv_iload hx hb dX6_counsel_187 (lv_at hl 2 rfl) ?_
                            refine lv_goto (tgt := 194) hx hb dX6_counsel_189 (by decide +kernel) ?_
                            refine lv_istore (lv' := [zI 10 ((-1) * (((m_X6_tellsPlaces_ga pb ru fst fro fmo fkd fcd fsr ffa fga (nC v0) (nC v1)) ((6 * (nOn (nAll pb - s9 - 1))) + p98)) + (y63vo (nOr (nAll pb - s9 - 1) p98)))), zI 9 (nI p98), zI 13 1, zI 12 ((-1) * (((m_X6_tellsPlaces_ga pb ru fst fro fmo fkd fcd fsr ffa fga (nC v0) (nC v1)) ((6 * (nOn (nAll pb - s9 - 1))) + p98)) + (y63vo (nOr (nAll pb - s9 - 1) p98)))), zI 11 (nI p98), zI 8 (-1), zI 7 (nI (nOn (nAll pb - s9 - 1))), zI 6 (nI (nAll pb - s9 - 1)), zI 5 (nI (nAll pb)), zI 4 fi, zR 0 h0, zI 1 v0, zI 2 v1, zI 3 v2]) hx hb dX6_counsel_194 hl (by decide +kernel) rfl (fun ls hl => ?_)
                            refine lv_iinc (v := nI (p98 + 1)) (lv' := [zI 11 (nI (p98 + 1)), zI 10 ((-1) * (((m_X6_tellsPlaces_ga pb ru fst fro fmo fkd fcd fsr ffa fga (nC v0) (nC v1)) ((6 * (nOn (nAll pb - s9 - 1))) + p98)) + (y63vo (nOr (nAll pb - s9 - 1) p98)))), zI 9 (nI p98), zI 13 1, zI 12 ((-1) * (((m_X6_tellsPlaces_ga pb ru fst fro fmo fkd fcd fsr ffa fga (nC v0) (nC v1)) ((6 * (nOn (nAll pb - s9 - 1))) + p98)) + (y63vo (nOr (nAll pb - s9 - 1) p98)))), zI 8 (-1), zI 7 (nI (nOn (nAll pb - s9 - 1))), zI 6 (nI (nAll pb - s9 - 1)), zI 5 (nI (nAll pb)), zI 4 fi, zR 0 h0, zI 1 v0, zI 2 v1, zI 3 v2]) hx hb dX6_counsel_196 hl (k := 4) rfl (nI_add p98 1) (by decide +kernel) rfl (fun ls hl => ?_)
                            refine lv_goto (tgt := 98) hx hb dX6_counsel_199 (by decide +kernel) ?_
                            exact ih9_98 (p98 + 1) (nI p98) ((-1) * (((m_X6_tellsPlaces_ga pb ru fst fro fmo fkd fcd fsr ffa fga (nC v0) (nC v1)) ((6 * (nOn (nAll pb - s9 - 1))) + p98)) + (y63vo (nOr (nAll pb - s9 - 1) p98)))) (by omega) (Eq.trans (Eq.symm ((congrArg (fun z9 => p_X6_counsel_98 pb ru fst fro fmo fkd fcd fsr ffa fga v0 v1 s9 y63vo (z9) p98 bs ms) (show pb - p98 = pb - (p98 + 1) + 1 by omega)).trans (by show p_X6_counsel_98 pb ru fst fro fmo fkd fcd fsr ffa fga v0 v1 s9 y63vo (pb - (p98 + 1) + 1) p98 bs ms = _; rw [p_X6_counsel_98, if_pos c_46, if_neg c_52, if_neg c_55]))) R98) (by omega) _ _ hP hD hS ls (lv_sub hl [0, 1, 2, 5, 6, 7, 8, 9, 10, 11, 12, 13] rfl)
                exact loop_98 (pb - 0 + 1) 0 (-1) 0 (by omega) (rfl) (by omega) _ _ hP hD hS ls hl
              · skip
                have c_44N : ((nOn (nAll pb - s9 - 1)) % 2) = 0 := nI_eq1 (a := ((nOn (nAll pb - s9 - 1)) % 2)) (b := 0) (by omega) (by omega) c_44
                refine lv_iconst (v := 1) hx hb dX6_counsel_82 (by decide +kernel) ?_
                refine lv_goto (tgt := 87) hx hb dX6_counsel_83 (by decide +kernel) ?_
                refine lv_istore (lv' := [zI 8 1, zI 7 (nI (nOn (nAll pb - s9 - 1))), zI 6 (nI (nAll pb - s9 - 1)), zI 5 (nI (nAll pb)), zI 4 fi, zR 0 h0, zI 1 v0, zI 2 v1, zI 3 v2]) hx hb dX6_counsel_87 hl (by decide +kernel) rfl (fun ls hl => ?_)
                refine lv_iconst (v := -1) hx hb dX6_counsel_89 (by decide +kernel) ?_
                refine lv_istore (lv' := [zI 9 (-1), zI 8 1, zI 7 (nI (nOn (nAll pb - s9 - 1))), zI 6 (nI (nAll pb - s9 - 1)), zI 5 (nI (nAll pb)), zI 4 fi, zR 0 h0, zI 1 v0, zI 2 v1, zI 3 v2]) hx hb dX6_counsel_90 hl (by decide +kernel) rfl (fun ls hl => ?_)
                refine lv_iconst (v := 0) hx hb dX6_counsel_92 (by decide +kernel) ?_
                refine lv_istore (lv' := [zI 10 0, zI 9 (-1), zI 8 1, zI 7 (nI (nOn (nAll pb - s9 - 1))), zI 6 (nI (nAll pb - s9 - 1)), zI 5 (nI (nAll pb)), zI 4 fi, zR 0 h0, zI 1 v0, zI 2 v1, zI 3 v2]) hx hb dX6_counsel_93 hl (by decide +kernel) rfl (fun ls hl => ?_)
                refine lv_iconst (v := 0) hx hb dX6_counsel_95 (by decide +kernel) ?_
                refine lv_istore (lv' := [zI 11 0, zI 10 0, zI 9 (-1), zI 8 1, zI 7 (nI (nOn (nAll pb - s9 - 1))), zI 6 (nI (nAll pb - s9 - 1)), zI 5 (nI (nAll pb)), zI 4 fi, zR 0 h0, zI 1 v0, zI 2 v1, zI 3 v2]) hx hb dX6_counsel_96 hl (by decide +kernel) rfl (fun ls hl => ?_)
                have loop_98 : ∀ (n9 : Nat) (p98 : Nat) (bs : Int32) (ms : Int32), (p98 ≤ pb) → (p_X6_counsel_98q1 pb ru fst fro fmo fkd fcd fsr ffa fga v0 v1 s9 y63vo (pb - p98) p98 bs ms = (g_X6_counsel_98q1 pb ru fst fro fmo fkd fcd fsr ffa fga v0 v1 s9 y63vo)) → (pb - p98) < n9 → ∀ (H : Heap) (locs : List Loc), va_P G.1 vwCl [zo6 h0 (nI pb) kd mo st (nI jg) ro tp (nI td) cd sr (nI tx) (nI ru) him ir ih ss sq ce lw s19 s20 s21 s22 wo he s25 s26 s27 sk na kp z31_27 z32_28 z33_29 z34_30 gb go fa ga s39 s40 vo, zi G st 12 fst, zi G ro 12 (m_X6_tellsPlaces_ro pb ru fst fro fmo fkd fcd fsr ffa fga (nC v0) (nC v1)), zi G mo 6 fmo, zi G kd 6 fkd, zi G cd 1200 fcd, zi G sr 24 (nF fsr), zi G sk 200 ysk_31, zi G na 6 yna_32, zi G kp 24 ykp_33, zi G fa 36 (m_X6_tellsPlaces_fa pb ru fst fro fmo fkd fcd fsr ffa fga (nC v0) (nC v1)), zi G ga 36 (m_X6_tellsPlaces_ga pb ru fst fro fmo fkd fcd fsr ffa fga (nC v0) (nC v1)), zi G vo 64 y63vo] H → va_D A [zo6 h0 (nI pb) kd mo st (nI jg) ro tp (nI td) cd sr (nI tx) (nI ru) him ir ih ss sq ce lw s19 s20 s21 s22 wo he s25 s26 s27 sk na kp z31_27 z32_28 z33_29 z34_30 gb go fa ga s39 s40 vo, zi G st 12 fst, zi G ro 12 (m_X6_tellsPlaces_ro pb ru fst fro fmo fkd fcd fsr ffa fga (nC v0) (nC v1)), zi G mo 6 fmo, zi G kd 6 fkd, zi G cd 1200 fcd, zi G sr 24 (nF fsr), zi G sk 200 ysk_31, zi G na 6 yna_32, zi G kp 24 ykp_33, zi G fa 36 (m_X6_tellsPlaces_fa pb ru fst fro fmo fkd fcd fsr ffa fga (nC v0) (nC v1)), zi G ga 36 (m_X6_tellsPlaces_ga pb ru fst fro fmo fkd fcd fsr ffa fga (nC v0) (nC v1)), zi G vo 64 y63vo] → va_S A s.heap H locs → ∀ ls : Array Slot, lv_has ls 14 [zI 11 (nI p98), zI 10 ms, zI 9 bs, zI 8 1, zI 7 (nI (nOn (nAll pb - s9 - 1))), zI 6 (nI (nAll pb - s9 - 1)), zI 5 (nI (nAll pb)), zI 4 fi, zR 0 h0, zI 1 v0, zI 2 v1, zI 3 v2] → W p l e (headSpec wsX6_counsel ({ frames := 8, cells := 0, slots := 0, locals := 194 })).room s m ([.ref h0, .int v0, .int v1, .int v2] : List Value).toArray below meth c H locs 0 0 (MQ below (q_X6_counsel G h0 kd mo st ro tp cd sr ir ih ss sq ce lw wo he sk na kp gb go fa ga vo pb jg td tx ru him s19 s20 s21 s22 s25 s26 s27 s31 s32 s33 s34 s39 s40 fst fro fmo fkd fcd fsr fsk fna fkp ffa fga fvo v0 v1 v2 A) ([.ref h0, .int v0, .int v1, .int v2] : List Value).toArray s 0 0 A) (F0 m 98 ls []) := by
                  intro n9
                  induction n9 with
                  | zero => intro p98 bs ms hp98 R98 hm9_98; exact absurd hm9_98 (Nat.not_lt_zero _)
                  | succ n9 ih9_98 =>
                    intro p98 bs ms hp98 R98 hm9_98 H locs hP hD hS ls hl
                    refine lv_iload hx hb dX6_counsel_98 (lv_at hl 0 rfl) ?_
                    refine g_aget (D := G.1) (ci := 6) (v := .int (nI pb)) (C := RX6) (T := TX6) (N := 42) hx hb dX6_counsel_100 rfl (lv_at hl 8 rfl) hts hiX6 hown hK hP 0 rfl rfl 0 (by decide +kernel) kf88 (fun _ h9 => h9) rfl dX6_counsel_101 ?_
                    refine lv_icmp_ge (tgt := 202) hx hb dX6_counsel_104 (by decide +kernel) (fun c_60 => ?_) (fun c_60 => ?_)
                    · skip
                      have c_60N : pb ≤ p98 := nI_le1 (a := pb) (b := p98) (by omega) (by omega) c_60
                      have hF98 : (g_X6_counsel_98q1 pb ru fst fro fmo fkd fcd fsr ffa fga v0 v1 s9 y63vo) = (p98, bs, ms) := by rw [← R98, show pb - p98 = 0 by omega]; rfl
                      have hE98_0 : p98 = ((g_X6_counsel_98q1 pb ru fst fro fmo fkd fcd fsr ffa fga v0 v1 s9 y63vo).1) := by rw [hF98]
                      have hE98_1 : bs = ((g_X6_counsel_98q1 pb ru fst fro fmo fkd fcd fsr ffa fga v0 v1 s9 y63vo).2.1) := by rw [hF98]
                      have hE98_2 : ms = ((g_X6_counsel_98q1 pb ru fst fro fmo fkd fcd fsr ffa fga v0 v1 s9 y63vo).2.2) := by rw [hF98]
                      clear hF98 R98
                      subst hE98_0
                      subst hE98_1
                      subst hE98_2
                      refine g_aget (D := G.1) (ci := 6) (v := .ref vo) (C := RX6) (T := TX6) (N := 42) hx hb dX6_counsel_202 rfl (lv_at hl 8 rfl) hts hiX6 hown hK hP 0 rfl rfl 41 (by decide +kernel) kf77 (fun _ h9 => h9) rfl dX6_counsel_203 ?_
                      refine lv_iload hx hb dX6_counsel_206 (lv_at hl 5 rfl) ?_
                      refine lv_iload hx hb dX6_counsel_208 (lv_at hl 3 rfl) ?_
                      refine lv_iload hx hb dX6_counsel_210 (lv_at hl 1 rfl) ?_
                      refine lv_imul hx hb dX6_counsel_212 ?_
                      refine g_iast (D := G.1) hx hb hK hP hD hS 12 0 rfl rfl (k := nAll pb - s9 - 1) (x := (1 * ((g_X6_counsel_98q1 pb ru fst fro fmo fkd fcd fsr ffa fga v0 v1 s9 y63vo).2.2))) (by omega) rfl dX6_counsel_213 (fun H locs hP hD hS => ?_)
                      have hz9 : gPD G A [zo6 h0 (nI pb) kd mo st (nI jg) ro tp (nI td) cd sr (nI tx) (nI ru) him ir ih ss sq ce lw s19 s20 s21 s22 wo he s25 s26 s27 sk na kp z31_27 z32_28 z33_29 z34_30 gb go fa ga s39 s40 vo, zi G st 12 fst, zi G ro 12 (m_X6_tellsPlaces_ro pb ru fst fro fmo fkd fcd fsr ffa fga (nC v0) (nC v1)), zi G mo 6 fmo, zi G kd 6 fkd, zi G cd 1200 fcd, zi G sr 24 (nF fsr), zi G sk 200 ysk_31, zi G na 6 yna_32, zi G kp 24 ykp_33, zi G fa 36 (m_X6_tellsPlaces_fa pb ru fst fro fmo fkd fcd fsr ffa fga (nC v0) (nC v1)), zi G ga 36 (m_X6_tellsPlaces_ga pb ru fst fro fmo fkd fcd fsr ffa fga (nC v0) (nC v1)), zi G vo 64 (upd y63vo (nAll pb - s9 - 1) (1 * ((g_X6_counsel_98q1 pb ru fst fro fmo fkd fcd fsr ffa fga v0 v1 s9 y63vo).2.2)))] H := ⟨hP, hD⟩
                      have hP := hz9.1
                      have hD := hz9.2
                      refine lv_iload hx hb dX6_counsel_214 (lv_at hl 2 rfl) ?_
                      refine lv_istore (lv' := [zI 4 ((g_X6_counsel_98q1 pb ru fst fro fmo fkd fcd fsr ffa fga v0 v1 s9 y63vo).2.1), zI 11 (nI ((g_X6_counsel_98q1 pb ru fst fro fmo fkd fcd fsr ffa fga v0 v1 s9 y63vo).1)), zI 10 ((g_X6_counsel_98q1 pb ru fst fro fmo fkd fcd fsr ffa fga v0 v1 s9 y63vo).2.2), zI 9 ((g_X6_counsel_98q1 pb ru fst fro fmo fkd fcd fsr ffa fga v0 v1 s9 y63vo).2.1), zI 8 1, zI 7 (nI (nOn (nAll pb - s9 - 1))), zI 6 (nI (nAll pb - s9 - 1)), zI 5 (nI (nAll pb)), zR 0 h0, zI 1 v0, zI 2 v1, zI 3 v2]) hx hb dX6_counsel_216 hl (by decide +kernel) rfl (fun ls hl => ?_)
                      refine lv_iinc (v := nI (nAll pb - (s9 + 1)) - 1) (lv' := [zI 6 (nI (nAll pb - (s9 + 1)) - 1), zI 4 ((g_X6_counsel_98q1 pb ru fst fro fmo fkd fcd fsr ffa fga v0 v1 s9 y63vo).2.1), zI 11 (nI ((g_X6_counsel_98q1 pb ru fst fro fmo fkd fcd fsr ffa fga v0 v1 s9 y63vo).1)), zI 10 ((g_X6_counsel_98q1 pb ru fst fro fmo fkd fcd fsr ffa fga v0 v1 s9 y63vo).2.2), zI 9 ((g_X6_counsel_98q1 pb ru fst fro fmo fkd fcd fsr ffa fga v0 v1 s9 y63vo).2.1), zI 8 1, zI 7 (nI (nOn (nAll pb - s9 - 1))), zI 5 (nI (nAll pb)), zR 0 h0, zI 1 v0, zI 2 v1, zI 3 v2]) hx hb dX6_counsel_218 hl (k := 6) rfl (show nI (nAll pb - s9 - 1) + (-1) = nI (nAll pb - (s9 + 1)) - 1 from by rw [nI_p1, show nAll pb - (s9 + 1) = nAll pb - s9 - 1 by omega]) (by decide +kernel) rfl (fun ls hl => ?_)
                      refine lv_goto (tgt := 63) hx hb dX6_counsel_221 (by decide +kernel) ?_
                      exact ih9_63 (s9 + 1) ((g_X6_counsel_98q1 pb ru fst fro fmo fkd fcd fsr ffa fga v0 v1 s9 y63vo).2.1) (upd y63vo (nAll pb - s9 - 1) (1 * ((g_X6_counsel_98q1 pb ru fst fro fmo fkd fcd fsr ffa fga v0 v1 s9 y63vo).2.2))) (by omega) (Eq.trans (Eq.symm ((congrArg (fun z9 => p_X6_counsel_63 pb ru fst fro fmo fkd fcd fsr ffa fga v0 v1 (z9) s9 fi y63vo) (show nAll pb - s9 = nAll pb - (s9 + 1) + 1 by omega)).trans (by show p_X6_counsel_63 pb ru fst fro fmo fkd fcd fsr ffa fga v0 v1 (nAll pb - (s9 + 1) + 1) s9 fi y63vo = _; rw [p_X6_counsel_63, if_pos c_44]))) R63) (by omega) _ _ hP hD hS ls (lv_sub hl [0, 7, 1, 8, 9, 10, 11] rfl)
                    · skip
                      have c_60N : p98 < pb := nI_le0 (a := pb) (b := p98) (by omega) (by omega) c_60
                      refine lv_iload hx hb dX6_counsel_107 (lv_at hl 5 rfl) ?_
                      refine lv_iload hx hb dX6_counsel_109 (lv_at hl 0 rfl) ?_
                      refine lv_ishr hx hb dX6_counsel_111 ?_
                      refine lv_iconst (v := 1) hx hb dX6_counsel_112 (by decide +kernel) ?_
                      refine lv_iand hx hb dX6_counsel_113 ?_
                      refine lv_if_ne (tgt := 196) hx hb dX6_counsel_114 (by decide +kernel) (fun c_61 => ?_) (fun c_61 => ?_)
                      · skip
                        refine lv_iinc (v := nI (p98 + 1)) (lv' := [zI 11 (nI (p98 + 1)), zI 10 ms, zI 9 bs, zI 8 1, zI 7 (nI (nOn (nAll pb - s9 - 1))), zI 6 (nI (nAll pb - s9 - 1)), zI 5 (nI (nAll pb)), zI 4 fi, zR 0 h0, zI 1 v0, zI 2 v1, zI 3 v2]) hx hb dX6_counsel_196 hl (k := 0) rfl (nI_add p98 1) (by decide +kernel) rfl (fun ls hl => ?_)
                        refine lv_goto (tgt := 98) hx hb dX6_counsel_199 (by decide +kernel) ?_
                        exact ih9_98 (p98 + 1) bs ms (by omega) (Eq.trans (Eq.symm ((congrArg (fun z9 => p_X6_counsel_98q1 pb ru fst fro fmo fkd fcd fsr ffa fga v0 v1 s9 y63vo (z9) p98 bs ms) (show pb - p98 = pb - (p98 + 1) + 1 by omega)).trans (by show p_X6_counsel_98q1 pb ru fst fro fmo fkd fcd fsr ffa fga v0 v1 s9 y63vo (pb - (p98 + 1) + 1) p98 bs ms = _; rw [p_X6_counsel_98q1, if_neg c_61]))) R98) (by omega) _ _ hP hD hS ls hl
                      · skip
                        refine lv_iload hx hb dX6_counsel_117 (lv_at hl 3 rfl) ?_
                        refine g_aget (D := G.1) (ci := 6) (v := .ref ga) (C := RX6) (T := TX6) (N := 42) hx hb dX6_counsel_119 rfl (lv_at hl 8 rfl) hts hiX6 hown hK hP 0 rfl rfl 38 (by decide +kernel) kf74 (fun _ h9 => h9) rfl dX6_counsel_120 ?_
                        refine lv_bipush (v := 6) hx hb dX6_counsel_123 (by decide +kernel) ?_
                        refine lv_iload hx hb dX6_counsel_125 (lv_at hl 4 rfl) ?_
                        refine lv_imul hx hb dX6_counsel_127 ?_
                        refine g_topi (y := nI (6 * (nOn (nAll pb - s9 - 1)))) (pk_mul 6 (nOn (nAll pb - s9 - 1))) ?_
                        refine lv_iload hx hb dX6_counsel_128 (lv_at hl 0 rfl) ?_
                        refine lv_iadd hx hb dX6_counsel_130 ?_
                        refine g_topi (y := nI ((6 * (nOn (nAll pb - s9 - 1))) + p98)) (nI_add (6 * (nOn (nAll pb - s9 - 1))) p98) ?_
                        refine g_iald (D := G.1) hx hb hK hP 11 0 rfl rfl (k := (6 * (nOn (nAll pb - s9 - 1))) + p98) (y := (m_X6_tellsPlaces_ga pb ru fst fro fmo fkd fcd fsr ffa fga (nC v0) (nC v1)) ((6 * (nOn (nAll pb - s9 - 1))) + p98)) (by omega) rfl rfl dX6_counsel_131 ?_
                        refine g_aget (D := G.1) (ci := 6) (v := .ref vo) (C := RX6) (T := TX6) (N := 42) hx hb dX6_counsel_132 rfl (lv_at hl 8 rfl) hts hiX6 hown hK hP 0 rfl rfl 41 (by decide +kernel) kf77 (fun _ h9 => h9) rfl dX6_counsel_133 ?_
                        refine lv_iload hx hb dX6_counsel_136 (lv_at hl 5 rfl) ?_
                        refine lv_iconst (v := 1) hx hb dX6_counsel_138 (by decide +kernel) ?_
                        refine lv_iload hx hb dX6_counsel_139 (lv_at hl 0 rfl) ?_
                        refine lv_ishl hx hb dX6_counsel_141 ?_
                        refine lv_ior hx hb dX6_counsel_142 ?_
                        refine g_topi (y := nI (nOr (nAll pb - s9 - 1) p98)) (nOr_eq (by omega) (by omega)) ?_
                        have hor : nOr (nAll pb - s9 - 1) p98 < 64 := nOr_lt (by omega) (by omega)
                        refine g_iald (D := G.1) hx hb hK hP 12 0 rfl rfl (k := nOr (nAll pb - s9 - 1) p98) (y := y63vo (nOr (nAll pb - s9 - 1) p98)) (by omega) rfl rfl dX6_counsel_143 ?_
                        refine lv_iadd hx hb dX6_counsel_144 ?_
                        refine lv_imul hx hb dX6_counsel_145 ?_
                        refine lv_istore (lv' := [zI 12 (1 * (((m_X6_tellsPlaces_ga pb ru fst fro fmo fkd fcd fsr ffa fga (nC v0) (nC v1)) ((6 * (nOn (nAll pb - s9 - 1))) + p98)) + (y63vo (nOr (nAll pb - s9 - 1) p98)))), zI 11 (nI p98), zI 10 ms, zI 9 bs, zI 8 1, zI 7 (nI (nOn (nAll pb - s9 - 1))), zI 6 (nI (nAll pb - s9 - 1)), zI 5 (nI (nAll pb)), zI 4 fi, zR 0 h0, zI 1 v0, zI 2 v1, zI 3 v2]) hx hb dX6_counsel_146 hl (by decide +kernel) rfl (fun ls hl => ?_)
                        refine lv_iload hx hb dX6_counsel_148 (lv_at hl 3 rfl) ?_
                        refine lv_iconst (v := -1) hx hb dX6_counsel_150 (by decide +kernel) ?_
                        refine lv_icmp_eq (tgt := 161) hx hb dX6_counsel_151 (by decide +kernel) (fun c_67 => ?_) (fun c_67 => ?_)
                        · skip
                          refine lv_iconst (v := 1) hx hb dX6_counsel_161 (by decide +kernel) ?_
                          refine lv_goto (tgt := 166) hx hb dX6_counsel_162 (by decide +kernel) ?_
                          refine lv_istore (lv' := [zI 13 1, zI 12 (1 * (((m_X6_tellsPlaces_ga pb ru fst fro fmo fkd fcd fsr ffa fga (nC v0) (nC v1)) ((6 * (nOn (nAll pb - s9 - 1))) + p98)) + (y63vo (nOr (nAll pb - s9 - 1) p98)))), zI 11 (nI p98), zI 10 ms, zI 9 bs, zI 8 1, zI 7 (nI (nOn (nAll pb - s9 - 1))), zI 6 (nI (nAll pb - s9 - 1)), zI 5 (nI (nAll pb)), zI 4 fi, zR 0 h0, zI 1 v0, zI 2 v1, zI 3 v2]) hx hb dX6_counsel_166 hl (by decide +kernel) rfl (fun ls hl => ?_)
                          refine lv_iload hx hb dX6_counsel_168 (lv_at hl 0 rfl) ?_
                          refine lv_if_eq (tgt := 178) hx hb dX6_counsel_170 (by decide +kernel) (fun c_68 => ?_) (fun c_68 => ?_)
                          · exact absurd c_68 (by decide +kernel)
                          refine lv_iload hx hb dX6_counsel_173 (lv_at hl 2 rfl) ?_
                          refine lv_goto (tgt := 180) hx hb dX6_counsel_175 (by decide +kernel) ?_
                          refine lv_istore (lv' := [zI 9 (nI p98), zI 13 1, zI 12 (1 * (((m_X6_tellsPlaces_ga pb ru fst fro fmo fkd fcd fsr ffa fga (nC v0) (nC v1)) ((6 * (nOn (nAll pb - s9 - 1))) + p98)) + (y63vo (nOr (nAll pb - s9 - 1) p98)))), zI 11 (nI p98), zI 10 ms, zI 8 1, zI 7 (nI (nOn (nAll pb - s9 - 1))), zI 6 (nI (nAll pb - s9 - 1)), zI 5 (nI (nAll pb)), zI 4 fi, zR 0 h0, zI 1 v0, zI 2 v1, zI 3 v2]) hx hb dX6_counsel_180 hl (by decide +kernel) rfl (fun ls hl => ?_)
                          refine lv_iload hx hb dX6_counsel_182 (lv_at hl 1 rfl) ?_
                          refine lv_if_eq (tgt := 192) hx hb dX6_counsel_184 (by decide +kernel) (fun c_69 => ?_) (fun c_69 => ?_)
                          · exact absurd c_69 (by decide +kernel)
                          refine lv_iload hx hb dX6_counsel_187 (lv_at hl 2 rfl) ?_
                          refine lv_goto (tgt := 194) hx hb dX6_counsel_189 (by decide +kernel) ?_
                          refine lv_istore (lv' := [zI 10 (1 * (((m_X6_tellsPlaces_ga pb ru fst fro fmo fkd fcd fsr ffa fga (nC v0) (nC v1)) ((6 * (nOn (nAll pb - s9 - 1))) + p98)) + (y63vo (nOr (nAll pb - s9 - 1) p98)))), zI 9 (nI p98), zI 13 1, zI 12 (1 * (((m_X6_tellsPlaces_ga pb ru fst fro fmo fkd fcd fsr ffa fga (nC v0) (nC v1)) ((6 * (nOn (nAll pb - s9 - 1))) + p98)) + (y63vo (nOr (nAll pb - s9 - 1) p98)))), zI 11 (nI p98), zI 8 1, zI 7 (nI (nOn (nAll pb - s9 - 1))), zI 6 (nI (nAll pb - s9 - 1)), zI 5 (nI (nAll pb)), zI 4 fi, zR 0 h0, zI 1 v0, zI 2 v1, zI 3 v2]) hx hb dX6_counsel_194 hl (by decide +kernel) rfl (fun ls hl => ?_)
                          refine lv_iinc (v := nI (p98 + 1)) (lv' := [zI 11 (nI (p98 + 1)), zI 10 (1 * (((m_X6_tellsPlaces_ga pb ru fst fro fmo fkd fcd fsr ffa fga (nC v0) (nC v1)) ((6 * (nOn (nAll pb - s9 - 1))) + p98)) + (y63vo (nOr (nAll pb - s9 - 1) p98)))), zI 9 (nI p98), zI 13 1, zI 12 (1 * (((m_X6_tellsPlaces_ga pb ru fst fro fmo fkd fcd fsr ffa fga (nC v0) (nC v1)) ((6 * (nOn (nAll pb - s9 - 1))) + p98)) + (y63vo (nOr (nAll pb - s9 - 1) p98)))), zI 8 1, zI 7 (nI (nOn (nAll pb - s9 - 1))), zI 6 (nI (nAll pb - s9 - 1)), zI 5 (nI (nAll pb)), zI 4 fi, zR 0 h0, zI 1 v0, zI 2 v1, zI 3 v2]) hx hb dX6_counsel_196 hl (k := 4) rfl (nI_add p98 1) (by decide +kernel) rfl (fun ls hl => ?_)
                          refine lv_goto (tgt := 98) hx hb dX6_counsel_199 (by decide +kernel) ?_
                          exact ih9_98 (p98 + 1) (nI p98) (1 * (((m_X6_tellsPlaces_ga pb ru fst fro fmo fkd fcd fsr ffa fga (nC v0) (nC v1)) ((6 * (nOn (nAll pb - s9 - 1))) + p98)) + (y63vo (nOr (nAll pb - s9 - 1) p98)))) (by omega) (Eq.trans (Eq.symm ((congrArg (fun z9 => p_X6_counsel_98q1 pb ru fst fro fmo fkd fcd fsr ffa fga v0 v1 s9 y63vo (z9) p98 bs ms) (show pb - p98 = pb - (p98 + 1) + 1 by omega)).trans (by show p_X6_counsel_98q1 pb ru fst fro fmo fkd fcd fsr ffa fga v0 v1 s9 y63vo (pb - (p98 + 1) + 1) p98 bs ms = _; rw [p_X6_counsel_98q1, if_pos c_61, if_pos c_67]))) R98) (by omega) _ _ hP hD hS ls (lv_sub hl [0, 1, 2, 5, 6, 7, 8, 9, 10, 11, 12, 13] rfl)
                        · skip
                          refine lv_iload hx hb dX6_counsel_154 (lv_at hl 0 rfl) ?_
                          refine lv_iload hx hb dX6_counsel_156 (lv_at hl 2 rfl) ?_
                          refine lv_icmp_le (tgt := 165) hx hb dX6_counsel_158 (by decide +kernel) (fun c_70 => ?_) (fun c_70 => ?_)
                          · skip
                            refine lv_iconst (v := 0) hx hb dX6_counsel_165 (by decide +kernel) ?_
                            refine lv_istore (lv' := [zI 13 0, zI 12 (1 * (((m_X6_tellsPlaces_ga pb ru fst fro fmo fkd fcd fsr ffa fga (nC v0) (nC v1)) ((6 * (nOn (nAll pb - s9 - 1))) + p98)) + (y63vo (nOr (nAll pb - s9 - 1) p98)))), zI 11 (nI p98), zI 10 ms, zI 9 bs, zI 8 1, zI 7 (nI (nOn (nAll pb - s9 - 1))), zI 6 (nI (nAll pb - s9 - 1)), zI 5 (nI (nAll pb)), zI 4 fi, zR 0 h0, zI 1 v0, zI 2 v1, zI 3 v2]) hx hb dX6_counsel_166 hl (by decide +kernel) rfl (fun ls hl => ?_)
                            refine lv_iload hx hb dX6_counsel_168 (lv_at hl 0 rfl) ?_
                            refine lv_if_eq (tgt := 178) hx hb dX6_counsel_170 (by decide +kernel) (fun c_71 => ?_) (fun c_71 => ?_)
                            rotate_left
                            · exact absurd (by decide +kernel) c_71
                            refine lv_iload hx hb dX6_counsel_178 (lv_at hl 4 rfl) ?_
                            refine lv_istore (lv' := [zI 9 bs, zI 13 0, zI 12 (1 * (((m_X6_tellsPlaces_ga pb ru fst fro fmo fkd fcd fsr ffa fga (nC v0) (nC v1)) ((6 * (nOn (nAll pb - s9 - 1))) + p98)) + (y63vo (nOr (nAll pb - s9 - 1) p98)))), zI 11 (nI p98), zI 10 ms, zI 8 1, zI 7 (nI (nOn (nAll pb - s9 - 1))), zI 6 (nI (nAll pb - s9 - 1)), zI 5 (nI (nAll pb)), zI 4 fi, zR 0 h0, zI 1 v0, zI 2 v1, zI 3 v2]) hx hb dX6_counsel_180 hl (by decide +kernel) rfl (fun ls hl => ?_)
                            refine lv_iload hx hb dX6_counsel_182 (lv_at hl 1 rfl) ?_
                            refine lv_if_eq (tgt := 192) hx hb dX6_counsel_184 (by decide +kernel) (fun c_72 => ?_) (fun c_72 => ?_)
                            rotate_left
                            · exact absurd (by decide +kernel) c_72
                            refine lv_iload hx hb dX6_counsel_192 (lv_at hl 4 rfl) ?_
                            refine lv_istore (lv' := [zI 10 ms, zI 9 bs, zI 13 0, zI 12 (1 * (((m_X6_tellsPlaces_ga pb ru fst fro fmo fkd fcd fsr ffa fga (nC v0) (nC v1)) ((6 * (nOn (nAll pb - s9 - 1))) + p98)) + (y63vo (nOr (nAll pb - s9 - 1) p98)))), zI 11 (nI p98), zI 8 1, zI 7 (nI (nOn (nAll pb - s9 - 1))), zI 6 (nI (nAll pb - s9 - 1)), zI 5 (nI (nAll pb)), zI 4 fi, zR 0 h0, zI 1 v0, zI 2 v1, zI 3 v2]) hx hb dX6_counsel_194 hl (by decide +kernel) rfl (fun ls hl => ?_)
                            refine lv_iinc (v := nI (p98 + 1)) (lv' := [zI 11 (nI (p98 + 1)), zI 10 ms, zI 9 bs, zI 13 0, zI 12 (1 * (((m_X6_tellsPlaces_ga pb ru fst fro fmo fkd fcd fsr ffa fga (nC v0) (nC v1)) ((6 * (nOn (nAll pb - s9 - 1))) + p98)) + (y63vo (nOr (nAll pb - s9 - 1) p98)))), zI 8 1, zI 7 (nI (nOn (nAll pb - s9 - 1))), zI 6 (nI (nAll pb - s9 - 1)), zI 5 (nI (nAll pb)), zI 4 fi, zR 0 h0, zI 1 v0, zI 2 v1, zI 3 v2]) hx hb dX6_counsel_196 hl (k := 4) rfl (nI_add p98 1) (by decide +kernel) rfl (fun ls hl => ?_)
                            refine lv_goto (tgt := 98) hx hb dX6_counsel_199 (by decide +kernel) ?_
                            exact ih9_98 (p98 + 1) bs ms (by omega) (Eq.trans (Eq.symm ((congrArg (fun z9 => p_X6_counsel_98q1 pb ru fst fro fmo fkd fcd fsr ffa fga v0 v1 s9 y63vo (z9) p98 bs ms) (show pb - p98 = pb - (p98 + 1) + 1 by omega)).trans (by show p_X6_counsel_98q1 pb ru fst fro fmo fkd fcd fsr ffa fga v0 v1 s9 y63vo (pb - (p98 + 1) + 1) p98 bs ms = _; rw [p_X6_counsel_98q1, if_pos c_61, if_neg c_67, if_pos c_70]))) R98) (by omega) _ _ hP hD hS ls (lv_sub hl [0, 1, 2, 5, 6, 7, 8, 9, 10, 11, 12, 13] rfl)
                          · skip
                            refine lv_iconst (v := 1) hx hb dX6_counsel_161 (by decide +kernel) ?_
                            refine lv_goto (tgt := 166) hx hb dX6_counsel_162 (by decide +kernel) ?_
                            refine lv_istore (lv' := [zI 13 1, zI 12 (1 * (((m_X6_tellsPlaces_ga pb ru fst fro fmo fkd fcd fsr ffa fga (nC v0) (nC v1)) ((6 * (nOn (nAll pb - s9 - 1))) + p98)) + (y63vo (nOr (nAll pb - s9 - 1) p98)))), zI 11 (nI p98), zI 10 ms, zI 9 bs, zI 8 1, zI 7 (nI (nOn (nAll pb - s9 - 1))), zI 6 (nI (nAll pb - s9 - 1)), zI 5 (nI (nAll pb)), zI 4 fi, zR 0 h0, zI 1 v0, zI 2 v1, zI 3 v2]) hx hb dX6_counsel_166 hl (by decide +kernel) rfl (fun ls hl => ?_)
                            refine lv_iload hx hb dX6_counsel_168 (lv_at hl 0 rfl) ?_
                            refine lv_if_eq (tgt := 178) hx hb dX6_counsel_170 (by decide +kernel) (fun c_73 => ?_) (fun c_73 => ?_)
                            · exact absurd c_73 (by decide +kernel)
                            refine lv_iload hx hb dX6_counsel_173 (lv_at hl 2 rfl) ?_
                            refine lv_goto (tgt := 180) hx hb dX6_counsel_175 (by decide +kernel) ?_
                            refine lv_istore (lv' := [zI 9 (nI p98), zI 13 1, zI 12 (1 * (((m_X6_tellsPlaces_ga pb ru fst fro fmo fkd fcd fsr ffa fga (nC v0) (nC v1)) ((6 * (nOn (nAll pb - s9 - 1))) + p98)) + (y63vo (nOr (nAll pb - s9 - 1) p98)))), zI 11 (nI p98), zI 10 ms, zI 8 1, zI 7 (nI (nOn (nAll pb - s9 - 1))), zI 6 (nI (nAll pb - s9 - 1)), zI 5 (nI (nAll pb)), zI 4 fi, zR 0 h0, zI 1 v0, zI 2 v1, zI 3 v2]) hx hb dX6_counsel_180 hl (by decide +kernel) rfl (fun ls hl => ?_)
                            refine lv_iload hx hb dX6_counsel_182 (lv_at hl 1 rfl) ?_
                            refine lv_if_eq (tgt := 192) hx hb dX6_counsel_184 (by decide +kernel) (fun c_74 => ?_) (fun c_74 => ?_)
                            · exact absurd c_74 (by decide +kernel)
                            refine lv_iload hx hb dX6_counsel_187 (lv_at hl 2 rfl) ?_
                            refine lv_goto (tgt := 194) hx hb dX6_counsel_189 (by decide +kernel) ?_
                            refine lv_istore (lv' := [zI 10 (1 * (((m_X6_tellsPlaces_ga pb ru fst fro fmo fkd fcd fsr ffa fga (nC v0) (nC v1)) ((6 * (nOn (nAll pb - s9 - 1))) + p98)) + (y63vo (nOr (nAll pb - s9 - 1) p98)))), zI 9 (nI p98), zI 13 1, zI 12 (1 * (((m_X6_tellsPlaces_ga pb ru fst fro fmo fkd fcd fsr ffa fga (nC v0) (nC v1)) ((6 * (nOn (nAll pb - s9 - 1))) + p98)) + (y63vo (nOr (nAll pb - s9 - 1) p98)))), zI 11 (nI p98), zI 8 1, zI 7 (nI (nOn (nAll pb - s9 - 1))), zI 6 (nI (nAll pb - s9 - 1)), zI 5 (nI (nAll pb)), zI 4 fi, zR 0 h0, zI 1 v0, zI 2 v1, zI 3 v2]) hx hb dX6_counsel_194 hl (by decide +kernel) rfl (fun ls hl => ?_)
                            refine lv_iinc (v := nI (p98 + 1)) (lv' := [zI 11 (nI (p98 + 1)), zI 10 (1 * (((m_X6_tellsPlaces_ga pb ru fst fro fmo fkd fcd fsr ffa fga (nC v0) (nC v1)) ((6 * (nOn (nAll pb - s9 - 1))) + p98)) + (y63vo (nOr (nAll pb - s9 - 1) p98)))), zI 9 (nI p98), zI 13 1, zI 12 (1 * (((m_X6_tellsPlaces_ga pb ru fst fro fmo fkd fcd fsr ffa fga (nC v0) (nC v1)) ((6 * (nOn (nAll pb - s9 - 1))) + p98)) + (y63vo (nOr (nAll pb - s9 - 1) p98)))), zI 8 1, zI 7 (nI (nOn (nAll pb - s9 - 1))), zI 6 (nI (nAll pb - s9 - 1)), zI 5 (nI (nAll pb)), zI 4 fi, zR 0 h0, zI 1 v0, zI 2 v1, zI 3 v2]) hx hb dX6_counsel_196 hl (k := 4) rfl (nI_add p98 1) (by decide +kernel) rfl (fun ls hl => ?_)
                            refine lv_goto (tgt := 98) hx hb dX6_counsel_199 (by decide +kernel) ?_
                            exact ih9_98 (p98 + 1) (nI p98) (1 * (((m_X6_tellsPlaces_ga pb ru fst fro fmo fkd fcd fsr ffa fga (nC v0) (nC v1)) ((6 * (nOn (nAll pb - s9 - 1))) + p98)) + (y63vo (nOr (nAll pb - s9 - 1) p98)))) (by omega) (Eq.trans (Eq.symm ((congrArg (fun z9 => p_X6_counsel_98q1 pb ru fst fro fmo fkd fcd fsr ffa fga v0 v1 s9 y63vo (z9) p98 bs ms) (show pb - p98 = pb - (p98 + 1) + 1 by omega)).trans (by show p_X6_counsel_98q1 pb ru fst fro fmo fkd fcd fsr ffa fga v0 v1 s9 y63vo (pb - (p98 + 1) + 1) p98 bs ms = _; rw [p_X6_counsel_98q1, if_pos c_61, if_neg c_67, if_neg c_70]))) R98) (by omega) _ _ hP hD hS ls (lv_sub hl [0, 1, 2, 5, 6, 7, 8, 9, 10, 11, 12, 13] rfl)
                exact loop_98 (pb - 0 + 1) 0 (-1) 0 (by omega) (rfl) (by omega) _ _ hP hD hS ls hl
        exact loop_63 (nAll pb - 0 + 1) 0 (-1) (upd fvo (nAll pb) 0) (by omega) (rfl) (by omega) _ _ hP hD hS ls hl
      · skip
        have n_20 : ¬ (0 ≤ v2 ∧ v2 ≤ 1) := of_decide_eq_false (bz_eq rfl c_18)
        refine lv_bipush (v := -7) hx hb dX6_counsel_27 (by decide +kernel) ?_
        have q_75 : m_X6_counsel_ro pb jg ru fst fro fmo fkd fcd fsr ffa fga v0 v1 v2 = fro := by unfold m_X6_counsel_ro; rw [if_pos p_4, if_pos p_11, if_neg n_20]
        have hz9 : gPD G A [zo6 h0 (nI pb) kd mo st (nI jg) ro tp (nI td) cd sr (nI tx) (nI ru) him ir ih ss sq ce lw s19 s20 s21 s22 wo he s25 s26 s27 sk na kp s31 s32 s33 s34 gb go fa ga s39 s40 vo, zi G st 12 fst, zi G ro 12 (m_X6_counsel_ro pb jg ru fst fro fmo fkd fcd fsr ffa fga v0 v1 v2), zi G mo 6 fmo, zi G kd 6 fkd, zi G cd 1200 fcd, zi G sr 24 (nF fsr), zi G sk 200 fsk, zi G na 6 fna, zi G kp 24 fkp, zi G fa 36 ffa, zi G ga 36 fga, zi G vo 64 fvo] H := ⟨by rw [q_75]; exact hP, by rw [q_75]; exact hD⟩
        have hP9 := hz9.1
        have hD9 := hz9.2
        have hpost : (fun (r : Int32) (u : Int32 × Int32 × Int32 × Int32 × (Nat → Int32) × (Nat → Int32) × (Nat → Int32) × (Nat → Int32) × (Nat → Int32) × (Nat → Int32)) => match u with | (z31, z32, z33, z34, ysk, yna, ykp, yfa, yga, yvo) => r = m_X6_counsel pb jg ru fst fro fmo fkd fcd fsr ffa fga fvo v0 v1 v2) (-7) (s31, s32, s33, s34, fsk, fna, fkp, ffa, fga, fvo) := (show m_X6_counsel pb jg ru fst fro fmo fkd fcd fsr ffa fga fvo v0 v1 v2 = (-7) from by unfold m_X6_counsel; rw [if_pos p_4, if_pos p_11, if_neg n_20]).symm
        exact W.iret (v := (-7)) hx hb hr (fun t ht hW => ⟨⟨(-7), (s31, s32, s33, s34, fsk, fna, fkp, ffa, fga, fvo), rfl, hpost, by rw [ht]; exact hP9, va_K.moved hW.alike hK, hD9⟩, hS.F ht⟩) hS.2.2 dX6_counsel_29
  · skip
    have n_5 : (mHas jg v0) = false := bz_eq rfl c_3
    have n_5N : ¬ ((mHas jg v0) = true) := by rw [n_5]; decide
    refine lv_bipush (v := -5) hx hb dX6_counsel_8 (by decide +kernel) ?_
    have q_76 : m_X6_counsel_ro pb jg ru fst fro fmo fkd fcd fsr ffa fga v0 v1 v2 = fro := by unfold m_X6_counsel_ro; rw [if_neg n_5N]
    have hz9 : gPD G A [zo6 h0 (nI pb) kd mo st (nI jg) ro tp (nI td) cd sr (nI tx) (nI ru) him ir ih ss sq ce lw s19 s20 s21 s22 wo he s25 s26 s27 sk na kp s31 s32 s33 s34 gb go fa ga s39 s40 vo, zi G st 12 fst, zi G ro 12 (m_X6_counsel_ro pb jg ru fst fro fmo fkd fcd fsr ffa fga v0 v1 v2), zi G mo 6 fmo, zi G kd 6 fkd, zi G cd 1200 fcd, zi G sr 24 (nF fsr), zi G sk 200 fsk, zi G na 6 fna, zi G kp 24 fkp, zi G fa 36 ffa, zi G ga 36 fga, zi G vo 64 fvo] H := ⟨by rw [q_76]; exact hP, by rw [q_76]; exact hD⟩
    have hP9 := hz9.1
    have hD9 := hz9.2
    have hpost : (fun (r : Int32) (u : Int32 × Int32 × Int32 × Int32 × (Nat → Int32) × (Nat → Int32) × (Nat → Int32) × (Nat → Int32) × (Nat → Int32) × (Nat → Int32)) => match u with | (z31, z32, z33, z34, ysk, yna, ykp, yfa, yga, yvo) => r = m_X6_counsel pb jg ru fst fro fmo fkd fcd fsr ffa fga fvo v0 v1 v2) (-5) (s31, s32, s33, s34, fsk, fna, fkp, ffa, fga, fvo) := (show m_X6_counsel pb jg ru fst fro fmo fkd fcd fsr ffa fga fvo v0 v1 v2 = (-5) from by unfold m_X6_counsel; rw [if_neg n_5N]).symm
    exact W.iret (v := (-5)) hx hb hr (fun t ht hW => ⟨⟨(-5), (s31, s32, s33, s34, fsk, fna, fkp, ffa, fga, fvo), rfl, hpost, by rw [ht]; exact hP9, va_K.moved hW.alike hK, hD9⟩, hS.F ht⟩) hS.2.2 dX6_counsel_10
noncomputable def m_X6_drawn (pb : Nat) (jg : Nat) (ru : Nat) (s33 : Int32) (fst : Nat → Int32) (fro : Nat → Int32) (fmo : Nat → Int32) (fkd : Nat → Int32) (fcd : Nat → Int32) (fsr : Nat → Nat) (v0 : Int32) (v1 : Int32) (v2 : Int32) (v3 : Int32) (v4 : Int32) : Int32 := if (mHas jg v1) = true then (if (mHas pb v2) = true then (if 0 ≤ v0 ∧ v0 ≤ 99999 then (if (mMil v3) = true then (if 0 ≤ v4 ∧ v4 ≤ 2 then m_X6_toldCase (m_X6_caseBy_h031 ru fst fro fmo fkd fcd fsr (nI (nC v0)) (nC v1) (nC v2) (nC v3)) (m_X6_caseBy_h032 ru fst fro fmo fkd fcd fsr (nI (nC v0)) (nC v1) (nC v2) (nC v3)) s33 (m_X6_caseBy_h034 ru fst fro fmo fkd fcd fsr (nI (nC v0)) (nC v1) (nC v2) (nC v3)) (nI (nC v4)) else -7) else -7) else -7) else -5) else -5
abbrev q_X6_drawn (G : gG) (h0 kd mo st ro tp cd sr ir ih ss sq ce lw wo he sk na kp gb go fa ga vo : Nat) (pb : Nat) (jg : Nat) (td : Nat) (tx : Nat) (ru : Nat) (him : Int32) (s19 : Int32) (s20 : Int32) (s21 : Int32) (s22 : Int32) (s25 : Int32) (s26 : Int32) (s27 : Int32) (s31 : Int32) (s32 : Int32) (s33 : Int32) (s34 : Int32) (s39 : Int32) (s40 : Int32) (fst : Nat → Int32) (fro : Nat → Int32) (fmo : Nat → Int32) (fkd : Nat → Int32) (fcd : Nat → Int32) (fsr : Nat → Nat) (fsk : Nat → Int32) (fna : Nat → Int32) (fkp : Nat → Int32) (v0 : Int32) (v1 : Int32) (v2 : Int32) (v3 : Int32) (v4 : Int32) (A : Nat → Prop) : Array Value → State → Outcome → State → Prop := va_Qi (fun (r : Int32) (u : Int32 × Int32 × Int32 × Int32 × (Nat → Int32) × (Nat → Int32) × (Nat → Int32)) => match u with | (z31, z32, z33, z34, ysk, yna, ykp) => r = m_X6_drawn pb jg ru s33 fst fro fmo fkd fcd fsr v0 v1 v2 v3 v4) (fun (u : Int32 × Int32 × Int32 × Int32 × (Nat → Int32) × (Nat → Int32) × (Nat → Int32)) t => match u with | (z31, z32, z33, z34, ysk, yna, ykp) => va_P G.1 vwCl [zo6 h0 (nI pb) kd mo st (nI jg) ro tp (nI td) cd sr (nI tx) (nI ru) him ir ih ss sq ce lw s19 s20 s21 s22 wo he s25 s26 s27 sk na kp z31 z32 z33 z34 gb go fa ga s39 s40 vo, zi G st 12 fst, zi G ro 12 fro, zi G mo 6 fmo, zi G kd 6 fkd, zi G cd 1200 fcd, zi G sr 24 (nF fsr), zi G sk 200 ysk, zi G na 6 yna, zi G kp 24 ykp] t.heap ∧ gK G t ∧ va_D A [zo6 h0 (nI pb) kd mo st (nI jg) ro tp (nI td) cd sr (nI tx) (nI ru) him ir ih ss sq ce lw s19 s20 s21 s22 wo he s25 s26 s27 sk na kp z31 z32 z33 z34 gb go fa ga s39 s40 vo, zi G st 12 fst, zi G ro 12 fro, zi G mo 6 fmo, zi G kd 6 fkd, zi G cd 1200 fcd, zi G sr 24 (nF fsr), zi G sk 200 ysk, zi G na 6 yna, zi G kp 24 ykp]) A
set_option maxHeartbeats 4000000 in
set_option maxRecDepth 100000 in
theorem c_X6_drawn (l : Launch) (G : gG) (h0 kd mo st ro tp cd sr ir ih ss sq ce lw wo he sk na kp gb go fa ga vo : Nat) (pb : Nat) (jg : Nat) (td : Nat) (tx : Nat) (ru : Nat) (him : Int32) (s19 : Int32) (s20 : Int32) (s21 : Int32) (s22 : Int32) (s25 : Int32) (s26 : Int32) (s27 : Int32) (s31 : Int32) (s32 : Int32) (s33 : Int32) (s34 : Int32) (s39 : Int32) (s40 : Int32) (fst : Nat → Int32) (fro : Nat → Int32) (fmo : Nat → Int32) (fkd : Nat → Int32) (fcd : Nat → Int32) (fsr : Nat → Nat) (fsk : Nat → Int32) (fna : Nat → Int32) (fkp : Nat → Int32) (v0 : Int32) (v1 : Int32) (v2 : Int32) (v3 : Int32) (v4 : Int32) (sz : Nat) (hwa : ∀ t9, t9 < tx → mWf fcd fsr t9) (hpb : pb ≤ 6) (hjg : jg ≤ 4) (htx : tx ≤ 6) (hru : ru < tx) : Met l yX6_drawn wsX6_drawn ({ frames := 6, cells := 0, slots := 0, locals := 147 }) (gPre G [.ref h0, .int v0, .int v1, .int v2, .int v3, .int v4] [zo6 h0 (nI pb) kd mo st (nI jg) ro tp (nI td) cd sr (nI tx) (nI ru) him ir ih ss sq ce lw s19 s20 s21 s22 wo he s25 s26 s27 sk na kp s31 s32 s33 s34 gb go fa ga s39 s40 vo, zi G st 12 fst, zi G ro 12 fro, zi G mo 6 fmo, zi G kd 6 fkd, zi G cd 1200 fcd, zi G sr 24 (nF fsr), zi G sk 200 fsk, zi G na 6 fna, zi G kp 24 fkp] sz) (q_X6_drawn G h0 kd mo st ro tp cd sr ir ih ss sq ce lw wo he sk na kp gb go fa ga vo pb jg td tx ru him s19 s20 s21 s22 s25 s26 s27 s31 s32 s33 s34 s39 s40 fst fro fmo fkd fcd fsr fsk fna fkp v0 v1 v2 v3 v4 (va_A [zo6 h0 (nI pb) kd mo st (nI jg) ro tp (nI td) cd sr (nI tx) (nI ru) him ir ih ss sq ce lw s19 s20 s21 s22 wo he s25 s26 s27 sk na kp s31 s32 s33 s34 gb go fa ga s39 s40 vo, zi G st 12 fst, zi G ro 12 fro, zi G mo 6 fmo, zi G kd 6 fkd, zi G cd 1200 fcd, zi G sr 24 (nF fsr), zi G sk 200 fsk, zi G na 6 fna, zi G kp 24 fkp] sz)) 0 0 (va_A [zo6 h0 (nI pb) kd mo st (nI jg) ro tp (nI td) cd sr (nI tx) (nI ru) him ir ih ss sq ce lw s19 s20 s21 s22 wo he s25 s26 s27 sk na kp s31 s32 s33 s34 gb go fa ga s39 s40 vo, zi G st 12 fst, zi G ro 12 fro, zi G mo 6 fmo, zi G kd 6 fkd, zi G cd 1200 fcd, zi G sr 24 (nF fsr), zi G sk 200 fsk, zi G na 6 fna, zi G kp 24 fkp] sz) := by
  refine Met.ofW (cc := cX6_drawn) (maxL := 6) (ret := (some .int)) (by decide +kernel) rfl ?_
  intro p e s m args below meth c s₁ B hml hv
  obtain ⟨rfl, hsz, hP, hK, hD0⟩ := hv
  have hx := B.exec
  have hb := B.bytes
  have hr := B.returns
  have hts := atoms_spec (ws := wsX6_drawn) B.pre
  have hown : s.vm.findClass RX6 = some m.cls := findClass_of_methodNamed B.named
  have hlocks := B.notSynchronized
  subst hsz
  have hD := hD0.self (sz := s.heap.size)
  generalize hAe : va_A [zo6 h0 (nI pb) kd mo st (nI jg) ro tp (nI td) cd sr (nI tx) (nI ru) him ir ih ss sq ce lw s19 s20 s21 s22 wo he s25 s26 s27 sk na kp s31 s32 s33 s34 gb go fa ga s39 s40 vo, zi G st 12 fst, zi G ro 12 fro, zi G mo 6 fmo, zi G kd 6 fkd, zi G cd 1200 fcd, zi G sr 24 (nF fsr), zi G sk 200 fsk, zi G na 6 fna, zi G kp 24 fkp] s.heap.size = A at hD ⊢
  have hA : ∀ q : Nat, s.heap.size ≤ q → A q := fun q h => by rw [← hAe]; exact Or.inr h
  have hS : va_S A s.heap s.heap [] := va_S.rf
  have hz9 : gPD G A [zo6 h0 (nI pb) kd mo st (nI jg) ro tp (nI td) cd sr (nI tx) (nI ru) him ir ih ss sq ce lw s19 s20 s21 s22 wo he s25 s26 s27 sk na kp s31 s32 s33 s34 gb go fa ga s39 s40 vo, zi G st 12 fst, zi G ro 12 fro, zi G mo 6 fmo, zi G kd 6 fkd, zi G cd 1200 fcd, zi G sr 24 (nF fsr), zi G sk 200 fsk, zi G na 6 fna, zi G kp 24 fkp] s.heap := ⟨hP, hD⟩
  have hP := hz9.1
  have hD := hz9.2
  have hl := lv_entry ([.ref h0, .int v0, .int v1, .int v2, .int v3, .int v4]) (n := 6) (Nat.le_of_ble_eq_true rfl)
  rw [lg_entry_eq]
  generalize (lg_sl ([.ref h0, .int v0, .int v1, .int v2, .int v3, .int v4]) ++ List.replicate (6 - (lg_sl ([.ref h0, .int v0, .int v1, .int v2, .int v3, .int v4])).length) Slot.unset).toArray = ls at hl ⊢
  have hl : lv_has ls 6 [zR 0 h0, zI 1 v0, zI 2 v1, zI 3 v2, zI 4 v3, zI 5 v4] := hl
  refine lv_aload_n hx hb dX6_drawn_0 rfl (lv_at hl 0 rfl) ?_
  refine lv_iload_n hx hb dX6_drawn_1 rfl (lv_at hl 2 rfl) ?_
  refine z_calli [0] (v := bz (mHas jg v1)) (fun _ _ h => h) (va_runV (As := [.int v1]) (rest := []) ⟨hx, hb, hml, hown, hts⟩ (c_X6_isJudge l G h0 kd mo st ro tp cd sr ir ih ss sq ce lw wo he sk na kp gb go fa ga vo pb jg td tx ru him s19 s20 s21 s22 s25 s26 s27 s31 s32 s33 s34 s39 s40 v1 s.heap.size (by first | exact hpb | assumption | omega) (by first | exact hjg | assumption | omega) (by first | exact htx | assumption | omega) (by first | exact hru | assumption | omega)) (cwV 1 hts gX6_drawn_X6_isJudge rfl rfl rfl (by decide +kernel) ⟨Nat.le_of_ble_eq_true rfl, Nat.le_of_ble_eq_true rfl⟩) ⟨gPre_blind, va_recv (q := (RX6, TX6, 42)) hK hP (ci := 6) (q0 := 0) rfl rfl, fun U hU hW => gPre_ofF [0] hU hW hK hP hD (by decide +kernel) rfl⟩ rfl rfl hl.1 rfl (lv_room (Nat.le_of_ble_eq_true rfl)) dX6_drawn_2 ⟨Nat.le_of_ble_eq_true rfl, Nat.le_of_ble_eq_true rfl⟩) hS hD hA rfl (fun u t H locs ht hvm hB hz1 hk1 hFq hAq hS => ?_)
  obtain ⟨hP1, hK1, hD1⟩ := hB
  have hP := zKeep hP hD [0] hAq hk1 ht hP1 rfl
  refine lv_if_eq (tgt := 16) hx hb dX6_drawn_5 (by decide +kernel) (fun c_3 => ?_) (fun c_3 => ?_)
  · skip
    have n_5 : (mHas jg v1) = false := bz_eq rfl c_3
    have n_5N : ¬ ((mHas jg v1) = true) := by rw [n_5]; decide
    refine lv_bipush (v := -5) hx hb dX6_drawn_16 (by decide +kernel) ?_
    have hpost : (fun (r : Int32) (u : Int32 × Int32 × Int32 × Int32 × (Nat → Int32) × (Nat → Int32) × (Nat → Int32)) => match u with | (z31, z32, z33, z34, ysk, yna, ykp) => r = m_X6_drawn pb jg ru s33 fst fro fmo fkd fcd fsr v0 v1 v2 v3 v4) (-5) (s31, s32, s33, s34, fsk, fna, fkp) := (show m_X6_drawn pb jg ru s33 fst fro fmo fkd fcd fsr v0 v1 v2 v3 v4 = (-5) from by unfold m_X6_drawn; rw [if_neg n_5N]).symm
    exact W.iret (v := (-5)) hx hb hr (fun t ht hW => ⟨⟨(-5), (s31, s32, s33, s34, fsk, fna, fkp), rfl, hpost, by rw [ht]; exact hP, va_K.moved hW.alike hK, hD⟩, hS.F ht⟩) hS.2.2 dX6_drawn_18
  · skip
    have p_4 : (mHas jg v1) = true := bz_ne rfl c_3
    have hv_6 : v1 = nI (nC v1) := mHas_eq p_4
    have hk_7 : nC v1 < jg := mHas_lt (by omega) p_4
    refine lv_aload_n hx hb dX6_drawn_8 rfl (lv_at hl 0 rfl) ?_
    refine lv_iload_n hx hb dX6_drawn_9 rfl (lv_at hl 3 rfl) ?_
    refine z_calli [0] (v := bz (mHas pb v2)) (fun _ _ h => h) (va_runV (As := [.int v2]) (rest := []) ⟨hx, hb, hml, hown, hts⟩ (c_X6_isPebble l G h0 kd mo st ro tp cd sr ir ih ss sq ce lw wo he sk na kp gb go fa ga vo pb jg td tx ru him s19 s20 s21 s22 s25 s26 s27 s31 s32 s33 s34 s39 s40 v2 H.size (by first | exact hpb | assumption | omega) (by first | exact hjg | assumption | omega) (by first | exact htx | assumption | omega) (by first | exact hru | assumption | omega)) (cwV 1 hts gX6_drawn_X6_isPebble rfl rfl rfl (by decide +kernel) ⟨Nat.le_of_ble_eq_true rfl, Nat.le_of_ble_eq_true rfl⟩) ⟨gPre_blind, va_recv (q := (RX6, TX6, 42)) hK hP (ci := 6) (q0 := 0) rfl rfl, fun U hU hW => gPre_ofF [0] hU hW hK hP hD (by decide +kernel) rfl⟩ rfl rfl hl.1 rfl (lv_room (Nat.le_of_ble_eq_true rfl)) dX6_drawn_10 ⟨Nat.le_of_ble_eq_true rfl, Nat.le_of_ble_eq_true rfl⟩) hS hD hA rfl (fun u t H locs ht hvm hB hz1 hk1 hFq hAq hS => ?_)
    obtain ⟨hP1, hK1, hD1⟩ := hB
    have hP := zKeep hP hD [0] hAq hk1 ht hP1 rfl
    refine lv_if_ne (tgt := 19) hx hb dX6_drawn_13 (by decide +kernel) (fun c_10 => ?_) (fun c_10 => ?_)
    · skip
      have p_11 : (mHas pb v2) = true := bz_ne rfl c_10
      have hv_13 : v2 = nI (nC v2) := mHas_eq p_11
      have hk_14 : nC v2 < pb := mHas_lt (by omega) p_11
      refine lv_iload_n hx hb dX6_drawn_19 rfl (lv_at hl 1 rfl) ?_
      refine lv_iconst (v := 0) hx hb dX6_drawn_20 (by decide +kernel) ?_
      refine lv_ldc hx hb hown (hts (.constant RX6 192 (99999)) (by decide +kernel)) dX6_drawn_21 ?_
      refine z_calli [] (v := bz (decide (0 ≤ v0 ∧ v0 ≤ 99999))) (fun _ _ h => h) (va_runS (As := [.int v0, .int 0, .int 99999]) (rest := []) ⟨hx, hb, hml, hown, hts⟩ (c_X6_in l G v0 0 99999 H.size) (va_cwS 3 hts gX6_drawn_X6_in rfl rfl rfl (by decide +kernel) ⟨Nat.le_of_ble_eq_true rfl, Nat.le_of_ble_eq_true rfl⟩) ⟨gPre_blind, fun U hU hW => gPre_ofF [] hU hW hK hP hD (by decide +kernel) rfl⟩ rfl rfl hl.1 rfl (lv_room (Nat.le_of_ble_eq_true rfl)) dX6_drawn_23 ⟨Nat.le_of_ble_eq_true rfl, Nat.le_of_ble_eq_true rfl⟩) hS hD hA rfl (fun u t H locs ht hvm hB hz1 hk1 hFq hAq hS => ?_)
      obtain ⟨hP1, hK1, hD1⟩ := hB
      have hP := zKeep hP hD [] hAq hk1 ht hP1 rfl
      refine lv_if_eq (tgt := 47) hx hb dX6_drawn_26 (by decide +kernel) (fun c_17 => ?_) (fun c_17 => ?_)
      · skip
        have n_19 : ¬ (0 ≤ v0 ∧ v0 ≤ 99999) := of_decide_eq_false (bz_eq rfl c_17)
        refine lv_bipush (v := -7) hx hb dX6_drawn_47 (by decide +kernel) ?_
        have hpost : (fun (r : Int32) (u : Int32 × Int32 × Int32 × Int32 × (Nat → Int32) × (Nat → Int32) × (Nat → Int32)) => match u with | (z31, z32, z33, z34, ysk, yna, ykp) => r = m_X6_drawn pb jg ru s33 fst fro fmo fkd fcd fsr v0 v1 v2 v3 v4) (-7) (s31, s32, s33, s34, fsk, fna, fkp) := (show m_X6_drawn pb jg ru s33 fst fro fmo fkd fcd fsr v0 v1 v2 v3 v4 = (-7) from by unfold m_X6_drawn; rw [if_pos p_4, if_pos p_11, if_neg n_19]).symm
        exact W.iret (v := (-7)) hx hb hr (fun t ht hW => ⟨⟨(-7), (s31, s32, s33, s34, fsk, fna, fkp), rfl, hpost, by rw [ht]; exact hP, va_K.moved hW.alike hK, hD⟩, hS.F ht⟩) hS.2.2 dX6_drawn_49
      · skip
        have p_18 : 0 ≤ v0 ∧ v0 ≤ 99999 := of_decide_eq_true (bz_ne rfl c_17)
        have hv_20 : v0 = nI (nC v0) := nC_eq p_18.1
        have hk_21 : nC v0 ≤ 99999 := nC_le (n := 99999) (by omega) p_18
        refine lv_iload hx hb dX6_drawn_29 (lv_at hl 4 rfl) ?_
        refine z_calli [] (v := bz (mMil v3)) (fun _ _ h => h) (va_runS (As := [.int v3]) (rest := []) ⟨hx, hb, hml, hown, hts⟩ (c_X6_areMiles l G v3 H.size) (va_cwS 1 hts gX6_drawn_X6_areMiles rfl rfl rfl (by decide +kernel) ⟨Nat.le_of_ble_eq_true rfl, Nat.le_of_ble_eq_true rfl⟩) ⟨gPre_blind, fun U hU hW => gPre_ofF [] hU hW hK hP hD (by decide +kernel) rfl⟩ rfl rfl hl.1 rfl (lv_room (Nat.le_of_ble_eq_true rfl)) dX6_drawn_31 ⟨Nat.le_of_ble_eq_true rfl, Nat.le_of_ble_eq_true rfl⟩) hS hD hA rfl (fun u t H locs ht hvm hB hz1 hk1 hFq hAq hS => ?_)
        obtain ⟨hP1, hK1, hD1⟩ := hB
        have hP := zKeep hP hD [] hAq hk1 ht hP1 rfl
        refine lv_if_eq (tgt := 47) hx hb dX6_drawn_34 (by decide +kernel) (fun c_24 => ?_) (fun c_24 => ?_)
        · skip
          have n_26 : (mMil v3) = false := bz_eq rfl c_24
          have n_26N : ¬ ((mMil v3) = true) := by rw [n_26]; decide
          refine lv_bipush (v := -7) hx hb dX6_drawn_47 (by decide +kernel) ?_
          have hpost : (fun (r : Int32) (u : Int32 × Int32 × Int32 × Int32 × (Nat → Int32) × (Nat → Int32) × (Nat → Int32)) => match u with | (z31, z32, z33, z34, ysk, yna, ykp) => r = m_X6_drawn pb jg ru s33 fst fro fmo fkd fcd fsr v0 v1 v2 v3 v4) (-7) (s31, s32, s33, s34, fsk, fna, fkp) := (show m_X6_drawn pb jg ru s33 fst fro fmo fkd fcd fsr v0 v1 v2 v3 v4 = (-7) from by unfold m_X6_drawn; rw [if_pos p_4, if_pos p_11, if_pos p_18, if_neg n_26N]).symm
          exact W.iret (v := (-7)) hx hb hr (fun t ht hW => ⟨⟨(-7), (s31, s32, s33, s34, fsk, fna, fkp), rfl, hpost, by rw [ht]; exact hP, va_K.moved hW.alike hK, hD⟩, hS.F ht⟩) hS.2.2 dX6_drawn_49
        · skip
          have p_25 : (mMil v3) = true := bz_ne rfl c_24
          have hv_27 : v3 = nI (nC v3) := mMil_eq p_25
          have hk_28 : nC v3 ≤ 960 := mMil_le p_25
          have hk_29 : nC v3 % 100 ≤ 60 := mMil_rem p_25
          refine lv_iload hx hb dX6_drawn_37 (lv_at hl 5 rfl) ?_
          refine lv_iconst (v := 0) hx hb dX6_drawn_39 (by decide +kernel) ?_
          refine lv_iconst (v := 2) hx hb dX6_drawn_40 (by decide +kernel) ?_
          refine z_calli [] (v := bz (decide (0 ≤ v4 ∧ v4 ≤ 2))) (fun _ _ h => h) (va_runS (As := [.int v4, .int 0, .int 2]) (rest := []) ⟨hx, hb, hml, hown, hts⟩ (c_X6_in l G v4 0 2 H.size) (va_cwS 3 hts gX6_drawn_X6_in rfl rfl rfl (by decide +kernel) ⟨Nat.le_of_ble_eq_true rfl, Nat.le_of_ble_eq_true rfl⟩) ⟨gPre_blind, fun U hU hW => gPre_ofF [] hU hW hK hP hD (by decide +kernel) rfl⟩ rfl rfl hl.1 rfl (lv_room (Nat.le_of_ble_eq_true rfl)) dX6_drawn_41 ⟨Nat.le_of_ble_eq_true rfl, Nat.le_of_ble_eq_true rfl⟩) hS hD hA rfl (fun u t H locs ht hvm hB hz1 hk1 hFq hAq hS => ?_)
          obtain ⟨hP1, hK1, hD1⟩ := hB
          have hP := zKeep hP hD [] hAq hk1 ht hP1 rfl
          refine lv_if_ne (tgt := 50) hx hb dX6_drawn_44 (by decide +kernel) (fun c_32 => ?_) (fun c_32 => ?_)
          · skip
            have p_33 : 0 ≤ v4 ∧ v4 ≤ 2 := of_decide_eq_true (bz_ne rfl c_32)
            have hv_35 : v4 = nI (nC v4) := nC_eq p_33.1
            have hk_36 : nC v4 ≤ 2 := nC_le (n := 2) (by omega) p_33
            refine lv_aload_n hx hb dX6_drawn_50 rfl (lv_at hl 0 rfl) ?_
            refine lv_iload_n hx hb dX6_drawn_51 rfl (lv_at hl 1 rfl) ?_
            refine g_topi (y := nI (nC v0)) hv_20 ?_
            refine lv_iload_n hx hb dX6_drawn_52 rfl (lv_at hl 2 rfl) ?_
            refine g_topi (y := nI (nC v1)) hv_6 ?_
            refine lv_iload_n hx hb dX6_drawn_53 rfl (lv_at hl 3 rfl) ?_
            refine g_topi (y := nI (nC v2)) hv_13 ?_
            refine lv_iload hx hb dX6_drawn_54 (lv_at hl 4 rfl) ?_
            refine g_topi (y := nI (nC v3)) hv_27 ?_
            refine z_callv [0, 1, 2, 3, 4, 5, 6, 7, 8, 9] (va_runV (As := [.int (nI (nC v0)), .int (nI (nC v1)), .int (nI (nC v2)), .int (nI (nC v3))]) (rest := []) ⟨hx, hb, hml, hown, hts⟩ (c_X6_caseBy l G h0 kd mo st ro tp cd sr ir ih ss sq ce lw wo he sk na kp gb go fa ga vo pb jg td tx ru him s19 s20 s21 s22 s25 s26 s27 s31 s32 s33 s34 s39 s40 fst fro fmo fkd fcd fsr fsk fna fkp (nI (nC v0)) (nC v1) (nC v2) (nC v3) H.size (by first | exact hj | assumption | omega) (by first | exact hp | assumption | omega) (by omega) (by omega) (hwa _ (by omega)) (by first | exact hpb | assumption | omega) (by first | exact hjg | assumption | omega) (by first | exact htx | assumption | omega) (by first | exact hru | assumption | omega)) (cwV 4 hts gX6_drawn_X6_caseBy rfl rfl rfl (by decide +kernel) ⟨Nat.le_of_ble_eq_true rfl, Nat.le_of_ble_eq_true rfl⟩) ⟨gPre_blind, va_recv (q := (RX6, TX6, 42)) hK hP (ci := 6) (q0 := 0) rfl rfl, fun U hU hW => gPre_of hU hW hK hP hD⟩ rfl rfl hl.1 rfl (lv_room (Nat.le_of_ble_eq_true rfl)) dX6_drawn_56 ⟨Nat.le_of_ble_eq_true rfl, Nat.le_of_ble_eq_true rfl⟩) hS hD hA rfl (fun u t H locs ht hvm w_42 hB hz1 hk1 hFq hAq hS => ?_)
            obtain ⟨ysk_43, yna_44, ykp_45⟩ := u
            obtain ⟨hP1, hK1, hD1⟩ := hB
            have hz9 : gPD G A [zo6 h0 (nI pb) kd mo st (nI jg) ro tp (nI td) cd sr (nI tx) (nI ru) him ir ih ss sq ce lw s19 s20 s21 s22 wo he s25 s26 s27 sk na kp (m_X6_caseBy_h031 ru fst fro fmo fkd fcd fsr (nI (nC v0)) (nC v1) (nC v2) (nC v3)) (m_X6_caseBy_h032 ru fst fro fmo fkd fcd fsr (nI (nC v0)) (nC v1) (nC v2) (nC v3)) s33 (m_X6_caseBy_h034 ru fst fro fmo fkd fcd fsr (nI (nC v0)) (nC v1) (nC v2) (nC v3)) gb go fa ga s39 s40 vo, zi G st 12 fst, zi G ro 12 fro, zi G mo 6 fmo, zi G kd 6 fkd, zi G cd 1200 fcd, zi G sr 24 (nF fsr), zi G sk 200 ysk_43, zi G na 6 yna_44, zi G kp 24 ykp_45] H := zFill hP hD [0, 1, 2, 3, 4, 5, 6, 7, 8, 9] [1, 2, 3, 4, 5, 6, 7, 8, 9, 10] hAq hk1 hFq ht hP1 hD1 rfl (by decide +kernel)
            have hP := hz9.1
            have hD := hz9.2
            refine lv_aload_n hx hb dX6_drawn_59 rfl (lv_at hl 0 rfl) ?_
            refine lv_iload hx hb dX6_drawn_60 (lv_at hl 5 rfl) ?_
            refine g_topi (y := nI (nC v4)) hv_35 ?_
            refine z_calli [0] (v := m_X6_toldCase (m_X6_caseBy_h031 ru fst fro fmo fkd fcd fsr (nI (nC v0)) (nC v1) (nC v2) (nC v3)) (m_X6_caseBy_h032 ru fst fro fmo fkd fcd fsr (nI (nC v0)) (nC v1) (nC v2) (nC v3)) s33 (m_X6_caseBy_h034 ru fst fro fmo fkd fcd fsr (nI (nC v0)) (nC v1) (nC v2) (nC v3)) (nI (nC v4))) (fun _ _ h => h) (va_runV (As := [.int (nI (nC v4))]) (rest := []) ⟨hx, hb, hml, hown, hts⟩ (c_X6_toldCase l G h0 kd mo st ro tp cd sr ir ih ss sq ce lw wo he sk na kp gb go fa ga vo pb jg td tx ru him s19 s20 s21 s22 s25 s26 s27 (m_X6_caseBy_h031 ru fst fro fmo fkd fcd fsr (nI (nC v0)) (nC v1) (nC v2) (nC v3)) (m_X6_caseBy_h032 ru fst fro fmo fkd fcd fsr (nI (nC v0)) (nC v1) (nC v2) (nC v3)) s33 (m_X6_caseBy_h034 ru fst fro fmo fkd fcd fsr (nI (nC v0)) (nC v1) (nC v2) (nC v3)) s39 s40 (nI (nC v4)) H.size (by first | exact hpb | assumption | omega) (by first | exact hjg | assumption | omega) (by first | exact htx | assumption | omega) (by first | exact hru | assumption | omega)) (cwV 1 hts gX6_drawn_X6_toldCase rfl rfl rfl (by decide +kernel) ⟨Nat.le_of_ble_eq_true rfl, Nat.le_of_ble_eq_true rfl⟩) ⟨gPre_blind, va_recv (q := (RX6, TX6, 42)) hK hP (ci := 6) (q0 := 0) rfl rfl, fun U hU hW => gPre_ofF [0] hU hW hK hP hD (by decide +kernel) rfl⟩ rfl rfl hl.1 rfl (lv_room (Nat.le_of_ble_eq_true rfl)) dX6_drawn_62 ⟨Nat.le_of_ble_eq_true rfl, Nat.le_of_ble_eq_true rfl⟩) hS hD hA rfl (fun u t H locs ht hvm hB hz1 hk1 hFq hAq hS => ?_)
            obtain ⟨hP1, hK1, hD1⟩ := hB
            have hP := zKeep hP hD [0] hAq hk1 ht hP1 rfl
            have hpost : (fun (r : Int32) (u : Int32 × Int32 × Int32 × Int32 × (Nat → Int32) × (Nat → Int32) × (Nat → Int32)) => match u with | (z31, z32, z33, z34, ysk, yna, ykp) => r = m_X6_drawn pb jg ru s33 fst fro fmo fkd fcd fsr v0 v1 v2 v3 v4) (m_X6_toldCase (m_X6_caseBy_h031 ru fst fro fmo fkd fcd fsr (nI (nC v0)) (nC v1) (nC v2) (nC v3)) (m_X6_caseBy_h032 ru fst fro fmo fkd fcd fsr (nI (nC v0)) (nC v1) (nC v2) (nC v3)) s33 (m_X6_caseBy_h034 ru fst fro fmo fkd fcd fsr (nI (nC v0)) (nC v1) (nC v2) (nC v3)) (nI (nC v4))) ((m_X6_caseBy_h031 ru fst fro fmo fkd fcd fsr (nI (nC v0)) (nC v1) (nC v2) (nC v3)), (m_X6_caseBy_h032 ru fst fro fmo fkd fcd fsr (nI (nC v0)) (nC v1) (nC v2) (nC v3)), s33, (m_X6_caseBy_h034 ru fst fro fmo fkd fcd fsr (nI (nC v0)) (nC v1) (nC v2) (nC v3)), ysk_43, yna_44, ykp_45) := (show m_X6_drawn pb jg ru s33 fst fro fmo fkd fcd fsr v0 v1 v2 v3 v4 = (m_X6_toldCase (m_X6_caseBy_h031 ru fst fro fmo fkd fcd fsr (nI (nC v0)) (nC v1) (nC v2) (nC v3)) (m_X6_caseBy_h032 ru fst fro fmo fkd fcd fsr (nI (nC v0)) (nC v1) (nC v2) (nC v3)) s33 (m_X6_caseBy_h034 ru fst fro fmo fkd fcd fsr (nI (nC v0)) (nC v1) (nC v2) (nC v3)) (nI (nC v4))) from by unfold m_X6_drawn; rw [if_pos p_4, if_pos p_11, if_pos p_18, if_pos p_25, if_pos p_33]).symm
            exact W.iret (v := (m_X6_toldCase (m_X6_caseBy_h031 ru fst fro fmo fkd fcd fsr (nI (nC v0)) (nC v1) (nC v2) (nC v3)) (m_X6_caseBy_h032 ru fst fro fmo fkd fcd fsr (nI (nC v0)) (nC v1) (nC v2) (nC v3)) s33 (m_X6_caseBy_h034 ru fst fro fmo fkd fcd fsr (nI (nC v0)) (nC v1) (nC v2) (nC v3)) (nI (nC v4)))) hx hb hr (fun t ht hW => ⟨⟨(m_X6_toldCase (m_X6_caseBy_h031 ru fst fro fmo fkd fcd fsr (nI (nC v0)) (nC v1) (nC v2) (nC v3)) (m_X6_caseBy_h032 ru fst fro fmo fkd fcd fsr (nI (nC v0)) (nC v1) (nC v2) (nC v3)) s33 (m_X6_caseBy_h034 ru fst fro fmo fkd fcd fsr (nI (nC v0)) (nC v1) (nC v2) (nC v3)) (nI (nC v4))), ((m_X6_caseBy_h031 ru fst fro fmo fkd fcd fsr (nI (nC v0)) (nC v1) (nC v2) (nC v3)), (m_X6_caseBy_h032 ru fst fro fmo fkd fcd fsr (nI (nC v0)) (nC v1) (nC v2) (nC v3)), s33, (m_X6_caseBy_h034 ru fst fro fmo fkd fcd fsr (nI (nC v0)) (nC v1) (nC v2) (nC v3)), ysk_43, yna_44, ykp_45), rfl, hpost, by rw [ht]; exact hP, va_K.moved hW.alike hK, hD⟩, hS.F ht⟩) hS.2.2 dX6_drawn_65
          · skip
            have n_34 : ¬ (0 ≤ v4 ∧ v4 ≤ 2) := of_decide_eq_false (bz_eq rfl c_32)
            refine lv_bipush (v := -7) hx hb dX6_drawn_47 (by decide +kernel) ?_
            have hpost : (fun (r : Int32) (u : Int32 × Int32 × Int32 × Int32 × (Nat → Int32) × (Nat → Int32) × (Nat → Int32)) => match u with | (z31, z32, z33, z34, ysk, yna, ykp) => r = m_X6_drawn pb jg ru s33 fst fro fmo fkd fcd fsr v0 v1 v2 v3 v4) (-7) (s31, s32, s33, s34, fsk, fna, fkp) := (show m_X6_drawn pb jg ru s33 fst fro fmo fkd fcd fsr v0 v1 v2 v3 v4 = (-7) from by unfold m_X6_drawn; rw [if_pos p_4, if_pos p_11, if_pos p_18, if_pos p_25, if_neg n_34]).symm
            exact W.iret (v := (-7)) hx hb hr (fun t ht hW => ⟨⟨(-7), (s31, s32, s33, s34, fsk, fna, fkp), rfl, hpost, by rw [ht]; exact hP, va_K.moved hW.alike hK, hD⟩, hS.F ht⟩) hS.2.2 dX6_drawn_49
    · skip
      have n_12 : (mHas pb v2) = false := bz_eq rfl c_10
      have n_12N : ¬ ((mHas pb v2) = true) := by rw [n_12]; decide
      refine lv_bipush (v := -5) hx hb dX6_drawn_16 (by decide +kernel) ?_
      have hpost : (fun (r : Int32) (u : Int32 × Int32 × Int32 × Int32 × (Nat → Int32) × (Nat → Int32) × (Nat → Int32)) => match u with | (z31, z32, z33, z34, ysk, yna, ykp) => r = m_X6_drawn pb jg ru s33 fst fro fmo fkd fcd fsr v0 v1 v2 v3 v4) (-5) (s31, s32, s33, s34, fsk, fna, fkp) := (show m_X6_drawn pb jg ru s33 fst fro fmo fkd fcd fsr v0 v1 v2 v3 v4 = (-5) from by unfold m_X6_drawn; rw [if_pos p_4, if_neg n_12N]).symm
      exact W.iret (v := (-5)) hx hb hr (fun t ht hW => ⟨⟨(-5), (s31, s32, s33, s34, fsk, fna, fkp), rfl, hpost, by rw [ht]; exact hP, va_K.moved hW.alike hK, hD⟩, hS.F ht⟩) hS.2.2 dX6_drawn_18
abbrev q_X6_image (G : gG) (h0 kd mo st ro tp cd sr ir ih ss sq ce lw wo he sk na kp gb go fa ga vo : Nat) (pb : Nat) (jg : Nat) (td : Nat) (tx : Nat) (ru : Nat) (him : Int32) (s19 : Int32) (s20 : Int32) (s21 : Int32) (s22 : Int32) (s25 : Int32) (s26 : Int32) (s27 : Int32) (s31 : Int32) (s32 : Int32) (s33 : Int32) (s34 : Int32) (s39 : Int32) (s40 : Int32) (fro : Nat → Int32) (fst : Nat → Int32) (fir : Nat → Int32) (fih : Nat → Int32) (A : Nat → Prop) : Array Value → State → Outcome → State → Prop := va_Qi (fun (r : Int32) (u : Unit) => match u with | _ => r = nI pb) (fun (u : Unit) t => match u with | _ => va_P G.1 vwCl [zo6 h0 (nI pb) kd mo st (nI jg) ro tp (nI td) cd sr (nI tx) (nI ru) 1 ir ih ss sq ce lw s19 s20 s21 s22 wo he s25 s26 s27 sk na kp s31 s32 s33 s34 gb go fa ga s39 s40 vo, zi G ro 12 fro, zi G st 12 fst, zi G ir 24 (mKeep fro fst), zi G ih 3 (mHold (nI pb) (nI jg) (nI ru))] t.heap ∧ gK G t ∧ va_D A [zo6 h0 (nI pb) kd mo st (nI jg) ro tp (nI td) cd sr (nI tx) (nI ru) 1 ir ih ss sq ce lw s19 s20 s21 s22 wo he s25 s26 s27 sk na kp s31 s32 s33 s34 gb go fa ga s39 s40 vo, zi G ro 12 fro, zi G st 12 fst, zi G ir 24 (mKeep fro fst), zi G ih 3 (mHold (nI pb) (nI jg) (nI ru))]) A
set_option maxHeartbeats 4000000 in
set_option maxRecDepth 100000 in
theorem c_X6_image (l : Launch) (G : gG) (h0 kd mo st ro tp cd sr ir ih ss sq ce lw wo he sk na kp gb go fa ga vo : Nat) (pb : Nat) (jg : Nat) (td : Nat) (tx : Nat) (ru : Nat) (him : Int32) (s19 : Int32) (s20 : Int32) (s21 : Int32) (s22 : Int32) (s25 : Int32) (s26 : Int32) (s27 : Int32) (s31 : Int32) (s32 : Int32) (s33 : Int32) (s34 : Int32) (s39 : Int32) (s40 : Int32) (fro : Nat → Int32) (fst : Nat → Int32) (fir : Nat → Int32) (fih : Nat → Int32) (sz : Nat) (hpb : pb ≤ 6) (hjg : jg ≤ 4) (htx : tx ≤ 6) (hru : ru < tx) : Met l yX6_image wsX6_image ({ frames := 0, cells := 0, slots := 0, locals := 0 }) (gPre G [.ref h0] [zo6 h0 (nI pb) kd mo st (nI jg) ro tp (nI td) cd sr (nI tx) (nI ru) him ir ih ss sq ce lw s19 s20 s21 s22 wo he s25 s26 s27 sk na kp s31 s32 s33 s34 gb go fa ga s39 s40 vo, zi G ro 12 fro, zi G st 12 fst, zi G ir 24 fir, zi G ih 3 fih] sz) (q_X6_image G h0 kd mo st ro tp cd sr ir ih ss sq ce lw wo he sk na kp gb go fa ga vo pb jg td tx ru him s19 s20 s21 s22 s25 s26 s27 s31 s32 s33 s34 s39 s40 fro fst fir fih (va_A [zo6 h0 (nI pb) kd mo st (nI jg) ro tp (nI td) cd sr (nI tx) (nI ru) him ir ih ss sq ce lw s19 s20 s21 s22 wo he s25 s26 s27 sk na kp s31 s32 s33 s34 gb go fa ga s39 s40 vo, zi G ro 12 fro, zi G st 12 fst, zi G ir 24 fir, zi G ih 3 fih] sz)) 0 0 (va_A [zo6 h0 (nI pb) kd mo st (nI jg) ro tp (nI td) cd sr (nI tx) (nI ru) him ir ih ss sq ce lw s19 s20 s21 s22 wo he s25 s26 s27 sk na kp s31 s32 s33 s34 gb go fa ga s39 s40 vo, zi G ro 12 fro, zi G st 12 fst, zi G ir 24 fir, zi G ih 3 fih] sz) := by
  refine Met.ofW (cc := cX6_image) (maxL := 2) (ret := (some .int)) (by decide +kernel) rfl ?_
  intro p e s m args below meth c s₁ B hml hv
  obtain ⟨rfl, hsz, hP, hK, hD0⟩ := hv
  have hx := B.exec
  have hb := B.bytes
  have hr := B.returns
  have hts := atoms_spec (ws := wsX6_image) B.pre
  have hown : s.vm.findClass RX6 = some m.cls := findClass_of_methodNamed B.named
  have hlocks := B.notSynchronized
  subst hsz
  have hD := hD0.self (sz := s.heap.size)
  generalize hAe : va_A [zo6 h0 (nI pb) kd mo st (nI jg) ro tp (nI td) cd sr (nI tx) (nI ru) him ir ih ss sq ce lw s19 s20 s21 s22 wo he s25 s26 s27 sk na kp s31 s32 s33 s34 gb go fa ga s39 s40 vo, zi G ro 12 fro, zi G st 12 fst, zi G ir 24 fir, zi G ih 3 fih] s.heap.size = A at hD ⊢
  have hA : ∀ q : Nat, s.heap.size ≤ q → A q := fun q h => by rw [← hAe]; exact Or.inr h
  have hS : va_S A s.heap s.heap [] := va_S.rf
  have hz9 : gPD G A [zo6 h0 (nI pb) kd mo st (nI jg) ro tp (nI td) cd sr (nI tx) (nI ru) him ir ih ss sq ce lw s19 s20 s21 s22 wo he s25 s26 s27 sk na kp s31 s32 s33 s34 gb go fa ga s39 s40 vo, zi G ro 12 fro, zi G st 12 fst, zi G ir 24 fir, zi G ih 3 fih] s.heap := ⟨hP, hD⟩
  have hP := hz9.1
  have hD := hz9.2
  have hl := lv_entry ([.ref h0]) (n := 2) (Nat.le_of_ble_eq_true rfl)
  rw [lg_entry_eq]
  generalize (lg_sl ([.ref h0]) ++ List.replicate (2 - (lg_sl ([.ref h0])).length) Slot.unset).toArray = ls at hl ⊢
  have hl : lv_has ls 2 [zR 0 h0] := hl
  have kf274 := hts (.fieldLink RX6 274 "PebbleInShoeModel" "hasImage" "Z") (by decide +kernel)
  have hiX6 := (by decide +kernel : ∀ w ∈ wsX60, w ∈ wsX6_image)
  have kf34 := hts (.fieldLink RX6 34 "PebbleInShoeModel" "imageHeld" "[I") (by decide +kernel)
  have kf88 := hts (.fieldLink RX6 88 "PebbleInShoeModel" "pebbles" "I") (by decide +kernel)
  have kf95 := hts (.fieldLink RX6 95 "PebbleInShoeModel" "judges" "I") (by decide +kernel)
  have kf101 := hts (.fieldLink RX6 101 "PebbleInShoeModel" "rule" "I") (by decide +kernel)
  have kf31 := hts (.fieldLink RX6 31 "PebbleInShoeModel" "imageRows" "[I") (by decide +kernel)
  have kf19 := hts (.fieldLink RX6 19 "PebbleInShoeModel" "rows" "[I") (by decide +kernel)
  have kf16 := hts (.fieldLink RX6 16 "PebbleInShoeModel" "stones" "[I") (by decide +kernel)
  refine lv_aload_n hx hb dX6_image_0 rfl (lv_at hl 0 rfl) ?_
  refine lv_iconst (v := 1) hx hb dX6_image_1 (by decide +kernel) ?_
  refine va_put (D := G.1) (ci := 6) (v := .int 1) (ty := .boolean) (C := RX6) (T := TX6) (N := 42) hx hb hts hiX6 tyX6 tyX6_ok nmX6 hown hK hP hD hS 0 rfl rfl 12 (by decide +kernel) kf274 (fun _ h9 => h9) rfl (by decide +kernel) rfl rfl (Nat.le_of_ble_eq_true rfl) dX6_image_2 (fun H locs hP hD hS => ?_)
  have hz9 : gPD G A [zo6 h0 (nI pb) kd mo st (nI jg) ro tp (nI td) cd sr (nI tx) (nI ru) 1 ir ih ss sq ce lw s19 s20 s21 s22 wo he s25 s26 s27 sk na kp s31 s32 s33 s34 gb go fa ga s39 s40 vo, zi G ro 12 fro, zi G st 12 fst, zi G ir 24 fir, zi G ih 3 fih] H := ⟨hP, hD⟩
  have hP := hz9.1
  have hD := hz9.2
  refine lv_iconst (v := 0) hx hb dX6_image_5 (by decide +kernel) ?_
  refine lv_istore_n (lv' := [zI 1 0, zR 0 h0]) hx hb dX6_image_6 rfl hl (by decide +kernel) rfl (fun ls hl => ?_)
  have loop_7 : ∀ (n9 : Nat) (k6 : Nat) (xk : Nat → Int32), (k6 ≤ 12) → (∀ q, q < k6 → xk q = fro q ∧ xk (12 + q) = fst q) → (12 - k6) < n9 → ∀ (H : Heap) (locs : List Loc), va_P G.1 vwCl [zo6 h0 (nI pb) kd mo st (nI jg) ro tp (nI td) cd sr (nI tx) (nI ru) 1 ir ih ss sq ce lw s19 s20 s21 s22 wo he s25 s26 s27 sk na kp s31 s32 s33 s34 gb go fa ga s39 s40 vo, zi G ro 12 fro, zi G st 12 fst, zi G ir 24 xk, zi G ih 3 fih] H → va_D A [zo6 h0 (nI pb) kd mo st (nI jg) ro tp (nI td) cd sr (nI tx) (nI ru) 1 ir ih ss sq ce lw s19 s20 s21 s22 wo he s25 s26 s27 sk na kp s31 s32 s33 s34 gb go fa ga s39 s40 vo, zi G ro 12 fro, zi G st 12 fst, zi G ir 24 xk, zi G ih 3 fih] → va_S A s.heap H locs → ∀ ls : Array Slot, lv_has ls 2 [zI 1 (nI k6), zR 0 h0] → W p l e (headSpec wsX6_image ({ frames := 0, cells := 0, slots := 0, locals := 0 })).room s m ([.ref h0] : List Value).toArray below meth c H locs 0 0 (MQ below (q_X6_image G h0 kd mo st ro tp cd sr ir ih ss sq ce lw wo he sk na kp gb go fa ga vo pb jg td tx ru him s19 s20 s21 s22 s25 s26 s27 s31 s32 s33 s34 s39 s40 fro fst fir fih A) ([.ref h0] : List Value).toArray s 0 0 A) (F0 m 7 ls []) := by
    intro n9
    induction n9 with
    | zero => intro k6 xk hk6 hK6 hm9; exact absurd hm9 (Nat.not_lt_zero _)
    | succ n9 ih9 =>
      intro k6 xk hk6 hK6 hm9 H locs hP hD hS ls hl
      refine lv_iload_n hx hb dX6_image_7 rfl (lv_at hl 0 rfl) ?_
      refine lv_bipush (v := 12) hx hb dX6_image_8 (by decide +kernel) ?_
      refine lv_icmp_ge (tgt := 46) hx hb dX6_image_10 (by decide +kernel) (fun c_1 => ?_) (fun c_1 => ?_)
      · skip
        have c_1N : 12 ≤ k6 := nI_le1 (a := 12) (b := k6) (by omega) (by omega) c_1
        have hz9 : gPD G A [zo6 h0 (nI pb) kd mo st (nI jg) ro tp (nI td) cd sr (nI tx) (nI ru) 1 ir ih ss sq ce lw s19 s20 s21 s22 wo he s25 s26 s27 sk na kp s31 s32 s33 s34 gb go fa ga s39 s40 vo, zi G ro 12 fro, zi G st 12 fst, zi G ir 24 (mKeep fro fst), zi G ih 3 fih] H := ⟨g_ext hP 3 rfl (fun i h9 => mKeep_of (fun q z => hK6 q (by omega)) h9), g_extD hD 3 rfl⟩
        have hP := hz9.1
        have hD := hz9.2
        refine g_aget (D := G.1) (ci := 6) (v := .ref ih) (C := RX6) (T := TX6) (N := 42) hx hb dX6_image_46 rfl (lv_at hl 1 rfl) hts hiX6 hown hK hP 0 rfl rfl 14 (by decide +kernel) kf34 (fun _ h9 => h9) rfl dX6_image_47 ?_
        refine lv_iconst (v := 0) hx hb dX6_image_50 (by decide +kernel) ?_
        refine g_aget (D := G.1) (ci := 6) (v := .int (nI pb)) (C := RX6) (T := TX6) (N := 42) hx hb dX6_image_51 rfl (lv_at hl 1 rfl) hts hiX6 hown hK hP 0 rfl rfl 0 (by decide +kernel) kf88 (fun _ h9 => h9) rfl dX6_image_52 ?_
        refine va_iast (D := G.1) hx hb hK hP hD hS 4 0 rfl rfl (i := 0) (x := (nI pb)) (gIn (by decide +kernel)) dX6_image_55 (fun H locs hP hD hS => ?_)
        have hz9 : gPD G A [zo6 h0 (nI pb) kd mo st (nI jg) ro tp (nI td) cd sr (nI tx) (nI ru) 1 ir ih ss sq ce lw s19 s20 s21 s22 wo he s25 s26 s27 sk na kp s31 s32 s33 s34 gb go fa ga s39 s40 vo, zi G ro 12 fro, zi G st 12 fst, zi G ir 24 (mKeep fro fst), zi G ih 3 (upd fih 0 (nI pb))] H := ⟨hP, hD⟩
        have hP := hz9.1
        have hD := hz9.2
        refine g_aget (D := G.1) (ci := 6) (v := .ref ih) (C := RX6) (T := TX6) (N := 42) hx hb dX6_image_56 rfl (lv_at hl 1 rfl) hts hiX6 hown hK hP 0 rfl rfl 14 (by decide +kernel) kf34 (fun _ h9 => h9) rfl dX6_image_57 ?_
        refine lv_iconst (v := 1) hx hb dX6_image_60 (by decide +kernel) ?_
        refine g_aget (D := G.1) (ci := 6) (v := .int (nI jg)) (C := RX6) (T := TX6) (N := 42) hx hb dX6_image_61 rfl (lv_at hl 1 rfl) hts hiX6 hown hK hP 0 rfl rfl 4 (by decide +kernel) kf95 (fun _ h9 => h9) rfl dX6_image_62 ?_
        refine va_iast (D := G.1) hx hb hK hP hD hS 4 0 rfl rfl (i := 1) (x := (nI jg)) (gIn (by decide +kernel)) dX6_image_65 (fun H locs hP hD hS => ?_)
        have hz9 : gPD G A [zo6 h0 (nI pb) kd mo st (nI jg) ro tp (nI td) cd sr (nI tx) (nI ru) 1 ir ih ss sq ce lw s19 s20 s21 s22 wo he s25 s26 s27 sk na kp s31 s32 s33 s34 gb go fa ga s39 s40 vo, zi G ro 12 fro, zi G st 12 fst, zi G ir 24 (mKeep fro fst), zi G ih 3 (upd (upd fih 0 (nI pb)) 1 (nI jg))] H := ⟨hP, hD⟩
        have hP := hz9.1
        have hD := hz9.2
        refine g_aget (D := G.1) (ci := 6) (v := .ref ih) (C := RX6) (T := TX6) (N := 42) hx hb dX6_image_66 rfl (lv_at hl 1 rfl) hts hiX6 hown hK hP 0 rfl rfl 14 (by decide +kernel) kf34 (fun _ h9 => h9) rfl dX6_image_67 ?_
        refine lv_iconst (v := 2) hx hb dX6_image_70 (by decide +kernel) ?_
        refine g_aget (D := G.1) (ci := 6) (v := .int (nI ru)) (C := RX6) (T := TX6) (N := 42) hx hb dX6_image_71 rfl (lv_at hl 1 rfl) hts hiX6 hown hK hP 0 rfl rfl 11 (by decide +kernel) kf101 (fun _ h9 => h9) rfl dX6_image_72 ?_
        refine va_iast (D := G.1) hx hb hK hP hD hS 4 0 rfl rfl (i := 2) (x := (nI ru)) (gIn (by decide +kernel)) dX6_image_75 (fun H locs hP hD hS => ?_)
        have hz9 : gPD G A [zo6 h0 (nI pb) kd mo st (nI jg) ro tp (nI td) cd sr (nI tx) (nI ru) 1 ir ih ss sq ce lw s19 s20 s21 s22 wo he s25 s26 s27 sk na kp s31 s32 s33 s34 gb go fa ga s39 s40 vo, zi G ro 12 fro, zi G st 12 fst, zi G ir 24 (mKeep fro fst), zi G ih 3 (upd (upd (upd fih 0 (nI pb)) 1 (nI jg)) 2 (nI ru))] H := ⟨hP, hD⟩
        have hP := hz9.1
        have hD := hz9.2
        have hz9 : gPD G A [zo6 h0 (nI pb) kd mo st (nI jg) ro tp (nI td) cd sr (nI tx) (nI ru) 1 ir ih ss sq ce lw s19 s20 s21 s22 wo he s25 s26 s27 sk na kp s31 s32 s33 s34 gb go fa ga s39 s40 vo, zi G ro 12 fro, zi G st 12 fst, zi G ir 24 (mKeep fro fst), zi G ih 3 (mHold (nI pb) (nI jg) (nI ru))] H := ⟨g_ext hP 4 rfl (fun i h9 => mHold_of h9), g_extD hD 4 rfl⟩
        have hP := hz9.1
        have hD := hz9.2
        refine g_aget (D := G.1) (ci := 6) (v := .int (nI pb)) (C := RX6) (T := TX6) (N := 42) hx hb dX6_image_76 rfl (lv_at hl 1 rfl) hts hiX6 hown hK hP 0 rfl rfl 0 (by decide +kernel) kf88 (fun _ h9 => h9) rfl dX6_image_77 ?_
        have hpost : (fun (r : Int32) (u : Unit) => match u with | _ => r = nI pb) (nI pb) () := rfl
        exact W.iret (v := (nI pb)) hx hb hr (fun t ht hW => ⟨⟨(nI pb), (), rfl, hpost, by rw [ht]; exact hP, va_K.moved hW.alike hK, hD⟩, hS.F ht⟩) hS.2.2 dX6_image_80
      · skip
        have c_1N : k6 < 12 := nI_le0 (a := 12) (b := k6) (by omega) (by omega) c_1
        refine g_aget (D := G.1) (ci := 6) (v := .ref ir) (C := RX6) (T := TX6) (N := 42) hx hb dX6_image_13 rfl (lv_at hl 1 rfl) hts hiX6 hown hK hP 0 rfl rfl 13 (by decide +kernel) kf31 (fun _ h9 => h9) rfl dX6_image_14 ?_
        refine lv_iload_n hx hb dX6_image_17 rfl (lv_at hl 0 rfl) ?_
        refine g_aget (D := G.1) (ci := 6) (v := .ref ro) (C := RX6) (T := TX6) (N := 42) hx hb dX6_image_18 rfl (lv_at hl 1 rfl) hts hiX6 hown hK hP 0 rfl rfl 5 (by decide +kernel) kf19 (fun _ h9 => h9) rfl dX6_image_19 ?_
        refine lv_iload_n hx hb dX6_image_22 rfl (lv_at hl 0 rfl) ?_
        refine g_iald (D := G.1) hx hb hK hP 1 0 rfl rfl (k := k6) (y := fro k6) (by omega) rfl rfl dX6_image_23 ?_
        refine g_iast (D := G.1) hx hb hK hP hD hS 3 0 rfl rfl (k := k6) (x := (fro k6)) (by omega) rfl dX6_image_24 (fun H locs hP hD hS => ?_)
        have hz9 : gPD G A [zo6 h0 (nI pb) kd mo st (nI jg) ro tp (nI td) cd sr (nI tx) (nI ru) 1 ir ih ss sq ce lw s19 s20 s21 s22 wo he s25 s26 s27 sk na kp s31 s32 s33 s34 gb go fa ga s39 s40 vo, zi G ro 12 fro, zi G st 12 fst, zi G ir 24 (upd xk k6 (fro k6)), zi G ih 3 fih] H := ⟨hP, hD⟩
        have hP := hz9.1
        have hD := hz9.2
        refine g_aget (D := G.1) (ci := 6) (v := .ref ir) (C := RX6) (T := TX6) (N := 42) hx hb dX6_image_25 rfl (lv_at hl 1 rfl) hts hiX6 hown hK hP 0 rfl rfl 13 (by decide +kernel) kf31 (fun _ h9 => h9) rfl dX6_image_26 ?_
        refine lv_bipush (v := 12) hx hb dX6_image_29 (by decide +kernel) ?_
        refine lv_iload_n hx hb dX6_image_31 rfl (lv_at hl 0 rfl) ?_
        refine lv_iadd hx hb dX6_image_32 ?_
        refine g_topi (y := nI (12 + k6)) (nI_add 12 k6) ?_
        refine g_aget (D := G.1) (ci := 6) (v := .ref st) (C := RX6) (T := TX6) (N := 42) hx hb dX6_image_33 rfl (lv_at hl 1 rfl) hts hiX6 hown hK hP 0 rfl rfl 3 (by decide +kernel) kf16 (fun _ h9 => h9) rfl dX6_image_34 ?_
        refine lv_iload_n hx hb dX6_image_37 rfl (lv_at hl 0 rfl) ?_
        refine g_iald (D := G.1) hx hb hK hP 2 0 rfl rfl (k := k6) (y := fst k6) (by omega) rfl rfl dX6_image_38 ?_
        refine g_iast (D := G.1) hx hb hK hP hD hS 3 0 rfl rfl (k := 12 + k6) (x := (fst k6)) (by omega) rfl dX6_image_39 (fun H locs hP hD hS => ?_)
        have hz9 : gPD G A [zo6 h0 (nI pb) kd mo st (nI jg) ro tp (nI td) cd sr (nI tx) (nI ru) 1 ir ih ss sq ce lw s19 s20 s21 s22 wo he s25 s26 s27 sk na kp s31 s32 s33 s34 gb go fa ga s39 s40 vo, zi G ro 12 fro, zi G st 12 fst, zi G ir 24 (upd (upd xk k6 (fro k6)) (12 + k6) (fst k6)), zi G ih 3 fih] H := ⟨hP, hD⟩
        have hP := hz9.1
        have hD := hz9.2
        refine lv_iinc (v := nI (k6 + 1)) (lv' := [zI 1 (nI (k6 + 1)), zR 0 h0]) hx hb dX6_image_40 hl (k := 0) rfl (nI_add k6 1) (by decide +kernel) rfl (fun ls hl => ?_)
        refine lv_goto (tgt := 7) hx hb dX6_image_43 (by decide +kernel) ?_
        exact ih9 (k6 + 1) (upd (upd xk k6 (fro k6)) (12 + k6) (fst k6)) (by omega) (fun q z => mKeep_step (by omega) hK6 q z) (by omega) _ _ hP hD hS ls hl
  exact loop_7 (13) 0 fir (Nat.zero_le _) (fun q z => absurd z (Nat.not_lt_zero q)) (by omega) _ _ hP hD hS ls hl
abbrev q_X6_back_no (G : gG) (h0 kd mo st ro tp cd sr ir ih ss sq ce lw wo he sk na kp gb go fa ga vo : Nat) (pb : Nat) (jg : Nat) (td : Nat) (tx : Nat) (ru : Nat) (s19 : Int32) (s20 : Int32) (s21 : Int32) (s22 : Int32) (s25 : Int32) (s26 : Int32) (s27 : Int32) (s31 : Int32) (s32 : Int32) (s33 : Int32) (s34 : Int32) (s39 : Int32) (s40 : Int32) (A : Nat → Prop) : Array Value → State → Outcome → State → Prop := va_Qi (fun (r : Int32) (u : Unit) => match u with | _ => r = -3) (fun (u : Unit) t => match u with | _ => va_P G.1 vwCl [zo6 h0 (nI pb) kd mo st (nI jg) ro tp (nI td) cd sr (nI tx) (nI ru) 0 ir ih ss sq ce lw s19 s20 s21 s22 wo he s25 s26 s27 sk na kp s31 s32 s33 s34 gb go fa ga s39 s40 vo] t.heap ∧ gK G t ∧ va_D A [zo6 h0 (nI pb) kd mo st (nI jg) ro tp (nI td) cd sr (nI tx) (nI ru) 0 ir ih ss sq ce lw s19 s20 s21 s22 wo he s25 s26 s27 sk na kp s31 s32 s33 s34 gb go fa ga s39 s40 vo]) A
set_option maxHeartbeats 4000000 in
set_option maxRecDepth 100000 in
theorem c_X6_back_no (l : Launch) (G : gG) (h0 kd mo st ro tp cd sr ir ih ss sq ce lw wo he sk na kp gb go fa ga vo : Nat) (pb : Nat) (jg : Nat) (td : Nat) (tx : Nat) (ru : Nat) (s19 : Int32) (s20 : Int32) (s21 : Int32) (s22 : Int32) (s25 : Int32) (s26 : Int32) (s27 : Int32) (s31 : Int32) (s32 : Int32) (s33 : Int32) (s34 : Int32) (s39 : Int32) (s40 : Int32) (sz : Nat) (hpb : pb ≤ 6) (hjg : jg ≤ 4) (htx : tx ≤ 6) (hru : ru < tx) : Met l yX6_back wsX6_back ({ frames := 0, cells := 0, slots := 0, locals := 0 }) (gPre G [.ref h0] [zo6 h0 (nI pb) kd mo st (nI jg) ro tp (nI td) cd sr (nI tx) (nI ru) 0 ir ih ss sq ce lw s19 s20 s21 s22 wo he s25 s26 s27 sk na kp s31 s32 s33 s34 gb go fa ga s39 s40 vo] sz) (q_X6_back_no G h0 kd mo st ro tp cd sr ir ih ss sq ce lw wo he sk na kp gb go fa ga vo pb jg td tx ru s19 s20 s21 s22 s25 s26 s27 s31 s32 s33 s34 s39 s40 (va_A [zo6 h0 (nI pb) kd mo st (nI jg) ro tp (nI td) cd sr (nI tx) (nI ru) 0 ir ih ss sq ce lw s19 s20 s21 s22 wo he s25 s26 s27 sk na kp s31 s32 s33 s34 gb go fa ga s39 s40 vo] sz)) 0 0 (va_A [zo6 h0 (nI pb) kd mo st (nI jg) ro tp (nI td) cd sr (nI tx) (nI ru) 0 ir ih ss sq ce lw s19 s20 s21 s22 wo he s25 s26 s27 sk na kp s31 s32 s33 s34 gb go fa ga s39 s40 vo] sz) := by
  refine Met.ofW (cc := cX6_back) (maxL := 2) (ret := (some .int)) (by decide +kernel) rfl ?_
  intro p e s m args below meth c s₁ B hml hv
  obtain ⟨rfl, hsz, hP, hK, hD0⟩ := hv
  have hx := B.exec
  have hb := B.bytes
  have hr := B.returns
  have hts := atoms_spec (ws := wsX6_back) B.pre
  have hown : s.vm.findClass RX6 = some m.cls := findClass_of_methodNamed B.named
  have hlocks := B.notSynchronized
  subst hsz
  have hD := hD0.self (sz := s.heap.size)
  generalize hAe : va_A [zo6 h0 (nI pb) kd mo st (nI jg) ro tp (nI td) cd sr (nI tx) (nI ru) 0 ir ih ss sq ce lw s19 s20 s21 s22 wo he s25 s26 s27 sk na kp s31 s32 s33 s34 gb go fa ga s39 s40 vo] s.heap.size = A at hD ⊢
  have hA : ∀ q : Nat, s.heap.size ≤ q → A q := fun q h => by rw [← hAe]; exact Or.inr h
  have hS : va_S A s.heap s.heap [] := va_S.rf
  have hz9 : gPD G A [zo6 h0 (nI pb) kd mo st (nI jg) ro tp (nI td) cd sr (nI tx) (nI ru) 0 ir ih ss sq ce lw s19 s20 s21 s22 wo he s25 s26 s27 sk na kp s31 s32 s33 s34 gb go fa ga s39 s40 vo] s.heap := ⟨hP, hD⟩
  have hP := hz9.1
  have hD := hz9.2
  have hl := lv_entry ([.ref h0]) (n := 2) (Nat.le_of_ble_eq_true rfl)
  rw [lg_entry_eq]
  generalize (lg_sl ([.ref h0]) ++ List.replicate (2 - (lg_sl ([.ref h0])).length) Slot.unset).toArray = ls at hl ⊢
  have hl : lv_has ls 2 [zR 0 h0] := hl
  have kf274 := hts (.fieldLink RX6 274 "PebbleInShoeModel" "hasImage" "Z") (by decide +kernel)
  have hiX6 := (by decide +kernel : ∀ w ∈ wsX60, w ∈ wsX6_back)
  refine g_aget (D := G.1) (ci := 6) (v := .int 0) (C := RX6) (T := TX6) (N := 42) hx hb dX6_back_0 rfl (lv_at hl 0 rfl) hts hiX6 hown hK hP 0 rfl rfl 12 (by decide +kernel) kf274 (fun _ h9 => h9) rfl dX6_back_1 ?_
  refine lv_if_ne (tgt := 10) hx hb dX6_back_4 (by decide +kernel) (fun c_1 => ?_) (fun c_1 => ?_)
  · exact absurd (by decide +kernel) c_1
  refine lv_bipush (v := -3) hx hb dX6_back_7 (by decide +kernel) ?_
  have hpost : (fun (r : Int32) (u : Unit) => match u with | _ => r = -3) (-3) () := rfl
  exact W.iret (v := (-3)) hx hb hr (fun t ht hW => ⟨⟨(-3), (), rfl, hpost, by rw [ht]; exact hP, va_K.moved hW.alike hK, hD⟩, hS.F ht⟩) hS.2.2 dX6_back_9
abbrev q_X6_back_yes (G : gG) (h0 kd mo st ro tp cd sr ir ih ss sq ce lw wo he sk na kp gb go fa ga vo : Nat) (pb : Nat) (jg : Nat) (td : Nat) (tx : Nat) (ru : Nat) (s19 : Int32) (s20 : Int32) (s21 : Int32) (s22 : Int32) (s25 : Int32) (s26 : Int32) (s27 : Int32) (s31 : Int32) (s32 : Int32) (s33 : Int32) (s34 : Int32) (s39 : Int32) (s40 : Int32) (fro : Nat → Int32) (fst : Nat → Int32) (ga6 : Nat → Int32) (gb6 : Nat → Int32) (ip : Nat) (ij : Nat) (il : Nat) (A : Nat → Prop) : Array Value → State → Outcome → State → Prop := va_Qi (fun (r : Int32) (u : Unit) => match u with | _ => r = nI ip) (fun (u : Unit) t => match u with | _ => va_P G.1 vwCl [zo6 h0 (nI ip) kd mo st (nI ij) ro tp (nI td) cd sr (nI tx) (nI il) 1 ir ih ss sq ce lw s19 s20 s21 s22 wo he s25 s26 s27 sk na kp s31 s32 s33 s34 gb go fa ga s39 s40 vo, zi G ro 12 ga6, zi G st 12 gb6, zi G ir 24 (mKeep ga6 gb6), zi G ih 3 (mHold (nI ip) (nI ij) (nI il))] t.heap ∧ gK G t ∧ va_D A [zo6 h0 (nI ip) kd mo st (nI ij) ro tp (nI td) cd sr (nI tx) (nI il) 1 ir ih ss sq ce lw s19 s20 s21 s22 wo he s25 s26 s27 sk na kp s31 s32 s33 s34 gb go fa ga s39 s40 vo, zi G ro 12 ga6, zi G st 12 gb6, zi G ir 24 (mKeep ga6 gb6), zi G ih 3 (mHold (nI ip) (nI ij) (nI il))]) A
set_option maxHeartbeats 4000000 in
set_option maxRecDepth 100000 in
theorem c_X6_back_yes (l : Launch) (G : gG) (h0 kd mo st ro tp cd sr ir ih ss sq ce lw wo he sk na kp gb go fa ga vo : Nat) (pb : Nat) (jg : Nat) (td : Nat) (tx : Nat) (ru : Nat) (s19 : Int32) (s20 : Int32) (s21 : Int32) (s22 : Int32) (s25 : Int32) (s26 : Int32) (s27 : Int32) (s31 : Int32) (s32 : Int32) (s33 : Int32) (s34 : Int32) (s39 : Int32) (s40 : Int32) (fro : Nat → Int32) (fst : Nat → Int32) (ga6 : Nat → Int32) (gb6 : Nat → Int32) (ip : Nat) (ij : Nat) (il : Nat) (sz : Nat) (hpb : pb ≤ 6) (hjg : jg ≤ 4) (htx : tx ≤ 6) (hru : ru < tx) : Met l yX6_back wsX6_back ({ frames := 0, cells := 0, slots := 0, locals := 0 }) (gPre G [.ref h0] [zo6 h0 (nI pb) kd mo st (nI jg) ro tp (nI td) cd sr (nI tx) (nI ru) 1 ir ih ss sq ce lw s19 s20 s21 s22 wo he s25 s26 s27 sk na kp s31 s32 s33 s34 gb go fa ga s39 s40 vo, zi G ro 12 fro, zi G st 12 fst, zi G ir 24 (mKeep ga6 gb6), zi G ih 3 (mHold (nI ip) (nI ij) (nI il))] sz) (q_X6_back_yes G h0 kd mo st ro tp cd sr ir ih ss sq ce lw wo he sk na kp gb go fa ga vo pb jg td tx ru s19 s20 s21 s22 s25 s26 s27 s31 s32 s33 s34 s39 s40 fro fst ga6 gb6 ip ij il (va_A [zo6 h0 (nI pb) kd mo st (nI jg) ro tp (nI td) cd sr (nI tx) (nI ru) 1 ir ih ss sq ce lw s19 s20 s21 s22 wo he s25 s26 s27 sk na kp s31 s32 s33 s34 gb go fa ga s39 s40 vo, zi G ro 12 fro, zi G st 12 fst, zi G ir 24 (mKeep ga6 gb6), zi G ih 3 (mHold (nI ip) (nI ij) (nI il))] sz)) 0 0 (va_A [zo6 h0 (nI pb) kd mo st (nI jg) ro tp (nI td) cd sr (nI tx) (nI ru) 1 ir ih ss sq ce lw s19 s20 s21 s22 wo he s25 s26 s27 sk na kp s31 s32 s33 s34 gb go fa ga s39 s40 vo, zi G ro 12 fro, zi G st 12 fst, zi G ir 24 (mKeep ga6 gb6), zi G ih 3 (mHold (nI ip) (nI ij) (nI il))] sz) := by
  refine Met.ofW (cc := cX6_back) (maxL := 2) (ret := (some .int)) (by decide +kernel) rfl ?_
  intro p e s m args below meth c s₁ B hml hv
  obtain ⟨rfl, hsz, hP, hK, hD0⟩ := hv
  have hx := B.exec
  have hb := B.bytes
  have hr := B.returns
  have hts := atoms_spec (ws := wsX6_back) B.pre
  have hown : s.vm.findClass RX6 = some m.cls := findClass_of_methodNamed B.named
  have hlocks := B.notSynchronized
  subst hsz
  have hD := hD0.self (sz := s.heap.size)
  generalize hAe : va_A [zo6 h0 (nI pb) kd mo st (nI jg) ro tp (nI td) cd sr (nI tx) (nI ru) 1 ir ih ss sq ce lw s19 s20 s21 s22 wo he s25 s26 s27 sk na kp s31 s32 s33 s34 gb go fa ga s39 s40 vo, zi G ro 12 fro, zi G st 12 fst, zi G ir 24 (mKeep ga6 gb6), zi G ih 3 (mHold (nI ip) (nI ij) (nI il))] s.heap.size = A at hD ⊢
  have hA : ∀ q : Nat, s.heap.size ≤ q → A q := fun q h => by rw [← hAe]; exact Or.inr h
  have hS : va_S A s.heap s.heap [] := va_S.rf
  have hz9 : gPD G A [zo6 h0 (nI pb) kd mo st (nI jg) ro tp (nI td) cd sr (nI tx) (nI ru) 1 ir ih ss sq ce lw s19 s20 s21 s22 wo he s25 s26 s27 sk na kp s31 s32 s33 s34 gb go fa ga s39 s40 vo, zi G ro 12 fro, zi G st 12 fst, zi G ir 24 (mKeep ga6 gb6), zi G ih 3 (mHold (nI ip) (nI ij) (nI il))] s.heap := ⟨hP, hD⟩
  have hP := hz9.1
  have hD := hz9.2
  have hl := lv_entry ([.ref h0]) (n := 2) (Nat.le_of_ble_eq_true rfl)
  rw [lg_entry_eq]
  generalize (lg_sl ([.ref h0]) ++ List.replicate (2 - (lg_sl ([.ref h0])).length) Slot.unset).toArray = ls at hl ⊢
  have hl : lv_has ls 2 [zR 0 h0] := hl
  have kf274 := hts (.fieldLink RX6 274 "PebbleInShoeModel" "hasImage" "Z") (by decide +kernel)
  have hiX6 := (by decide +kernel : ∀ w ∈ wsX60, w ∈ wsX6_back)
  have kf34 := hts (.fieldLink RX6 34 "PebbleInShoeModel" "imageHeld" "[I") (by decide +kernel)
  have kf88 := hts (.fieldLink RX6 88 "PebbleInShoeModel" "pebbles" "I") (by decide +kernel)
  have kf95 := hts (.fieldLink RX6 95 "PebbleInShoeModel" "judges" "I") (by decide +kernel)
  have kf101 := hts (.fieldLink RX6 101 "PebbleInShoeModel" "rule" "I") (by decide +kernel)
  have kf19 := hts (.fieldLink RX6 19 "PebbleInShoeModel" "rows" "[I") (by decide +kernel)
  have kf31 := hts (.fieldLink RX6 31 "PebbleInShoeModel" "imageRows" "[I") (by decide +kernel)
  have kf16 := hts (.fieldLink RX6 16 "PebbleInShoeModel" "stones" "[I") (by decide +kernel)
  refine g_aget (D := G.1) (ci := 6) (v := .int 1) (C := RX6) (T := TX6) (N := 42) hx hb dX6_back_0 rfl (lv_at hl 0 rfl) hts hiX6 hown hK hP 0 rfl rfl 12 (by decide +kernel) kf274 (fun _ h9 => h9) rfl dX6_back_1 ?_
  refine lv_if_ne (tgt := 10) hx hb dX6_back_4 (by decide +kernel) (fun c_1 => ?_) (fun c_1 => ?_)
  rotate_left
  · exact absurd c_1 (by decide +kernel)
  refine lv_iconst (v := 0) hx hb dX6_back_10 (by decide +kernel) ?_
  refine lv_istore_n (lv' := [zI 1 0, zR 0 h0]) hx hb dX6_back_11 rfl hl (by decide +kernel) rfl (fun ls hl => ?_)
  have loop_12 : ∀ (n9 : Nat) (k6 : Nat) (xr : Nat → Int32) (xs6 : Nat → Int32), (k6 ≤ 12) → (∀ q, q < k6 → xr q = ga6 q ∧ xs6 q = gb6 q) → (12 - k6) < n9 → ∀ (H : Heap) (locs : List Loc), va_P G.1 vwCl [zo6 h0 (nI pb) kd mo st (nI jg) ro tp (nI td) cd sr (nI tx) (nI ru) 1 ir ih ss sq ce lw s19 s20 s21 s22 wo he s25 s26 s27 sk na kp s31 s32 s33 s34 gb go fa ga s39 s40 vo, zi G ro 12 xr, zi G st 12 xs6, zi G ir 24 (mKeep ga6 gb6), zi G ih 3 (mHold (nI ip) (nI ij) (nI il))] H → va_D A [zo6 h0 (nI pb) kd mo st (nI jg) ro tp (nI td) cd sr (nI tx) (nI ru) 1 ir ih ss sq ce lw s19 s20 s21 s22 wo he s25 s26 s27 sk na kp s31 s32 s33 s34 gb go fa ga s39 s40 vo, zi G ro 12 xr, zi G st 12 xs6, zi G ir 24 (mKeep ga6 gb6), zi G ih 3 (mHold (nI ip) (nI ij) (nI il))] → va_S A s.heap H locs → ∀ ls : Array Slot, lv_has ls 2 [zI 1 (nI k6), zR 0 h0] → W p l e (headSpec wsX6_back ({ frames := 0, cells := 0, slots := 0, locals := 0 })).room s m ([.ref h0] : List Value).toArray below meth c H locs 0 0 (MQ below (q_X6_back_yes G h0 kd mo st ro tp cd sr ir ih ss sq ce lw wo he sk na kp gb go fa ga vo pb jg td tx ru s19 s20 s21 s22 s25 s26 s27 s31 s32 s33 s34 s39 s40 fro fst ga6 gb6 ip ij il A) ([.ref h0] : List Value).toArray s 0 0 A) (F0 m 12 ls []) := by
    intro n9
    induction n9 with
    | zero => intro k6 xr xs6 hk6 hK6 hm9; exact absurd hm9 (Nat.not_lt_zero _)
    | succ n9 ih9 =>
      intro k6 xr xs6 hk6 hK6 hm9 H locs hP hD hS ls hl
      refine lv_iload_n hx hb dX6_back_12 rfl (lv_at hl 0 rfl) ?_
      refine lv_bipush (v := 12) hx hb dX6_back_13 (by decide +kernel) ?_
      refine lv_icmp_ge (tgt := 51) hx hb dX6_back_15 (by decide +kernel) (fun c_2 => ?_) (fun c_2 => ?_)
      · skip
        have c_2N : 12 ≤ k6 := nI_le1 (a := 12) (b := k6) (by omega) (by omega) c_2
        have hz9 : gPD G A [zo6 h0 (nI pb) kd mo st (nI jg) ro tp (nI td) cd sr (nI tx) (nI ru) 1 ir ih ss sq ce lw s19 s20 s21 s22 wo he s25 s26 s27 sk na kp s31 s32 s33 s34 gb go fa ga s39 s40 vo, zi G ro 12 ga6, zi G st 12 xs6, zi G ir 24 (mKeep ga6 gb6), zi G ih 3 (mHold (nI ip) (nI ij) (nI il))] H := ⟨g_ext hP 1 rfl (fun i h9 => (hK6 i (by omega)).1), g_extD hD 1 rfl⟩
        have hP := hz9.1
        have hD := hz9.2
        have hz9 : gPD G A [zo6 h0 (nI pb) kd mo st (nI jg) ro tp (nI td) cd sr (nI tx) (nI ru) 1 ir ih ss sq ce lw s19 s20 s21 s22 wo he s25 s26 s27 sk na kp s31 s32 s33 s34 gb go fa ga s39 s40 vo, zi G ro 12 ga6, zi G st 12 gb6, zi G ir 24 (mKeep ga6 gb6), zi G ih 3 (mHold (nI ip) (nI ij) (nI il))] H := ⟨g_ext hP 2 rfl (fun i h9 => (hK6 i (by omega)).2), g_extD hD 2 rfl⟩
        have hP := hz9.1
        have hD := hz9.2
        refine lv_aload_n hx hb dX6_back_51 rfl (lv_at hl 1 rfl) ?_
        refine g_aget (D := G.1) (ci := 6) (v := .ref ih) (C := RX6) (T := TX6) (N := 42) hx hb dX6_back_52 rfl (lv_at hl 1 rfl) hts hiX6 hown hK hP 0 rfl rfl 14 (by decide +kernel) kf34 (fun _ h9 => h9) rfl dX6_back_53 ?_
        refine lv_iconst (v := 0) hx hb dX6_back_56 (by decide +kernel) ?_
        refine va_iald (D := G.1) hx hb hK hP 4 0 rfl rfl (i := 0) (gIn (by decide +kernel)) dX6_back_57 ?_
        refine lv_topi (fun v_3 ev_3 => ?_)
        have ev_3 : v_3 = (mHold (nI ip) (nI ij) (nI il)) 0 := ev_3
        subst ev_3
        refine va_put (D := G.1) (ci := 6) (v := .int ((mHold (nI ip) (nI ij) (nI il)) 0)) (ty := .int) (C := RX6) (T := TX6) (N := 42) hx hb hts hiX6 tyX6 tyX6_ok nmX6 hown hK hP hD hS 0 rfl rfl 0 (by decide +kernel) kf88 (fun _ h9 => h9) rfl (by decide +kernel) rfl rfl (Nat.le_of_ble_eq_true rfl) dX6_back_58 (fun H locs hP hD hS => ?_)
        have hz9 : gPD G A [zo6 h0 ((mHold (nI ip) (nI ij) (nI il)) 0) kd mo st (nI jg) ro tp (nI td) cd sr (nI tx) (nI ru) 1 ir ih ss sq ce lw s19 s20 s21 s22 wo he s25 s26 s27 sk na kp s31 s32 s33 s34 gb go fa ga s39 s40 vo, zi G ro 12 ga6, zi G st 12 gb6, zi G ir 24 (mKeep ga6 gb6), zi G ih 3 (mHold (nI ip) (nI ij) (nI il))] H := ⟨hP, hD⟩
        have hP := hz9.1
        have hD := hz9.2
        refine lv_aload_n hx hb dX6_back_61 rfl (lv_at hl 1 rfl) ?_
        refine g_aget (D := G.1) (ci := 6) (v := .ref ih) (C := RX6) (T := TX6) (N := 42) hx hb dX6_back_62 rfl (lv_at hl 1 rfl) hts hiX6 hown hK hP 0 rfl rfl 14 (by decide +kernel) kf34 (fun _ h9 => h9) rfl dX6_back_63 ?_
        refine lv_iconst (v := 1) hx hb dX6_back_66 (by decide +kernel) ?_
        refine va_iald (D := G.1) hx hb hK hP 4 0 rfl rfl (i := 1) (gIn (by decide +kernel)) dX6_back_67 ?_
        refine lv_topi (fun v_4 ev_4 => ?_)
        have ev_4 : v_4 = (mHold (nI ip) (nI ij) (nI il)) 1 := ev_4
        subst ev_4
        refine va_put (D := G.1) (ci := 6) (v := .int ((mHold (nI ip) (nI ij) (nI il)) 1)) (ty := .int) (C := RX6) (T := TX6) (N := 42) hx hb hts hiX6 tyX6 tyX6_ok nmX6 hown hK hP hD hS 0 rfl rfl 4 (by decide +kernel) kf95 (fun _ h9 => h9) rfl (by decide +kernel) rfl rfl (Nat.le_of_ble_eq_true rfl) dX6_back_68 (fun H locs hP hD hS => ?_)
        have hz9 : gPD G A [zo6 h0 ((mHold (nI ip) (nI ij) (nI il)) 0) kd mo st ((mHold (nI ip) (nI ij) (nI il)) 1) ro tp (nI td) cd sr (nI tx) (nI ru) 1 ir ih ss sq ce lw s19 s20 s21 s22 wo he s25 s26 s27 sk na kp s31 s32 s33 s34 gb go fa ga s39 s40 vo, zi G ro 12 ga6, zi G st 12 gb6, zi G ir 24 (mKeep ga6 gb6), zi G ih 3 (mHold (nI ip) (nI ij) (nI il))] H := ⟨hP, hD⟩
        have hP := hz9.1
        have hD := hz9.2
        refine lv_aload_n hx hb dX6_back_71 rfl (lv_at hl 1 rfl) ?_
        refine g_aget (D := G.1) (ci := 6) (v := .ref ih) (C := RX6) (T := TX6) (N := 42) hx hb dX6_back_72 rfl (lv_at hl 1 rfl) hts hiX6 hown hK hP 0 rfl rfl 14 (by decide +kernel) kf34 (fun _ h9 => h9) rfl dX6_back_73 ?_
        refine lv_iconst (v := 2) hx hb dX6_back_76 (by decide +kernel) ?_
        refine va_iald (D := G.1) hx hb hK hP 4 0 rfl rfl (i := 2) (gIn (by decide +kernel)) dX6_back_77 ?_
        refine lv_topi (fun v_5 ev_5 => ?_)
        have ev_5 : v_5 = (mHold (nI ip) (nI ij) (nI il)) 2 := ev_5
        subst ev_5
        refine va_put (D := G.1) (ci := 6) (v := .int ((mHold (nI ip) (nI ij) (nI il)) 2)) (ty := .int) (C := RX6) (T := TX6) (N := 42) hx hb hts hiX6 tyX6 tyX6_ok nmX6 hown hK hP hD hS 0 rfl rfl 11 (by decide +kernel) kf101 (fun _ h9 => h9) rfl (by decide +kernel) rfl rfl (Nat.le_of_ble_eq_true rfl) dX6_back_78 (fun H locs hP hD hS => ?_)
        have hz9 : gPD G A [zo6 h0 ((mHold (nI ip) (nI ij) (nI il)) 0) kd mo st ((mHold (nI ip) (nI ij) (nI il)) 1) ro tp (nI td) cd sr (nI tx) ((mHold (nI ip) (nI ij) (nI il)) 2) 1 ir ih ss sq ce lw s19 s20 s21 s22 wo he s25 s26 s27 sk na kp s31 s32 s33 s34 gb go fa ga s39 s40 vo, zi G ro 12 ga6, zi G st 12 gb6, zi G ir 24 (mKeep ga6 gb6), zi G ih 3 (mHold (nI ip) (nI ij) (nI il))] H := ⟨hP, hD⟩
        have hP := hz9.1
        have hD := hz9.2
        refine g_aget (D := G.1) (ci := 6) (v := .int ((mHold (nI ip) (nI ij) (nI il)) 0)) (C := RX6) (T := TX6) (N := 42) hx hb dX6_back_81 rfl (lv_at hl 1 rfl) hts hiX6 hown hK hP 0 rfl rfl 0 (by decide +kernel) kf88 (fun _ h9 => h9) rfl dX6_back_82 ?_
        have hpost : (fun (r : Int32) (u : Unit) => match u with | _ => r = nI ip) ((mHold (nI ip) (nI ij) (nI il)) 0) () := rfl
        exact W.iret (v := ((mHold (nI ip) (nI ij) (nI il)) 0)) hx hb hr (fun t ht hW => ⟨⟨((mHold (nI ip) (nI ij) (nI il)) 0), (), rfl, hpost, by rw [ht]; exact hP, va_K.moved hW.alike hK, hD⟩, hS.F ht⟩) hS.2.2 dX6_back_85
      · skip
        have c_2N : k6 < 12 := nI_le0 (a := 12) (b := k6) (by omega) (by omega) c_2
        refine g_aget (D := G.1) (ci := 6) (v := .ref ro) (C := RX6) (T := TX6) (N := 42) hx hb dX6_back_18 rfl (lv_at hl 1 rfl) hts hiX6 hown hK hP 0 rfl rfl 5 (by decide +kernel) kf19 (fun _ h9 => h9) rfl dX6_back_19 ?_
        refine lv_iload_n hx hb dX6_back_22 rfl (lv_at hl 0 rfl) ?_
        refine g_aget (D := G.1) (ci := 6) (v := .ref ir) (C := RX6) (T := TX6) (N := 42) hx hb dX6_back_23 rfl (lv_at hl 1 rfl) hts hiX6 hown hK hP 0 rfl rfl 13 (by decide +kernel) kf31 (fun _ h9 => h9) rfl dX6_back_24 ?_
        refine lv_iload_n hx hb dX6_back_27 rfl (lv_at hl 0 rfl) ?_
        refine g_iald (D := G.1) hx hb hK hP 3 0 rfl rfl (k := k6) (y := (mKeep ga6 gb6) k6) (by omega) rfl rfl dX6_back_28 ?_
        refine g_iast (D := G.1) hx hb hK hP hD hS 1 0 rfl rfl (k := k6) (x := ((mKeep ga6 gb6) k6)) (by omega) rfl dX6_back_29 (fun H locs hP hD hS => ?_)
        have hz9 : gPD G A [zo6 h0 (nI pb) kd mo st (nI jg) ro tp (nI td) cd sr (nI tx) (nI ru) 1 ir ih ss sq ce lw s19 s20 s21 s22 wo he s25 s26 s27 sk na kp s31 s32 s33 s34 gb go fa ga s39 s40 vo, zi G ro 12 (upd xr k6 ((mKeep ga6 gb6) k6)), zi G st 12 xs6, zi G ir 24 (mKeep ga6 gb6), zi G ih 3 (mHold (nI ip) (nI ij) (nI il))] H := ⟨hP, hD⟩
        have hP := hz9.1
        have hD := hz9.2
        refine g_aget (D := G.1) (ci := 6) (v := .ref st) (C := RX6) (T := TX6) (N := 42) hx hb dX6_back_30 rfl (lv_at hl 1 rfl) hts hiX6 hown hK hP 0 rfl rfl 3 (by decide +kernel) kf16 (fun _ h9 => h9) rfl dX6_back_31 ?_
        refine lv_iload_n hx hb dX6_back_34 rfl (lv_at hl 0 rfl) ?_
        refine g_aget (D := G.1) (ci := 6) (v := .ref ir) (C := RX6) (T := TX6) (N := 42) hx hb dX6_back_35 rfl (lv_at hl 1 rfl) hts hiX6 hown hK hP 0 rfl rfl 13 (by decide +kernel) kf31 (fun _ h9 => h9) rfl dX6_back_36 ?_
        refine lv_bipush (v := 12) hx hb dX6_back_39 (by decide +kernel) ?_
        refine lv_iload_n hx hb dX6_back_41 rfl (lv_at hl 0 rfl) ?_
        refine lv_iadd hx hb dX6_back_42 ?_
        refine g_topi (y := nI (12 + k6)) (nI_add 12 k6) ?_
        refine g_iald (D := G.1) hx hb hK hP 3 0 rfl rfl (k := 12 + k6) (y := (mKeep ga6 gb6) (12 + k6)) (by omega) rfl rfl dX6_back_43 ?_
        refine g_iast (D := G.1) hx hb hK hP hD hS 2 0 rfl rfl (k := k6) (x := ((mKeep ga6 gb6) (12 + k6))) (by omega) rfl dX6_back_44 (fun H locs hP hD hS => ?_)
        have hz9 : gPD G A [zo6 h0 (nI pb) kd mo st (nI jg) ro tp (nI td) cd sr (nI tx) (nI ru) 1 ir ih ss sq ce lw s19 s20 s21 s22 wo he s25 s26 s27 sk na kp s31 s32 s33 s34 gb go fa ga s39 s40 vo, zi G ro 12 (upd xr k6 ((mKeep ga6 gb6) k6)), zi G st 12 (upd xs6 k6 ((mKeep ga6 gb6) (12 + k6))), zi G ir 24 (mKeep ga6 gb6), zi G ih 3 (mHold (nI ip) (nI ij) (nI il))] H := ⟨hP, hD⟩
        have hP := hz9.1
        have hD := hz9.2
        refine lv_iinc (v := nI (k6 + 1)) (lv' := [zI 1 (nI (k6 + 1)), zR 0 h0]) hx hb dX6_back_45 hl (k := 0) rfl (nI_add k6 1) (by decide +kernel) rfl (fun ls hl => ?_)
        refine lv_goto (tgt := 12) hx hb dX6_back_48 (by decide +kernel) ?_
        exact ih9 (k6 + 1) (upd xr k6 ((mKeep ga6 gb6) k6)) (upd xs6 k6 ((mKeep ga6 gb6) (12 + k6))) (by omega) (fun q z => mLay_step (by omega) hK6 q z) (by omega) _ _ hP hD hS ls hl
  exact loop_12 (13) 0 fro fst (Nat.zero_le _) (fun q z => absurd z (Nat.not_lt_zero q)) (by omega) _ _ hP hD hS ls hl
noncomputable def p_X6_sheet_70 (v0 : Int32) : Nat → Nat → (Nat → Int32) → Nat × (Nat → Int32)
  | 0, i70, y70ce => (i70, y70ce)
  | q9 + 1, i70, y70ce => p_X6_sheet_70 v0 q9 (i70 + 1) (upd y70ce ((40 * (nC v0)) + i70) 0)
noncomputable def g_X6_sheet_70 (fce : Nat → Int32) (v0 : Int32) : Nat × (Nat → Int32) := p_X6_sheet_70 v0 (40 - 0) 0 fce
noncomputable def p_X6_sheet_70q1 (v0 : Int32) : Nat → Nat → (Nat → Int32) → Nat × (Nat → Int32)
  | 0, i70, y70ce => (i70, y70ce)
  | q9 + 1, i70, y70ce => p_X6_sheet_70q1 v0 q9 (i70 + 1) (upd y70ce ((40 * (nC v0)) + i70) 0)
noncomputable def g_X6_sheet_70q1 (fce : Nat → Int32) (v0 : Int32) : Nat × (Nat → Int32) := p_X6_sheet_70q1 v0 (40 - 0) 0 fce
noncomputable def m_X6_sheet (v0 : Int32) (v1 : Int32) (v2 : Int32) : Int32 := if 0 ≤ v0 ∧ v0 ≤ 3 then (if (-1) ≤ v1 ∧ v1 ≤ 2 then (if v1 = (-1) then 1 else (if v2 ≤ 40 then (if 0 ≤ v2 then 1 else -14) else -2)) else -2) else -2
noncomputable def m_X6_sheet_ss (fss : Nat → Int32) (v0 : Int32) (v1 : Int32) (v2 : Int32) : Nat → Int32 := if 0 ≤ v0 ∧ v0 ≤ 3 then (if (-1) ≤ v1 ∧ v1 ≤ 2 then (if v1 = (-1) then upd fss (nC v0) v1 else (if v2 ≤ 40 then (if 0 ≤ v2 then upd fss (nC v0) v1 else fss) else fss)) else fss) else fss
noncomputable def m_X6_sheet_sq (fsq : Nat → Nat) (v0 : Int32) (v1 : Int32) (v2 : Int32) : Nat → Nat := if 0 ≤ v0 ∧ v0 ≤ 3 then (if (-1) ≤ v1 ∧ v1 ≤ 2 then (if v1 = (-1) then updN fsq (nC v0) 0 else (if v2 ≤ 40 then (if 0 ≤ v2 then updN fsq (nC v0) (nC v2) else fsq) else fsq)) else fsq) else fsq
noncomputable def m_X6_sheet_ce (fce : Nat → Int32) (v0 : Int32) (v1 : Int32) (v2 : Int32) : Nat → Int32 := if 0 ≤ v0 ∧ v0 ≤ 3 then (if (-1) ≤ v1 ∧ v1 ≤ 2 then (if v1 = (-1) then ((g_X6_sheet_70 fce v0).2) else (if v2 ≤ 40 then (if 0 ≤ v2 then ((g_X6_sheet_70q1 fce v0).2) else fce) else fce)) else fce) else fce
abbrev q_X6_sheet (G : gG) (h0 kd mo st ro tp cd sr ir ih ss sq ce lw wo he sk na kp gb go fa ga vo : Nat) (pb : Nat) (jg : Nat) (td : Nat) (tx : Nat) (ru : Nat) (him : Int32) (s19 : Int32) (s20 : Int32) (s21 : Int32) (s22 : Int32) (s25 : Int32) (s26 : Int32) (s27 : Int32) (s31 : Int32) (s32 : Int32) (s33 : Int32) (s34 : Int32) (s39 : Int32) (s40 : Int32) (fss : Nat → Int32) (fsq : Nat → Nat) (fce : Nat → Int32) (v0 : Int32) (v1 : Int32) (v2 : Int32) (A : Nat → Prop) : Array Value → State → Outcome → State → Prop := va_Qi (fun (r : Int32) (u : Unit) => match u with | _ => r = m_X6_sheet v0 v1 v2) (fun (u : Unit) t => match u with | _ => va_P G.1 vwCl [zo6 h0 (nI pb) kd mo st (nI jg) ro tp (nI td) cd sr (nI tx) (nI ru) him ir ih ss sq ce lw s19 s20 s21 s22 wo he s25 s26 s27 sk na kp s31 s32 s33 s34 gb go fa ga s39 s40 vo, zi G ss 4 (m_X6_sheet_ss fss v0 v1 v2), zi G sq 4 (nF (m_X6_sheet_sq fsq v0 v1 v2)), zi G ce 160 (m_X6_sheet_ce fce v0 v1 v2)] t.heap ∧ gK G t ∧ va_D A [zo6 h0 (nI pb) kd mo st (nI jg) ro tp (nI td) cd sr (nI tx) (nI ru) him ir ih ss sq ce lw s19 s20 s21 s22 wo he s25 s26 s27 sk na kp s31 s32 s33 s34 gb go fa ga s39 s40 vo, zi G ss 4 (m_X6_sheet_ss fss v0 v1 v2), zi G sq 4 (nF (m_X6_sheet_sq fsq v0 v1 v2)), zi G ce 160 (m_X6_sheet_ce fce v0 v1 v2)]) A
set_option maxHeartbeats 4000000 in
set_option maxRecDepth 100000 in
theorem c_X6_sheet (l : Launch) (G : gG) (h0 kd mo st ro tp cd sr ir ih ss sq ce lw wo he sk na kp gb go fa ga vo : Nat) (pb : Nat) (jg : Nat) (td : Nat) (tx : Nat) (ru : Nat) (him : Int32) (s19 : Int32) (s20 : Int32) (s21 : Int32) (s22 : Int32) (s25 : Int32) (s26 : Int32) (s27 : Int32) (s31 : Int32) (s32 : Int32) (s33 : Int32) (s34 : Int32) (s39 : Int32) (s40 : Int32) (fss : Nat → Int32) (fsq : Nat → Nat) (fce : Nat → Int32) (v0 : Int32) (v1 : Int32) (v2 : Int32) (sz : Nat) (hpb : pb ≤ 6) (hjg : jg ≤ 4) (htx : tx ≤ 6) (hru : ru < tx) : Met l yX6_sheet wsX6_sheet ({ frames := 1, cells := 0, slots := 0, locals := 22 }) (gPre G [.ref h0, .int v0, .int v1, .int v2] [zo6 h0 (nI pb) kd mo st (nI jg) ro tp (nI td) cd sr (nI tx) (nI ru) him ir ih ss sq ce lw s19 s20 s21 s22 wo he s25 s26 s27 sk na kp s31 s32 s33 s34 gb go fa ga s39 s40 vo, zi G ss 4 fss, zi G sq 4 (nF fsq), zi G ce 160 fce] sz) (q_X6_sheet G h0 kd mo st ro tp cd sr ir ih ss sq ce lw wo he sk na kp gb go fa ga vo pb jg td tx ru him s19 s20 s21 s22 s25 s26 s27 s31 s32 s33 s34 s39 s40 fss fsq fce v0 v1 v2 (va_A [zo6 h0 (nI pb) kd mo st (nI jg) ro tp (nI td) cd sr (nI tx) (nI ru) him ir ih ss sq ce lw s19 s20 s21 s22 wo he s25 s26 s27 sk na kp s31 s32 s33 s34 gb go fa ga s39 s40 vo, zi G ss 4 fss, zi G sq 4 (nF fsq), zi G ce 160 fce] sz)) 0 0 (va_A [zo6 h0 (nI pb) kd mo st (nI jg) ro tp (nI td) cd sr (nI tx) (nI ru) him ir ih ss sq ce lw s19 s20 s21 s22 wo he s25 s26 s27 sk na kp s31 s32 s33 s34 gb go fa ga s39 s40 vo, zi G ss 4 fss, zi G sq 4 (nF fsq), zi G ce 160 fce] sz) := by
  refine Met.ofW (cc := cX6_sheet) (maxL := 5) (ret := (some .int)) (by decide +kernel) rfl ?_
  intro p e s m args below meth c s₁ B hml hv
  obtain ⟨rfl, hsz, hP, hK, hD0⟩ := hv
  have hx := B.exec
  have hb := B.bytes
  have hr := B.returns
  have hts := atoms_spec (ws := wsX6_sheet) B.pre
  have hown : s.vm.findClass RX6 = some m.cls := findClass_of_methodNamed B.named
  have hlocks := B.notSynchronized
  subst hsz
  have hD := hD0.self (sz := s.heap.size)
  generalize hAe : va_A [zo6 h0 (nI pb) kd mo st (nI jg) ro tp (nI td) cd sr (nI tx) (nI ru) him ir ih ss sq ce lw s19 s20 s21 s22 wo he s25 s26 s27 sk na kp s31 s32 s33 s34 gb go fa ga s39 s40 vo, zi G ss 4 fss, zi G sq 4 (nF fsq), zi G ce 160 fce] s.heap.size = A at hD ⊢
  have hA : ∀ q : Nat, s.heap.size ≤ q → A q := fun q h => by rw [← hAe]; exact Or.inr h
  have hS : va_S A s.heap s.heap [] := va_S.rf
  have hz9 : gPD G A [zo6 h0 (nI pb) kd mo st (nI jg) ro tp (nI td) cd sr (nI tx) (nI ru) him ir ih ss sq ce lw s19 s20 s21 s22 wo he s25 s26 s27 sk na kp s31 s32 s33 s34 gb go fa ga s39 s40 vo, zi G ss 4 fss, zi G sq 4 (nF fsq), zi G ce 160 fce] s.heap := ⟨hP, hD⟩
  have hP := hz9.1
  have hD := hz9.2
  have hl := lv_entry ([.ref h0, .int v0, .int v1, .int v2]) (n := 5) (Nat.le_of_ble_eq_true rfl)
  rw [lg_entry_eq]
  generalize (lg_sl ([.ref h0, .int v0, .int v1, .int v2]) ++ List.replicate (5 - (lg_sl ([.ref h0, .int v0, .int v1, .int v2])).length) Slot.unset).toArray = ls at hl ⊢
  have hl : lv_has ls 5 [zR 0 h0, zI 1 v0, zI 2 v1, zI 3 v2] := hl
  have kf37 := hts (.fieldLink RX6 37 "PebbleInShoeModel" "sheetSort" "[I") (by decide +kernel)
  have hiX6 := (by decide +kernel : ∀ w ∈ wsX60, w ∈ wsX6_sheet)
  have kf40 := hts (.fieldLink RX6 40 "PebbleInShoeModel" "sheetSize" "[I") (by decide +kernel)
  have kf43 := hts (.fieldLink RX6 43 "PebbleInShoeModel" "cells" "[I") (by decide +kernel)
  refine lv_iload_n hx hb dX6_sheet_0 rfl (lv_at hl 1 rfl) ?_
  refine lv_iconst (v := 0) hx hb dX6_sheet_1 (by decide +kernel) ?_
  refine lv_iconst (v := 3) hx hb dX6_sheet_2 (by decide +kernel) ?_
  refine z_calli [] (v := bz (decide (0 ≤ v0 ∧ v0 ≤ 3))) (fun _ _ h => h) (va_runS (As := [.int v0, .int 0, .int 3]) (rest := []) ⟨hx, hb, hml, hown, hts⟩ (c_X6_in l G v0 0 3 s.heap.size) (va_cwS 3 hts gX6_sheet_X6_in rfl rfl rfl (by decide +kernel) ⟨Nat.le_of_ble_eq_true rfl, Nat.le_of_ble_eq_true rfl⟩) ⟨gPre_blind, fun U hU hW => gPre_ofF [] hU hW hK hP hD (by decide +kernel) rfl⟩ rfl rfl hl.1 rfl (lv_room (Nat.le_of_ble_eq_true rfl)) dX6_sheet_3 ⟨Nat.le_of_ble_eq_true rfl, Nat.le_of_ble_eq_true rfl⟩) hS hD hA rfl (fun u t H locs ht hvm hB hz1 hk1 hFq hAq hS => ?_)
  obtain ⟨hP1, hK1, hD1⟩ := hB
  have hP := zKeep hP hD [] hAq hk1 ht hP1 rfl
  refine lv_if_eq (tgt := 29) hx hb dX6_sheet_6 (by decide +kernel) (fun c_3 => ?_) (fun c_3 => ?_)
  · skip
    have n_5 : ¬ (0 ≤ v0 ∧ v0 ≤ 3) := of_decide_eq_false (bz_eq rfl c_3)
    refine lv_bipush (v := -2) hx hb dX6_sheet_29 (by decide +kernel) ?_
    have q_8 : m_X6_sheet_ss fss v0 v1 v2 = fss := by unfold m_X6_sheet_ss; rw [if_neg n_5]
    have q_9 : m_X6_sheet_sq fsq v0 v1 v2 = fsq := by unfold m_X6_sheet_sq; rw [if_neg n_5]
    have q_10 : m_X6_sheet_ce fce v0 v1 v2 = fce := by unfold m_X6_sheet_ce; rw [if_neg n_5]
    have hz9 : gPD G A [zo6 h0 (nI pb) kd mo st (nI jg) ro tp (nI td) cd sr (nI tx) (nI ru) him ir ih ss sq ce lw s19 s20 s21 s22 wo he s25 s26 s27 sk na kp s31 s32 s33 s34 gb go fa ga s39 s40 vo, zi G ss 4 (m_X6_sheet_ss fss v0 v1 v2), zi G sq 4 (nF (m_X6_sheet_sq fsq v0 v1 v2)), zi G ce 160 (m_X6_sheet_ce fce v0 v1 v2)] H := ⟨by rw [q_8, q_9, q_10]; exact hP, by rw [q_8, q_9, q_10]; exact hD⟩
    have hP9 := hz9.1
    have hD9 := hz9.2
    have hpost : (fun (r : Int32) (u : Unit) => match u with | _ => r = m_X6_sheet v0 v1 v2) (-2) () := (show m_X6_sheet v0 v1 v2 = (-2) from by unfold m_X6_sheet; rw [if_neg n_5]).symm
    exact W.iret (v := (-2)) hx hb hr (fun t ht hW => ⟨⟨(-2), (), rfl, hpost, by rw [ht]; exact hP9, va_K.moved hW.alike hK, hD9⟩, hS.F ht⟩) hS.2.2 dX6_sheet_31
  · skip
    have p_4 : 0 ≤ v0 ∧ v0 ≤ 3 := of_decide_eq_true (bz_ne rfl c_3)
    have hv_6 : v0 = nI (nC v0) := nC_eq p_4.1
    have hk_7 : nC v0 ≤ 3 := nC_le (n := 3) (by omega) p_4
    refine lv_iload_n hx hb dX6_sheet_9 rfl (lv_at hl 2 rfl) ?_
    refine lv_iconst (v := -1) hx hb dX6_sheet_10 (by decide +kernel) ?_
    refine lv_iconst (v := 2) hx hb dX6_sheet_11 (by decide +kernel) ?_
    refine z_calli [] (v := bz (decide ((-1) ≤ v1 ∧ v1 ≤ 2))) (fun _ _ h => h) (va_runS (As := [.int v1, .int (-1), .int 2]) (rest := []) ⟨hx, hb, hml, hown, hts⟩ (c_X6_in l G v1 (-1) 2 H.size) (va_cwS 3 hts gX6_sheet_X6_in rfl rfl rfl (by decide +kernel) ⟨Nat.le_of_ble_eq_true rfl, Nat.le_of_ble_eq_true rfl⟩) ⟨gPre_blind, fun U hU hW => gPre_ofF [] hU hW hK hP hD (by decide +kernel) rfl⟩ rfl rfl hl.1 rfl (lv_room (Nat.le_of_ble_eq_true rfl)) dX6_sheet_12 ⟨Nat.le_of_ble_eq_true rfl, Nat.le_of_ble_eq_true rfl⟩) hS hD hA rfl (fun u t H locs ht hvm hB hz1 hk1 hFq hAq hS => ?_)
    obtain ⟨hP1, hK1, hD1⟩ := hB
    have hP := zKeep hP hD [] hAq hk1 ht hP1 rfl
    refine lv_if_eq (tgt := 29) hx hb dX6_sheet_15 (by decide +kernel) (fun c_13 => ?_) (fun c_13 => ?_)
    · skip
      have n_15 : ¬ ((-1) ≤ v1 ∧ v1 ≤ 2) := of_decide_eq_false (bz_eq rfl c_13)
      refine lv_bipush (v := -2) hx hb dX6_sheet_29 (by decide +kernel) ?_
      have q_16 : m_X6_sheet_ss fss v0 v1 v2 = fss := by unfold m_X6_sheet_ss; rw [if_pos p_4, if_neg n_15]
      have q_17 : m_X6_sheet_sq fsq v0 v1 v2 = fsq := by unfold m_X6_sheet_sq; rw [if_pos p_4, if_neg n_15]
      have q_18 : m_X6_sheet_ce fce v0 v1 v2 = fce := by unfold m_X6_sheet_ce; rw [if_pos p_4, if_neg n_15]
      have hz9 : gPD G A [zo6 h0 (nI pb) kd mo st (nI jg) ro tp (nI td) cd sr (nI tx) (nI ru) him ir ih ss sq ce lw s19 s20 s21 s22 wo he s25 s26 s27 sk na kp s31 s32 s33 s34 gb go fa ga s39 s40 vo, zi G ss 4 (m_X6_sheet_ss fss v0 v1 v2), zi G sq 4 (nF (m_X6_sheet_sq fsq v0 v1 v2)), zi G ce 160 (m_X6_sheet_ce fce v0 v1 v2)] H := ⟨by rw [q_16, q_17, q_18]; exact hP, by rw [q_16, q_17, q_18]; exact hD⟩
      have hP9 := hz9.1
      have hD9 := hz9.2
      have hpost : (fun (r : Int32) (u : Unit) => match u with | _ => r = m_X6_sheet v0 v1 v2) (-2) () := (show m_X6_sheet v0 v1 v2 = (-2) from by unfold m_X6_sheet; rw [if_pos p_4, if_neg n_15]).symm
      exact W.iret (v := (-2)) hx hb hr (fun t ht hW => ⟨⟨(-2), (), rfl, hpost, by rw [ht]; exact hP9, va_K.moved hW.alike hK, hD9⟩, hS.F ht⟩) hS.2.2 dX6_sheet_31
    · skip
      have p_14 : (-1) ≤ v1 ∧ v1 ≤ 2 := of_decide_eq_true (bz_ne rfl c_13)
      refine lv_iload_n hx hb dX6_sheet_18 rfl (lv_at hl 2 rfl) ?_
      refine lv_iconst (v := -1) hx hb dX6_sheet_19 (by decide +kernel) ?_
      refine lv_icmp_eq (tgt := 32) hx hb dX6_sheet_20 (by decide +kernel) (fun c_19 => ?_) (fun c_19 => ?_)
      · skip
        refine lv_iload_n hx hb dX6_sheet_32 rfl (lv_at hl 2 rfl) ?_
        refine lv_iconst (v := -1) hx hb dX6_sheet_33 (by decide +kernel) ?_
        refine lv_icmp_eq (tgt := 44) hx hb dX6_sheet_34 (by decide +kernel) (fun c_20 => ?_) (fun c_20 => ?_)
        rotate_left
        · exact absurd (c_19) c_20
        refine g_aget (D := G.1) (ci := 6) (v := .ref ss) (C := RX6) (T := TX6) (N := 42) hx hb dX6_sheet_44 rfl (lv_at hl 0 rfl) hts hiX6 hown hK hP 0 rfl rfl 15 (by decide +kernel) kf37 (fun _ h9 => h9) rfl dX6_sheet_45 ?_
        refine lv_iload_n hx hb dX6_sheet_48 rfl (lv_at hl 1 rfl) ?_
        refine g_topi (y := nI (nC v0)) hv_6 ?_
        refine lv_iload_n hx hb dX6_sheet_49 rfl (lv_at hl 2 rfl) ?_
        refine g_iast (D := G.1) hx hb hK hP hD hS 1 0 rfl rfl (k := nC v0) (x := v1) (by omega) rfl dX6_sheet_50 (fun H locs hP hD hS => ?_)
        have hz9 : gPD G A [zo6 h0 (nI pb) kd mo st (nI jg) ro tp (nI td) cd sr (nI tx) (nI ru) him ir ih ss sq ce lw s19 s20 s21 s22 wo he s25 s26 s27 sk na kp s31 s32 s33 s34 gb go fa ga s39 s40 vo, zi G ss 4 (upd fss (nC v0) v1), zi G sq 4 (nF fsq), zi G ce 160 fce] H := ⟨hP, hD⟩
        have hP := hz9.1
        have hD := hz9.2
        refine g_aget (D := G.1) (ci := 6) (v := .ref sq) (C := RX6) (T := TX6) (N := 42) hx hb dX6_sheet_51 rfl (lv_at hl 0 rfl) hts hiX6 hown hK hP 0 rfl rfl 16 (by decide +kernel) kf40 (fun _ h9 => h9) rfl dX6_sheet_52 ?_
        refine lv_iload_n hx hb dX6_sheet_55 rfl (lv_at hl 1 rfl) ?_
        refine g_topi (y := nI (nC v0)) hv_6 ?_
        refine lv_iload_n hx hb dX6_sheet_56 rfl (lv_at hl 2 rfl) ?_
        refine lv_iconst (v := -1) hx hb dX6_sheet_57 (by decide +kernel) ?_
        refine lv_icmp_ne (tgt := 65) hx hb dX6_sheet_58 (by decide +kernel) (fun c_23 => ?_) (fun c_23 => ?_)
        · exact absurd (c_19) c_23
        refine lv_iconst (v := 0) hx hb dX6_sheet_61 (by decide +kernel) ?_
        refine lv_goto (tgt := 66) hx hb dX6_sheet_62 (by decide +kernel) ?_
        refine va_iast (D := G.1) hx hb hK hP hD hS 2 0 rfl rfl (i := (nI (nC v0))) (x := 0) (vpn (by omega) rfl) dX6_sheet_66 (fun H locs hP hD hS => ?_)
        have hz9 : gPD G A [zo6 h0 (nI pb) kd mo st (nI jg) ro tp (nI td) cd sr (nI tx) (nI ru) him ir ih ss sq ce lw s19 s20 s21 s22 wo he s25 s26 s27 sk na kp s31 s32 s33 s34 gb go fa ga s39 s40 vo, zi G ss 4 (upd fss (nC v0) v1), zi G sq 4 (nF (updN fsq (nC v0) 0)), zi G ce 160 fce] H := ⟨by rw [nI_clamp (by omega), show upd (nF fsq) (nC v0) 0 = nF (updN fsq (nC v0) 0) from nF_upd] at hP; exact hP, by rw [nI_clamp (by omega), show upd (nF fsq) (nC v0) 0 = nF (updN fsq (nC v0) 0) from nF_upd] at hD; exact hD⟩
        have hP := hz9.1
        have hD := hz9.2
        refine lv_iconst (v := 0) hx hb dX6_sheet_67 (by decide +kernel) ?_
        refine lv_istore (lv' := [zI 4 0, zR 0 h0, zI 1 v0, zI 2 v1, zI 3 v2]) hx hb dX6_sheet_68 hl (by decide +kernel) rfl (fun ls hl => ?_)
        have loop_70 : ∀ (n9 : Nat) (i70 : Nat) (y70ce : Nat → Int32), (i70 ≤ 40) → (p_X6_sheet_70 v0 (40 - i70) i70 y70ce = (g_X6_sheet_70 fce v0)) → (40 - i70) < n9 → ∀ (H : Heap) (locs : List Loc), va_P G.1 vwCl [zo6 h0 (nI pb) kd mo st (nI jg) ro tp (nI td) cd sr (nI tx) (nI ru) him ir ih ss sq ce lw s19 s20 s21 s22 wo he s25 s26 s27 sk na kp s31 s32 s33 s34 gb go fa ga s39 s40 vo, zi G ss 4 (upd fss (nC v0) v1), zi G sq 4 (nF (updN fsq (nC v0) 0)), zi G ce 160 y70ce] H → va_D A [zo6 h0 (nI pb) kd mo st (nI jg) ro tp (nI td) cd sr (nI tx) (nI ru) him ir ih ss sq ce lw s19 s20 s21 s22 wo he s25 s26 s27 sk na kp s31 s32 s33 s34 gb go fa ga s39 s40 vo, zi G ss 4 (upd fss (nC v0) v1), zi G sq 4 (nF (updN fsq (nC v0) 0)), zi G ce 160 y70ce] → va_S A s.heap H locs → ∀ ls : Array Slot, lv_has ls 5 [zI 4 (nI i70), zR 0 h0, zI 1 v0, zI 2 v1, zI 3 v2] → W p l e (headSpec wsX6_sheet ({ frames := 1, cells := 0, slots := 0, locals := 22 })).room s m ([.ref h0, .int v0, .int v1, .int v2] : List Value).toArray below meth c H locs 0 0 (MQ below (q_X6_sheet G h0 kd mo st ro tp cd sr ir ih ss sq ce lw wo he sk na kp gb go fa ga vo pb jg td tx ru him s19 s20 s21 s22 s25 s26 s27 s31 s32 s33 s34 s39 s40 fss fsq fce v0 v1 v2 A) ([.ref h0, .int v0, .int v1, .int v2] : List Value).toArray s 0 0 A) (F0 m 70 ls []) := by
          intro n9
          induction n9 with
          | zero => intro i70 y70ce hi70 R70 hm9_70; exact absurd hm9_70 (Nat.not_lt_zero _)
          | succ n9 ih9_70 =>
            intro i70 y70ce hi70 R70 hm9_70 H locs hP hD hS ls hl
            refine lv_iload hx hb dX6_sheet_70 (lv_at hl 0 rfl) ?_
            refine lv_bipush (v := 40) hx hb dX6_sheet_72 (by decide +kernel) ?_
            refine lv_icmp_ge (tgt := 96) hx hb dX6_sheet_74 (by decide +kernel) (fun c_24 => ?_) (fun c_24 => ?_)
            · skip
              have c_24N : 40 ≤ i70 := nI_le1 (a := 40) (b := i70) (by omega) (by omega) c_24
              have hF70 : (g_X6_sheet_70 fce v0) = (i70, y70ce) := by rw [← R70, show 40 - i70 = 0 by omega]; rfl
              have hE70_0 : i70 = ((g_X6_sheet_70 fce v0).1) := by rw [hF70]
              have hE70_1 : y70ce = ((g_X6_sheet_70 fce v0).2) := by rw [hF70]
              clear hF70 R70
              subst hE70_0
              subst hE70_1
              refine lv_iconst (v := 1) hx hb dX6_sheet_96 (by decide +kernel) ?_
              have q_25 : m_X6_sheet_ss fss v0 v1 v2 = upd fss (nC v0) v1 := by unfold m_X6_sheet_ss; rw [if_pos p_4, if_pos p_14, if_pos c_19]
              have q_26 : m_X6_sheet_sq fsq v0 v1 v2 = updN fsq (nC v0) 0 := by unfold m_X6_sheet_sq; rw [if_pos p_4, if_pos p_14, if_pos c_19]
              have q_27 : m_X6_sheet_ce fce v0 v1 v2 = ((g_X6_sheet_70 fce v0).2) := by unfold m_X6_sheet_ce; rw [if_pos p_4, if_pos p_14, if_pos c_19]
              have hz9 : gPD G A [zo6 h0 (nI pb) kd mo st (nI jg) ro tp (nI td) cd sr (nI tx) (nI ru) him ir ih ss sq ce lw s19 s20 s21 s22 wo he s25 s26 s27 sk na kp s31 s32 s33 s34 gb go fa ga s39 s40 vo, zi G ss 4 (m_X6_sheet_ss fss v0 v1 v2), zi G sq 4 (nF (m_X6_sheet_sq fsq v0 v1 v2)), zi G ce 160 (m_X6_sheet_ce fce v0 v1 v2)] H := ⟨by rw [q_25, q_26, q_27]; exact hP, by rw [q_25, q_26, q_27]; exact hD⟩
              have hP9 := hz9.1
              have hD9 := hz9.2
              have hpost : (fun (r : Int32) (u : Unit) => match u with | _ => r = m_X6_sheet v0 v1 v2) 1 () := (show m_X6_sheet v0 v1 v2 = 1 from by unfold m_X6_sheet; rw [if_pos p_4, if_pos p_14, if_pos c_19]).symm
              exact W.iret (v := 1) hx hb hr (fun t ht hW => ⟨⟨1, (), rfl, hpost, by rw [ht]; exact hP9, va_K.moved hW.alike hK, hD9⟩, hS.F ht⟩) hS.2.2 dX6_sheet_97
            · skip
              have c_24N : i70 < 40 := nI_le0 (a := 40) (b := i70) (by omega) (by omega) c_24
              refine g_aget (D := G.1) (ci := 6) (v := .ref ce) (C := RX6) (T := TX6) (N := 42) hx hb dX6_sheet_77 rfl (lv_at hl 1 rfl) hts hiX6 hown hK hP 0 rfl rfl 17 (by decide +kernel) kf43 (fun _ h9 => h9) rfl dX6_sheet_78 ?_
              refine lv_bipush (v := 40) hx hb dX6_sheet_81 (by decide +kernel) ?_
              refine lv_iload_n hx hb dX6_sheet_83 rfl (lv_at hl 2 rfl) ?_
              refine g_topi (y := nI (nC v0)) hv_6 ?_
              refine lv_imul hx hb dX6_sheet_84 ?_
              refine g_topi (y := nI (40 * (nC v0))) (pk_mul 40 (nC v0)) ?_
              refine lv_iload hx hb dX6_sheet_85 (lv_at hl 0 rfl) ?_
              refine lv_iadd hx hb dX6_sheet_87 ?_
              refine g_topi (y := nI ((40 * (nC v0)) + i70)) (nI_add (40 * (nC v0)) i70) ?_
              refine lv_iconst (v := 0) hx hb dX6_sheet_88 (by decide +kernel) ?_
              refine g_iast (D := G.1) hx hb hK hP hD hS 3 0 rfl rfl (k := (40 * (nC v0)) + i70) (x := 0) (by omega) rfl dX6_sheet_89 (fun H locs hP hD hS => ?_)
              have hz9 : gPD G A [zo6 h0 (nI pb) kd mo st (nI jg) ro tp (nI td) cd sr (nI tx) (nI ru) him ir ih ss sq ce lw s19 s20 s21 s22 wo he s25 s26 s27 sk na kp s31 s32 s33 s34 gb go fa ga s39 s40 vo, zi G ss 4 (upd fss (nC v0) v1), zi G sq 4 (nF (updN fsq (nC v0) 0)), zi G ce 160 (upd y70ce ((40 * (nC v0)) + i70) 0)] H := ⟨hP, hD⟩
              have hP := hz9.1
              have hD := hz9.2
              refine lv_iinc (v := nI (i70 + 1)) (lv' := [zI 4 (nI (i70 + 1)), zR 0 h0, zI 1 v0, zI 2 v1, zI 3 v2]) hx hb dX6_sheet_90 hl (k := 0) rfl (nI_add i70 1) (by decide +kernel) rfl (fun ls hl => ?_)
              refine lv_goto (tgt := 70) hx hb dX6_sheet_93 (by decide +kernel) ?_
              exact ih9_70 (i70 + 1) (upd y70ce ((40 * (nC v0)) + i70) 0) (by omega) (Eq.trans (Eq.symm ((congrArg (fun z9 => p_X6_sheet_70 v0 (z9) i70 y70ce) (show 40 - i70 = 40 - (i70 + 1) + 1 by omega)).trans (by show p_X6_sheet_70 v0 (40 - (i70 + 1) + 1) i70 y70ce = _; rw [p_X6_sheet_70]))) R70) (by omega) _ _ hP hD hS ls hl
        exact loop_70 (40 - 0 + 1) 0 fce (by omega) (rfl) (by omega) _ _ hP hD hS ls hl
      · skip
        refine lv_iload_n hx hb dX6_sheet_23 rfl (lv_at hl 3 rfl) ?_
        refine lv_bipush (v := 40) hx hb dX6_sheet_24 (by decide +kernel) ?_
        refine lv_icmp_le (tgt := 32) hx hb dX6_sheet_26 (by decide +kernel) (fun c_31 => ?_) (fun c_31 => ?_)
        · skip
          refine lv_iload_n hx hb dX6_sheet_32 rfl (lv_at hl 2 rfl) ?_
          refine lv_iconst (v := -1) hx hb dX6_sheet_33 (by decide +kernel) ?_
          refine lv_icmp_eq (tgt := 44) hx hb dX6_sheet_34 (by decide +kernel) (fun c_32 => ?_) (fun c_32 => ?_)
          · exact absurd c_32 (c_19)
          refine lv_iload_n hx hb dX6_sheet_37 rfl (lv_at hl 3 rfl) ?_
          refine lv_if_ge (tgt := 44) hx hb dX6_sheet_38 (by decide +kernel) (fun c_33 => ?_) (fun c_33 => ?_)
          · skip
            have hv_34 : v2 = nI (nC v2) := nC_eq c_33
            have hk_35 : nC v2 ≤ 40 := nC_le (n := 40) (by omega) ⟨c_33, c_31⟩
            have hk_36 : nC v2 < 2 ^ 31 := nC_31 _
            refine g_aget (D := G.1) (ci := 6) (v := .ref ss) (C := RX6) (T := TX6) (N := 42) hx hb dX6_sheet_44 rfl (lv_at hl 0 rfl) hts hiX6 hown hK hP 0 rfl rfl 15 (by decide +kernel) kf37 (fun _ h9 => h9) rfl dX6_sheet_45 ?_
            refine lv_iload_n hx hb dX6_sheet_48 rfl (lv_at hl 1 rfl) ?_
            refine g_topi (y := nI (nC v0)) hv_6 ?_
            refine lv_iload_n hx hb dX6_sheet_49 rfl (lv_at hl 2 rfl) ?_
            refine g_iast (D := G.1) hx hb hK hP hD hS 1 0 rfl rfl (k := nC v0) (x := v1) (by omega) rfl dX6_sheet_50 (fun H locs hP hD hS => ?_)
            have hz9 : gPD G A [zo6 h0 (nI pb) kd mo st (nI jg) ro tp (nI td) cd sr (nI tx) (nI ru) him ir ih ss sq ce lw s19 s20 s21 s22 wo he s25 s26 s27 sk na kp s31 s32 s33 s34 gb go fa ga s39 s40 vo, zi G ss 4 (upd fss (nC v0) v1), zi G sq 4 (nF fsq), zi G ce 160 fce] H := ⟨hP, hD⟩
            have hP := hz9.1
            have hD := hz9.2
            refine g_aget (D := G.1) (ci := 6) (v := .ref sq) (C := RX6) (T := TX6) (N := 42) hx hb dX6_sheet_51 rfl (lv_at hl 0 rfl) hts hiX6 hown hK hP 0 rfl rfl 16 (by decide +kernel) kf40 (fun _ h9 => h9) rfl dX6_sheet_52 ?_
            refine lv_iload_n hx hb dX6_sheet_55 rfl (lv_at hl 1 rfl) ?_
            refine g_topi (y := nI (nC v0)) hv_6 ?_
            refine lv_iload_n hx hb dX6_sheet_56 rfl (lv_at hl 2 rfl) ?_
            refine lv_iconst (v := -1) hx hb dX6_sheet_57 (by decide +kernel) ?_
            refine lv_icmp_ne (tgt := 65) hx hb dX6_sheet_58 (by decide +kernel) (fun c_39 => ?_) (fun c_39 => ?_)
            rotate_left
            · exact absurd c_39 (c_19)
            refine lv_iload_n hx hb dX6_sheet_65 rfl (lv_at hl 3 rfl) ?_
            refine g_topi (y := nI (nC v2)) hv_34 ?_
            refine va_iast (D := G.1) hx hb hK hP hD hS 2 0 rfl rfl (i := (nI (nC v0))) (x := (nI (nC v2))) (vpn (by omega) rfl) dX6_sheet_66 (fun H locs hP hD hS => ?_)
            have hz9 : gPD G A [zo6 h0 (nI pb) kd mo st (nI jg) ro tp (nI td) cd sr (nI tx) (nI ru) him ir ih ss sq ce lw s19 s20 s21 s22 wo he s25 s26 s27 sk na kp s31 s32 s33 s34 gb go fa ga s39 s40 vo, zi G ss 4 (upd fss (nC v0) v1), zi G sq 4 (nF (updN fsq (nC v0) (nC v2))), zi G ce 160 fce] H := ⟨by rw [nI_clamp (by omega), show upd (nF fsq) (nC v0) (nI (nC v2)) = nF (updN fsq (nC v0) (nC v2)) from nF_upd] at hP; exact hP, by rw [nI_clamp (by omega), show upd (nF fsq) (nC v0) (nI (nC v2)) = nF (updN fsq (nC v0) (nC v2)) from nF_upd] at hD; exact hD⟩
            have hP := hz9.1
            have hD := hz9.2
            refine lv_iconst (v := 0) hx hb dX6_sheet_67 (by decide +kernel) ?_
            refine lv_istore (lv' := [zI 4 0, zR 0 h0, zI 1 v0, zI 2 v1, zI 3 v2]) hx hb dX6_sheet_68 hl (by decide +kernel) rfl (fun ls hl => ?_)
            have loop_70 : ∀ (n9 : Nat) (i70 : Nat) (y70ce : Nat → Int32), (i70 ≤ 40) → (p_X6_sheet_70q1 v0 (40 - i70) i70 y70ce = (g_X6_sheet_70q1 fce v0)) → (40 - i70) < n9 → ∀ (H : Heap) (locs : List Loc), va_P G.1 vwCl [zo6 h0 (nI pb) kd mo st (nI jg) ro tp (nI td) cd sr (nI tx) (nI ru) him ir ih ss sq ce lw s19 s20 s21 s22 wo he s25 s26 s27 sk na kp s31 s32 s33 s34 gb go fa ga s39 s40 vo, zi G ss 4 (upd fss (nC v0) v1), zi G sq 4 (nF (updN fsq (nC v0) (nC v2))), zi G ce 160 y70ce] H → va_D A [zo6 h0 (nI pb) kd mo st (nI jg) ro tp (nI td) cd sr (nI tx) (nI ru) him ir ih ss sq ce lw s19 s20 s21 s22 wo he s25 s26 s27 sk na kp s31 s32 s33 s34 gb go fa ga s39 s40 vo, zi G ss 4 (upd fss (nC v0) v1), zi G sq 4 (nF (updN fsq (nC v0) (nC v2))), zi G ce 160 y70ce] → va_S A s.heap H locs → ∀ ls : Array Slot, lv_has ls 5 [zI 4 (nI i70), zR 0 h0, zI 1 v0, zI 2 v1, zI 3 v2] → W p l e (headSpec wsX6_sheet ({ frames := 1, cells := 0, slots := 0, locals := 22 })).room s m ([.ref h0, .int v0, .int v1, .int v2] : List Value).toArray below meth c H locs 0 0 (MQ below (q_X6_sheet G h0 kd mo st ro tp cd sr ir ih ss sq ce lw wo he sk na kp gb go fa ga vo pb jg td tx ru him s19 s20 s21 s22 s25 s26 s27 s31 s32 s33 s34 s39 s40 fss fsq fce v0 v1 v2 A) ([.ref h0, .int v0, .int v1, .int v2] : List Value).toArray s 0 0 A) (F0 m 70 ls []) := by
              intro n9
              induction n9 with
              | zero => intro i70 y70ce hi70 R70 hm9_70; exact absurd hm9_70 (Nat.not_lt_zero _)
              | succ n9 ih9_70 =>
                intro i70 y70ce hi70 R70 hm9_70 H locs hP hD hS ls hl
                refine lv_iload hx hb dX6_sheet_70 (lv_at hl 0 rfl) ?_
                refine lv_bipush (v := 40) hx hb dX6_sheet_72 (by decide +kernel) ?_
                refine lv_icmp_ge (tgt := 96) hx hb dX6_sheet_74 (by decide +kernel) (fun c_41 => ?_) (fun c_41 => ?_)
                · skip
                  have c_41N : 40 ≤ i70 := nI_le1 (a := 40) (b := i70) (by omega) (by omega) c_41
                  have hF70 : (g_X6_sheet_70q1 fce v0) = (i70, y70ce) := by rw [← R70, show 40 - i70 = 0 by omega]; rfl
                  have hE70_0 : i70 = ((g_X6_sheet_70q1 fce v0).1) := by rw [hF70]
                  have hE70_1 : y70ce = ((g_X6_sheet_70q1 fce v0).2) := by rw [hF70]
                  clear hF70 R70
                  subst hE70_0
                  subst hE70_1
                  refine lv_iconst (v := 1) hx hb dX6_sheet_96 (by decide +kernel) ?_
                  have q_42 : m_X6_sheet_ss fss v0 v1 v2 = upd fss (nC v0) v1 := by unfold m_X6_sheet_ss; rw [if_pos p_4, if_pos p_14, if_neg c_19, if_pos c_31, if_pos c_33]
                  have q_43 : m_X6_sheet_sq fsq v0 v1 v2 = updN fsq (nC v0) (nC v2) := by unfold m_X6_sheet_sq; rw [if_pos p_4, if_pos p_14, if_neg c_19, if_pos c_31, if_pos c_33]
                  have q_44 : m_X6_sheet_ce fce v0 v1 v2 = ((g_X6_sheet_70q1 fce v0).2) := by unfold m_X6_sheet_ce; rw [if_pos p_4, if_pos p_14, if_neg c_19, if_pos c_31, if_pos c_33]
                  have hz9 : gPD G A [zo6 h0 (nI pb) kd mo st (nI jg) ro tp (nI td) cd sr (nI tx) (nI ru) him ir ih ss sq ce lw s19 s20 s21 s22 wo he s25 s26 s27 sk na kp s31 s32 s33 s34 gb go fa ga s39 s40 vo, zi G ss 4 (m_X6_sheet_ss fss v0 v1 v2), zi G sq 4 (nF (m_X6_sheet_sq fsq v0 v1 v2)), zi G ce 160 (m_X6_sheet_ce fce v0 v1 v2)] H := ⟨by rw [q_42, q_43, q_44]; exact hP, by rw [q_42, q_43, q_44]; exact hD⟩
                  have hP9 := hz9.1
                  have hD9 := hz9.2
                  have hpost : (fun (r : Int32) (u : Unit) => match u with | _ => r = m_X6_sheet v0 v1 v2) 1 () := (show m_X6_sheet v0 v1 v2 = 1 from by unfold m_X6_sheet; rw [if_pos p_4, if_pos p_14, if_neg c_19, if_pos c_31, if_pos c_33]).symm
                  exact W.iret (v := 1) hx hb hr (fun t ht hW => ⟨⟨1, (), rfl, hpost, by rw [ht]; exact hP9, va_K.moved hW.alike hK, hD9⟩, hS.F ht⟩) hS.2.2 dX6_sheet_97
                · skip
                  have c_41N : i70 < 40 := nI_le0 (a := 40) (b := i70) (by omega) (by omega) c_41
                  refine g_aget (D := G.1) (ci := 6) (v := .ref ce) (C := RX6) (T := TX6) (N := 42) hx hb dX6_sheet_77 rfl (lv_at hl 1 rfl) hts hiX6 hown hK hP 0 rfl rfl 17 (by decide +kernel) kf43 (fun _ h9 => h9) rfl dX6_sheet_78 ?_
                  refine lv_bipush (v := 40) hx hb dX6_sheet_81 (by decide +kernel) ?_
                  refine lv_iload_n hx hb dX6_sheet_83 rfl (lv_at hl 2 rfl) ?_
                  refine g_topi (y := nI (nC v0)) hv_6 ?_
                  refine lv_imul hx hb dX6_sheet_84 ?_
                  refine g_topi (y := nI (40 * (nC v0))) (pk_mul 40 (nC v0)) ?_
                  refine lv_iload hx hb dX6_sheet_85 (lv_at hl 0 rfl) ?_
                  refine lv_iadd hx hb dX6_sheet_87 ?_
                  refine g_topi (y := nI ((40 * (nC v0)) + i70)) (nI_add (40 * (nC v0)) i70) ?_
                  refine lv_iconst (v := 0) hx hb dX6_sheet_88 (by decide +kernel) ?_
                  refine g_iast (D := G.1) hx hb hK hP hD hS 3 0 rfl rfl (k := (40 * (nC v0)) + i70) (x := 0) (by omega) rfl dX6_sheet_89 (fun H locs hP hD hS => ?_)
                  have hz9 : gPD G A [zo6 h0 (nI pb) kd mo st (nI jg) ro tp (nI td) cd sr (nI tx) (nI ru) him ir ih ss sq ce lw s19 s20 s21 s22 wo he s25 s26 s27 sk na kp s31 s32 s33 s34 gb go fa ga s39 s40 vo, zi G ss 4 (upd fss (nC v0) v1), zi G sq 4 (nF (updN fsq (nC v0) (nC v2))), zi G ce 160 (upd y70ce ((40 * (nC v0)) + i70) 0)] H := ⟨hP, hD⟩
                  have hP := hz9.1
                  have hD := hz9.2
                  refine lv_iinc (v := nI (i70 + 1)) (lv' := [zI 4 (nI (i70 + 1)), zR 0 h0, zI 1 v0, zI 2 v1, zI 3 v2]) hx hb dX6_sheet_90 hl (k := 0) rfl (nI_add i70 1) (by decide +kernel) rfl (fun ls hl => ?_)
                  refine lv_goto (tgt := 70) hx hb dX6_sheet_93 (by decide +kernel) ?_
                  exact ih9_70 (i70 + 1) (upd y70ce ((40 * (nC v0)) + i70) 0) (by omega) (Eq.trans (Eq.symm ((congrArg (fun z9 => p_X6_sheet_70q1 v0 (z9) i70 y70ce) (show 40 - i70 = 40 - (i70 + 1) + 1 by omega)).trans (by show p_X6_sheet_70q1 v0 (40 - (i70 + 1) + 1) i70 y70ce = _; rw [p_X6_sheet_70q1]))) R70) (by omega) _ _ hP hD hS ls hl
            exact loop_70 (40 - 0 + 1) 0 fce (by omega) (rfl) (by omega) _ _ hP hD hS ls hl
          · skip
            refine lv_bipush (v := -14) hx hb dX6_sheet_41 (by decide +kernel) ?_
            have q_48 : m_X6_sheet_ss fss v0 v1 v2 = fss := by unfold m_X6_sheet_ss; rw [if_pos p_4, if_pos p_14, if_neg c_19, if_pos c_31, if_neg c_33]
            have q_49 : m_X6_sheet_sq fsq v0 v1 v2 = fsq := by unfold m_X6_sheet_sq; rw [if_pos p_4, if_pos p_14, if_neg c_19, if_pos c_31, if_neg c_33]
            have q_50 : m_X6_sheet_ce fce v0 v1 v2 = fce := by unfold m_X6_sheet_ce; rw [if_pos p_4, if_pos p_14, if_neg c_19, if_pos c_31, if_neg c_33]
            have hz9 : gPD G A [zo6 h0 (nI pb) kd mo st (nI jg) ro tp (nI td) cd sr (nI tx) (nI ru) him ir ih ss sq ce lw s19 s20 s21 s22 wo he s25 s26 s27 sk na kp s31 s32 s33 s34 gb go fa ga s39 s40 vo, zi G ss 4 (m_X6_sheet_ss fss v0 v1 v2), zi G sq 4 (nF (m_X6_sheet_sq fsq v0 v1 v2)), zi G ce 160 (m_X6_sheet_ce fce v0 v1 v2)] H := ⟨by rw [q_48, q_49, q_50]; exact hP, by rw [q_48, q_49, q_50]; exact hD⟩
            have hP9 := hz9.1
            have hD9 := hz9.2
            have hpost : (fun (r : Int32) (u : Unit) => match u with | _ => r = m_X6_sheet v0 v1 v2) (-14) () := (show m_X6_sheet v0 v1 v2 = (-14) from by unfold m_X6_sheet; rw [if_pos p_4, if_pos p_14, if_neg c_19, if_pos c_31, if_neg c_33]).symm
            exact W.iret (v := (-14)) hx hb hr (fun t ht hW => ⟨⟨(-14), (), rfl, hpost, by rw [ht]; exact hP9, va_K.moved hW.alike hK, hD9⟩, hS.F ht⟩) hS.2.2 dX6_sheet_43
        · skip
          refine lv_bipush (v := -2) hx hb dX6_sheet_29 (by decide +kernel) ?_
          have q_51 : m_X6_sheet_ss fss v0 v1 v2 = fss := by unfold m_X6_sheet_ss; rw [if_pos p_4, if_pos p_14, if_neg c_19, if_neg c_31]
          have q_52 : m_X6_sheet_sq fsq v0 v1 v2 = fsq := by unfold m_X6_sheet_sq; rw [if_pos p_4, if_pos p_14, if_neg c_19, if_neg c_31]
          have q_53 : m_X6_sheet_ce fce v0 v1 v2 = fce := by unfold m_X6_sheet_ce; rw [if_pos p_4, if_pos p_14, if_neg c_19, if_neg c_31]
          have hz9 : gPD G A [zo6 h0 (nI pb) kd mo st (nI jg) ro tp (nI td) cd sr (nI tx) (nI ru) him ir ih ss sq ce lw s19 s20 s21 s22 wo he s25 s26 s27 sk na kp s31 s32 s33 s34 gb go fa ga s39 s40 vo, zi G ss 4 (m_X6_sheet_ss fss v0 v1 v2), zi G sq 4 (nF (m_X6_sheet_sq fsq v0 v1 v2)), zi G ce 160 (m_X6_sheet_ce fce v0 v1 v2)] H := ⟨by rw [q_51, q_52, q_53]; exact hP, by rw [q_51, q_52, q_53]; exact hD⟩
          have hP9 := hz9.1
          have hD9 := hz9.2
          have hpost : (fun (r : Int32) (u : Unit) => match u with | _ => r = m_X6_sheet v0 v1 v2) (-2) () := (show m_X6_sheet v0 v1 v2 = (-2) from by unfold m_X6_sheet; rw [if_pos p_4, if_pos p_14, if_neg c_19, if_neg c_31]).symm
          exact W.iret (v := (-2)) hx hb hr (fun t ht hW => ⟨⟨(-2), (), rfl, hpost, by rw [ht]; exact hP9, va_K.moved hW.alike hK, hD9⟩, hS.F ht⟩) hS.2.2 dX6_sheet_31
noncomputable def m_X6_cell (fss : Nat → Int32) (fsq : Nat → Nat) (v0 : Int32) (v1 : Int32) : Int32 := if 0 ≤ v0 ∧ v0 ≤ 3 then (if (fss (nC v0)) = (-1) then -11 else (if (mHas (fsq (nC v0)) v1) = true then 1 else -12)) else -2
noncomputable def m_X6_cell_ce (fss : Nat → Int32) (fsq : Nat → Nat) (fce : Nat → Int32) (v0 : Int32) (v1 : Int32) (v2 : Int32) : Nat → Int32 := if 0 ≤ v0 ∧ v0 ≤ 3 then (if (fss (nC v0)) = (-1) then fce else (if (mHas (fsq (nC v0)) v1) = true then (if (fss (nC v0)) = 0 then upd fce ((40 * (nC v0)) + (nC v1)) v2.toInt8.toInt32 else (if (fss (nC v0)) = 1 then upd fce ((40 * (nC v0)) + (nC v1)) v2.toInt16.toInt32 else upd fce ((40 * (nC v0)) + (nC v1)) v2)) else fce)) else fce
abbrev q_X6_cell (G : gG) (h0 kd mo st ro tp cd sr ir ih ss sq ce lw wo he sk na kp gb go fa ga vo : Nat) (pb : Nat) (jg : Nat) (td : Nat) (tx : Nat) (ru : Nat) (him : Int32) (s19 : Int32) (s20 : Int32) (s21 : Int32) (s22 : Int32) (s25 : Int32) (s26 : Int32) (s27 : Int32) (s31 : Int32) (s32 : Int32) (s33 : Int32) (s34 : Int32) (s39 : Int32) (s40 : Int32) (fss : Nat → Int32) (fsq : Nat → Nat) (fce : Nat → Int32) (v0 : Int32) (v1 : Int32) (v2 : Int32) (A : Nat → Prop) : Array Value → State → Outcome → State → Prop := va_Qi (fun (r : Int32) (u : Unit) => match u with | _ => r = m_X6_cell fss fsq v0 v1) (fun (u : Unit) t => match u with | _ => va_P G.1 vwCl [zo6 h0 (nI pb) kd mo st (nI jg) ro tp (nI td) cd sr (nI tx) (nI ru) him ir ih ss sq ce lw s19 s20 s21 s22 wo he s25 s26 s27 sk na kp s31 s32 s33 s34 gb go fa ga s39 s40 vo, zi G ss 4 fss, zi G sq 4 (nF fsq), zi G ce 160 (m_X6_cell_ce fss fsq fce v0 v1 v2)] t.heap ∧ gK G t ∧ va_D A [zo6 h0 (nI pb) kd mo st (nI jg) ro tp (nI td) cd sr (nI tx) (nI ru) him ir ih ss sq ce lw s19 s20 s21 s22 wo he s25 s26 s27 sk na kp s31 s32 s33 s34 gb go fa ga s39 s40 vo, zi G ss 4 fss, zi G sq 4 (nF fsq), zi G ce 160 (m_X6_cell_ce fss fsq fce v0 v1 v2)]) A
set_option maxHeartbeats 4000000 in
set_option maxRecDepth 100000 in
theorem c_X6_cell (l : Launch) (G : gG) (h0 kd mo st ro tp cd sr ir ih ss sq ce lw wo he sk na kp gb go fa ga vo : Nat) (pb : Nat) (jg : Nat) (td : Nat) (tx : Nat) (ru : Nat) (him : Int32) (s19 : Int32) (s20 : Int32) (s21 : Int32) (s22 : Int32) (s25 : Int32) (s26 : Int32) (s27 : Int32) (s31 : Int32) (s32 : Int32) (s33 : Int32) (s34 : Int32) (s39 : Int32) (s40 : Int32) (fss : Nat → Int32) (fsq : Nat → Nat) (fce : Nat → Int32) (v0 : Int32) (v1 : Int32) (v2 : Int32) (sz : Nat) (hsq : ∀ q9, q9 < 4 → fsq q9 ≤ 40) (hpb : pb ≤ 6) (hjg : jg ≤ 4) (htx : tx ≤ 6) (hru : ru < tx) : Met l yX6_cell wsX6_cell ({ frames := 1, cells := 0, slots := 0, locals := 22 }) (gPre G [.ref h0, .int v0, .int v1, .int v2] [zo6 h0 (nI pb) kd mo st (nI jg) ro tp (nI td) cd sr (nI tx) (nI ru) him ir ih ss sq ce lw s19 s20 s21 s22 wo he s25 s26 s27 sk na kp s31 s32 s33 s34 gb go fa ga s39 s40 vo, zi G ss 4 fss, zi G sq 4 (nF fsq), zi G ce 160 fce] sz) (q_X6_cell G h0 kd mo st ro tp cd sr ir ih ss sq ce lw wo he sk na kp gb go fa ga vo pb jg td tx ru him s19 s20 s21 s22 s25 s26 s27 s31 s32 s33 s34 s39 s40 fss fsq fce v0 v1 v2 (va_A [zo6 h0 (nI pb) kd mo st (nI jg) ro tp (nI td) cd sr (nI tx) (nI ru) him ir ih ss sq ce lw s19 s20 s21 s22 wo he s25 s26 s27 sk na kp s31 s32 s33 s34 gb go fa ga s39 s40 vo, zi G ss 4 fss, zi G sq 4 (nF fsq), zi G ce 160 fce] sz)) 0 0 (va_A [zo6 h0 (nI pb) kd mo st (nI jg) ro tp (nI td) cd sr (nI tx) (nI ru) him ir ih ss sq ce lw s19 s20 s21 s22 wo he s25 s26 s27 sk na kp s31 s32 s33 s34 gb go fa ga s39 s40 vo, zi G ss 4 fss, zi G sq 4 (nF fsq), zi G ce 160 fce] sz) := by
  refine Met.ofW (cc := cX6_cell) (maxL := 4) (ret := (some .int)) (by decide +kernel) rfl ?_
  intro p e s m args below meth c s₁ B hml hv
  obtain ⟨rfl, hsz, hP, hK, hD0⟩ := hv
  have hx := B.exec
  have hb := B.bytes
  have hr := B.returns
  have hts := atoms_spec (ws := wsX6_cell) B.pre
  have hown : s.vm.findClass RX6 = some m.cls := findClass_of_methodNamed B.named
  have hlocks := B.notSynchronized
  subst hsz
  have hD := hD0.self (sz := s.heap.size)
  generalize hAe : va_A [zo6 h0 (nI pb) kd mo st (nI jg) ro tp (nI td) cd sr (nI tx) (nI ru) him ir ih ss sq ce lw s19 s20 s21 s22 wo he s25 s26 s27 sk na kp s31 s32 s33 s34 gb go fa ga s39 s40 vo, zi G ss 4 fss, zi G sq 4 (nF fsq), zi G ce 160 fce] s.heap.size = A at hD ⊢
  have hA : ∀ q : Nat, s.heap.size ≤ q → A q := fun q h => by rw [← hAe]; exact Or.inr h
  have hS : va_S A s.heap s.heap [] := va_S.rf
  have hz9 : gPD G A [zo6 h0 (nI pb) kd mo st (nI jg) ro tp (nI td) cd sr (nI tx) (nI ru) him ir ih ss sq ce lw s19 s20 s21 s22 wo he s25 s26 s27 sk na kp s31 s32 s33 s34 gb go fa ga s39 s40 vo, zi G ss 4 fss, zi G sq 4 (nF fsq), zi G ce 160 fce] s.heap := ⟨hP, hD⟩
  have hP := hz9.1
  have hD := hz9.2
  have hl := lv_entry ([.ref h0, .int v0, .int v1, .int v2]) (n := 4) (Nat.le_of_ble_eq_true rfl)
  rw [lg_entry_eq]
  generalize (lg_sl ([.ref h0, .int v0, .int v1, .int v2]) ++ List.replicate (4 - (lg_sl ([.ref h0, .int v0, .int v1, .int v2])).length) Slot.unset).toArray = ls at hl ⊢
  have hl : lv_has ls 4 [zR 0 h0, zI 1 v0, zI 2 v1, zI 3 v2] := hl
  have kf37 := hts (.fieldLink RX6 37 "PebbleInShoeModel" "sheetSort" "[I") (by decide +kernel)
  have hiX6 := (by decide +kernel : ∀ w ∈ wsX60, w ∈ wsX6_cell)
  have kf40 := hts (.fieldLink RX6 40 "PebbleInShoeModel" "sheetSize" "[I") (by decide +kernel)
  have kf43 := hts (.fieldLink RX6 43 "PebbleInShoeModel" "cells" "[I") (by decide +kernel)
  refine lv_iload_n hx hb dX6_cell_0 rfl (lv_at hl 1 rfl) ?_
  refine lv_iconst (v := 0) hx hb dX6_cell_1 (by decide +kernel) ?_
  refine lv_iconst (v := 3) hx hb dX6_cell_2 (by decide +kernel) ?_
  refine z_calli [] (v := bz (decide (0 ≤ v0 ∧ v0 ≤ 3))) (fun _ _ h => h) (va_runS (As := [.int v0, .int 0, .int 3]) (rest := []) ⟨hx, hb, hml, hown, hts⟩ (c_X6_in l G v0 0 3 s.heap.size) (va_cwS 3 hts gX6_cell_X6_in rfl rfl rfl (by decide +kernel) ⟨Nat.le_of_ble_eq_true rfl, Nat.le_of_ble_eq_true rfl⟩) ⟨gPre_blind, fun U hU hW => gPre_ofF [] hU hW hK hP hD (by decide +kernel) rfl⟩ rfl rfl hl.1 rfl (lv_room (Nat.le_of_ble_eq_true rfl)) dX6_cell_3 ⟨Nat.le_of_ble_eq_true rfl, Nat.le_of_ble_eq_true rfl⟩) hS hD hA rfl (fun u t H locs ht hvm hB hz1 hk1 hFq hAq hS => ?_)
  obtain ⟨hP1, hK1, hD1⟩ := hB
  have hP := zKeep hP hD [] hAq hk1 ht hP1 rfl
  refine lv_if_ne (tgt := 12) hx hb dX6_cell_6 (by decide +kernel) (fun c_3 => ?_) (fun c_3 => ?_)
  · skip
    have p_4 : 0 ≤ v0 ∧ v0 ≤ 3 := of_decide_eq_true (bz_ne rfl c_3)
    have hv_6 : v0 = nI (nC v0) := nC_eq p_4.1
    have hk_7 : nC v0 ≤ 3 := nC_le (n := 3) (by omega) p_4
    refine g_aget (D := G.1) (ci := 6) (v := .ref ss) (C := RX6) (T := TX6) (N := 42) hx hb dX6_cell_12 rfl (lv_at hl 0 rfl) hts hiX6 hown hK hP 0 rfl rfl 15 (by decide +kernel) kf37 (fun _ h9 => h9) rfl dX6_cell_13 ?_
    refine lv_iload_n hx hb dX6_cell_16 rfl (lv_at hl 1 rfl) ?_
    refine g_topi (y := nI (nC v0)) hv_6 ?_
    refine g_iald (D := G.1) hx hb hK hP 1 0 rfl rfl (k := nC v0) (y := fss (nC v0)) (by omega) rfl rfl dX6_cell_17 ?_
    refine lv_iconst (v := -1) hx hb dX6_cell_18 (by decide +kernel) ?_
    refine lv_icmp_ne (tgt := 25) hx hb dX6_cell_19 (by decide +kernel) (fun c_10 => ?_) (fun c_10 => ?_)
    · skip
      have hs4 := hsq (nC v0) (by omega)
      refine lv_iload_n hx hb dX6_cell_25 rfl (lv_at hl 2 rfl) ?_
      refine lv_iconst (v := 0) hx hb dX6_cell_26 (by decide +kernel) ?_
      refine g_aget (D := G.1) (ci := 6) (v := .ref sq) (C := RX6) (T := TX6) (N := 42) hx hb dX6_cell_27 rfl (lv_at hl 0 rfl) hts hiX6 hown hK hP 0 rfl rfl 16 (by decide +kernel) kf40 (fun _ h9 => h9) rfl dX6_cell_28 ?_
      refine lv_iload_n hx hb dX6_cell_31 rfl (lv_at hl 1 rfl) ?_
      refine g_topi (y := nI (nC v0)) hv_6 ?_
      refine va_iald (D := G.1) hx hb hK hP 2 0 rfl rfl (i := (nI (nC v0))) (vpn (by omega) rfl) dX6_cell_32 ?_
      refine g_topi (y := nI (fsq (nC v0))) (nF_at (by omega)) ?_
      refine lv_iconst (v := 1) hx hb dX6_cell_33 (by decide +kernel) ?_
      refine lv_isub hx hb dX6_cell_34 ?_
      refine z_callp [] (va_runS (As := [.int v1, .int 0, .int ((nI (fsq (nC v0))) - 1)]) (rest := []) ⟨hx, hb, hml, hown, hts⟩ (c_X6_in l G v1 0 ((nI (fsq (nC v0))) - 1) H.size) (va_cwS 3 hts gX6_cell_X6_in rfl rfl rfl (by decide +kernel) ⟨Nat.le_of_ble_eq_true rfl, Nat.le_of_ble_eq_true rfl⟩) ⟨gPre_blind, fun U hU hW => gPre_ofF [] hU hW hK hP hD (by decide +kernel) rfl⟩ rfl rfl hl.1 rfl (lv_room (Nat.le_of_ble_eq_true rfl)) dX6_cell_35 ⟨Nat.le_of_ble_eq_true rfl, Nat.le_of_ble_eq_true rfl⟩) hS hD hA rfl (fun r_13 u t H locs ht hvm w_14 hB hz1 hk1 hFq hAq hS => ?_)
      obtain ⟨hP1, hK1, hD1⟩ := hB
      have w_14 : r_13 = bz (decide (0 ≤ v1 ∧ v1 ≤ ((nI (fsq (nC v0))) - 1))) := w_14
      have hP := zKeep hP hD [] hAq hk1 ht hP1 rfl
      have w_14 : r_13 = bz (mHas (fsq (nC v0)) v1) := w_14.trans (by rw [mHas_sub (by omega)])
      subst w_14
      refine lv_if_ne (tgt := 44) hx hb dX6_cell_38 (by decide +kernel) (fun c_15 => ?_) (fun c_15 => ?_)
      · skip
        have p_16 : (mHas (fsq (nC v0)) v1) = true := bz_ne rfl c_15
        have hv_18 : v1 = nI (nC v1) := mHas_eq p_16
        have hk_19 : nC v1 < (fsq (nC v0)) := mHas_lt (by omega) p_16
        refine g_aget (D := G.1) (ci := 6) (v := .ref ce) (C := RX6) (T := TX6) (N := 42) hx hb dX6_cell_44 rfl (lv_at hl 0 rfl) hts hiX6 hown hK hP 0 rfl rfl 17 (by decide +kernel) kf43 (fun _ h9 => h9) rfl dX6_cell_45 ?_
        refine lv_bipush (v := 40) hx hb dX6_cell_48 (by decide +kernel) ?_
        refine lv_iload_n hx hb dX6_cell_50 rfl (lv_at hl 1 rfl) ?_
        refine g_topi (y := nI (nC v0)) hv_6 ?_
        refine lv_imul hx hb dX6_cell_51 ?_
        refine g_topi (y := nI (40 * (nC v0))) (pk_mul 40 (nC v0)) ?_
        refine lv_iload_n hx hb dX6_cell_52 rfl (lv_at hl 2 rfl) ?_
        refine g_topi (y := nI (nC v1)) hv_18 ?_
        refine lv_iadd hx hb dX6_cell_53 ?_
        refine g_topi (y := nI ((40 * (nC v0)) + (nC v1))) (nI_add (40 * (nC v0)) (nC v1)) ?_
        refine g_aget (D := G.1) (ci := 6) (v := .ref ss) (C := RX6) (T := TX6) (N := 42) hx hb dX6_cell_54 rfl (lv_at hl 0 rfl) hts hiX6 hown hK hP 0 rfl rfl 15 (by decide +kernel) kf37 (fun _ h9 => h9) rfl dX6_cell_55 ?_
        refine lv_iload_n hx hb dX6_cell_58 rfl (lv_at hl 1 rfl) ?_
        refine g_topi (y := nI (nC v0)) hv_6 ?_
        refine g_iald (D := G.1) hx hb hK hP 1 0 rfl rfl (k := nC v0) (y := fss (nC v0)) (by omega) rfl rfl dX6_cell_59 ?_
        refine lv_if_ne (tgt := 68) hx hb dX6_cell_60 (by decide +kernel) (fun c_26 => ?_) (fun c_26 => ?_)
        · skip
          refine g_aget (D := G.1) (ci := 6) (v := .ref ss) (C := RX6) (T := TX6) (N := 42) hx hb dX6_cell_68 rfl (lv_at hl 0 rfl) hts hiX6 hown hK hP 0 rfl rfl 15 (by decide +kernel) kf37 (fun _ h9 => h9) rfl dX6_cell_69 ?_
          refine lv_iload_n hx hb dX6_cell_72 rfl (lv_at hl 1 rfl) ?_
          refine g_topi (y := nI (nC v0)) hv_6 ?_
          refine g_iald (D := G.1) hx hb hK hP 1 0 rfl rfl (k := nC v0) (y := fss (nC v0)) (by omega) rfl rfl dX6_cell_73 ?_
          refine lv_iconst (v := 1) hx hb dX6_cell_74 (by decide +kernel) ?_
          refine lv_icmp_ne (tgt := 83) hx hb dX6_cell_75 (by decide +kernel) (fun c_29 => ?_) (fun c_29 => ?_)
          · skip
            refine lv_iload_n hx hb dX6_cell_83 rfl (lv_at hl 3 rfl) ?_
            refine g_iast (D := G.1) hx hb hK hP hD hS 3 0 rfl rfl (k := (40 * (nC v0)) + (nC v1)) (x := v2) (by omega) rfl dX6_cell_84 (fun H locs hP hD hS => ?_)
            have hz9 : gPD G A [zo6 h0 (nI pb) kd mo st (nI jg) ro tp (nI td) cd sr (nI tx) (nI ru) him ir ih ss sq ce lw s19 s20 s21 s22 wo he s25 s26 s27 sk na kp s31 s32 s33 s34 gb go fa ga s39 s40 vo, zi G ss 4 fss, zi G sq 4 (nF fsq), zi G ce 160 (upd fce ((40 * (nC v0)) + (nC v1)) v2)] H := ⟨hP, hD⟩
            have hP := hz9.1
            have hD := hz9.2
            refine lv_iconst (v := 1) hx hb dX6_cell_85 (by decide +kernel) ?_
            have q_30 : m_X6_cell_ce fss fsq fce v0 v1 v2 = upd fce ((40 * (nC v0)) + (nC v1)) v2 := by unfold m_X6_cell_ce; rw [if_pos p_4, if_neg c_10, if_pos p_16, if_neg c_26, if_neg c_29]
            have hz9 : gPD G A [zo6 h0 (nI pb) kd mo st (nI jg) ro tp (nI td) cd sr (nI tx) (nI ru) him ir ih ss sq ce lw s19 s20 s21 s22 wo he s25 s26 s27 sk na kp s31 s32 s33 s34 gb go fa ga s39 s40 vo, zi G ss 4 fss, zi G sq 4 (nF fsq), zi G ce 160 (m_X6_cell_ce fss fsq fce v0 v1 v2)] H := ⟨by rw [q_30]; exact hP, by rw [q_30]; exact hD⟩
            have hP9 := hz9.1
            have hD9 := hz9.2
            have hpost : (fun (r : Int32) (u : Unit) => match u with | _ => r = m_X6_cell fss fsq v0 v1) 1 () := (show m_X6_cell fss fsq v0 v1 = 1 from by unfold m_X6_cell; rw [if_pos p_4, if_neg c_10, if_pos p_16]).symm
            exact W.iret (v := 1) hx hb hr (fun t ht hW => ⟨⟨1, (), rfl, hpost, by rw [ht]; exact hP9, va_K.moved hW.alike hK, hD9⟩, hS.F ht⟩) hS.2.2 dX6_cell_86
          · skip
            refine lv_iload_n hx hb dX6_cell_78 rfl (lv_at hl 3 rfl) ?_
            refine lv_i2s (v := v2.toInt16.toInt32) hx hb dX6_cell_79 rfl ?_
            refine lv_goto (tgt := 84) hx hb dX6_cell_80 (by decide +kernel) ?_
            refine g_iast (D := G.1) hx hb hK hP hD hS 3 0 rfl rfl (k := (40 * (nC v0)) + (nC v1)) (x := v2.toInt16.toInt32) (by omega) rfl dX6_cell_84 (fun H locs hP hD hS => ?_)
            have hz9 : gPD G A [zo6 h0 (nI pb) kd mo st (nI jg) ro tp (nI td) cd sr (nI tx) (nI ru) him ir ih ss sq ce lw s19 s20 s21 s22 wo he s25 s26 s27 sk na kp s31 s32 s33 s34 gb go fa ga s39 s40 vo, zi G ss 4 fss, zi G sq 4 (nF fsq), zi G ce 160 (upd fce ((40 * (nC v0)) + (nC v1)) v2.toInt16.toInt32)] H := ⟨hP, hD⟩
            have hP := hz9.1
            have hD := hz9.2
            refine lv_iconst (v := 1) hx hb dX6_cell_85 (by decide +kernel) ?_
            have q_31 : m_X6_cell_ce fss fsq fce v0 v1 v2 = upd fce ((40 * (nC v0)) + (nC v1)) v2.toInt16.toInt32 := by unfold m_X6_cell_ce; rw [if_pos p_4, if_neg c_10, if_pos p_16, if_neg c_26, if_pos c_29]
            have hz9 : gPD G A [zo6 h0 (nI pb) kd mo st (nI jg) ro tp (nI td) cd sr (nI tx) (nI ru) him ir ih ss sq ce lw s19 s20 s21 s22 wo he s25 s26 s27 sk na kp s31 s32 s33 s34 gb go fa ga s39 s40 vo, zi G ss 4 fss, zi G sq 4 (nF fsq), zi G ce 160 (m_X6_cell_ce fss fsq fce v0 v1 v2)] H := ⟨by rw [q_31]; exact hP, by rw [q_31]; exact hD⟩
            have hP9 := hz9.1
            have hD9 := hz9.2
            have hpost : (fun (r : Int32) (u : Unit) => match u with | _ => r = m_X6_cell fss fsq v0 v1) 1 () := (show m_X6_cell fss fsq v0 v1 = 1 from by unfold m_X6_cell; rw [if_pos p_4, if_neg c_10, if_pos p_16]).symm
            exact W.iret (v := 1) hx hb hr (fun t ht hW => ⟨⟨1, (), rfl, hpost, by rw [ht]; exact hP9, va_K.moved hW.alike hK, hD9⟩, hS.F ht⟩) hS.2.2 dX6_cell_86
        · skip
          refine lv_iload_n hx hb dX6_cell_63 rfl (lv_at hl 3 rfl) ?_
          refine lv_i2b (v := v2.toInt8.toInt32) hx hb dX6_cell_64 rfl ?_
          refine lv_goto (tgt := 84) hx hb dX6_cell_65 (by decide +kernel) ?_
          refine g_iast (D := G.1) hx hb hK hP hD hS 3 0 rfl rfl (k := (40 * (nC v0)) + (nC v1)) (x := v2.toInt8.toInt32) (by omega) rfl dX6_cell_84 (fun H locs hP hD hS => ?_)
          have hz9 : gPD G A [zo6 h0 (nI pb) kd mo st (nI jg) ro tp (nI td) cd sr (nI tx) (nI ru) him ir ih ss sq ce lw s19 s20 s21 s22 wo he s25 s26 s27 sk na kp s31 s32 s33 s34 gb go fa ga s39 s40 vo, zi G ss 4 fss, zi G sq 4 (nF fsq), zi G ce 160 (upd fce ((40 * (nC v0)) + (nC v1)) v2.toInt8.toInt32)] H := ⟨hP, hD⟩
          have hP := hz9.1
          have hD := hz9.2
          refine lv_iconst (v := 1) hx hb dX6_cell_85 (by decide +kernel) ?_
          have q_32 : m_X6_cell_ce fss fsq fce v0 v1 v2 = upd fce ((40 * (nC v0)) + (nC v1)) v2.toInt8.toInt32 := by unfold m_X6_cell_ce; rw [if_pos p_4, if_neg c_10, if_pos p_16, if_pos c_26]
          have hz9 : gPD G A [zo6 h0 (nI pb) kd mo st (nI jg) ro tp (nI td) cd sr (nI tx) (nI ru) him ir ih ss sq ce lw s19 s20 s21 s22 wo he s25 s26 s27 sk na kp s31 s32 s33 s34 gb go fa ga s39 s40 vo, zi G ss 4 fss, zi G sq 4 (nF fsq), zi G ce 160 (m_X6_cell_ce fss fsq fce v0 v1 v2)] H := ⟨by rw [q_32]; exact hP, by rw [q_32]; exact hD⟩
          have hP9 := hz9.1
          have hD9 := hz9.2
          have hpost : (fun (r : Int32) (u : Unit) => match u with | _ => r = m_X6_cell fss fsq v0 v1) 1 () := (show m_X6_cell fss fsq v0 v1 = 1 from by unfold m_X6_cell; rw [if_pos p_4, if_neg c_10, if_pos p_16]).symm
          exact W.iret (v := 1) hx hb hr (fun t ht hW => ⟨⟨1, (), rfl, hpost, by rw [ht]; exact hP9, va_K.moved hW.alike hK, hD9⟩, hS.F ht⟩) hS.2.2 dX6_cell_86
      · skip
        have n_17 : (mHas (fsq (nC v0)) v1) = false := bz_eq rfl c_15
        have n_17N : ¬ ((mHas (fsq (nC v0)) v1) = true) := by rw [n_17]; decide
        refine lv_bipush (v := -12) hx hb dX6_cell_41 (by decide +kernel) ?_
        have q_33 : m_X6_cell_ce fss fsq fce v0 v1 v2 = fce := by unfold m_X6_cell_ce; rw [if_pos p_4, if_neg c_10, if_neg n_17N]
        have hz9 : gPD G A [zo6 h0 (nI pb) kd mo st (nI jg) ro tp (nI td) cd sr (nI tx) (nI ru) him ir ih ss sq ce lw s19 s20 s21 s22 wo he s25 s26 s27 sk na kp s31 s32 s33 s34 gb go fa ga s39 s40 vo, zi G ss 4 fss, zi G sq 4 (nF fsq), zi G ce 160 (m_X6_cell_ce fss fsq fce v0 v1 v2)] H := ⟨by rw [q_33]; exact hP, by rw [q_33]; exact hD⟩
        have hP9 := hz9.1
        have hD9 := hz9.2
        have hpost : (fun (r : Int32) (u : Unit) => match u with | _ => r = m_X6_cell fss fsq v0 v1) (-12) () := (show m_X6_cell fss fsq v0 v1 = (-12) from by unfold m_X6_cell; rw [if_pos p_4, if_neg c_10, if_neg n_17N]).symm
        exact W.iret (v := (-12)) hx hb hr (fun t ht hW => ⟨⟨(-12), (), rfl, hpost, by rw [ht]; exact hP9, va_K.moved hW.alike hK, hD9⟩, hS.F ht⟩) hS.2.2 dX6_cell_43
    · skip
      refine lv_bipush (v := -11) hx hb dX6_cell_22 (by decide +kernel) ?_
      have q_34 : m_X6_cell_ce fss fsq fce v0 v1 v2 = fce := by unfold m_X6_cell_ce; rw [if_pos p_4, if_pos c_10]
      have hz9 : gPD G A [zo6 h0 (nI pb) kd mo st (nI jg) ro tp (nI td) cd sr (nI tx) (nI ru) him ir ih ss sq ce lw s19 s20 s21 s22 wo he s25 s26 s27 sk na kp s31 s32 s33 s34 gb go fa ga s39 s40 vo, zi G ss 4 fss, zi G sq 4 (nF fsq), zi G ce 160 (m_X6_cell_ce fss fsq fce v0 v1 v2)] H := ⟨by rw [q_34]; exact hP, by rw [q_34]; exact hD⟩
      have hP9 := hz9.1
      have hD9 := hz9.2
      have hpost : (fun (r : Int32) (u : Unit) => match u with | _ => r = m_X6_cell fss fsq v0 v1) (-11) () := (show m_X6_cell fss fsq v0 v1 = (-11) from by unfold m_X6_cell; rw [if_pos p_4, if_pos c_10]).symm
      exact W.iret (v := (-11)) hx hb hr (fun t ht hW => ⟨⟨(-11), (), rfl, hpost, by rw [ht]; exact hP9, va_K.moved hW.alike hK, hD9⟩, hS.F ht⟩) hS.2.2 dX6_cell_24
  · skip
    have n_5 : ¬ (0 ≤ v0 ∧ v0 ≤ 3) := of_decide_eq_false (bz_eq rfl c_3)
    refine lv_bipush (v := -2) hx hb dX6_cell_9 (by decide +kernel) ?_
    have q_35 : m_X6_cell_ce fss fsq fce v0 v1 v2 = fce := by unfold m_X6_cell_ce; rw [if_neg n_5]
    have hz9 : gPD G A [zo6 h0 (nI pb) kd mo st (nI jg) ro tp (nI td) cd sr (nI tx) (nI ru) him ir ih ss sq ce lw s19 s20 s21 s22 wo he s25 s26 s27 sk na kp s31 s32 s33 s34 gb go fa ga s39 s40 vo, zi G ss 4 fss, zi G sq 4 (nF fsq), zi G ce 160 (m_X6_cell_ce fss fsq fce v0 v1 v2)] H := ⟨by rw [q_35]; exact hP, by rw [q_35]; exact hD⟩
    have hP9 := hz9.1
    have hD9 := hz9.2
    have hpost : (fun (r : Int32) (u : Unit) => match u with | _ => r = m_X6_cell fss fsq v0 v1) (-2) () := (show m_X6_cell fss fsq v0 v1 = (-2) from by unfold m_X6_cell; rw [if_neg n_5]).symm
    exact W.iret (v := (-2)) hx hb hr (fun t ht hW => ⟨⟨(-2), (), rfl, hpost, by rw [ht]; exact hP9, va_K.moved hW.alike hK, hD9⟩, hS.F ht⟩) hS.2.2 dX6_cell_11
noncomputable def p_X6_copy_147 (v0 : Int32) (v1 : Int32) (v2 : Int32) (v3 : Int32) (v4 : Int32) : Nat → Nat → (Nat → Int32) → Nat × (Nat → Int32)
  | 0, k147, y147ce => (k147, y147ce)
  | q9 + 1, k147, y147ce => if (nI ((40 * (nC v2)) + (nC v3))) ≤ (nI ((40 * (nC v0)) + (nC v1))) then p_X6_copy_147 v0 v1 v2 v3 v4 q9 (k147 + 1) (upd y147ce (((40 * (nC v2)) + (nC v3)) + k147) (y147ce (((40 * (nC v0)) + (nC v1)) + k147))) else p_X6_copy_147 v0 v1 v2 v3 v4 q9 (k147 + 1) (upd y147ce (((40 * (nC v2)) + (nC v3)) + (((nC v4) - 1) - k147)) (y147ce (((40 * (nC v0)) + (nC v1)) + (((nC v4) - 1) - k147))))
noncomputable def g_X6_copy_147 (fce : Nat → Int32) (v0 : Int32) (v1 : Int32) (v2 : Int32) (v3 : Int32) (v4 : Int32) : Nat × (Nat → Int32) := p_X6_copy_147 v0 v1 v2 v3 v4 (nC v4 - 0) 0 fce
noncomputable def m_X6_copy (fss : Nat → Int32) (fsq : Nat → Nat) (v0 : Int32) (v1 : Int32) (v2 : Int32) (v3 : Int32) (v4 : Int32) : Int32 := if 0 ≤ v0 ∧ v0 ≤ 3 then (if 0 ≤ v2 ∧ v2 ≤ 3 then (if (fss (nC v0)) = (-1) then -11 else (if (fss (nC v2)) = (-1) then -11 else (if (fss (nC v0)) = (fss (nC v2)) then (if v4 < 0 then -12 else (if v1 < 0 then -12 else (if v3 < 0 then -12 else (if (nI (fsq (nC v0))) < (nI (nC v1)) then -12 else (if (nI (fsq (nC v2))) < (nI (nC v3)) then -12 else (if (nI ((fsq (nC v0)) - (nC v1))) < (nI (nC v4)) then -12 else (if (nI (nC v4)) ≤ (nI ((fsq (nC v2)) - (nC v3))) then nI (nC v4) else -12))))))) else -13))) else -2) else -2
noncomputable def m_X6_copy_ce (fss : Nat → Int32) (fsq : Nat → Nat) (fce : Nat → Int32) (v0 : Int32) (v1 : Int32) (v2 : Int32) (v3 : Int32) (v4 : Int32) : Nat → Int32 := if 0 ≤ v0 ∧ v0 ≤ 3 then (if 0 ≤ v2 ∧ v2 ≤ 3 then (if (fss (nC v0)) = (-1) then fce else (if (fss (nC v2)) = (-1) then fce else (if (fss (nC v0)) = (fss (nC v2)) then (if v4 < 0 then fce else (if v1 < 0 then fce else (if v3 < 0 then fce else (if (nI (fsq (nC v0))) < (nI (nC v1)) then fce else (if (nI (fsq (nC v2))) < (nI (nC v3)) then fce else (if (nI ((fsq (nC v0)) - (nC v1))) < (nI (nC v4)) then fce else (if (nI (nC v4)) ≤ (nI ((fsq (nC v2)) - (nC v3))) then ((g_X6_copy_147 fce v0 v1 v2 v3 v4).2) else fce))))))) else fce))) else fce) else fce
abbrev q_X6_copy (G : gG) (h0 kd mo st ro tp cd sr ir ih ss sq ce lw wo he sk na kp gb go fa ga vo : Nat) (pb : Nat) (jg : Nat) (td : Nat) (tx : Nat) (ru : Nat) (him : Int32) (s19 : Int32) (s20 : Int32) (s21 : Int32) (s22 : Int32) (s25 : Int32) (s26 : Int32) (s27 : Int32) (s31 : Int32) (s32 : Int32) (s33 : Int32) (s34 : Int32) (s39 : Int32) (s40 : Int32) (fss : Nat → Int32) (fsq : Nat → Nat) (fce : Nat → Int32) (v0 : Int32) (v1 : Int32) (v2 : Int32) (v3 : Int32) (v4 : Int32) (A : Nat → Prop) : Array Value → State → Outcome → State → Prop := va_Qi (fun (r : Int32) (u : Unit) => match u with | _ => r = m_X6_copy fss fsq v0 v1 v2 v3 v4) (fun (u : Unit) t => match u with | _ => va_P G.1 vwCl [zo6 h0 (nI pb) kd mo st (nI jg) ro tp (nI td) cd sr (nI tx) (nI ru) him ir ih ss sq ce lw s19 s20 s21 s22 wo he s25 s26 s27 sk na kp s31 s32 s33 s34 gb go fa ga s39 s40 vo, zi G ss 4 fss, zi G sq 4 (nF fsq), zi G ce 160 (m_X6_copy_ce fss fsq fce v0 v1 v2 v3 v4)] t.heap ∧ gK G t ∧ va_D A [zo6 h0 (nI pb) kd mo st (nI jg) ro tp (nI td) cd sr (nI tx) (nI ru) him ir ih ss sq ce lw s19 s20 s21 s22 wo he s25 s26 s27 sk na kp s31 s32 s33 s34 gb go fa ga s39 s40 vo, zi G ss 4 fss, zi G sq 4 (nF fsq), zi G ce 160 (m_X6_copy_ce fss fsq fce v0 v1 v2 v3 v4)]) A
set_option maxHeartbeats 4000000 in
set_option maxRecDepth 100000 in
theorem c_X6_copy (l : Launch) (G : gG) (h0 kd mo st ro tp cd sr ir ih ss sq ce lw wo he sk na kp gb go fa ga vo : Nat) (pb : Nat) (jg : Nat) (td : Nat) (tx : Nat) (ru : Nat) (him : Int32) (s19 : Int32) (s20 : Int32) (s21 : Int32) (s22 : Int32) (s25 : Int32) (s26 : Int32) (s27 : Int32) (s31 : Int32) (s32 : Int32) (s33 : Int32) (s34 : Int32) (s39 : Int32) (s40 : Int32) (fss : Nat → Int32) (fsq : Nat → Nat) (fce : Nat → Int32) (v0 : Int32) (v1 : Int32) (v2 : Int32) (v3 : Int32) (v4 : Int32) (sz : Nat) (hsq : ∀ q9, q9 < 4 → fsq q9 ≤ 40) (hpb : pb ≤ 6) (hjg : jg ≤ 4) (htx : tx ≤ 6) (hru : ru < tx) : Met l yX6_copy wsX6_copy ({ frames := 1, cells := 0, slots := 0, locals := 22 }) (gPre G [.ref h0, .int v0, .int v1, .int v2, .int v3, .int v4] [zo6 h0 (nI pb) kd mo st (nI jg) ro tp (nI td) cd sr (nI tx) (nI ru) him ir ih ss sq ce lw s19 s20 s21 s22 wo he s25 s26 s27 sk na kp s31 s32 s33 s34 gb go fa ga s39 s40 vo, zi G ss 4 fss, zi G sq 4 (nF fsq), zi G ce 160 fce] sz) (q_X6_copy G h0 kd mo st ro tp cd sr ir ih ss sq ce lw wo he sk na kp gb go fa ga vo pb jg td tx ru him s19 s20 s21 s22 s25 s26 s27 s31 s32 s33 s34 s39 s40 fss fsq fce v0 v1 v2 v3 v4 (va_A [zo6 h0 (nI pb) kd mo st (nI jg) ro tp (nI td) cd sr (nI tx) (nI ru) him ir ih ss sq ce lw s19 s20 s21 s22 wo he s25 s26 s27 sk na kp s31 s32 s33 s34 gb go fa ga s39 s40 vo, zi G ss 4 fss, zi G sq 4 (nF fsq), zi G ce 160 fce] sz)) 0 0 (va_A [zo6 h0 (nI pb) kd mo st (nI jg) ro tp (nI td) cd sr (nI tx) (nI ru) him ir ih ss sq ce lw s19 s20 s21 s22 wo he s25 s26 s27 sk na kp s31 s32 s33 s34 gb go fa ga s39 s40 vo, zi G ss 4 fss, zi G sq 4 (nF fsq), zi G ce 160 fce] sz) := by
  refine Met.ofW (cc := cX6_copy) (maxL := 10) (ret := (some .int)) (by decide +kernel) rfl ?_
  intro p e s m args below meth c s₁ B hml hv
  obtain ⟨rfl, hsz, hP, hK, hD0⟩ := hv
  have hx := B.exec
  have hb := B.bytes
  have hr := B.returns
  have hts := atoms_spec (ws := wsX6_copy) B.pre
  have hown : s.vm.findClass RX6 = some m.cls := findClass_of_methodNamed B.named
  have hlocks := B.notSynchronized
  subst hsz
  have hD := hD0.self (sz := s.heap.size)
  generalize hAe : va_A [zo6 h0 (nI pb) kd mo st (nI jg) ro tp (nI td) cd sr (nI tx) (nI ru) him ir ih ss sq ce lw s19 s20 s21 s22 wo he s25 s26 s27 sk na kp s31 s32 s33 s34 gb go fa ga s39 s40 vo, zi G ss 4 fss, zi G sq 4 (nF fsq), zi G ce 160 fce] s.heap.size = A at hD ⊢
  have hA : ∀ q : Nat, s.heap.size ≤ q → A q := fun q h => by rw [← hAe]; exact Or.inr h
  have hS : va_S A s.heap s.heap [] := va_S.rf
  have hz9 : gPD G A [zo6 h0 (nI pb) kd mo st (nI jg) ro tp (nI td) cd sr (nI tx) (nI ru) him ir ih ss sq ce lw s19 s20 s21 s22 wo he s25 s26 s27 sk na kp s31 s32 s33 s34 gb go fa ga s39 s40 vo, zi G ss 4 fss, zi G sq 4 (nF fsq), zi G ce 160 fce] s.heap := ⟨hP, hD⟩
  have hP := hz9.1
  have hD := hz9.2
  have hl := lv_entry ([.ref h0, .int v0, .int v1, .int v2, .int v3, .int v4]) (n := 10) (Nat.le_of_ble_eq_true rfl)
  rw [lg_entry_eq]
  generalize (lg_sl ([.ref h0, .int v0, .int v1, .int v2, .int v3, .int v4]) ++ List.replicate (10 - (lg_sl ([.ref h0, .int v0, .int v1, .int v2, .int v3, .int v4])).length) Slot.unset).toArray = ls at hl ⊢
  have hl : lv_has ls 10 [zR 0 h0, zI 1 v0, zI 2 v1, zI 3 v2, zI 4 v3, zI 5 v4] := hl
  have kf37 := hts (.fieldLink RX6 37 "PebbleInShoeModel" "sheetSort" "[I") (by decide +kernel)
  have hiX6 := (by decide +kernel : ∀ w ∈ wsX60, w ∈ wsX6_copy)
  have kf40 := hts (.fieldLink RX6 40 "PebbleInShoeModel" "sheetSize" "[I") (by decide +kernel)
  have kf43 := hts (.fieldLink RX6 43 "PebbleInShoeModel" "cells" "[I") (by decide +kernel)
  refine lv_iload_n hx hb dX6_copy_0 rfl (lv_at hl 1 rfl) ?_
  refine lv_iconst (v := 0) hx hb dX6_copy_1 (by decide +kernel) ?_
  refine lv_iconst (v := 3) hx hb dX6_copy_2 (by decide +kernel) ?_
  refine z_calli [] (v := bz (decide (0 ≤ v0 ∧ v0 ≤ 3))) (fun _ _ h => h) (va_runS (As := [.int v0, .int 0, .int 3]) (rest := []) ⟨hx, hb, hml, hown, hts⟩ (c_X6_in l G v0 0 3 s.heap.size) (va_cwS 3 hts gX6_copy_X6_in rfl rfl rfl (by decide +kernel) ⟨Nat.le_of_ble_eq_true rfl, Nat.le_of_ble_eq_true rfl⟩) ⟨gPre_blind, fun U hU hW => gPre_ofF [] hU hW hK hP hD (by decide +kernel) rfl⟩ rfl rfl hl.1 rfl (lv_room (Nat.le_of_ble_eq_true rfl)) dX6_copy_3 ⟨Nat.le_of_ble_eq_true rfl, Nat.le_of_ble_eq_true rfl⟩) hS hD hA rfl (fun u t H locs ht hvm hB hz1 hk1 hFq hAq hS => ?_)
  obtain ⟨hP1, hK1, hD1⟩ := hB
  have hP := zKeep hP hD [] hAq hk1 ht hP1 rfl
  refine lv_if_eq (tgt := 18) hx hb dX6_copy_6 (by decide +kernel) (fun c_3 => ?_) (fun c_3 => ?_)
  · skip
    have n_5 : ¬ (0 ≤ v0 ∧ v0 ≤ 3) := of_decide_eq_false (bz_eq rfl c_3)
    refine lv_bipush (v := -2) hx hb dX6_copy_18 (by decide +kernel) ?_
    have q_8 : m_X6_copy_ce fss fsq fce v0 v1 v2 v3 v4 = fce := by unfold m_X6_copy_ce; rw [if_neg n_5]
    have hz9 : gPD G A [zo6 h0 (nI pb) kd mo st (nI jg) ro tp (nI td) cd sr (nI tx) (nI ru) him ir ih ss sq ce lw s19 s20 s21 s22 wo he s25 s26 s27 sk na kp s31 s32 s33 s34 gb go fa ga s39 s40 vo, zi G ss 4 fss, zi G sq 4 (nF fsq), zi G ce 160 (m_X6_copy_ce fss fsq fce v0 v1 v2 v3 v4)] H := ⟨by rw [q_8]; exact hP, by rw [q_8]; exact hD⟩
    have hP9 := hz9.1
    have hD9 := hz9.2
    have hpost : (fun (r : Int32) (u : Unit) => match u with | _ => r = m_X6_copy fss fsq v0 v1 v2 v3 v4) (-2) () := (show m_X6_copy fss fsq v0 v1 v2 v3 v4 = (-2) from by unfold m_X6_copy; rw [if_neg n_5]).symm
    exact W.iret (v := (-2)) hx hb hr (fun t ht hW => ⟨⟨(-2), (), rfl, hpost, by rw [ht]; exact hP9, va_K.moved hW.alike hK, hD9⟩, hS.F ht⟩) hS.2.2 dX6_copy_20
  · skip
    have p_4 : 0 ≤ v0 ∧ v0 ≤ 3 := of_decide_eq_true (bz_ne rfl c_3)
    have hv_6 : v0 = nI (nC v0) := nC_eq p_4.1
    have hk_7 : nC v0 ≤ 3 := nC_le (n := 3) (by omega) p_4
    refine lv_iload_n hx hb dX6_copy_9 rfl (lv_at hl 3 rfl) ?_
    refine lv_iconst (v := 0) hx hb dX6_copy_10 (by decide +kernel) ?_
    refine lv_iconst (v := 3) hx hb dX6_copy_11 (by decide +kernel) ?_
    refine z_calli [] (v := bz (decide (0 ≤ v2 ∧ v2 ≤ 3))) (fun _ _ h => h) (va_runS (As := [.int v2, .int 0, .int 3]) (rest := []) ⟨hx, hb, hml, hown, hts⟩ (c_X6_in l G v2 0 3 H.size) (va_cwS 3 hts gX6_copy_X6_in rfl rfl rfl (by decide +kernel) ⟨Nat.le_of_ble_eq_true rfl, Nat.le_of_ble_eq_true rfl⟩) ⟨gPre_blind, fun U hU hW => gPre_ofF [] hU hW hK hP hD (by decide +kernel) rfl⟩ rfl rfl hl.1 rfl (lv_room (Nat.le_of_ble_eq_true rfl)) dX6_copy_12 ⟨Nat.le_of_ble_eq_true rfl, Nat.le_of_ble_eq_true rfl⟩) hS hD hA rfl (fun u t H locs ht hvm hB hz1 hk1 hFq hAq hS => ?_)
    obtain ⟨hP1, hK1, hD1⟩ := hB
    have hP := zKeep hP hD [] hAq hk1 ht hP1 rfl
    refine lv_if_ne (tgt := 21) hx hb dX6_copy_15 (by decide +kernel) (fun c_11 => ?_) (fun c_11 => ?_)
    · skip
      have p_12 : 0 ≤ v2 ∧ v2 ≤ 3 := of_decide_eq_true (bz_ne rfl c_11)
      have hv_14 : v2 = nI (nC v2) := nC_eq p_12.1
      have hk_15 : nC v2 ≤ 3 := nC_le (n := 3) (by omega) p_12
      refine g_aget (D := G.1) (ci := 6) (v := .ref ss) (C := RX6) (T := TX6) (N := 42) hx hb dX6_copy_21 rfl (lv_at hl 0 rfl) hts hiX6 hown hK hP 0 rfl rfl 15 (by decide +kernel) kf37 (fun _ h9 => h9) rfl dX6_copy_22 ?_
      refine lv_iload_n hx hb dX6_copy_25 rfl (lv_at hl 1 rfl) ?_
      refine g_topi (y := nI (nC v0)) hv_6 ?_
      refine g_iald (D := G.1) hx hb hK hP 1 0 rfl rfl (k := nC v0) (y := fss (nC v0)) (by omega) rfl rfl dX6_copy_26 ?_
      refine lv_iconst (v := -1) hx hb dX6_copy_27 (by decide +kernel) ?_
      refine lv_icmp_eq (tgt := 41) hx hb dX6_copy_28 (by decide +kernel) (fun c_18 => ?_) (fun c_18 => ?_)
      · skip
        refine lv_bipush (v := -11) hx hb dX6_copy_41 (by decide +kernel) ?_
        have q_19 : m_X6_copy_ce fss fsq fce v0 v1 v2 v3 v4 = fce := by unfold m_X6_copy_ce; rw [if_pos p_4, if_pos p_12, if_pos c_18]
        have hz9 : gPD G A [zo6 h0 (nI pb) kd mo st (nI jg) ro tp (nI td) cd sr (nI tx) (nI ru) him ir ih ss sq ce lw s19 s20 s21 s22 wo he s25 s26 s27 sk na kp s31 s32 s33 s34 gb go fa ga s39 s40 vo, zi G ss 4 fss, zi G sq 4 (nF fsq), zi G ce 160 (m_X6_copy_ce fss fsq fce v0 v1 v2 v3 v4)] H := ⟨by rw [q_19]; exact hP, by rw [q_19]; exact hD⟩
        have hP9 := hz9.1
        have hD9 := hz9.2
        have hpost : (fun (r : Int32) (u : Unit) => match u with | _ => r = m_X6_copy fss fsq v0 v1 v2 v3 v4) (-11) () := (show m_X6_copy fss fsq v0 v1 v2 v3 v4 = (-11) from by unfold m_X6_copy; rw [if_pos p_4, if_pos p_12, if_pos c_18]).symm
        exact W.iret (v := (-11)) hx hb hr (fun t ht hW => ⟨⟨(-11), (), rfl, hpost, by rw [ht]; exact hP9, va_K.moved hW.alike hK, hD9⟩, hS.F ht⟩) hS.2.2 dX6_copy_43
      · skip
        refine g_aget (D := G.1) (ci := 6) (v := .ref ss) (C := RX6) (T := TX6) (N := 42) hx hb dX6_copy_31 rfl (lv_at hl 0 rfl) hts hiX6 hown hK hP 0 rfl rfl 15 (by decide +kernel) kf37 (fun _ h9 => h9) rfl dX6_copy_32 ?_
        refine lv_iload_n hx hb dX6_copy_35 rfl (lv_at hl 3 rfl) ?_
        refine g_topi (y := nI (nC v2)) hv_14 ?_
        refine g_iald (D := G.1) hx hb hK hP 1 0 rfl rfl (k := nC v2) (y := fss (nC v2)) (by omega) rfl rfl dX6_copy_36 ?_
        refine lv_iconst (v := -1) hx hb dX6_copy_37 (by decide +kernel) ?_
        refine lv_icmp_ne (tgt := 44) hx hb dX6_copy_38 (by decide +kernel) (fun c_22 => ?_) (fun c_22 => ?_)
        · skip
          refine g_aget (D := G.1) (ci := 6) (v := .ref ss) (C := RX6) (T := TX6) (N := 42) hx hb dX6_copy_44 rfl (lv_at hl 0 rfl) hts hiX6 hown hK hP 0 rfl rfl 15 (by decide +kernel) kf37 (fun _ h9 => h9) rfl dX6_copy_45 ?_
          refine lv_iload_n hx hb dX6_copy_48 rfl (lv_at hl 1 rfl) ?_
          refine g_topi (y := nI (nC v0)) hv_6 ?_
          refine g_iald (D := G.1) hx hb hK hP 1 0 rfl rfl (k := nC v0) (y := fss (nC v0)) (by omega) rfl rfl dX6_copy_49 ?_
          refine g_aget (D := G.1) (ci := 6) (v := .ref ss) (C := RX6) (T := TX6) (N := 42) hx hb dX6_copy_50 rfl (lv_at hl 0 rfl) hts hiX6 hown hK hP 0 rfl rfl 15 (by decide +kernel) kf37 (fun _ h9 => h9) rfl dX6_copy_51 ?_
          refine lv_iload_n hx hb dX6_copy_54 rfl (lv_at hl 3 rfl) ?_
          refine g_topi (y := nI (nC v2)) hv_14 ?_
          refine g_iald (D := G.1) hx hb hK hP 1 0 rfl rfl (k := nC v2) (y := fss (nC v2)) (by omega) rfl rfl dX6_copy_55 ?_
          refine lv_icmp_eq (tgt := 62) hx hb dX6_copy_56 (by decide +kernel) (fun c_27 => ?_) (fun c_27 => ?_)
          · skip
            have hs4 := hsq (nC v0) (by omega)
            have hs5 := hsq (nC v2) (by omega)
            refine lv_iload hx hb dX6_copy_62 (lv_at hl 5 rfl) ?_
            refine lv_if_lt (tgt := 124) hx hb dX6_copy_64 (by decide +kernel) (fun c_28 => ?_) (fun c_28 => ?_)
            · skip
              refine lv_bipush (v := -12) hx hb dX6_copy_124 (by decide +kernel) ?_
              have q_31 : m_X6_copy_ce fss fsq fce v0 v1 v2 v3 v4 = fce := by unfold m_X6_copy_ce; rw [if_pos p_4, if_pos p_12, if_neg c_18, if_neg c_22, if_pos c_27, if_pos c_28]
              have hz9 : gPD G A [zo6 h0 (nI pb) kd mo st (nI jg) ro tp (nI td) cd sr (nI tx) (nI ru) him ir ih ss sq ce lw s19 s20 s21 s22 wo he s25 s26 s27 sk na kp s31 s32 s33 s34 gb go fa ga s39 s40 vo, zi G ss 4 fss, zi G sq 4 (nF fsq), zi G ce 160 (m_X6_copy_ce fss fsq fce v0 v1 v2 v3 v4)] H := ⟨by rw [q_31]; exact hP, by rw [q_31]; exact hD⟩
              have hP9 := hz9.1
              have hD9 := hz9.2
              have hpost : (fun (r : Int32) (u : Unit) => match u with | _ => r = m_X6_copy fss fsq v0 v1 v2 v3 v4) (-12) () := (show m_X6_copy fss fsq v0 v1 v2 v3 v4 = (-12) from by unfold m_X6_copy; rw [if_pos p_4, if_pos p_12, if_neg c_18, if_neg c_22, if_pos c_27, if_pos c_28]).symm
              exact W.iret (v := (-12)) hx hb hr (fun t ht hW => ⟨⟨(-12), (), rfl, hpost, by rw [ht]; exact hP9, va_K.moved hW.alike hK, hD9⟩, hS.F ht⟩) hS.2.2 dX6_copy_126
            · skip
              have hv_29 : v4 = nI (nC v4) := nC_eq (Int32.not_lt.mp c_28)
              have hk_30 : nC v4 < 2 ^ 31 := nC_31 _
              refine lv_iload_n hx hb dX6_copy_67 rfl (lv_at hl 2 rfl) ?_
              refine lv_if_lt (tgt := 124) hx hb dX6_copy_68 (by decide +kernel) (fun c_32 => ?_) (fun c_32 => ?_)
              · skip
                refine lv_bipush (v := -12) hx hb dX6_copy_124 (by decide +kernel) ?_
                have q_35 : m_X6_copy_ce fss fsq fce v0 v1 v2 v3 v4 = fce := by unfold m_X6_copy_ce; rw [if_pos p_4, if_pos p_12, if_neg c_18, if_neg c_22, if_pos c_27, if_neg c_28, if_pos c_32]
                have hz9 : gPD G A [zo6 h0 (nI pb) kd mo st (nI jg) ro tp (nI td) cd sr (nI tx) (nI ru) him ir ih ss sq ce lw s19 s20 s21 s22 wo he s25 s26 s27 sk na kp s31 s32 s33 s34 gb go fa ga s39 s40 vo, zi G ss 4 fss, zi G sq 4 (nF fsq), zi G ce 160 (m_X6_copy_ce fss fsq fce v0 v1 v2 v3 v4)] H := ⟨by rw [q_35]; exact hP, by rw [q_35]; exact hD⟩
                have hP9 := hz9.1
                have hD9 := hz9.2
                have hpost : (fun (r : Int32) (u : Unit) => match u with | _ => r = m_X6_copy fss fsq v0 v1 v2 v3 v4) (-12) () := (show m_X6_copy fss fsq v0 v1 v2 v3 v4 = (-12) from by unfold m_X6_copy; rw [if_pos p_4, if_pos p_12, if_neg c_18, if_neg c_22, if_pos c_27, if_neg c_28, if_pos c_32]).symm
                exact W.iret (v := (-12)) hx hb hr (fun t ht hW => ⟨⟨(-12), (), rfl, hpost, by rw [ht]; exact hP9, va_K.moved hW.alike hK, hD9⟩, hS.F ht⟩) hS.2.2 dX6_copy_126
              · skip
                have hv_33 : v1 = nI (nC v1) := nC_eq (Int32.not_lt.mp c_32)
                have hk_34 : nC v1 < 2 ^ 31 := nC_31 _
                refine lv_iload hx hb dX6_copy_71 (lv_at hl 4 rfl) ?_
                refine lv_if_lt (tgt := 124) hx hb dX6_copy_73 (by decide +kernel) (fun c_36 => ?_) (fun c_36 => ?_)
                · skip
                  refine lv_bipush (v := -12) hx hb dX6_copy_124 (by decide +kernel) ?_
                  have q_39 : m_X6_copy_ce fss fsq fce v0 v1 v2 v3 v4 = fce := by unfold m_X6_copy_ce; rw [if_pos p_4, if_pos p_12, if_neg c_18, if_neg c_22, if_pos c_27, if_neg c_28, if_neg c_32, if_pos c_36]
                  have hz9 : gPD G A [zo6 h0 (nI pb) kd mo st (nI jg) ro tp (nI td) cd sr (nI tx) (nI ru) him ir ih ss sq ce lw s19 s20 s21 s22 wo he s25 s26 s27 sk na kp s31 s32 s33 s34 gb go fa ga s39 s40 vo, zi G ss 4 fss, zi G sq 4 (nF fsq), zi G ce 160 (m_X6_copy_ce fss fsq fce v0 v1 v2 v3 v4)] H := ⟨by rw [q_39]; exact hP, by rw [q_39]; exact hD⟩
                  have hP9 := hz9.1
                  have hD9 := hz9.2
                  have hpost : (fun (r : Int32) (u : Unit) => match u with | _ => r = m_X6_copy fss fsq v0 v1 v2 v3 v4) (-12) () := (show m_X6_copy fss fsq v0 v1 v2 v3 v4 = (-12) from by unfold m_X6_copy; rw [if_pos p_4, if_pos p_12, if_neg c_18, if_neg c_22, if_pos c_27, if_neg c_28, if_neg c_32, if_pos c_36]).symm
                  exact W.iret (v := (-12)) hx hb hr (fun t ht hW => ⟨⟨(-12), (), rfl, hpost, by rw [ht]; exact hP9, va_K.moved hW.alike hK, hD9⟩, hS.F ht⟩) hS.2.2 dX6_copy_126
                · skip
                  have hv_37 : v3 = nI (nC v3) := nC_eq (Int32.not_lt.mp c_36)
                  have hk_38 : nC v3 < 2 ^ 31 := nC_31 _
                  refine lv_iload_n hx hb dX6_copy_76 rfl (lv_at hl 2 rfl) ?_
                  refine g_topi (y := nI (nC v1)) hv_33 ?_
                  refine g_aget (D := G.1) (ci := 6) (v := .ref sq) (C := RX6) (T := TX6) (N := 42) hx hb dX6_copy_77 rfl (lv_at hl 0 rfl) hts hiX6 hown hK hP 0 rfl rfl 16 (by decide +kernel) kf40 (fun _ h9 => h9) rfl dX6_copy_78 ?_
                  refine lv_iload_n hx hb dX6_copy_81 rfl (lv_at hl 1 rfl) ?_
                  refine g_topi (y := nI (nC v0)) hv_6 ?_
                  refine va_iald (D := G.1) hx hb hK hP 2 0 rfl rfl (i := (nI (nC v0))) (vpn (by omega) rfl) dX6_copy_82 ?_
                  refine g_topi (y := nI (fsq (nC v0))) (nF_at (by omega)) ?_
                  refine lv_icmp_gt (tgt := 124) hx hb dX6_copy_83 (by decide +kernel) (fun c_43 => ?_) (fun c_43 => ?_)
                  · skip
                    have c_43N : (fsq (nC v0)) < (nC v1) := nI_lt1 (a := (fsq (nC v0))) (b := (nC v1)) (by omega) (by omega) c_43
                    refine lv_bipush (v := -12) hx hb dX6_copy_124 (by decide +kernel) ?_
                    have q_44 : m_X6_copy_ce fss fsq fce v0 v1 v2 v3 v4 = fce := by unfold m_X6_copy_ce; rw [if_pos p_4, if_pos p_12, if_neg c_18, if_neg c_22, if_pos c_27, if_neg c_28, if_neg c_32, if_neg c_36, if_pos c_43]
                    have hz9 : gPD G A [zo6 h0 (nI pb) kd mo st (nI jg) ro tp (nI td) cd sr (nI tx) (nI ru) him ir ih ss sq ce lw s19 s20 s21 s22 wo he s25 s26 s27 sk na kp s31 s32 s33 s34 gb go fa ga s39 s40 vo, zi G ss 4 fss, zi G sq 4 (nF fsq), zi G ce 160 (m_X6_copy_ce fss fsq fce v0 v1 v2 v3 v4)] H := ⟨by rw [q_44]; exact hP, by rw [q_44]; exact hD⟩
                    have hP9 := hz9.1
                    have hD9 := hz9.2
                    have hpost : (fun (r : Int32) (u : Unit) => match u with | _ => r = m_X6_copy fss fsq v0 v1 v2 v3 v4) (-12) () := (show m_X6_copy fss fsq v0 v1 v2 v3 v4 = (-12) from by unfold m_X6_copy; rw [if_pos p_4, if_pos p_12, if_neg c_18, if_neg c_22, if_pos c_27, if_neg c_28, if_neg c_32, if_neg c_36, if_pos c_43]).symm
                    exact W.iret (v := (-12)) hx hb hr (fun t ht hW => ⟨⟨(-12), (), rfl, hpost, by rw [ht]; exact hP9, va_K.moved hW.alike hK, hD9⟩, hS.F ht⟩) hS.2.2 dX6_copy_126
                  · skip
                    have c_43N : (nC v1) ≤ (fsq (nC v0)) := nI_lt0 (a := (fsq (nC v0))) (b := (nC v1)) (by omega) (by omega) c_43
                    refine lv_iload hx hb dX6_copy_86 (lv_at hl 4 rfl) ?_
                    refine g_topi (y := nI (nC v3)) hv_37 ?_
                    refine g_aget (D := G.1) (ci := 6) (v := .ref sq) (C := RX6) (T := TX6) (N := 42) hx hb dX6_copy_88 rfl (lv_at hl 0 rfl) hts hiX6 hown hK hP 0 rfl rfl 16 (by decide +kernel) kf40 (fun _ h9 => h9) rfl dX6_copy_89 ?_
                    refine lv_iload_n hx hb dX6_copy_92 rfl (lv_at hl 3 rfl) ?_
                    refine g_topi (y := nI (nC v2)) hv_14 ?_
                    refine va_iald (D := G.1) hx hb hK hP 2 0 rfl rfl (i := (nI (nC v2))) (vpn (by omega) rfl) dX6_copy_93 ?_
                    refine g_topi (y := nI (fsq (nC v2))) (nF_at (by omega)) ?_
                    refine lv_icmp_gt (tgt := 124) hx hb dX6_copy_94 (by decide +kernel) (fun c_48 => ?_) (fun c_48 => ?_)
                    · skip
                      have c_48N : (fsq (nC v2)) < (nC v3) := nI_lt1 (a := (fsq (nC v2))) (b := (nC v3)) (by omega) (by omega) c_48
                      refine lv_bipush (v := -12) hx hb dX6_copy_124 (by decide +kernel) ?_
                      have q_49 : m_X6_copy_ce fss fsq fce v0 v1 v2 v3 v4 = fce := by unfold m_X6_copy_ce; rw [if_pos p_4, if_pos p_12, if_neg c_18, if_neg c_22, if_pos c_27, if_neg c_28, if_neg c_32, if_neg c_36, if_neg c_43, if_pos c_48]
                      have hz9 : gPD G A [zo6 h0 (nI pb) kd mo st (nI jg) ro tp (nI td) cd sr (nI tx) (nI ru) him ir ih ss sq ce lw s19 s20 s21 s22 wo he s25 s26 s27 sk na kp s31 s32 s33 s34 gb go fa ga s39 s40 vo, zi G ss 4 fss, zi G sq 4 (nF fsq), zi G ce 160 (m_X6_copy_ce fss fsq fce v0 v1 v2 v3 v4)] H := ⟨by rw [q_49]; exact hP, by rw [q_49]; exact hD⟩
                      have hP9 := hz9.1
                      have hD9 := hz9.2
                      have hpost : (fun (r : Int32) (u : Unit) => match u with | _ => r = m_X6_copy fss fsq v0 v1 v2 v3 v4) (-12) () := (show m_X6_copy fss fsq v0 v1 v2 v3 v4 = (-12) from by unfold m_X6_copy; rw [if_pos p_4, if_pos p_12, if_neg c_18, if_neg c_22, if_pos c_27, if_neg c_28, if_neg c_32, if_neg c_36, if_neg c_43, if_pos c_48]).symm
                      exact W.iret (v := (-12)) hx hb hr (fun t ht hW => ⟨⟨(-12), (), rfl, hpost, by rw [ht]; exact hP9, va_K.moved hW.alike hK, hD9⟩, hS.F ht⟩) hS.2.2 dX6_copy_126
                    · skip
                      have c_48N : (nC v3) ≤ (fsq (nC v2)) := nI_lt0 (a := (fsq (nC v2))) (b := (nC v3)) (by omega) (by omega) c_48
                      refine lv_iload hx hb dX6_copy_97 (lv_at hl 5 rfl) ?_
                      refine g_topi (y := nI (nC v4)) hv_29 ?_
                      refine g_aget (D := G.1) (ci := 6) (v := .ref sq) (C := RX6) (T := TX6) (N := 42) hx hb dX6_copy_99 rfl (lv_at hl 0 rfl) hts hiX6 hown hK hP 0 rfl rfl 16 (by decide +kernel) kf40 (fun _ h9 => h9) rfl dX6_copy_100 ?_
                      refine lv_iload_n hx hb dX6_copy_103 rfl (lv_at hl 1 rfl) ?_
                      refine g_topi (y := nI (nC v0)) hv_6 ?_
                      refine va_iald (D := G.1) hx hb hK hP 2 0 rfl rfl (i := (nI (nC v0))) (vpn (by omega) rfl) dX6_copy_104 ?_
                      refine g_topi (y := nI (fsq (nC v0))) (nF_at (by omega)) ?_
                      refine lv_iload_n hx hb dX6_copy_105 rfl (lv_at hl 2 rfl) ?_
                      refine g_topi (y := nI (nC v1)) hv_33 ?_
                      refine lv_isub hx hb dX6_copy_106 ?_
                      refine g_topi (y := nI ((fsq (nC v0)) - (nC v1))) (pk_sub (a := (fsq (nC v0))) (b := (nC v1)) (by omega)) ?_
                      refine lv_icmp_gt (tgt := 124) hx hb dX6_copy_107 (by decide +kernel) (fun c_55 => ?_) (fun c_55 => ?_)
                      · skip
                        have c_55N : ((fsq (nC v0)) - (nC v1)) < (nC v4) := nI_lt1 (a := ((fsq (nC v0)) - (nC v1))) (b := (nC v4)) (by omega) (by omega) c_55
                        refine lv_bipush (v := -12) hx hb dX6_copy_124 (by decide +kernel) ?_
                        have q_56 : m_X6_copy_ce fss fsq fce v0 v1 v2 v3 v4 = fce := by unfold m_X6_copy_ce; rw [if_pos p_4, if_pos p_12, if_neg c_18, if_neg c_22, if_pos c_27, if_neg c_28, if_neg c_32, if_neg c_36, if_neg c_43, if_neg c_48, if_pos c_55]
                        have hz9 : gPD G A [zo6 h0 (nI pb) kd mo st (nI jg) ro tp (nI td) cd sr (nI tx) (nI ru) him ir ih ss sq ce lw s19 s20 s21 s22 wo he s25 s26 s27 sk na kp s31 s32 s33 s34 gb go fa ga s39 s40 vo, zi G ss 4 fss, zi G sq 4 (nF fsq), zi G ce 160 (m_X6_copy_ce fss fsq fce v0 v1 v2 v3 v4)] H := ⟨by rw [q_56]; exact hP, by rw [q_56]; exact hD⟩
                        have hP9 := hz9.1
                        have hD9 := hz9.2
                        have hpost : (fun (r : Int32) (u : Unit) => match u with | _ => r = m_X6_copy fss fsq v0 v1 v2 v3 v4) (-12) () := (show m_X6_copy fss fsq v0 v1 v2 v3 v4 = (-12) from by unfold m_X6_copy; rw [if_pos p_4, if_pos p_12, if_neg c_18, if_neg c_22, if_pos c_27, if_neg c_28, if_neg c_32, if_neg c_36, if_neg c_43, if_neg c_48, if_pos c_55]).symm
                        exact W.iret (v := (-12)) hx hb hr (fun t ht hW => ⟨⟨(-12), (), rfl, hpost, by rw [ht]; exact hP9, va_K.moved hW.alike hK, hD9⟩, hS.F ht⟩) hS.2.2 dX6_copy_126
                      · skip
                        have c_55N : (nC v4) ≤ ((fsq (nC v0)) - (nC v1)) := nI_lt0 (a := ((fsq (nC v0)) - (nC v1))) (b := (nC v4)) (by omega) (by omega) c_55
                        refine lv_iload hx hb dX6_copy_110 (lv_at hl 5 rfl) ?_
                        refine g_topi (y := nI (nC v4)) hv_29 ?_
                        refine g_aget (D := G.1) (ci := 6) (v := .ref sq) (C := RX6) (T := TX6) (N := 42) hx hb dX6_copy_112 rfl (lv_at hl 0 rfl) hts hiX6 hown hK hP 0 rfl rfl 16 (by decide +kernel) kf40 (fun _ h9 => h9) rfl dX6_copy_113 ?_
                        refine lv_iload_n hx hb dX6_copy_116 rfl (lv_at hl 3 rfl) ?_
                        refine g_topi (y := nI (nC v2)) hv_14 ?_
                        refine va_iald (D := G.1) hx hb hK hP 2 0 rfl rfl (i := (nI (nC v2))) (vpn (by omega) rfl) dX6_copy_117 ?_
                        refine g_topi (y := nI (fsq (nC v2))) (nF_at (by omega)) ?_
                        refine lv_iload hx hb dX6_copy_118 (lv_at hl 4 rfl) ?_
                        refine g_topi (y := nI (nC v3)) hv_37 ?_
                        refine lv_isub hx hb dX6_copy_120 ?_
                        refine g_topi (y := nI ((fsq (nC v2)) - (nC v3))) (pk_sub (a := (fsq (nC v2))) (b := (nC v3)) (by omega)) ?_
                        refine lv_icmp_le (tgt := 127) hx hb dX6_copy_121 (by decide +kernel) (fun c_62 => ?_) (fun c_62 => ?_)
                        · skip
                          have c_62N : (nC v4) ≤ ((fsq (nC v2)) - (nC v3)) := nI_le1 (a := (nC v4)) (b := ((fsq (nC v2)) - (nC v3))) (by omega) (by omega) c_62
                          refine lv_bipush (v := 40) hx hb dX6_copy_127 (by decide +kernel) ?_
                          refine lv_iload_n hx hb dX6_copy_129 rfl (lv_at hl 1 rfl) ?_
                          refine g_topi (y := nI (nC v0)) hv_6 ?_
                          refine lv_imul hx hb dX6_copy_130 ?_
                          refine g_topi (y := nI (40 * (nC v0))) (pk_mul 40 (nC v0)) ?_
                          refine lv_iload_n hx hb dX6_copy_131 rfl (lv_at hl 2 rfl) ?_
                          refine g_topi (y := nI (nC v1)) hv_33 ?_
                          refine lv_iadd hx hb dX6_copy_132 ?_
                          refine g_topi (y := nI ((40 * (nC v0)) + (nC v1))) (nI_add (40 * (nC v0)) (nC v1)) ?_
                          refine lv_istore (lv' := [zI 6 (nI ((40 * (nC v0)) + (nC v1))), zR 0 h0, zI 1 v0, zI 2 v1, zI 3 v2, zI 4 v3, zI 5 v4]) hx hb dX6_copy_133 hl (by decide +kernel) rfl (fun ls hl => ?_)
                          refine lv_bipush (v := 40) hx hb dX6_copy_135 (by decide +kernel) ?_
                          refine lv_iload_n hx hb dX6_copy_137 rfl (lv_at hl 4 rfl) ?_
                          refine g_topi (y := nI (nC v2)) hv_14 ?_
                          refine lv_imul hx hb dX6_copy_138 ?_
                          refine g_topi (y := nI (40 * (nC v2))) (pk_mul 40 (nC v2)) ?_
                          refine lv_iload hx hb dX6_copy_139 (lv_at hl 5 rfl) ?_
                          refine g_topi (y := nI (nC v3)) hv_37 ?_
                          refine lv_iadd hx hb dX6_copy_141 ?_
                          refine g_topi (y := nI ((40 * (nC v2)) + (nC v3))) (nI_add (40 * (nC v2)) (nC v3)) ?_
                          refine lv_istore (lv' := [zI 7 (nI ((40 * (nC v2)) + (nC v3))), zI 6 (nI ((40 * (nC v0)) + (nC v1))), zR 0 h0, zI 1 v0, zI 2 v1, zI 3 v2, zI 4 v3, zI 5 v4]) hx hb dX6_copy_142 hl (by decide +kernel) rfl (fun ls hl => ?_)
                          refine lv_iconst (v := 0) hx hb dX6_copy_144 (by decide +kernel) ?_
                          refine lv_istore (lv' := [zI 8 0, zI 7 (nI ((40 * (nC v2)) + (nC v3))), zI 6 (nI ((40 * (nC v0)) + (nC v1))), zR 0 h0, zI 1 v0, zI 2 v1, zI 3 v2, zI 4 v3, zI 5 v4]) hx hb dX6_copy_145 hl (by decide +kernel) rfl (fun ls hl => ?_)
                          have loop_147 : ∀ (n9 : Nat) (k147 : Nat) (y147ce : Nat → Int32), (k147 ≤ nC v4) → (p_X6_copy_147 v0 v1 v2 v3 v4 (nC v4 - k147) k147 y147ce = (g_X6_copy_147 fce v0 v1 v2 v3 v4)) → (nC v4 - k147) < n9 → ∀ (H : Heap) (locs : List Loc), va_P G.1 vwCl [zo6 h0 (nI pb) kd mo st (nI jg) ro tp (nI td) cd sr (nI tx) (nI ru) him ir ih ss sq ce lw s19 s20 s21 s22 wo he s25 s26 s27 sk na kp s31 s32 s33 s34 gb go fa ga s39 s40 vo, zi G ss 4 fss, zi G sq 4 (nF fsq), zi G ce 160 y147ce] H → va_D A [zo6 h0 (nI pb) kd mo st (nI jg) ro tp (nI td) cd sr (nI tx) (nI ru) him ir ih ss sq ce lw s19 s20 s21 s22 wo he s25 s26 s27 sk na kp s31 s32 s33 s34 gb go fa ga s39 s40 vo, zi G ss 4 fss, zi G sq 4 (nF fsq), zi G ce 160 y147ce] → va_S A s.heap H locs → ∀ ls : Array Slot, lv_has ls 10 [zI 8 (nI k147), zI 7 (nI ((40 * (nC v2)) + (nC v3))), zI 6 (nI ((40 * (nC v0)) + (nC v1))), zR 0 h0, zI 1 v0, zI 2 v1, zI 3 v2, zI 4 v3, zI 5 v4] → W p l e (headSpec wsX6_copy ({ frames := 1, cells := 0, slots := 0, locals := 22 })).room s m ([.ref h0, .int v0, .int v1, .int v2, .int v3, .int v4] : List Value).toArray below meth c H locs 0 0 (MQ below (q_X6_copy G h0 kd mo st ro tp cd sr ir ih ss sq ce lw wo he sk na kp gb go fa ga vo pb jg td tx ru him s19 s20 s21 s22 s25 s26 s27 s31 s32 s33 s34 s39 s40 fss fsq fce v0 v1 v2 v3 v4 A) ([.ref h0, .int v0, .int v1, .int v2, .int v3, .int v4] : List Value).toArray s 0 0 A) (F0 m 147 ls []) := by
                            intro n9
                            induction n9 with
                            | zero => intro k147 y147ce hk147 R147 hm9_147; exact absurd hm9_147 (Nat.not_lt_zero _)
                            | succ n9 ih9_147 =>
                              intro k147 y147ce hk147 R147 hm9_147 H locs hP hD hS ls hl
                              refine lv_iload hx hb dX6_copy_147 (lv_at hl 0 rfl) ?_
                              refine lv_iload hx hb dX6_copy_149 (lv_at hl 8 rfl) ?_
                              refine g_topi (y := nI (nC v4)) hv_29 ?_
                              refine lv_icmp_ge (tgt := 201) hx hb dX6_copy_151 (by decide +kernel) (fun c_72 => ?_) (fun c_72 => ?_)
                              · skip
                                have c_72N : (nC v4) ≤ k147 := nI_le1 (a := (nC v4)) (b := k147) (by omega) (by omega) c_72
                                have hF147 : (g_X6_copy_147 fce v0 v1 v2 v3 v4) = (k147, y147ce) := by rw [← R147, show nC v4 - k147 = 0 by omega]; rfl
                                have hE147_0 : k147 = ((g_X6_copy_147 fce v0 v1 v2 v3 v4).1) := by rw [hF147]
                                have hE147_1 : y147ce = ((g_X6_copy_147 fce v0 v1 v2 v3 v4).2) := by rw [hF147]
                                clear hF147 R147
                                subst hE147_0
                                subst hE147_1
                                refine lv_iload hx hb dX6_copy_201 (lv_at hl 8 rfl) ?_
                                refine g_topi (y := nI (nC v4)) hv_29 ?_
                                have q_74 : m_X6_copy_ce fss fsq fce v0 v1 v2 v3 v4 = ((g_X6_copy_147 fce v0 v1 v2 v3 v4).2) := by unfold m_X6_copy_ce; rw [if_pos p_4, if_pos p_12, if_neg c_18, if_neg c_22, if_pos c_27, if_neg c_28, if_neg c_32, if_neg c_36, if_neg c_43, if_neg c_48, if_neg c_55, if_pos c_62]
                                have hz9 : gPD G A [zo6 h0 (nI pb) kd mo st (nI jg) ro tp (nI td) cd sr (nI tx) (nI ru) him ir ih ss sq ce lw s19 s20 s21 s22 wo he s25 s26 s27 sk na kp s31 s32 s33 s34 gb go fa ga s39 s40 vo, zi G ss 4 fss, zi G sq 4 (nF fsq), zi G ce 160 (m_X6_copy_ce fss fsq fce v0 v1 v2 v3 v4)] H := ⟨by rw [q_74]; exact hP, by rw [q_74]; exact hD⟩
                                have hP9 := hz9.1
                                have hD9 := hz9.2
                                have hpost : (fun (r : Int32) (u : Unit) => match u with | _ => r = m_X6_copy fss fsq v0 v1 v2 v3 v4) (nI (nC v4)) () := (show m_X6_copy fss fsq v0 v1 v2 v3 v4 = (nI (nC v4)) from by unfold m_X6_copy; rw [if_pos p_4, if_pos p_12, if_neg c_18, if_neg c_22, if_pos c_27, if_neg c_28, if_neg c_32, if_neg c_36, if_neg c_43, if_neg c_48, if_neg c_55, if_pos c_62]).symm
                                exact W.iret (v := (nI (nC v4))) hx hb hr (fun t ht hW => ⟨⟨(nI (nC v4)), (), rfl, hpost, by rw [ht]; exact hP9, va_K.moved hW.alike hK, hD9⟩, hS.F ht⟩) hS.2.2 dX6_copy_203
                              · skip
                                have c_72N : k147 < (nC v4) := nI_le0 (a := (nC v4)) (b := k147) (by omega) (by omega) c_72
                                refine lv_iload hx hb dX6_copy_154 (lv_at hl 2 rfl) ?_
                                refine lv_iload hx hb dX6_copy_156 (lv_at hl 1 rfl) ?_
                                refine lv_icmp_ge (tgt := 171) hx hb dX6_copy_158 (by decide +kernel) (fun c_75 => ?_) (fun c_75 => ?_)
                                · skip
                                  have c_75N : ((40 * (nC v2)) + (nC v3)) ≤ ((40 * (nC v0)) + (nC v1)) := nI_le1 (a := ((40 * (nC v2)) + (nC v3))) (b := ((40 * (nC v0)) + (nC v1))) (by omega) (by omega) c_75
                                  refine lv_iload hx hb dX6_copy_171 (lv_at hl 0 rfl) ?_
                                  refine lv_istore (lv' := [zI 9 (nI k147), zI 8 (nI k147), zI 7 (nI ((40 * (nC v2)) + (nC v3))), zI 6 (nI ((40 * (nC v0)) + (nC v1))), zR 0 h0, zI 1 v0, zI 2 v1, zI 3 v2, zI 4 v3, zI 5 v4]) hx hb dX6_copy_173 hl (by decide +kernel) rfl (fun ls hl => ?_)
                                  refine g_aget (D := G.1) (ci := 6) (v := .ref ce) (C := RX6) (T := TX6) (N := 42) hx hb dX6_copy_175 rfl (lv_at hl 4 rfl) hts hiX6 hown hK hP 0 rfl rfl 17 (by decide +kernel) kf43 (fun _ h9 => h9) rfl dX6_copy_176 ?_
                                  refine lv_iload hx hb dX6_copy_179 (lv_at hl 2 rfl) ?_
                                  refine lv_iload hx hb dX6_copy_181 (lv_at hl 0 rfl) ?_
                                  refine lv_iadd hx hb dX6_copy_183 ?_
                                  refine g_topi (y := nI (((40 * (nC v2)) + (nC v3)) + k147)) (nI_add ((40 * (nC v2)) + (nC v3)) k147) ?_
                                  refine g_aget (D := G.1) (ci := 6) (v := .ref ce) (C := RX6) (T := TX6) (N := 42) hx hb dX6_copy_184 rfl (lv_at hl 4 rfl) hts hiX6 hown hK hP 0 rfl rfl 17 (by decide +kernel) kf43 (fun _ h9 => h9) rfl dX6_copy_185 ?_
                                  refine lv_iload hx hb dX6_copy_188 (lv_at hl 3 rfl) ?_
                                  refine lv_iload hx hb dX6_copy_190 (lv_at hl 0 rfl) ?_
                                  refine lv_iadd hx hb dX6_copy_192 ?_
                                  refine g_topi (y := nI (((40 * (nC v0)) + (nC v1)) + k147)) (nI_add ((40 * (nC v0)) + (nC v1)) k147) ?_
                                  refine g_iald (D := G.1) hx hb hK hP 3 0 rfl rfl (k := ((40 * (nC v0)) + (nC v1)) + k147) (y := y147ce (((40 * (nC v0)) + (nC v1)) + k147)) (by omega) rfl rfl dX6_copy_193 ?_
                                  refine g_iast (D := G.1) hx hb hK hP hD hS 3 0 rfl rfl (k := ((40 * (nC v2)) + (nC v3)) + k147) (x := (y147ce (((40 * (nC v0)) + (nC v1)) + k147))) (by omega) rfl dX6_copy_194 (fun H locs hP hD hS => ?_)
                                  have hz9 : gPD G A [zo6 h0 (nI pb) kd mo st (nI jg) ro tp (nI td) cd sr (nI tx) (nI ru) him ir ih ss sq ce lw s19 s20 s21 s22 wo he s25 s26 s27 sk na kp s31 s32 s33 s34 gb go fa ga s39 s40 vo, zi G ss 4 fss, zi G sq 4 (nF fsq), zi G ce 160 (upd y147ce (((40 * (nC v2)) + (nC v3)) + k147) (y147ce (((40 * (nC v0)) + (nC v1)) + k147)))] H := ⟨hP, hD⟩
                                  have hP := hz9.1
                                  have hD := hz9.2
                                  refine lv_iinc (v := nI (k147 + 1)) (lv' := [zI 8 (nI (k147 + 1)), zI 9 (nI k147), zI 7 (nI ((40 * (nC v2)) + (nC v3))), zI 6 (nI ((40 * (nC v0)) + (nC v1))), zR 0 h0, zI 1 v0, zI 2 v1, zI 3 v2, zI 4 v3, zI 5 v4]) hx hb dX6_copy_195 hl (k := 1) rfl (nI_add k147 1) (by decide +kernel) rfl (fun ls hl => ?_)
                                  refine lv_goto (tgt := 147) hx hb dX6_copy_198 (by decide +kernel) ?_
                                  exact ih9_147 (k147 + 1) (upd y147ce (((40 * (nC v2)) + (nC v3)) + k147) (y147ce (((40 * (nC v0)) + (nC v1)) + k147))) (by omega) (Eq.trans (Eq.symm ((congrArg (fun z9 => p_X6_copy_147 v0 v1 v2 v3 v4 (z9) k147 y147ce) (show nC v4 - k147 = nC v4 - (k147 + 1) + 1 by omega)).trans (by show p_X6_copy_147 v0 v1 v2 v3 v4 (nC v4 - (k147 + 1) + 1) k147 y147ce = _; rw [p_X6_copy_147, if_pos c_75]))) R147) (by omega) _ _ hP hD hS ls (lv_sub hl [0, 2, 3, 4, 5, 6, 7, 8, 9] rfl)
                                · skip
                                  have c_75N : ((40 * (nC v0)) + (nC v1)) < ((40 * (nC v2)) + (nC v3)) := nI_le0 (a := ((40 * (nC v2)) + (nC v3))) (b := ((40 * (nC v0)) + (nC v1))) (by omega) (by omega) c_75
                                  refine lv_iload hx hb dX6_copy_161 (lv_at hl 8 rfl) ?_
                                  refine g_topi (y := nI (nC v4)) hv_29 ?_
                                  refine lv_iconst (v := 1) hx hb dX6_copy_163 (by decide +kernel) ?_
                                  refine lv_isub hx hb dX6_copy_164 ?_
                                  refine g_topi (y := nI ((nC v4) - 1)) (pk_sub (a := (nC v4)) (b := 1) (by omega)) ?_
                                  refine lv_iload hx hb dX6_copy_165 (lv_at hl 0 rfl) ?_
                                  refine lv_isub hx hb dX6_copy_167 ?_
                                  refine g_topi (y := nI (((nC v4) - 1) - k147)) (pk_sub (a := ((nC v4) - 1)) (b := k147) (by omega)) ?_
                                  refine lv_goto (tgt := 173) hx hb dX6_copy_168 (by decide +kernel) ?_
                                  refine lv_istore (lv' := [zI 9 (nI (((nC v4) - 1) - k147)), zI 8 (nI k147), zI 7 (nI ((40 * (nC v2)) + (nC v3))), zI 6 (nI ((40 * (nC v0)) + (nC v1))), zR 0 h0, zI 1 v0, zI 2 v1, zI 3 v2, zI 4 v3, zI 5 v4]) hx hb dX6_copy_173 hl (by decide +kernel) rfl (fun ls hl => ?_)
                                  refine g_aget (D := G.1) (ci := 6) (v := .ref ce) (C := RX6) (T := TX6) (N := 42) hx hb dX6_copy_175 rfl (lv_at hl 4 rfl) hts hiX6 hown hK hP 0 rfl rfl 17 (by decide +kernel) kf43 (fun _ h9 => h9) rfl dX6_copy_176 ?_
                                  refine lv_iload hx hb dX6_copy_179 (lv_at hl 2 rfl) ?_
                                  refine lv_iload hx hb dX6_copy_181 (lv_at hl 0 rfl) ?_
                                  refine lv_iadd hx hb dX6_copy_183 ?_
                                  refine g_topi (y := nI (((40 * (nC v2)) + (nC v3)) + (((nC v4) - 1) - k147))) (nI_add ((40 * (nC v2)) + (nC v3)) (((nC v4) - 1) - k147)) ?_
                                  refine g_aget (D := G.1) (ci := 6) (v := .ref ce) (C := RX6) (T := TX6) (N := 42) hx hb dX6_copy_184 rfl (lv_at hl 4 rfl) hts hiX6 hown hK hP 0 rfl rfl 17 (by decide +kernel) kf43 (fun _ h9 => h9) rfl dX6_copy_185 ?_
                                  refine lv_iload hx hb dX6_copy_188 (lv_at hl 3 rfl) ?_
                                  refine lv_iload hx hb dX6_copy_190 (lv_at hl 0 rfl) ?_
                                  refine lv_iadd hx hb dX6_copy_192 ?_
                                  refine g_topi (y := nI (((40 * (nC v0)) + (nC v1)) + (((nC v4) - 1) - k147))) (nI_add ((40 * (nC v0)) + (nC v1)) (((nC v4) - 1) - k147)) ?_
                                  refine g_iald (D := G.1) hx hb hK hP 3 0 rfl rfl (k := ((40 * (nC v0)) + (nC v1)) + (((nC v4) - 1) - k147)) (y := y147ce (((40 * (nC v0)) + (nC v1)) + (((nC v4) - 1) - k147))) (by omega) rfl rfl dX6_copy_193 ?_
                                  refine g_iast (D := G.1) hx hb hK hP hD hS 3 0 rfl rfl (k := ((40 * (nC v2)) + (nC v3)) + (((nC v4) - 1) - k147)) (x := (y147ce (((40 * (nC v0)) + (nC v1)) + (((nC v4) - 1) - k147)))) (by omega) rfl dX6_copy_194 (fun H locs hP hD hS => ?_)
                                  have hz9 : gPD G A [zo6 h0 (nI pb) kd mo st (nI jg) ro tp (nI td) cd sr (nI tx) (nI ru) him ir ih ss sq ce lw s19 s20 s21 s22 wo he s25 s26 s27 sk na kp s31 s32 s33 s34 gb go fa ga s39 s40 vo, zi G ss 4 fss, zi G sq 4 (nF fsq), zi G ce 160 (upd y147ce (((40 * (nC v2)) + (nC v3)) + (((nC v4) - 1) - k147)) (y147ce (((40 * (nC v0)) + (nC v1)) + (((nC v4) - 1) - k147))))] H := ⟨hP, hD⟩
                                  have hP := hz9.1
                                  have hD := hz9.2
                                  refine lv_iinc (v := nI (k147 + 1)) (lv' := [zI 8 (nI (k147 + 1)), zI 9 (nI (((nC v4) - 1) - k147)), zI 7 (nI ((40 * (nC v2)) + (nC v3))), zI 6 (nI ((40 * (nC v0)) + (nC v1))), zR 0 h0, zI 1 v0, zI 2 v1, zI 3 v2, zI 4 v3, zI 5 v4]) hx hb dX6_copy_195 hl (k := 1) rfl (nI_add k147 1) (by decide +kernel) rfl (fun ls hl => ?_)
                                  refine lv_goto (tgt := 147) hx hb dX6_copy_198 (by decide +kernel) ?_
                                  exact ih9_147 (k147 + 1) (upd y147ce (((40 * (nC v2)) + (nC v3)) + (((nC v4) - 1) - k147)) (y147ce (((40 * (nC v0)) + (nC v1)) + (((nC v4) - 1) - k147)))) (by omega) (Eq.trans (Eq.symm ((congrArg (fun z9 => p_X6_copy_147 v0 v1 v2 v3 v4 (z9) k147 y147ce) (show nC v4 - k147 = nC v4 - (k147 + 1) + 1 by omega)).trans (by show p_X6_copy_147 v0 v1 v2 v3 v4 (nC v4 - (k147 + 1) + 1) k147 y147ce = _; rw [p_X6_copy_147, if_neg c_75]))) R147) (by omega) _ _ hP hD hS ls (lv_sub hl [0, 2, 3, 4, 5, 6, 7, 8, 9] rfl)
                          exact loop_147 (nC v4 - 0 + 1) 0 fce (by omega) (rfl) (by omega) _ _ hP hD hS ls hl
                        · skip
                          have c_62N : ((fsq (nC v2)) - (nC v3)) < (nC v4) := nI_le0 (a := (nC v4)) (b := ((fsq (nC v2)) - (nC v3))) (by omega) (by omega) c_62
                          refine lv_bipush (v := -12) hx hb dX6_copy_124 (by decide +kernel) ?_
                          have q_85 : m_X6_copy_ce fss fsq fce v0 v1 v2 v3 v4 = fce := by unfold m_X6_copy_ce; rw [if_pos p_4, if_pos p_12, if_neg c_18, if_neg c_22, if_pos c_27, if_neg c_28, if_neg c_32, if_neg c_36, if_neg c_43, if_neg c_48, if_neg c_55, if_neg c_62]
                          have hz9 : gPD G A [zo6 h0 (nI pb) kd mo st (nI jg) ro tp (nI td) cd sr (nI tx) (nI ru) him ir ih ss sq ce lw s19 s20 s21 s22 wo he s25 s26 s27 sk na kp s31 s32 s33 s34 gb go fa ga s39 s40 vo, zi G ss 4 fss, zi G sq 4 (nF fsq), zi G ce 160 (m_X6_copy_ce fss fsq fce v0 v1 v2 v3 v4)] H := ⟨by rw [q_85]; exact hP, by rw [q_85]; exact hD⟩
                          have hP9 := hz9.1
                          have hD9 := hz9.2
                          have hpost : (fun (r : Int32) (u : Unit) => match u with | _ => r = m_X6_copy fss fsq v0 v1 v2 v3 v4) (-12) () := (show m_X6_copy fss fsq v0 v1 v2 v3 v4 = (-12) from by unfold m_X6_copy; rw [if_pos p_4, if_pos p_12, if_neg c_18, if_neg c_22, if_pos c_27, if_neg c_28, if_neg c_32, if_neg c_36, if_neg c_43, if_neg c_48, if_neg c_55, if_neg c_62]).symm
                          exact W.iret (v := (-12)) hx hb hr (fun t ht hW => ⟨⟨(-12), (), rfl, hpost, by rw [ht]; exact hP9, va_K.moved hW.alike hK, hD9⟩, hS.F ht⟩) hS.2.2 dX6_copy_126
          · skip
            refine lv_bipush (v := -13) hx hb dX6_copy_59 (by decide +kernel) ?_
            have q_86 : m_X6_copy_ce fss fsq fce v0 v1 v2 v3 v4 = fce := by unfold m_X6_copy_ce; rw [if_pos p_4, if_pos p_12, if_neg c_18, if_neg c_22, if_neg c_27]
            have hz9 : gPD G A [zo6 h0 (nI pb) kd mo st (nI jg) ro tp (nI td) cd sr (nI tx) (nI ru) him ir ih ss sq ce lw s19 s20 s21 s22 wo he s25 s26 s27 sk na kp s31 s32 s33 s34 gb go fa ga s39 s40 vo, zi G ss 4 fss, zi G sq 4 (nF fsq), zi G ce 160 (m_X6_copy_ce fss fsq fce v0 v1 v2 v3 v4)] H := ⟨by rw [q_86]; exact hP, by rw [q_86]; exact hD⟩
            have hP9 := hz9.1
            have hD9 := hz9.2
            have hpost : (fun (r : Int32) (u : Unit) => match u with | _ => r = m_X6_copy fss fsq v0 v1 v2 v3 v4) (-13) () := (show m_X6_copy fss fsq v0 v1 v2 v3 v4 = (-13) from by unfold m_X6_copy; rw [if_pos p_4, if_pos p_12, if_neg c_18, if_neg c_22, if_neg c_27]).symm
            exact W.iret (v := (-13)) hx hb hr (fun t ht hW => ⟨⟨(-13), (), rfl, hpost, by rw [ht]; exact hP9, va_K.moved hW.alike hK, hD9⟩, hS.F ht⟩) hS.2.2 dX6_copy_61
        · skip
          refine lv_bipush (v := -11) hx hb dX6_copy_41 (by decide +kernel) ?_
          have q_87 : m_X6_copy_ce fss fsq fce v0 v1 v2 v3 v4 = fce := by unfold m_X6_copy_ce; rw [if_pos p_4, if_pos p_12, if_neg c_18, if_pos c_22]
          have hz9 : gPD G A [zo6 h0 (nI pb) kd mo st (nI jg) ro tp (nI td) cd sr (nI tx) (nI ru) him ir ih ss sq ce lw s19 s20 s21 s22 wo he s25 s26 s27 sk na kp s31 s32 s33 s34 gb go fa ga s39 s40 vo, zi G ss 4 fss, zi G sq 4 (nF fsq), zi G ce 160 (m_X6_copy_ce fss fsq fce v0 v1 v2 v3 v4)] H := ⟨by rw [q_87]; exact hP, by rw [q_87]; exact hD⟩
          have hP9 := hz9.1
          have hD9 := hz9.2
          have hpost : (fun (r : Int32) (u : Unit) => match u with | _ => r = m_X6_copy fss fsq v0 v1 v2 v3 v4) (-11) () := (show m_X6_copy fss fsq v0 v1 v2 v3 v4 = (-11) from by unfold m_X6_copy; rw [if_pos p_4, if_pos p_12, if_neg c_18, if_pos c_22]).symm
          exact W.iret (v := (-11)) hx hb hr (fun t ht hW => ⟨⟨(-11), (), rfl, hpost, by rw [ht]; exact hP9, va_K.moved hW.alike hK, hD9⟩, hS.F ht⟩) hS.2.2 dX6_copy_43
    · skip
      have n_13 : ¬ (0 ≤ v2 ∧ v2 ≤ 3) := of_decide_eq_false (bz_eq rfl c_11)
      refine lv_bipush (v := -2) hx hb dX6_copy_18 (by decide +kernel) ?_
      have q_88 : m_X6_copy_ce fss fsq fce v0 v1 v2 v3 v4 = fce := by unfold m_X6_copy_ce; rw [if_pos p_4, if_neg n_13]
      have hz9 : gPD G A [zo6 h0 (nI pb) kd mo st (nI jg) ro tp (nI td) cd sr (nI tx) (nI ru) him ir ih ss sq ce lw s19 s20 s21 s22 wo he s25 s26 s27 sk na kp s31 s32 s33 s34 gb go fa ga s39 s40 vo, zi G ss 4 fss, zi G sq 4 (nF fsq), zi G ce 160 (m_X6_copy_ce fss fsq fce v0 v1 v2 v3 v4)] H := ⟨by rw [q_88]; exact hP, by rw [q_88]; exact hD⟩
      have hP9 := hz9.1
      have hD9 := hz9.2
      have hpost : (fun (r : Int32) (u : Unit) => match u with | _ => r = m_X6_copy fss fsq v0 v1 v2 v3 v4) (-2) () := (show m_X6_copy fss fsq v0 v1 v2 v3 v4 = (-2) from by unfold m_X6_copy; rw [if_pos p_4, if_neg n_13]).symm
      exact W.iret (v := (-2)) hx hb hr (fun t ht hW => ⟨⟨(-2), (), rfl, hpost, by rw [ht]; exact hP9, va_K.moved hW.alike hK, hD9⟩, hS.F ht⟩) hS.2.2 dX6_copy_20
noncomputable def m_X6_taken (pb : Nat) (jg : Nat) (fkd : Nat → Int32) (fro : Nat → Int32) (v0 : Int32) (v1 : Int32) : Int64 := if 0 ≤ v1 ∧ v1 ≤ 6 then (if 0 ≤ v0 ∧ v0 ≤ 9 then (if (nI (nC v0)) < 6 then (if (nI (nC v0)) < (nI pb) then (if 6 ≤ (nI (nC v1)) then -13 else (if (m_X6_isUnder (fkd (nC v0)) (nI (nC v1))) = 0 then -13 else lN (nC v0))) else -11) else (if (nI ((nC v0) - 6)) < (nI jg) then (if (nI (nC v1)) = 6 then (fro ((3 * ((nC v0) - 6)) + 2)).toInt64 else -13) else -11)) else -12) else -2
abbrev q_X6_taken (G : gG) (h0 kd mo st ro tp cd sr ir ih ss sq ce lw wo he sk na kp gb go fa ga vo : Nat) (pb : Nat) (jg : Nat) (td : Nat) (tx : Nat) (ru : Nat) (him : Int32) (s19 : Int32) (s20 : Int32) (s21 : Int32) (s22 : Int32) (s25 : Int32) (s26 : Int32) (s27 : Int32) (s31 : Int32) (s32 : Int32) (s33 : Int32) (s34 : Int32) (s39 : Int32) (s40 : Int32) (fkd : Nat → Int32) (fro : Nat → Int32) (v0 : Int32) (v1 : Int32) (A : Nat → Prop) : Array Value → State → Outcome → State → Prop := va_Ql (fun (r : Int64) (u : Unit) => match u with | _ => r = m_X6_taken pb jg fkd fro v0 v1) (fun (u : Unit) t => match u with | _ => va_P G.1 vwCl [zo6 h0 (nI pb) kd mo st (nI jg) ro tp (nI td) cd sr (nI tx) (nI ru) him ir ih ss sq ce lw s19 s20 s21 s22 wo he s25 s26 s27 sk na kp s31 s32 s33 s34 gb go fa ga s39 s40 vo, zi G kd 6 fkd, zi G ro 12 fro] t.heap ∧ gK G t ∧ va_D A [zo6 h0 (nI pb) kd mo st (nI jg) ro tp (nI td) cd sr (nI tx) (nI ru) him ir ih ss sq ce lw s19 s20 s21 s22 wo he s25 s26 s27 sk na kp s31 s32 s33 s34 gb go fa ga s39 s40 vo, zi G kd 6 fkd, zi G ro 12 fro]) A
set_option maxHeartbeats 4000000 in
set_option maxRecDepth 100000 in
theorem c_X6_taken (l : Launch) (G : gG) (h0 kd mo st ro tp cd sr ir ih ss sq ce lw wo he sk na kp gb go fa ga vo : Nat) (pb : Nat) (jg : Nat) (td : Nat) (tx : Nat) (ru : Nat) (him : Int32) (s19 : Int32) (s20 : Int32) (s21 : Int32) (s22 : Int32) (s25 : Int32) (s26 : Int32) (s27 : Int32) (s31 : Int32) (s32 : Int32) (s33 : Int32) (s34 : Int32) (s39 : Int32) (s40 : Int32) (fkd : Nat → Int32) (fro : Nat → Int32) (v0 : Int32) (v1 : Int32) (sz : Nat) (hpb : pb ≤ 6) (hjg : jg ≤ 4) (htx : tx ≤ 6) (hru : ru < tx) : Met l yX6_taken wsX6_taken ({ frames := 1, cells := 0, slots := 0, locals := 22 }) (gPre G [.ref h0, .int v0, .int v1] [zo6 h0 (nI pb) kd mo st (nI jg) ro tp (nI td) cd sr (nI tx) (nI ru) him ir ih ss sq ce lw s19 s20 s21 s22 wo he s25 s26 s27 sk na kp s31 s32 s33 s34 gb go fa ga s39 s40 vo, zi G kd 6 fkd, zi G ro 12 fro] sz) (q_X6_taken G h0 kd mo st ro tp cd sr ir ih ss sq ce lw wo he sk na kp gb go fa ga vo pb jg td tx ru him s19 s20 s21 s22 s25 s26 s27 s31 s32 s33 s34 s39 s40 fkd fro v0 v1 (va_A [zo6 h0 (nI pb) kd mo st (nI jg) ro tp (nI td) cd sr (nI tx) (nI ru) him ir ih ss sq ce lw s19 s20 s21 s22 wo he s25 s26 s27 sk na kp s31 s32 s33 s34 gb go fa ga s39 s40 vo, zi G kd 6 fkd, zi G ro 12 fro] sz)) 0 0 (va_A [zo6 h0 (nI pb) kd mo st (nI jg) ro tp (nI td) cd sr (nI tx) (nI ru) him ir ih ss sq ce lw s19 s20 s21 s22 wo he s25 s26 s27 sk na kp s31 s32 s33 s34 gb go fa ga s39 s40 vo, zi G kd 6 fkd, zi G ro 12 fro] sz) := by
  refine Met.ofW (cc := cX6_taken) (maxL := 3) (ret := (some .long)) (by decide +kernel) rfl ?_
  intro p e s m args below meth c s₁ B hml hv
  obtain ⟨rfl, hsz, hP, hK, hD0⟩ := hv
  have hx := B.exec
  have hb := B.bytes
  have hr := B.returns
  have hts := atoms_spec (ws := wsX6_taken) B.pre
  have hown : s.vm.findClass RX6 = some m.cls := findClass_of_methodNamed B.named
  have hlocks := B.notSynchronized
  subst hsz
  have hD := hD0.self (sz := s.heap.size)
  generalize hAe : va_A [zo6 h0 (nI pb) kd mo st (nI jg) ro tp (nI td) cd sr (nI tx) (nI ru) him ir ih ss sq ce lw s19 s20 s21 s22 wo he s25 s26 s27 sk na kp s31 s32 s33 s34 gb go fa ga s39 s40 vo, zi G kd 6 fkd, zi G ro 12 fro] s.heap.size = A at hD ⊢
  have hA : ∀ q : Nat, s.heap.size ≤ q → A q := fun q h => by rw [← hAe]; exact Or.inr h
  have hS : va_S A s.heap s.heap [] := va_S.rf
  have hz9 : gPD G A [zo6 h0 (nI pb) kd mo st (nI jg) ro tp (nI td) cd sr (nI tx) (nI ru) him ir ih ss sq ce lw s19 s20 s21 s22 wo he s25 s26 s27 sk na kp s31 s32 s33 s34 gb go fa ga s39 s40 vo, zi G kd 6 fkd, zi G ro 12 fro] s.heap := ⟨hP, hD⟩
  have hP := hz9.1
  have hD := hz9.2
  have hl := lv_entry ([.ref h0, .int v0, .int v1]) (n := 3) (Nat.le_of_ble_eq_true rfl)
  rw [lg_entry_eq]
  generalize (lg_sl ([.ref h0, .int v0, .int v1]) ++ List.replicate (3 - (lg_sl ([.ref h0, .int v0, .int v1])).length) Slot.unset).toArray = ls at hl ⊢
  have hl : lv_has ls 3 [zR 0 h0, zI 1 v0, zI 2 v1] := hl
  have kf88 := hts (.fieldLink RX6 88 "PebbleInShoeModel" "pebbles" "I") (by decide +kernel)
  have hiX6 := (by decide +kernel : ∀ w ∈ wsX60, w ∈ wsX6_taken)
  have kf7 := hts (.fieldLink RX6 7 "PebbleInShoeModel" "kind" "[I") (by decide +kernel)
  have kf95 := hts (.fieldLink RX6 95 "PebbleInShoeModel" "judges" "I") (by decide +kernel)
  have kf19 := hts (.fieldLink RX6 19 "PebbleInShoeModel" "rows" "[I") (by decide +kernel)
  refine lv_iload_n hx hb dX6_taken_0 rfl (lv_at hl 2 rfl) ?_
  refine lv_iconst (v := 0) hx hb dX6_taken_1 (by decide +kernel) ?_
  refine lv_bipush (v := 6) hx hb dX6_taken_2 (by decide +kernel) ?_
  refine z_calli [] (v := bz (decide (0 ≤ v1 ∧ v1 ≤ 6))) (fun _ _ h => h) (va_runS (As := [.int v1, .int 0, .int 6]) (rest := []) ⟨hx, hb, hml, hown, hts⟩ (c_X6_in l G v1 0 6 s.heap.size) (va_cwS 3 hts gX6_taken_X6_in rfl rfl rfl (by decide +kernel) ⟨Nat.le_of_ble_eq_true rfl, Nat.le_of_ble_eq_true rfl⟩) ⟨gPre_blind, fun U hU hW => gPre_ofF [] hU hW hK hP hD (by decide +kernel) rfl⟩ rfl rfl hl.1 rfl (lv_room (Nat.le_of_ble_eq_true rfl)) dX6_taken_4 ⟨Nat.le_of_ble_eq_true rfl, Nat.le_of_ble_eq_true rfl⟩) hS hD hA rfl (fun u t H locs ht hvm hB hz1 hk1 hFq hAq hS => ?_)
  obtain ⟨hP1, hK1, hD1⟩ := hB
  have hP := zKeep hP hD [] hAq hk1 ht hP1 rfl
  refine lv_if_ne (tgt := 14) hx hb dX6_taken_7 (by decide +kernel) (fun c_3 => ?_) (fun c_3 => ?_)
  · skip
    have p_4 : 0 ≤ v1 ∧ v1 ≤ 6 := of_decide_eq_true (bz_ne rfl c_3)
    have hv_6 : v1 = nI (nC v1) := nC_eq p_4.1
    have hk_7 : nC v1 ≤ 6 := nC_le (n := 6) (by omega) p_4
    refine lv_iload_n hx hb dX6_taken_14 rfl (lv_at hl 1 rfl) ?_
    refine lv_iconst (v := 0) hx hb dX6_taken_15 (by decide +kernel) ?_
    refine lv_bipush (v := 9) hx hb dX6_taken_16 (by decide +kernel) ?_
    refine z_calli [] (v := bz (decide (0 ≤ v0 ∧ v0 ≤ 9))) (fun _ _ h => h) (va_runS (As := [.int v0, .int 0, .int 9]) (rest := []) ⟨hx, hb, hml, hown, hts⟩ (c_X6_in l G v0 0 9 H.size) (va_cwS 3 hts gX6_taken_X6_in rfl rfl rfl (by decide +kernel) ⟨Nat.le_of_ble_eq_true rfl, Nat.le_of_ble_eq_true rfl⟩) ⟨gPre_blind, fun U hU hW => gPre_ofF [] hU hW hK hP hD (by decide +kernel) rfl⟩ rfl rfl hl.1 rfl (lv_room (Nat.le_of_ble_eq_true rfl)) dX6_taken_18 ⟨Nat.le_of_ble_eq_true rfl, Nat.le_of_ble_eq_true rfl⟩) hS hD hA rfl (fun u t H locs ht hvm hB hz1 hk1 hFq hAq hS => ?_)
    obtain ⟨hP1, hK1, hD1⟩ := hB
    have hP := zKeep hP hD [] hAq hk1 ht hP1 rfl
    refine lv_if_ne (tgt := 28) hx hb dX6_taken_21 (by decide +kernel) (fun c_10 => ?_) (fun c_10 => ?_)
    · skip
      have p_11 : 0 ≤ v0 ∧ v0 ≤ 9 := of_decide_eq_true (bz_ne rfl c_10)
      have hv_13 : v0 = nI (nC v0) := nC_eq p_11.1
      have hk_14 : nC v0 ≤ 9 := nC_le (n := 9) (by omega) p_11
      refine lv_iload_n hx hb dX6_taken_28 rfl (lv_at hl 1 rfl) ?_
      refine g_topi (y := nI (nC v0)) hv_13 ?_
      refine lv_bipush (v := 6) hx hb dX6_taken_29 (by decide +kernel) ?_
      refine lv_icmp_lt (tgt := 78) hx hb dX6_taken_31 (by decide +kernel) (fun c_16 => ?_) (fun c_16 => ?_)
      · skip
        have c_16N : (nC v0) < 6 := nI_lt1 (a := (nC v0)) (b := 6) (by omega) (by omega) c_16
        refine lv_iload_n hx hb dX6_taken_78 rfl (lv_at hl 1 rfl) ?_
        refine g_topi (y := nI (nC v0)) hv_13 ?_
        refine g_aget (D := G.1) (ci := 6) (v := .int (nI pb)) (C := RX6) (T := TX6) (N := 42) hx hb dX6_taken_79 rfl (lv_at hl 0 rfl) hts hiX6 hown hK hP 0 rfl rfl 0 (by decide +kernel) kf88 (fun _ h9 => h9) rfl dX6_taken_80 ?_
        refine lv_icmp_lt (tgt := 92) hx hb dX6_taken_83 (by decide +kernel) (fun c_18 => ?_) (fun c_18 => ?_)
        · skip
          have c_18N : (nC v0) < pb := nI_lt1 (a := (nC v0)) (b := pb) (by omega) (by omega) c_18
          refine lv_iload_n hx hb dX6_taken_92 rfl (lv_at hl 2 rfl) ?_
          refine g_topi (y := nI (nC v1)) hv_6 ?_
          refine lv_bipush (v := 6) hx hb dX6_taken_93 (by decide +kernel) ?_
          refine lv_icmp_ge (tgt := 116) hx hb dX6_taken_95 (by decide +kernel) (fun c_20 => ?_) (fun c_20 => ?_)
          · skip
            have c_20N : 6 ≤ (nC v1) := nI_le1 (a := 6) (b := (nC v1)) (by omega) (by omega) c_20
            refine lv_ldc2 hx hb hown (hts (.constantLong RX6 286 (-13)) (by decide +kernel)) dX6_taken_116 ?_
            have hpost : (fun (r : Int64) (u : Unit) => match u with | _ => r = m_X6_taken pb jg fkd fro v0 v1) (-13) () := (show m_X6_taken pb jg fkd fro v0 v1 = (-13) from by unfold m_X6_taken; rw [if_pos p_4, if_pos p_11, if_pos c_16, if_pos c_18, if_pos c_20]).symm
            exact W.lret (v := (-13)) hx hb hr (fun t ht hW => ⟨⟨(-13), (), rfl, hpost, by rw [ht]; exact hP, va_K.moved hW.alike hK, hD⟩, hS.F ht⟩) hS.2.2 dX6_taken_119
          · skip
            have c_20N : (nC v1) < 6 := nI_le0 (a := 6) (b := (nC v1)) (by omega) (by omega) c_20
            refine g_aget (D := G.1) (ci := 6) (v := .ref kd) (C := RX6) (T := TX6) (N := 42) hx hb dX6_taken_98 rfl (lv_at hl 0 rfl) hts hiX6 hown hK hP 0 rfl rfl 1 (by decide +kernel) kf7 (fun _ h9 => h9) rfl dX6_taken_99 ?_
            refine lv_iload_n hx hb dX6_taken_102 rfl (lv_at hl 1 rfl) ?_
            refine g_topi (y := nI (nC v0)) hv_13 ?_
            refine g_iald (D := G.1) hx hb hK hP 1 0 rfl rfl (k := nC v0) (y := fkd (nC v0)) (by omega) rfl rfl dX6_taken_103 ?_
            refine lv_iload_n hx hb dX6_taken_104 rfl (lv_at hl 2 rfl) ?_
            refine g_topi (y := nI (nC v1)) hv_6 ?_
            refine z_calli [] (v := m_X6_isUnder (fkd (nC v0)) (nI (nC v1))) (fun _ _ h => h) (va_runS (As := [.int (fkd (nC v0)), .int (nI (nC v1))]) (rest := []) ⟨hx, hb, hml, hown, hts⟩ (c_X6_isUnder l G (fkd (nC v0)) (nI (nC v1)) H.size) (va_cwS 2 hts gX6_taken_X6_isUnder rfl rfl rfl (by decide +kernel) ⟨Nat.le_of_ble_eq_true rfl, Nat.le_of_ble_eq_true rfl⟩) ⟨gPre_blind, fun U hU hW => gPre_ofF [] hU hW hK hP hD (by decide +kernel) rfl⟩ rfl rfl hl.1 rfl (lv_room (Nat.le_of_ble_eq_true rfl)) dX6_taken_105 ⟨Nat.le_of_ble_eq_true rfl, Nat.le_of_ble_eq_true rfl⟩) hS hD hA rfl (fun u t H locs ht hvm hB hz1 hk1 hFq hAq hS => ?_)
            obtain ⟨hP1, hK1, hD1⟩ := hB
            have hP := zKeep hP hD [] hAq hk1 ht hP1 rfl
            refine lv_if_eq (tgt := 116) hx hb dX6_taken_108 (by decide +kernel) (fun c_26 => ?_) (fun c_26 => ?_)
            · skip
              refine lv_ldc2 hx hb hown (hts (.constantLong RX6 286 (-13)) (by decide +kernel)) dX6_taken_116 ?_
              have hpost : (fun (r : Int64) (u : Unit) => match u with | _ => r = m_X6_taken pb jg fkd fro v0 v1) (-13) () := (show m_X6_taken pb jg fkd fro v0 v1 = (-13) from by unfold m_X6_taken; rw [if_pos p_4, if_pos p_11, if_pos c_16, if_pos c_18, if_neg c_20, if_pos c_26]).symm
              exact W.lret (v := (-13)) hx hb hr (fun t ht hW => ⟨⟨(-13), (), rfl, hpost, by rw [ht]; exact hP, va_K.moved hW.alike hK, hD⟩, hS.F ht⟩) hS.2.2 dX6_taken_119
            · skip
              refine lv_iload_n hx hb dX6_taken_111 rfl (lv_at hl 1 rfl) ?_
              refine g_topi (y := nI (nC v0)) hv_13 ?_
              refine lv_i2l (v := lN (nC v0)) hx hb dX6_taken_112 (nI_l (by omega)) ?_
              refine lv_goto (tgt := 119) hx hb dX6_taken_113 (by decide +kernel) ?_
              have hpost : (fun (r : Int64) (u : Unit) => match u with | _ => r = m_X6_taken pb jg fkd fro v0 v1) (lN (nC v0)) () := (show m_X6_taken pb jg fkd fro v0 v1 = (lN (nC v0)) from by unfold m_X6_taken; rw [if_pos p_4, if_pos p_11, if_pos c_16, if_pos c_18, if_neg c_20, if_neg c_26]).symm
              exact W.lret (v := (lN (nC v0))) hx hb hr (fun t ht hW => ⟨⟨(lN (nC v0)), (), rfl, hpost, by rw [ht]; exact hP, va_K.moved hW.alike hK, hD⟩, hS.F ht⟩) hS.2.2 dX6_taken_119
        · skip
          have c_18N : pb ≤ (nC v0) := nI_lt0 (a := (nC v0)) (b := pb) (by omega) (by omega) c_18
          refine lv_ldc2 hx hb hown (hts (.constantLong RX6 284 (-11)) (by decide +kernel)) dX6_taken_86 ?_
          refine lv_goto (tgt := 119) hx hb dX6_taken_89 (by decide +kernel) ?_
          have hpost : (fun (r : Int64) (u : Unit) => match u with | _ => r = m_X6_taken pb jg fkd fro v0 v1) (-11) () := (show m_X6_taken pb jg fkd fro v0 v1 = (-11) from by unfold m_X6_taken; rw [if_pos p_4, if_pos p_11, if_pos c_16, if_neg c_18]).symm
          exact W.lret (v := (-11)) hx hb hr (fun t ht hW => ⟨⟨(-11), (), rfl, hpost, by rw [ht]; exact hP, va_K.moved hW.alike hK, hD⟩, hS.F ht⟩) hS.2.2 dX6_taken_119
      · skip
        have c_16N : 6 ≤ (nC v0) := nI_lt0 (a := (nC v0)) (b := 6) (by omega) (by omega) c_16
        refine lv_iload_n hx hb dX6_taken_34 rfl (lv_at hl 1 rfl) ?_
        refine g_topi (y := nI (nC v0)) hv_13 ?_
        refine lv_bipush (v := 6) hx hb dX6_taken_35 (by decide +kernel) ?_
        refine lv_isub hx hb dX6_taken_37 ?_
        refine g_topi (y := nI ((nC v0) - 6)) (pk_sub (a := (nC v0)) (b := 6) (by omega)) ?_
        refine g_aget (D := G.1) (ci := 6) (v := .int (nI jg)) (C := RX6) (T := TX6) (N := 42) hx hb dX6_taken_38 rfl (lv_at hl 0 rfl) hts hiX6 hown hK hP 0 rfl rfl 4 (by decide +kernel) kf95 (fun _ h9 => h9) rfl dX6_taken_39 ?_
        refine lv_icmp_lt (tgt := 51) hx hb dX6_taken_42 (by decide +kernel) (fun c_30 => ?_) (fun c_30 => ?_)
        · skip
          have c_30N : ((nC v0) - 6) < jg := nI_lt1 (a := ((nC v0) - 6)) (b := jg) (by omega) (by omega) c_30
          refine lv_iload_n hx hb dX6_taken_51 rfl (lv_at hl 2 rfl) ?_
          refine g_topi (y := nI (nC v1)) hv_6 ?_
          refine lv_bipush (v := 6) hx hb dX6_taken_52 (by decide +kernel) ?_
          refine lv_icmp_ne (tgt := 74) hx hb dX6_taken_54 (by decide +kernel) (fun c_32 => ?_) (fun c_32 => ?_)
          · skip
            have c_32N : ¬ (nC v1) = 6 := nI_eq0 (a := (nC v1)) (b := 6) (by omega) (by omega) c_32
            refine lv_ldc2 hx hb hown (hts (.constantLong RX6 286 (-13)) (by decide +kernel)) dX6_taken_74 ?_
            have hpost : (fun (r : Int64) (u : Unit) => match u with | _ => r = m_X6_taken pb jg fkd fro v0 v1) (-13) () := (show m_X6_taken pb jg fkd fro v0 v1 = (-13) from by unfold m_X6_taken; rw [if_pos p_4, if_pos p_11, if_neg c_16, if_pos c_30, if_neg c_32]).symm
            exact W.lret (v := (-13)) hx hb hr (fun t ht hW => ⟨⟨(-13), (), rfl, hpost, by rw [ht]; exact hP, va_K.moved hW.alike hK, hD⟩, hS.F ht⟩) hS.2.2 dX6_taken_77
          · skip
            have c_32N : (nC v1) = 6 := nI_eq1 (a := (nC v1)) (b := 6) (by omega) (by omega) c_32
            refine g_aget (D := G.1) (ci := 6) (v := .ref ro) (C := RX6) (T := TX6) (N := 42) hx hb dX6_taken_57 rfl (lv_at hl 0 rfl) hts hiX6 hown hK hP 0 rfl rfl 5 (by decide +kernel) kf19 (fun _ h9 => h9) rfl dX6_taken_58 ?_
            refine lv_iconst (v := 3) hx hb dX6_taken_61 (by decide +kernel) ?_
            refine lv_iload_n hx hb dX6_taken_62 rfl (lv_at hl 1 rfl) ?_
            refine g_topi (y := nI (nC v0)) hv_13 ?_
            refine lv_bipush (v := 6) hx hb dX6_taken_63 (by decide +kernel) ?_
            refine lv_isub hx hb dX6_taken_65 ?_
            refine g_topi (y := nI ((nC v0) - 6)) (pk_sub (a := (nC v0)) (b := 6) (by omega)) ?_
            refine lv_imul hx hb dX6_taken_66 ?_
            refine g_topi (y := nI (3 * ((nC v0) - 6))) (pk_mul 3 ((nC v0) - 6)) ?_
            refine lv_iconst (v := 2) hx hb dX6_taken_67 (by decide +kernel) ?_
            refine lv_iadd hx hb dX6_taken_68 ?_
            refine g_topi (y := nI ((3 * ((nC v0) - 6)) + 2)) (nI_add (3 * ((nC v0) - 6)) 2) ?_
            refine g_iald (D := G.1) hx hb hK hP 2 0 rfl rfl (k := (3 * ((nC v0) - 6)) + 2) (y := fro ((3 * ((nC v0) - 6)) + 2)) (by omega) rfl rfl dX6_taken_69 ?_
            refine lv_i2l (v := (fro ((3 * ((nC v0) - 6)) + 2)).toInt64) hx hb dX6_taken_70 rfl ?_
            refine lv_goto (tgt := 77) hx hb dX6_taken_71 (by decide +kernel) ?_
            have hpost : (fun (r : Int64) (u : Unit) => match u with | _ => r = m_X6_taken pb jg fkd fro v0 v1) ((fro ((3 * ((nC v0) - 6)) + 2)).toInt64) () := (show m_X6_taken pb jg fkd fro v0 v1 = ((fro ((3 * ((nC v0) - 6)) + 2)).toInt64) from by unfold m_X6_taken; rw [if_pos p_4, if_pos p_11, if_neg c_16, if_pos c_30, if_pos c_32]).symm
            exact W.lret (v := ((fro ((3 * ((nC v0) - 6)) + 2)).toInt64)) hx hb hr (fun t ht hW => ⟨⟨((fro ((3 * ((nC v0) - 6)) + 2)).toInt64), (), rfl, hpost, by rw [ht]; exact hP, va_K.moved hW.alike hK, hD⟩, hS.F ht⟩) hS.2.2 dX6_taken_77
        · skip
          have c_30N : jg ≤ ((nC v0) - 6) := nI_lt0 (a := ((nC v0) - 6)) (b := jg) (by omega) (by omega) c_30
          refine lv_ldc2 hx hb hown (hts (.constantLong RX6 284 (-11)) (by decide +kernel)) dX6_taken_45 ?_
          refine lv_goto (tgt := 77) hx hb dX6_taken_48 (by decide +kernel) ?_
          have hpost : (fun (r : Int64) (u : Unit) => match u with | _ => r = m_X6_taken pb jg fkd fro v0 v1) (-11) () := (show m_X6_taken pb jg fkd fro v0 v1 = (-11) from by unfold m_X6_taken; rw [if_pos p_4, if_pos p_11, if_neg c_16, if_neg c_30]).symm
          exact W.lret (v := (-11)) hx hb hr (fun t ht hW => ⟨⟨(-11), (), rfl, hpost, by rw [ht]; exact hP, va_K.moved hW.alike hK, hD⟩, hS.F ht⟩) hS.2.2 dX6_taken_77
    · skip
      have n_12 : ¬ (0 ≤ v0 ∧ v0 ≤ 9) := of_decide_eq_false (bz_eq rfl c_10)
      refine lv_ldc2 hx hb hown (hts (.constantLong RX6 282 (-12)) (by decide +kernel)) dX6_taken_24 ?_
      have hpost : (fun (r : Int64) (u : Unit) => match u with | _ => r = m_X6_taken pb jg fkd fro v0 v1) (-12) () := (show m_X6_taken pb jg fkd fro v0 v1 = (-12) from by unfold m_X6_taken; rw [if_pos p_4, if_neg n_12]).symm
      exact W.lret (v := (-12)) hx hb hr (fun t ht hW => ⟨⟨(-12), (), rfl, hpost, by rw [ht]; exact hP, va_K.moved hW.alike hK, hD⟩, hS.F ht⟩) hS.2.2 dX6_taken_27
  · skip
    have n_5 : ¬ (0 ≤ v1 ∧ v1 ≤ 6) := of_decide_eq_false (bz_eq rfl c_3)
    refine lv_ldc2 hx hb hown (hts (.constantLong RX6 280 (-2)) (by decide +kernel)) dX6_taken_10 ?_
    have hpost : (fun (r : Int64) (u : Unit) => match u with | _ => r = m_X6_taken pb jg fkd fro v0 v1) (-2) () := (show m_X6_taken pb jg fkd fro v0 v1 = (-2) from by unfold m_X6_taken; rw [if_neg n_5]).symm
    exact W.lret (v := (-2)) hx hb hr (fun t ht hW => ⟨⟨(-2), (), rfl, hpost, by rw [ht]; exact hP, va_K.moved hW.alike hK, hD⟩, hS.F ht⟩) hS.2.2 dX6_taken_13
noncomputable def p_X6_feed_68 (v1 : Int32) (v2 : Int32) (v3 : Int32) (v4 : Int32) (v5 : Int32) : Nat → Nat → (Nat → Int32) → Nat → Nat × (Nat → Int32) × Nat
  | 0, k68, y68tp, td68 => (k68, y68tp, td68)
  | q9 + 1, k68, y68tp, td68 => if (nI k68) = 0 then p_X6_feed_68 v1 v2 v3 v4 v5 q9 (k68 + 1) (upd y68tp td68 (nI (nC v1))) (td68 + 1) else (if (nI k68) = 1 then p_X6_feed_68 v1 v2 v3 v4 v5 q9 (k68 + 1) (upd y68tp td68 (nI (nC v2))) (td68 + 1) else (if (nI k68) = 2 then p_X6_feed_68 v1 v2 v3 v4 v5 q9 (k68 + 1) (upd y68tp td68 (nI (nC v3))) (td68 + 1) else (if (nI k68) = 3 then p_X6_feed_68 v1 v2 v3 v4 v5 q9 (k68 + 1) (upd y68tp td68 (nI (nC v4))) (td68 + 1) else p_X6_feed_68 v1 v2 v3 v4 v5 q9 (k68 + 1) (upd y68tp td68 (nI (nC v5))) (td68 + 1))))
noncomputable def g_X6_feed_68 (td : Nat) (ftp : Nat → Int32) (v0 : Int32) (v1 : Int32) (v2 : Int32) (v3 : Int32) (v4 : Int32) (v5 : Int32) : Nat × (Nat → Int32) × Nat := p_X6_feed_68 v1 v2 v3 v4 v5 (nC v0 - 0) 0 ftp td
noncomputable def m_X6_feed (td : Nat) (ftp : Nat → Int32) (v0 : Int32) (v1 : Int32) (v2 : Int32) (v3 : Int32) (v4 : Int32) (v5 : Int32) : Int32 := if 1 ≤ v0 ∧ v0 ≤ 5 then (if 0 ≤ v1 ∧ v1 ≤ 255 then (if 0 ≤ v2 ∧ v2 ≤ 255 then (if 0 ≤ v3 ∧ v3 ≤ 255 then (if 0 ≤ v4 ∧ v4 ≤ 255 then (if 0 ≤ v5 ∧ v5 ≤ 255 then (if (nI (td + (nC v0))) ≤ 160 then nI ((g_X6_feed_68 td ftp v0 v1 v2 v3 v4 v5).2.2) else -4) else -2) else -2) else -2) else -2) else -2) else -2
noncomputable def m_X6_feed_h07 (td : Nat) (ftp : Nat → Int32) (v0 : Int32) (v1 : Int32) (v2 : Int32) (v3 : Int32) (v4 : Int32) (v5 : Int32) : Nat := if 1 ≤ v0 ∧ v0 ≤ 5 then (if 0 ≤ v1 ∧ v1 ≤ 255 then (if 0 ≤ v2 ∧ v2 ≤ 255 then (if 0 ≤ v3 ∧ v3 ≤ 255 then (if 0 ≤ v4 ∧ v4 ≤ 255 then (if 0 ≤ v5 ∧ v5 ≤ 255 then (if (nI (td + (nC v0))) ≤ 160 then ((g_X6_feed_68 td ftp v0 v1 v2 v3 v4 v5).2.2) else td) else td) else td) else td) else td) else td) else td
noncomputable def m_X6_feed_tp (td : Nat) (ftp : Nat → Int32) (v0 : Int32) (v1 : Int32) (v2 : Int32) (v3 : Int32) (v4 : Int32) (v5 : Int32) : Nat → Int32 := if 1 ≤ v0 ∧ v0 ≤ 5 then (if 0 ≤ v1 ∧ v1 ≤ 255 then (if 0 ≤ v2 ∧ v2 ≤ 255 then (if 0 ≤ v3 ∧ v3 ≤ 255 then (if 0 ≤ v4 ∧ v4 ≤ 255 then (if 0 ≤ v5 ∧ v5 ≤ 255 then (if (nI (td + (nC v0))) ≤ 160 then ((g_X6_feed_68 td ftp v0 v1 v2 v3 v4 v5).2.1) else ftp) else ftp) else ftp) else ftp) else ftp) else ftp) else ftp
abbrev q_X6_feed (G : gG) (h0 kd mo st ro tp cd sr ir ih ss sq ce lw wo he sk na kp gb go fa ga vo : Nat) (pb : Nat) (jg : Nat) (td : Nat) (tx : Nat) (ru : Nat) (him : Int32) (s19 : Int32) (s20 : Int32) (s21 : Int32) (s22 : Int32) (s25 : Int32) (s26 : Int32) (s27 : Int32) (s31 : Int32) (s32 : Int32) (s33 : Int32) (s34 : Int32) (s39 : Int32) (s40 : Int32) (ftp : Nat → Int32) (v0 : Int32) (v1 : Int32) (v2 : Int32) (v3 : Int32) (v4 : Int32) (v5 : Int32) (A : Nat → Prop) : Array Value → State → Outcome → State → Prop := va_Qi (fun (r : Int32) (u : Unit) => match u with | _ => r = m_X6_feed td ftp v0 v1 v2 v3 v4 v5) (fun (u : Unit) t => match u with | _ => va_P G.1 vwCl [zo6 h0 (nI pb) kd mo st (nI jg) ro tp (nI (m_X6_feed_h07 td ftp v0 v1 v2 v3 v4 v5)) cd sr (nI tx) (nI ru) him ir ih ss sq ce lw s19 s20 s21 s22 wo he s25 s26 s27 sk na kp s31 s32 s33 s34 gb go fa ga s39 s40 vo, zi G tp 160 (m_X6_feed_tp td ftp v0 v1 v2 v3 v4 v5)] t.heap ∧ gK G t ∧ va_D A [zo6 h0 (nI pb) kd mo st (nI jg) ro tp (nI (m_X6_feed_h07 td ftp v0 v1 v2 v3 v4 v5)) cd sr (nI tx) (nI ru) him ir ih ss sq ce lw s19 s20 s21 s22 wo he s25 s26 s27 sk na kp s31 s32 s33 s34 gb go fa ga s39 s40 vo, zi G tp 160 (m_X6_feed_tp td ftp v0 v1 v2 v3 v4 v5)]) A
set_option maxHeartbeats 4000000 in
set_option maxRecDepth 100000 in
theorem c_X6_feed (l : Launch) (G : gG) (h0 kd mo st ro tp cd sr ir ih ss sq ce lw wo he sk na kp gb go fa ga vo : Nat) (pb : Nat) (jg : Nat) (td : Nat) (tx : Nat) (ru : Nat) (him : Int32) (s19 : Int32) (s20 : Int32) (s21 : Int32) (s22 : Int32) (s25 : Int32) (s26 : Int32) (s27 : Int32) (s31 : Int32) (s32 : Int32) (s33 : Int32) (s34 : Int32) (s39 : Int32) (s40 : Int32) (ftp : Nat → Int32) (v0 : Int32) (v1 : Int32) (v2 : Int32) (v3 : Int32) (v4 : Int32) (v5 : Int32) (sz : Nat) (htd : td ≤ 160) (hpb : pb ≤ 6) (hjg : jg ≤ 4) (htx : tx ≤ 6) (hru : ru < tx) : Met l yX6_feed wsX6_feed ({ frames := 2, cells := 0, slots := 0, locals := 42 }) (gPre G [.ref h0, .int v0, .int v1, .int v2, .int v3, .int v4, .int v5] [zo6 h0 (nI pb) kd mo st (nI jg) ro tp (nI td) cd sr (nI tx) (nI ru) him ir ih ss sq ce lw s19 s20 s21 s22 wo he s25 s26 s27 sk na kp s31 s32 s33 s34 gb go fa ga s39 s40 vo, zi G tp 160 ftp] sz) (q_X6_feed G h0 kd mo st ro tp cd sr ir ih ss sq ce lw wo he sk na kp gb go fa ga vo pb jg td tx ru him s19 s20 s21 s22 s25 s26 s27 s31 s32 s33 s34 s39 s40 ftp v0 v1 v2 v3 v4 v5 (va_A [zo6 h0 (nI pb) kd mo st (nI jg) ro tp (nI td) cd sr (nI tx) (nI ru) him ir ih ss sq ce lw s19 s20 s21 s22 wo he s25 s26 s27 sk na kp s31 s32 s33 s34 gb go fa ga s39 s40 vo, zi G tp 160 ftp] sz)) 0 0 (va_A [zo6 h0 (nI pb) kd mo st (nI jg) ro tp (nI td) cd sr (nI tx) (nI ru) him ir ih ss sq ce lw s19 s20 s21 s22 wo he s25 s26 s27 sk na kp s31 s32 s33 s34 gb go fa ga s39 s40 vo, zi G tp 160 ftp] sz) := by
  refine Met.ofW (cc := cX6_feed) (maxL := 8) (ret := (some .int)) (by decide +kernel) rfl ?_
  intro p e s m args below meth c s₁ B hml hv
  obtain ⟨rfl, hsz, hP, hK, hD0⟩ := hv
  have hx := B.exec
  have hb := B.bytes
  have hr := B.returns
  have hts := atoms_spec (ws := wsX6_feed) B.pre
  have hown : s.vm.findClass RX6 = some m.cls := findClass_of_methodNamed B.named
  have hlocks := B.notSynchronized
  subst hsz
  have hD := hD0.self (sz := s.heap.size)
  generalize hAe : va_A [zo6 h0 (nI pb) kd mo st (nI jg) ro tp (nI td) cd sr (nI tx) (nI ru) him ir ih ss sq ce lw s19 s20 s21 s22 wo he s25 s26 s27 sk na kp s31 s32 s33 s34 gb go fa ga s39 s40 vo, zi G tp 160 ftp] s.heap.size = A at hD ⊢
  have hA : ∀ q : Nat, s.heap.size ≤ q → A q := fun q h => by rw [← hAe]; exact Or.inr h
  have hS : va_S A s.heap s.heap [] := va_S.rf
  have hz9 : gPD G A [zo6 h0 (nI pb) kd mo st (nI jg) ro tp (nI td) cd sr (nI tx) (nI ru) him ir ih ss sq ce lw s19 s20 s21 s22 wo he s25 s26 s27 sk na kp s31 s32 s33 s34 gb go fa ga s39 s40 vo, zi G tp 160 ftp] s.heap := ⟨hP, hD⟩
  have hP := hz9.1
  have hD := hz9.2
  have hl := lv_entry ([.ref h0, .int v0, .int v1, .int v2, .int v3, .int v4, .int v5]) (n := 8) (Nat.le_of_ble_eq_true rfl)
  rw [lg_entry_eq]
  generalize (lg_sl ([.ref h0, .int v0, .int v1, .int v2, .int v3, .int v4, .int v5]) ++ List.replicate (8 - (lg_sl ([.ref h0, .int v0, .int v1, .int v2, .int v3, .int v4, .int v5])).length) Slot.unset).toArray = ls at hl ⊢
  have hl : lv_has ls 8 [zR 0 h0, zI 1 v0, zI 2 v1, zI 3 v2, zI 4 v3, zI 5 v4, zI 6 v5] := hl
  have kf80 := hts (.fieldLink RX6 80 "PebbleInShoeModel" "taped" "I") (by decide +kernel)
  have hiX6 := (by decide +kernel : ∀ w ∈ wsX60, w ∈ wsX6_feed)
  have kf22 := hts (.fieldLink RX6 22 "PebbleInShoeModel" "tape" "[I") (by decide +kernel)
  refine lv_iload_n hx hb dX6_feed_0 rfl (lv_at hl 1 rfl) ?_
  refine lv_iconst (v := 1) hx hb dX6_feed_1 (by decide +kernel) ?_
  refine lv_iconst (v := 5) hx hb dX6_feed_2 (by decide +kernel) ?_
  refine z_calli [] (v := bz (decide (1 ≤ v0 ∧ v0 ≤ 5))) (fun _ _ h => h) (va_runS (As := [.int v0, .int 1, .int 5]) (rest := []) ⟨hx, hb, hml, hown, hts⟩ (c_X6_in l G v0 1 5 s.heap.size) (va_cwS 3 hts gX6_feed_X6_in rfl rfl rfl (by decide +kernel) ⟨Nat.le_of_ble_eq_true rfl, Nat.le_of_ble_eq_true rfl⟩) ⟨gPre_blind, fun U hU hW => gPre_ofF [] hU hW hK hP hD (by decide +kernel) rfl⟩ rfl rfl hl.1 rfl (lv_room (Nat.le_of_ble_eq_true rfl)) dX6_feed_3 ⟨Nat.le_of_ble_eq_true rfl, Nat.le_of_ble_eq_true rfl⟩) hS hD hA rfl (fun u t H locs ht hvm hB hz1 hk1 hFq hAq hS => ?_)
  obtain ⟨hP1, hK1, hD1⟩ := hB
  have hP := zKeep hP hD [] hAq hk1 ht hP1 rfl
  refine lv_if_eq (tgt := 47) hx hb dX6_feed_6 (by decide +kernel) (fun c_3 => ?_) (fun c_3 => ?_)
  · skip
    have n_5 : ¬ (1 ≤ v0 ∧ v0 ≤ 5) := of_decide_eq_false (bz_eq rfl c_3)
    refine lv_bipush (v := -2) hx hb dX6_feed_47 (by decide +kernel) ?_
    have q_9 : m_X6_feed_h07 td ftp v0 v1 v2 v3 v4 v5 = td := by unfold m_X6_feed_h07; rw [if_neg n_5]
    have q_10 : m_X6_feed_tp td ftp v0 v1 v2 v3 v4 v5 = ftp := by unfold m_X6_feed_tp; rw [if_neg n_5]
    have hz9 : gPD G A [zo6 h0 (nI pb) kd mo st (nI jg) ro tp (nI (m_X6_feed_h07 td ftp v0 v1 v2 v3 v4 v5)) cd sr (nI tx) (nI ru) him ir ih ss sq ce lw s19 s20 s21 s22 wo he s25 s26 s27 sk na kp s31 s32 s33 s34 gb go fa ga s39 s40 vo, zi G tp 160 (m_X6_feed_tp td ftp v0 v1 v2 v3 v4 v5)] H := ⟨by rw [q_9, q_10]; exact hP, by rw [q_9, q_10]; exact hD⟩
    have hP9 := hz9.1
    have hD9 := hz9.2
    have hpost : (fun (r : Int32) (u : Unit) => match u with | _ => r = m_X6_feed td ftp v0 v1 v2 v3 v4 v5) (-2) () := (show m_X6_feed td ftp v0 v1 v2 v3 v4 v5 = (-2) from by unfold m_X6_feed; rw [if_neg n_5]).symm
    exact W.iret (v := (-2)) hx hb hr (fun t ht hW => ⟨⟨(-2), (), rfl, hpost, by rw [ht]; exact hP9, va_K.moved hW.alike hK, hD9⟩, hS.F ht⟩) hS.2.2 dX6_feed_49
  · skip
    have p_4 : 1 ≤ v0 ∧ v0 ≤ 5 := of_decide_eq_true (bz_ne rfl c_3)
    have hv_6 : v0 = nI (nC v0) := nC_eq (nC_1 p_4.1)
    have hk_7 : nC v0 ≤ 5 := nC_le (n := 5) (by omega) ⟨nC_1 p_4.1, p_4.2⟩
    have hk_8 : 1 ≤ nC v0 := nC_1n p_4.1
    refine lv_iload_n hx hb dX6_feed_9 rfl (lv_at hl 2 rfl) ?_
    refine z_calli [] (v := bz (decide (0 ≤ v1 ∧ v1 ≤ 255))) (fun _ _ h => h) (va_runS (As := [.int v1]) (rest := []) ⟨hx, hb, hml, hown, hts⟩ (c_X6_isByte l G v1 H.size) (va_cwS 1 hts gX6_feed_X6_isByte rfl rfl rfl (by decide +kernel) ⟨Nat.le_of_ble_eq_true rfl, Nat.le_of_ble_eq_true rfl⟩) ⟨gPre_blind, fun U hU hW => gPre_ofF [] hU hW hK hP hD (by decide +kernel) rfl⟩ rfl rfl hl.1 rfl (lv_room (Nat.le_of_ble_eq_true rfl)) dX6_feed_10 ⟨Nat.le_of_ble_eq_true rfl, Nat.le_of_ble_eq_true rfl⟩) hS hD hA rfl (fun u t H locs ht hvm hB hz1 hk1 hFq hAq hS => ?_)
    obtain ⟨hP1, hK1, hD1⟩ := hB
    have hP := zKeep hP hD [] hAq hk1 ht hP1 rfl
    refine lv_if_eq (tgt := 47) hx hb dX6_feed_13 (by decide +kernel) (fun c_13 => ?_) (fun c_13 => ?_)
    · skip
      have n_15 : ¬ (0 ≤ v1 ∧ v1 ≤ 255) := of_decide_eq_false (bz_eq rfl c_13)
      refine lv_bipush (v := -2) hx hb dX6_feed_47 (by decide +kernel) ?_
      have q_18 : m_X6_feed_h07 td ftp v0 v1 v2 v3 v4 v5 = td := by unfold m_X6_feed_h07; rw [if_pos p_4, if_neg n_15]
      have q_19 : m_X6_feed_tp td ftp v0 v1 v2 v3 v4 v5 = ftp := by unfold m_X6_feed_tp; rw [if_pos p_4, if_neg n_15]
      have hz9 : gPD G A [zo6 h0 (nI pb) kd mo st (nI jg) ro tp (nI (m_X6_feed_h07 td ftp v0 v1 v2 v3 v4 v5)) cd sr (nI tx) (nI ru) him ir ih ss sq ce lw s19 s20 s21 s22 wo he s25 s26 s27 sk na kp s31 s32 s33 s34 gb go fa ga s39 s40 vo, zi G tp 160 (m_X6_feed_tp td ftp v0 v1 v2 v3 v4 v5)] H := ⟨by rw [q_18, q_19]; exact hP, by rw [q_18, q_19]; exact hD⟩
      have hP9 := hz9.1
      have hD9 := hz9.2
      have hpost : (fun (r : Int32) (u : Unit) => match u with | _ => r = m_X6_feed td ftp v0 v1 v2 v3 v4 v5) (-2) () := (show m_X6_feed td ftp v0 v1 v2 v3 v4 v5 = (-2) from by unfold m_X6_feed; rw [if_pos p_4, if_neg n_15]).symm
      exact W.iret (v := (-2)) hx hb hr (fun t ht hW => ⟨⟨(-2), (), rfl, hpost, by rw [ht]; exact hP9, va_K.moved hW.alike hK, hD9⟩, hS.F ht⟩) hS.2.2 dX6_feed_49
    · skip
      have p_14 : 0 ≤ v1 ∧ v1 ≤ 255 := of_decide_eq_true (bz_ne rfl c_13)
      have hv_16 : v1 = nI (nC v1) := nC_eq p_14.1
      have hk_17 : nC v1 ≤ 255 := nC_le (n := 255) (by omega) p_14
      refine lv_iload_n hx hb dX6_feed_16 rfl (lv_at hl 3 rfl) ?_
      refine z_calli [] (v := bz (decide (0 ≤ v2 ∧ v2 ≤ 255))) (fun _ _ h => h) (va_runS (As := [.int v2]) (rest := []) ⟨hx, hb, hml, hown, hts⟩ (c_X6_isByte l G v2 H.size) (va_cwS 1 hts gX6_feed_X6_isByte rfl rfl rfl (by decide +kernel) ⟨Nat.le_of_ble_eq_true rfl, Nat.le_of_ble_eq_true rfl⟩) ⟨gPre_blind, fun U hU hW => gPre_ofF [] hU hW hK hP hD (by decide +kernel) rfl⟩ rfl rfl hl.1 rfl (lv_room (Nat.le_of_ble_eq_true rfl)) dX6_feed_17 ⟨Nat.le_of_ble_eq_true rfl, Nat.le_of_ble_eq_true rfl⟩) hS hD hA rfl (fun u t H locs ht hvm hB hz1 hk1 hFq hAq hS => ?_)
      obtain ⟨hP1, hK1, hD1⟩ := hB
      have hP := zKeep hP hD [] hAq hk1 ht hP1 rfl
      refine lv_if_eq (tgt := 47) hx hb dX6_feed_20 (by decide +kernel) (fun c_22 => ?_) (fun c_22 => ?_)
      · skip
        have n_24 : ¬ (0 ≤ v2 ∧ v2 ≤ 255) := of_decide_eq_false (bz_eq rfl c_22)
        refine lv_bipush (v := -2) hx hb dX6_feed_47 (by decide +kernel) ?_
        have q_27 : m_X6_feed_h07 td ftp v0 v1 v2 v3 v4 v5 = td := by unfold m_X6_feed_h07; rw [if_pos p_4, if_pos p_14, if_neg n_24]
        have q_28 : m_X6_feed_tp td ftp v0 v1 v2 v3 v4 v5 = ftp := by unfold m_X6_feed_tp; rw [if_pos p_4, if_pos p_14, if_neg n_24]
        have hz9 : gPD G A [zo6 h0 (nI pb) kd mo st (nI jg) ro tp (nI (m_X6_feed_h07 td ftp v0 v1 v2 v3 v4 v5)) cd sr (nI tx) (nI ru) him ir ih ss sq ce lw s19 s20 s21 s22 wo he s25 s26 s27 sk na kp s31 s32 s33 s34 gb go fa ga s39 s40 vo, zi G tp 160 (m_X6_feed_tp td ftp v0 v1 v2 v3 v4 v5)] H := ⟨by rw [q_27, q_28]; exact hP, by rw [q_27, q_28]; exact hD⟩
        have hP9 := hz9.1
        have hD9 := hz9.2
        have hpost : (fun (r : Int32) (u : Unit) => match u with | _ => r = m_X6_feed td ftp v0 v1 v2 v3 v4 v5) (-2) () := (show m_X6_feed td ftp v0 v1 v2 v3 v4 v5 = (-2) from by unfold m_X6_feed; rw [if_pos p_4, if_pos p_14, if_neg n_24]).symm
        exact W.iret (v := (-2)) hx hb hr (fun t ht hW => ⟨⟨(-2), (), rfl, hpost, by rw [ht]; exact hP9, va_K.moved hW.alike hK, hD9⟩, hS.F ht⟩) hS.2.2 dX6_feed_49
      · skip
        have p_23 : 0 ≤ v2 ∧ v2 ≤ 255 := of_decide_eq_true (bz_ne rfl c_22)
        have hv_25 : v2 = nI (nC v2) := nC_eq p_23.1
        have hk_26 : nC v2 ≤ 255 := nC_le (n := 255) (by omega) p_23
        refine lv_iload hx hb dX6_feed_23 (lv_at hl 4 rfl) ?_
        refine z_calli [] (v := bz (decide (0 ≤ v3 ∧ v3 ≤ 255))) (fun _ _ h => h) (va_runS (As := [.int v3]) (rest := []) ⟨hx, hb, hml, hown, hts⟩ (c_X6_isByte l G v3 H.size) (va_cwS 1 hts gX6_feed_X6_isByte rfl rfl rfl (by decide +kernel) ⟨Nat.le_of_ble_eq_true rfl, Nat.le_of_ble_eq_true rfl⟩) ⟨gPre_blind, fun U hU hW => gPre_ofF [] hU hW hK hP hD (by decide +kernel) rfl⟩ rfl rfl hl.1 rfl (lv_room (Nat.le_of_ble_eq_true rfl)) dX6_feed_25 ⟨Nat.le_of_ble_eq_true rfl, Nat.le_of_ble_eq_true rfl⟩) hS hD hA rfl (fun u t H locs ht hvm hB hz1 hk1 hFq hAq hS => ?_)
        obtain ⟨hP1, hK1, hD1⟩ := hB
        have hP := zKeep hP hD [] hAq hk1 ht hP1 rfl
        refine lv_if_eq (tgt := 47) hx hb dX6_feed_28 (by decide +kernel) (fun c_31 => ?_) (fun c_31 => ?_)
        · skip
          have n_33 : ¬ (0 ≤ v3 ∧ v3 ≤ 255) := of_decide_eq_false (bz_eq rfl c_31)
          refine lv_bipush (v := -2) hx hb dX6_feed_47 (by decide +kernel) ?_
          have q_36 : m_X6_feed_h07 td ftp v0 v1 v2 v3 v4 v5 = td := by unfold m_X6_feed_h07; rw [if_pos p_4, if_pos p_14, if_pos p_23, if_neg n_33]
          have q_37 : m_X6_feed_tp td ftp v0 v1 v2 v3 v4 v5 = ftp := by unfold m_X6_feed_tp; rw [if_pos p_4, if_pos p_14, if_pos p_23, if_neg n_33]
          have hz9 : gPD G A [zo6 h0 (nI pb) kd mo st (nI jg) ro tp (nI (m_X6_feed_h07 td ftp v0 v1 v2 v3 v4 v5)) cd sr (nI tx) (nI ru) him ir ih ss sq ce lw s19 s20 s21 s22 wo he s25 s26 s27 sk na kp s31 s32 s33 s34 gb go fa ga s39 s40 vo, zi G tp 160 (m_X6_feed_tp td ftp v0 v1 v2 v3 v4 v5)] H := ⟨by rw [q_36, q_37]; exact hP, by rw [q_36, q_37]; exact hD⟩
          have hP9 := hz9.1
          have hD9 := hz9.2
          have hpost : (fun (r : Int32) (u : Unit) => match u with | _ => r = m_X6_feed td ftp v0 v1 v2 v3 v4 v5) (-2) () := (show m_X6_feed td ftp v0 v1 v2 v3 v4 v5 = (-2) from by unfold m_X6_feed; rw [if_pos p_4, if_pos p_14, if_pos p_23, if_neg n_33]).symm
          exact W.iret (v := (-2)) hx hb hr (fun t ht hW => ⟨⟨(-2), (), rfl, hpost, by rw [ht]; exact hP9, va_K.moved hW.alike hK, hD9⟩, hS.F ht⟩) hS.2.2 dX6_feed_49
        · skip
          have p_32 : 0 ≤ v3 ∧ v3 ≤ 255 := of_decide_eq_true (bz_ne rfl c_31)
          have hv_34 : v3 = nI (nC v3) := nC_eq p_32.1
          have hk_35 : nC v3 ≤ 255 := nC_le (n := 255) (by omega) p_32
          refine lv_iload hx hb dX6_feed_31 (lv_at hl 5 rfl) ?_
          refine z_calli [] (v := bz (decide (0 ≤ v4 ∧ v4 ≤ 255))) (fun _ _ h => h) (va_runS (As := [.int v4]) (rest := []) ⟨hx, hb, hml, hown, hts⟩ (c_X6_isByte l G v4 H.size) (va_cwS 1 hts gX6_feed_X6_isByte rfl rfl rfl (by decide +kernel) ⟨Nat.le_of_ble_eq_true rfl, Nat.le_of_ble_eq_true rfl⟩) ⟨gPre_blind, fun U hU hW => gPre_ofF [] hU hW hK hP hD (by decide +kernel) rfl⟩ rfl rfl hl.1 rfl (lv_room (Nat.le_of_ble_eq_true rfl)) dX6_feed_33 ⟨Nat.le_of_ble_eq_true rfl, Nat.le_of_ble_eq_true rfl⟩) hS hD hA rfl (fun u t H locs ht hvm hB hz1 hk1 hFq hAq hS => ?_)
          obtain ⟨hP1, hK1, hD1⟩ := hB
          have hP := zKeep hP hD [] hAq hk1 ht hP1 rfl
          refine lv_if_eq (tgt := 47) hx hb dX6_feed_36 (by decide +kernel) (fun c_40 => ?_) (fun c_40 => ?_)
          · skip
            have n_42 : ¬ (0 ≤ v4 ∧ v4 ≤ 255) := of_decide_eq_false (bz_eq rfl c_40)
            refine lv_bipush (v := -2) hx hb dX6_feed_47 (by decide +kernel) ?_
            have q_45 : m_X6_feed_h07 td ftp v0 v1 v2 v3 v4 v5 = td := by unfold m_X6_feed_h07; rw [if_pos p_4, if_pos p_14, if_pos p_23, if_pos p_32, if_neg n_42]
            have q_46 : m_X6_feed_tp td ftp v0 v1 v2 v3 v4 v5 = ftp := by unfold m_X6_feed_tp; rw [if_pos p_4, if_pos p_14, if_pos p_23, if_pos p_32, if_neg n_42]
            have hz9 : gPD G A [zo6 h0 (nI pb) kd mo st (nI jg) ro tp (nI (m_X6_feed_h07 td ftp v0 v1 v2 v3 v4 v5)) cd sr (nI tx) (nI ru) him ir ih ss sq ce lw s19 s20 s21 s22 wo he s25 s26 s27 sk na kp s31 s32 s33 s34 gb go fa ga s39 s40 vo, zi G tp 160 (m_X6_feed_tp td ftp v0 v1 v2 v3 v4 v5)] H := ⟨by rw [q_45, q_46]; exact hP, by rw [q_45, q_46]; exact hD⟩
            have hP9 := hz9.1
            have hD9 := hz9.2
            have hpost : (fun (r : Int32) (u : Unit) => match u with | _ => r = m_X6_feed td ftp v0 v1 v2 v3 v4 v5) (-2) () := (show m_X6_feed td ftp v0 v1 v2 v3 v4 v5 = (-2) from by unfold m_X6_feed; rw [if_pos p_4, if_pos p_14, if_pos p_23, if_pos p_32, if_neg n_42]).symm
            exact W.iret (v := (-2)) hx hb hr (fun t ht hW => ⟨⟨(-2), (), rfl, hpost, by rw [ht]; exact hP9, va_K.moved hW.alike hK, hD9⟩, hS.F ht⟩) hS.2.2 dX6_feed_49
          · skip
            have p_41 : 0 ≤ v4 ∧ v4 ≤ 255 := of_decide_eq_true (bz_ne rfl c_40)
            have hv_43 : v4 = nI (nC v4) := nC_eq p_41.1
            have hk_44 : nC v4 ≤ 255 := nC_le (n := 255) (by omega) p_41
            refine lv_iload hx hb dX6_feed_39 (lv_at hl 6 rfl) ?_
            refine z_calli [] (v := bz (decide (0 ≤ v5 ∧ v5 ≤ 255))) (fun _ _ h => h) (va_runS (As := [.int v5]) (rest := []) ⟨hx, hb, hml, hown, hts⟩ (c_X6_isByte l G v5 H.size) (va_cwS 1 hts gX6_feed_X6_isByte rfl rfl rfl (by decide +kernel) ⟨Nat.le_of_ble_eq_true rfl, Nat.le_of_ble_eq_true rfl⟩) ⟨gPre_blind, fun U hU hW => gPre_ofF [] hU hW hK hP hD (by decide +kernel) rfl⟩ rfl rfl hl.1 rfl (lv_room (Nat.le_of_ble_eq_true rfl)) dX6_feed_41 ⟨Nat.le_of_ble_eq_true rfl, Nat.le_of_ble_eq_true rfl⟩) hS hD hA rfl (fun u t H locs ht hvm hB hz1 hk1 hFq hAq hS => ?_)
            obtain ⟨hP1, hK1, hD1⟩ := hB
            have hP := zKeep hP hD [] hAq hk1 ht hP1 rfl
            refine lv_if_ne (tgt := 50) hx hb dX6_feed_44 (by decide +kernel) (fun c_49 => ?_) (fun c_49 => ?_)
            · skip
              have p_50 : 0 ≤ v5 ∧ v5 ≤ 255 := of_decide_eq_true (bz_ne rfl c_49)
              have hv_52 : v5 = nI (nC v5) := nC_eq p_50.1
              have hk_53 : nC v5 ≤ 255 := nC_le (n := 255) (by omega) p_50
              refine g_aget (D := G.1) (ci := 6) (v := .int (nI td)) (C := RX6) (T := TX6) (N := 42) hx hb dX6_feed_50 rfl (lv_at hl 0 rfl) hts hiX6 hown hK hP 0 rfl rfl 7 (by decide +kernel) kf80 (fun _ h9 => h9) rfl dX6_feed_51 ?_
              refine lv_iload_n hx hb dX6_feed_54 rfl (lv_at hl 1 rfl) ?_
              refine g_topi (y := nI (nC v0)) hv_6 ?_
              refine lv_iadd hx hb dX6_feed_55 ?_
              refine g_topi (y := nI (td + (nC v0))) (nI_add td (nC v0)) ?_
              refine lv_sipush (v := 160) hx hb dX6_feed_56 (by decide +kernel) ?_
              refine lv_icmp_le (tgt := 65) hx hb dX6_feed_59 (by decide +kernel) (fun c_56 => ?_) (fun c_56 => ?_)
              · skip
                have c_56N : (td + (nC v0)) ≤ 160 := nI_le1 (a := (td + (nC v0))) (b := 160) (by omega) (by omega) c_56
                refine lv_iconst (v := 0) hx hb dX6_feed_65 (by decide +kernel) ?_
                refine lv_istore (lv' := [zI 7 0, zR 0 h0, zI 1 v0, zI 2 v1, zI 3 v2, zI 4 v3, zI 5 v4, zI 6 v5]) hx hb dX6_feed_66 hl (by decide +kernel) rfl (fun ls hl => ?_)
                have loop_68 : ∀ (n9 : Nat) (k68 : Nat) (y68tp : Nat → Int32) (td68 : Nat), (k68 ≤ nC v0) → (p_X6_feed_68 v1 v2 v3 v4 v5 (nC v0 - k68) k68 y68tp td68 = (g_X6_feed_68 td ftp v0 v1 v2 v3 v4 v5)) → (td68 = td + k68) → (nC v0 - k68) < n9 → ∀ (H : Heap) (locs : List Loc), va_P G.1 vwCl [zo6 h0 (nI pb) kd mo st (nI jg) ro tp (nI td68) cd sr (nI tx) (nI ru) him ir ih ss sq ce lw s19 s20 s21 s22 wo he s25 s26 s27 sk na kp s31 s32 s33 s34 gb go fa ga s39 s40 vo, zi G tp 160 y68tp] H → va_D A [zo6 h0 (nI pb) kd mo st (nI jg) ro tp (nI td68) cd sr (nI tx) (nI ru) him ir ih ss sq ce lw s19 s20 s21 s22 wo he s25 s26 s27 sk na kp s31 s32 s33 s34 gb go fa ga s39 s40 vo, zi G tp 160 y68tp] → va_S A s.heap H locs → ∀ ls : Array Slot, lv_has ls 8 [zI 7 (nI k68), zR 0 h0, zI 1 v0, zI 2 v1, zI 3 v2, zI 4 v3, zI 5 v4, zI 6 v5] → W p l e (headSpec wsX6_feed ({ frames := 2, cells := 0, slots := 0, locals := 42 })).room s m ([.ref h0, .int v0, .int v1, .int v2, .int v3, .int v4, .int v5] : List Value).toArray below meth c H locs 0 0 (MQ below (q_X6_feed G h0 kd mo st ro tp cd sr ir ih ss sq ce lw wo he sk na kp gb go fa ga vo pb jg td tx ru him s19 s20 s21 s22 s25 s26 s27 s31 s32 s33 s34 s39 s40 ftp v0 v1 v2 v3 v4 v5 A) ([.ref h0, .int v0, .int v1, .int v2, .int v3, .int v4, .int v5] : List Value).toArray s 0 0 A) (F0 m 68 ls []) := by
                  intro n9
                  induction n9 with
                  | zero => intro k68 y68tp td68 hk68 R68 htd68 hm9_68; exact absurd hm9_68 (Nat.not_lt_zero _)
                  | succ n9 ih9_68 =>
                    intro k68 y68tp td68 hk68 R68 htd68 hm9_68 H locs hP hD hS ls hl
                    refine lv_iload hx hb dX6_feed_68 (lv_at hl 0 rfl) ?_
                    refine lv_iload_n hx hb dX6_feed_70 rfl (lv_at hl 2 rfl) ?_
                    refine g_topi (y := nI (nC v0)) hv_6 ?_
                    refine lv_icmp_ge (tgt := 142) hx hb dX6_feed_71 (by decide +kernel) (fun c_58 => ?_) (fun c_58 => ?_)
                    · skip
                      have c_58N : (nC v0) ≤ k68 := nI_le1 (a := (nC v0)) (b := k68) (by omega) (by omega) c_58
                      have hF68 : (g_X6_feed_68 td ftp v0 v1 v2 v3 v4 v5) = (k68, y68tp, td68) := by rw [← R68, show nC v0 - k68 = 0 by omega]; rfl
                      have hE68_0 : k68 = ((g_X6_feed_68 td ftp v0 v1 v2 v3 v4 v5).1) := by rw [hF68]
                      have hE68_1 : y68tp = ((g_X6_feed_68 td ftp v0 v1 v2 v3 v4 v5).2.1) := by rw [hF68]
                      have hE68_2 : td68 = ((g_X6_feed_68 td ftp v0 v1 v2 v3 v4 v5).2.2) := by rw [hF68]
                      clear hF68 R68
                      subst hE68_0
                      subst hE68_1
                      subst hE68_2
                      refine g_aget (D := G.1) (ci := 6) (v := .int (nI ((g_X6_feed_68 td ftp v0 v1 v2 v3 v4 v5).2.2))) (C := RX6) (T := TX6) (N := 42) hx hb dX6_feed_142 rfl (lv_at hl 1 rfl) hts hiX6 hown hK hP 0 rfl rfl 7 (by decide +kernel) kf80 (fun _ h9 => h9) rfl dX6_feed_143 ?_
                      have q_59 : m_X6_feed_h07 td ftp v0 v1 v2 v3 v4 v5 = (g_X6_feed_68 td ftp v0 v1 v2 v3 v4 v5).2.2 := by unfold m_X6_feed_h07; rw [if_pos p_4, if_pos p_14, if_pos p_23, if_pos p_32, if_pos p_41, if_pos p_50, if_pos c_56]
                      have q_60 : m_X6_feed_tp td ftp v0 v1 v2 v3 v4 v5 = ((g_X6_feed_68 td ftp v0 v1 v2 v3 v4 v5).2.1) := by unfold m_X6_feed_tp; rw [if_pos p_4, if_pos p_14, if_pos p_23, if_pos p_32, if_pos p_41, if_pos p_50, if_pos c_56]
                      have hz9 : gPD G A [zo6 h0 (nI pb) kd mo st (nI jg) ro tp (nI (m_X6_feed_h07 td ftp v0 v1 v2 v3 v4 v5)) cd sr (nI tx) (nI ru) him ir ih ss sq ce lw s19 s20 s21 s22 wo he s25 s26 s27 sk na kp s31 s32 s33 s34 gb go fa ga s39 s40 vo, zi G tp 160 (m_X6_feed_tp td ftp v0 v1 v2 v3 v4 v5)] H := ⟨by rw [q_59, q_60]; exact hP, by rw [q_59, q_60]; exact hD⟩
                      have hP9 := hz9.1
                      have hD9 := hz9.2
                      have hpost : (fun (r : Int32) (u : Unit) => match u with | _ => r = m_X6_feed td ftp v0 v1 v2 v3 v4 v5) (nI ((g_X6_feed_68 td ftp v0 v1 v2 v3 v4 v5).2.2)) () := (show m_X6_feed td ftp v0 v1 v2 v3 v4 v5 = (nI ((g_X6_feed_68 td ftp v0 v1 v2 v3 v4 v5).2.2)) from by unfold m_X6_feed; rw [if_pos p_4, if_pos p_14, if_pos p_23, if_pos p_32, if_pos p_41, if_pos p_50, if_pos c_56]).symm
                      exact W.iret (v := (nI ((g_X6_feed_68 td ftp v0 v1 v2 v3 v4 v5).2.2))) hx hb hr (fun t ht hW => ⟨⟨(nI ((g_X6_feed_68 td ftp v0 v1 v2 v3 v4 v5).2.2)), (), rfl, hpost, by rw [ht]; exact hP9, va_K.moved hW.alike hK, hD9⟩, hS.F ht⟩) hS.2.2 dX6_feed_146
                    · skip
                      have c_58N : k68 < (nC v0) := nI_le0 (a := (nC v0)) (b := k68) (by omega) (by omega) c_58
                      refine g_aget (D := G.1) (ci := 6) (v := .ref tp) (C := RX6) (T := TX6) (N := 42) hx hb dX6_feed_74 rfl (lv_at hl 1 rfl) hts hiX6 hown hK hP 0 rfl rfl 6 (by decide +kernel) kf22 (fun _ h9 => h9) rfl dX6_feed_75 ?_
                      refine g_aget (D := G.1) (ci := 6) (v := .int (nI td68)) (C := RX6) (T := TX6) (N := 42) hx hb dX6_feed_78 rfl (lv_at hl 1 rfl) hts hiX6 hown hK hP 0 rfl rfl 7 (by decide +kernel) kf80 (fun _ h9 => h9) rfl dX6_feed_79 ?_
                      refine lv_iload hx hb dX6_feed_82 (lv_at hl 0 rfl) ?_
                      refine lv_if_ne (tgt := 91) hx hb dX6_feed_84 (by decide +kernel) (fun c_61 => ?_) (fun c_61 => ?_)
                      · skip
                        have c_61N : ¬ k68 = 0 := nI_eq0 (a := k68) (b := 0) (by omega) (by omega) c_61
                        refine lv_iload hx hb dX6_feed_91 (lv_at hl 0 rfl) ?_
                        refine lv_iconst (v := 1) hx hb dX6_feed_93 (by decide +kernel) ?_
                        refine lv_icmp_ne (tgt := 101) hx hb dX6_feed_94 (by decide +kernel) (fun c_62 => ?_) (fun c_62 => ?_)
                        · skip
                          have c_62N : ¬ k68 = 1 := nI_eq0 (a := k68) (b := 1) (by omega) (by omega) c_62
                          refine lv_iload hx hb dX6_feed_101 (lv_at hl 0 rfl) ?_
                          refine lv_iconst (v := 2) hx hb dX6_feed_103 (by decide +kernel) ?_
                          refine lv_icmp_ne (tgt := 112) hx hb dX6_feed_104 (by decide +kernel) (fun c_63 => ?_) (fun c_63 => ?_)
                          · skip
                            have c_63N : ¬ k68 = 2 := nI_eq0 (a := k68) (b := 2) (by omega) (by omega) c_63
                            refine lv_iload hx hb dX6_feed_112 (lv_at hl 0 rfl) ?_
                            refine lv_iconst (v := 3) hx hb dX6_feed_114 (by decide +kernel) ?_
                            refine lv_icmp_ne (tgt := 123) hx hb dX6_feed_115 (by decide +kernel) (fun c_64 => ?_) (fun c_64 => ?_)
                            · skip
                              have c_64N : ¬ k68 = 3 := nI_eq0 (a := k68) (b := 3) (by omega) (by omega) c_64
                              refine lv_iload hx hb dX6_feed_123 (lv_at hl 7 rfl) ?_
                              refine g_topi (y := nI (nC v5)) hv_52 ?_
                              refine g_iast (D := G.1) hx hb hK hP hD hS 1 0 rfl rfl (k := td68) (x := (nI (nC v5))) (by omega) rfl dX6_feed_125 (fun H locs hP hD hS => ?_)
                              have hz9 : gPD G A [zo6 h0 (nI pb) kd mo st (nI jg) ro tp (nI td68) cd sr (nI tx) (nI ru) him ir ih ss sq ce lw s19 s20 s21 s22 wo he s25 s26 s27 sk na kp s31 s32 s33 s34 gb go fa ga s39 s40 vo, zi G tp 160 (upd y68tp td68 (nI (nC v5)))] H := ⟨hP, hD⟩
                              have hP := hz9.1
                              have hD := hz9.2
                              refine lv_aload_n hx hb dX6_feed_126 rfl (lv_at hl 1 rfl) ?_
                              refine lv_dup hx hb dX6_feed_127 rfl ?_
                              refine va_get (D := G.1) (ci := 6) (v := .int (nI td68)) (C := RX6) (T := TX6) (N := 42) hx hb hts hiX6 hown hK hP 0 rfl rfl 7 (by decide +kernel) kf80 (fun _ h9 => h9) rfl dX6_feed_128 ?_
                              refine lv_iconst (v := 1) hx hb dX6_feed_131 (by decide +kernel) ?_
                              refine lv_iadd hx hb dX6_feed_132 ?_
                              refine g_topi (y := nI (td68 + 1)) (nI_add td68 1) ?_
                              refine va_put (D := G.1) (ci := 6) (v := .int (nI (td68 + 1))) (ty := .int) (C := RX6) (T := TX6) (N := 42) hx hb hts hiX6 tyX6 tyX6_ok nmX6 hown hK hP hD hS 0 rfl rfl 7 (by decide +kernel) kf80 (fun _ h9 => h9) rfl (by decide +kernel) rfl rfl (Nat.le_of_ble_eq_true rfl) dX6_feed_133 (fun H locs hP hD hS => ?_)
                              have hz9 : gPD G A [zo6 h0 (nI pb) kd mo st (nI jg) ro tp (nI (td68 + 1)) cd sr (nI tx) (nI ru) him ir ih ss sq ce lw s19 s20 s21 s22 wo he s25 s26 s27 sk na kp s31 s32 s33 s34 gb go fa ga s39 s40 vo, zi G tp 160 (upd y68tp td68 (nI (nC v5)))] H := ⟨hP, hD⟩
                              have hP := hz9.1
                              have hD := hz9.2
                              refine lv_iinc (v := nI (k68 + 1)) (lv' := [zI 7 (nI (k68 + 1)), zR 0 h0, zI 1 v0, zI 2 v1, zI 3 v2, zI 4 v3, zI 5 v4, zI 6 v5]) hx hb dX6_feed_136 hl (k := 0) rfl (nI_add k68 1) (by decide +kernel) rfl (fun ls hl => ?_)
                              refine lv_goto (tgt := 68) hx hb dX6_feed_139 (by decide +kernel) ?_
                              exact ih9_68 (k68 + 1) (upd y68tp td68 (nI (nC v5))) (td68 + 1) (by omega) (Eq.trans (Eq.symm ((congrArg (fun z9 => p_X6_feed_68 v1 v2 v3 v4 v5 (z9) k68 y68tp td68) (show nC v0 - k68 = nC v0 - (k68 + 1) + 1 by omega)).trans (by show p_X6_feed_68 v1 v2 v3 v4 v5 (nC v0 - (k68 + 1) + 1) k68 y68tp td68 = _; rw [p_X6_feed_68, if_neg c_61, if_neg c_62, if_neg c_63, if_neg c_64]))) R68) (by omega) (by omega) _ _ hP hD hS ls hl
                            · skip
                              have c_64N : k68 = 3 := nI_eq1 (a := k68) (b := 3) (by omega) (by omega) c_64
                              refine lv_iload hx hb dX6_feed_118 (lv_at hl 6 rfl) ?_
                              refine g_topi (y := nI (nC v4)) hv_43 ?_
                              refine lv_goto (tgt := 125) hx hb dX6_feed_120 (by decide +kernel) ?_
                              refine g_iast (D := G.1) hx hb hK hP hD hS 1 0 rfl rfl (k := td68) (x := (nI (nC v4))) (by omega) rfl dX6_feed_125 (fun H locs hP hD hS => ?_)
                              have hz9 : gPD G A [zo6 h0 (nI pb) kd mo st (nI jg) ro tp (nI td68) cd sr (nI tx) (nI ru) him ir ih ss sq ce lw s19 s20 s21 s22 wo he s25 s26 s27 sk na kp s31 s32 s33 s34 gb go fa ga s39 s40 vo, zi G tp 160 (upd y68tp td68 (nI (nC v4)))] H := ⟨hP, hD⟩
                              have hP := hz9.1
                              have hD := hz9.2
                              refine lv_aload_n hx hb dX6_feed_126 rfl (lv_at hl 1 rfl) ?_
                              refine lv_dup hx hb dX6_feed_127 rfl ?_
                              refine va_get (D := G.1) (ci := 6) (v := .int (nI td68)) (C := RX6) (T := TX6) (N := 42) hx hb hts hiX6 hown hK hP 0 rfl rfl 7 (by decide +kernel) kf80 (fun _ h9 => h9) rfl dX6_feed_128 ?_
                              refine lv_iconst (v := 1) hx hb dX6_feed_131 (by decide +kernel) ?_
                              refine lv_iadd hx hb dX6_feed_132 ?_
                              refine g_topi (y := nI (td68 + 1)) (nI_add td68 1) ?_
                              refine va_put (D := G.1) (ci := 6) (v := .int (nI (td68 + 1))) (ty := .int) (C := RX6) (T := TX6) (N := 42) hx hb hts hiX6 tyX6 tyX6_ok nmX6 hown hK hP hD hS 0 rfl rfl 7 (by decide +kernel) kf80 (fun _ h9 => h9) rfl (by decide +kernel) rfl rfl (Nat.le_of_ble_eq_true rfl) dX6_feed_133 (fun H locs hP hD hS => ?_)
                              have hz9 : gPD G A [zo6 h0 (nI pb) kd mo st (nI jg) ro tp (nI (td68 + 1)) cd sr (nI tx) (nI ru) him ir ih ss sq ce lw s19 s20 s21 s22 wo he s25 s26 s27 sk na kp s31 s32 s33 s34 gb go fa ga s39 s40 vo, zi G tp 160 (upd y68tp td68 (nI (nC v4)))] H := ⟨hP, hD⟩
                              have hP := hz9.1
                              have hD := hz9.2
                              refine lv_iinc (v := nI (k68 + 1)) (lv' := [zI 7 (nI (k68 + 1)), zR 0 h0, zI 1 v0, zI 2 v1, zI 3 v2, zI 4 v3, zI 5 v4, zI 6 v5]) hx hb dX6_feed_136 hl (k := 0) rfl (nI_add k68 1) (by decide +kernel) rfl (fun ls hl => ?_)
                              refine lv_goto (tgt := 68) hx hb dX6_feed_139 (by decide +kernel) ?_
                              exact ih9_68 (k68 + 1) (upd y68tp td68 (nI (nC v4))) (td68 + 1) (by omega) (Eq.trans (Eq.symm ((congrArg (fun z9 => p_X6_feed_68 v1 v2 v3 v4 v5 (z9) k68 y68tp td68) (show nC v0 - k68 = nC v0 - (k68 + 1) + 1 by omega)).trans (by show p_X6_feed_68 v1 v2 v3 v4 v5 (nC v0 - (k68 + 1) + 1) k68 y68tp td68 = _; rw [p_X6_feed_68, if_neg c_61, if_neg c_62, if_neg c_63, if_pos c_64]))) R68) (by omega) (by omega) _ _ hP hD hS ls hl
                          · skip
                            have c_63N : k68 = 2 := nI_eq1 (a := k68) (b := 2) (by omega) (by omega) c_63
                            refine lv_iload hx hb dX6_feed_107 (lv_at hl 5 rfl) ?_
                            refine g_topi (y := nI (nC v3)) hv_34 ?_
                            refine lv_goto (tgt := 125) hx hb dX6_feed_109 (by decide +kernel) ?_
                            refine g_iast (D := G.1) hx hb hK hP hD hS 1 0 rfl rfl (k := td68) (x := (nI (nC v3))) (by omega) rfl dX6_feed_125 (fun H locs hP hD hS => ?_)
                            have hz9 : gPD G A [zo6 h0 (nI pb) kd mo st (nI jg) ro tp (nI td68) cd sr (nI tx) (nI ru) him ir ih ss sq ce lw s19 s20 s21 s22 wo he s25 s26 s27 sk na kp s31 s32 s33 s34 gb go fa ga s39 s40 vo, zi G tp 160 (upd y68tp td68 (nI (nC v3)))] H := ⟨hP, hD⟩
                            have hP := hz9.1
                            have hD := hz9.2
                            refine lv_aload_n hx hb dX6_feed_126 rfl (lv_at hl 1 rfl) ?_
                            refine lv_dup hx hb dX6_feed_127 rfl ?_
                            refine va_get (D := G.1) (ci := 6) (v := .int (nI td68)) (C := RX6) (T := TX6) (N := 42) hx hb hts hiX6 hown hK hP 0 rfl rfl 7 (by decide +kernel) kf80 (fun _ h9 => h9) rfl dX6_feed_128 ?_
                            refine lv_iconst (v := 1) hx hb dX6_feed_131 (by decide +kernel) ?_
                            refine lv_iadd hx hb dX6_feed_132 ?_
                            refine g_topi (y := nI (td68 + 1)) (nI_add td68 1) ?_
                            refine va_put (D := G.1) (ci := 6) (v := .int (nI (td68 + 1))) (ty := .int) (C := RX6) (T := TX6) (N := 42) hx hb hts hiX6 tyX6 tyX6_ok nmX6 hown hK hP hD hS 0 rfl rfl 7 (by decide +kernel) kf80 (fun _ h9 => h9) rfl (by decide +kernel) rfl rfl (Nat.le_of_ble_eq_true rfl) dX6_feed_133 (fun H locs hP hD hS => ?_)
                            have hz9 : gPD G A [zo6 h0 (nI pb) kd mo st (nI jg) ro tp (nI (td68 + 1)) cd sr (nI tx) (nI ru) him ir ih ss sq ce lw s19 s20 s21 s22 wo he s25 s26 s27 sk na kp s31 s32 s33 s34 gb go fa ga s39 s40 vo, zi G tp 160 (upd y68tp td68 (nI (nC v3)))] H := ⟨hP, hD⟩
                            have hP := hz9.1
                            have hD := hz9.2
                            refine lv_iinc (v := nI (k68 + 1)) (lv' := [zI 7 (nI (k68 + 1)), zR 0 h0, zI 1 v0, zI 2 v1, zI 3 v2, zI 4 v3, zI 5 v4, zI 6 v5]) hx hb dX6_feed_136 hl (k := 0) rfl (nI_add k68 1) (by decide +kernel) rfl (fun ls hl => ?_)
                            refine lv_goto (tgt := 68) hx hb dX6_feed_139 (by decide +kernel) ?_
                            exact ih9_68 (k68 + 1) (upd y68tp td68 (nI (nC v3))) (td68 + 1) (by omega) (Eq.trans (Eq.symm ((congrArg (fun z9 => p_X6_feed_68 v1 v2 v3 v4 v5 (z9) k68 y68tp td68) (show nC v0 - k68 = nC v0 - (k68 + 1) + 1 by omega)).trans (by show p_X6_feed_68 v1 v2 v3 v4 v5 (nC v0 - (k68 + 1) + 1) k68 y68tp td68 = _; rw [p_X6_feed_68, if_neg c_61, if_neg c_62, if_pos c_63]))) R68) (by omega) (by omega) _ _ hP hD hS ls hl
                        · skip
                          have c_62N : k68 = 1 := nI_eq1 (a := k68) (b := 1) (by omega) (by omega) c_62
                          refine lv_iload_n hx hb dX6_feed_97 rfl (lv_at hl 4 rfl) ?_
                          refine g_topi (y := nI (nC v2)) hv_25 ?_
                          refine lv_goto (tgt := 125) hx hb dX6_feed_98 (by decide +kernel) ?_
                          refine g_iast (D := G.1) hx hb hK hP hD hS 1 0 rfl rfl (k := td68) (x := (nI (nC v2))) (by omega) rfl dX6_feed_125 (fun H locs hP hD hS => ?_)
                          have hz9 : gPD G A [zo6 h0 (nI pb) kd mo st (nI jg) ro tp (nI td68) cd sr (nI tx) (nI ru) him ir ih ss sq ce lw s19 s20 s21 s22 wo he s25 s26 s27 sk na kp s31 s32 s33 s34 gb go fa ga s39 s40 vo, zi G tp 160 (upd y68tp td68 (nI (nC v2)))] H := ⟨hP, hD⟩
                          have hP := hz9.1
                          have hD := hz9.2
                          refine lv_aload_n hx hb dX6_feed_126 rfl (lv_at hl 1 rfl) ?_
                          refine lv_dup hx hb dX6_feed_127 rfl ?_
                          refine va_get (D := G.1) (ci := 6) (v := .int (nI td68)) (C := RX6) (T := TX6) (N := 42) hx hb hts hiX6 hown hK hP 0 rfl rfl 7 (by decide +kernel) kf80 (fun _ h9 => h9) rfl dX6_feed_128 ?_
                          refine lv_iconst (v := 1) hx hb dX6_feed_131 (by decide +kernel) ?_
                          refine lv_iadd hx hb dX6_feed_132 ?_
                          refine g_topi (y := nI (td68 + 1)) (nI_add td68 1) ?_
                          refine va_put (D := G.1) (ci := 6) (v := .int (nI (td68 + 1))) (ty := .int) (C := RX6) (T := TX6) (N := 42) hx hb hts hiX6 tyX6 tyX6_ok nmX6 hown hK hP hD hS 0 rfl rfl 7 (by decide +kernel) kf80 (fun _ h9 => h9) rfl (by decide +kernel) rfl rfl (Nat.le_of_ble_eq_true rfl) dX6_feed_133 (fun H locs hP hD hS => ?_)
                          have hz9 : gPD G A [zo6 h0 (nI pb) kd mo st (nI jg) ro tp (nI (td68 + 1)) cd sr (nI tx) (nI ru) him ir ih ss sq ce lw s19 s20 s21 s22 wo he s25 s26 s27 sk na kp s31 s32 s33 s34 gb go fa ga s39 s40 vo, zi G tp 160 (upd y68tp td68 (nI (nC v2)))] H := ⟨hP, hD⟩
                          have hP := hz9.1
                          have hD := hz9.2
                          refine lv_iinc (v := nI (k68 + 1)) (lv' := [zI 7 (nI (k68 + 1)), zR 0 h0, zI 1 v0, zI 2 v1, zI 3 v2, zI 4 v3, zI 5 v4, zI 6 v5]) hx hb dX6_feed_136 hl (k := 0) rfl (nI_add k68 1) (by decide +kernel) rfl (fun ls hl => ?_)
                          refine lv_goto (tgt := 68) hx hb dX6_feed_139 (by decide +kernel) ?_
                          exact ih9_68 (k68 + 1) (upd y68tp td68 (nI (nC v2))) (td68 + 1) (by omega) (Eq.trans (Eq.symm ((congrArg (fun z9 => p_X6_feed_68 v1 v2 v3 v4 v5 (z9) k68 y68tp td68) (show nC v0 - k68 = nC v0 - (k68 + 1) + 1 by omega)).trans (by show p_X6_feed_68 v1 v2 v3 v4 v5 (nC v0 - (k68 + 1) + 1) k68 y68tp td68 = _; rw [p_X6_feed_68, if_neg c_61, if_pos c_62]))) R68) (by omega) (by omega) _ _ hP hD hS ls hl
                      · skip
                        have c_61N : k68 = 0 := nI_eq1 (a := k68) (b := 0) (by omega) (by omega) c_61
                        refine lv_iload_n hx hb dX6_feed_87 rfl (lv_at hl 3 rfl) ?_
                        refine g_topi (y := nI (nC v1)) hv_16 ?_
                        refine lv_goto (tgt := 125) hx hb dX6_feed_88 (by decide +kernel) ?_
                        refine g_iast (D := G.1) hx hb hK hP hD hS 1 0 rfl rfl (k := td68) (x := (nI (nC v1))) (by omega) rfl dX6_feed_125 (fun H locs hP hD hS => ?_)
                        have hz9 : gPD G A [zo6 h0 (nI pb) kd mo st (nI jg) ro tp (nI td68) cd sr (nI tx) (nI ru) him ir ih ss sq ce lw s19 s20 s21 s22 wo he s25 s26 s27 sk na kp s31 s32 s33 s34 gb go fa ga s39 s40 vo, zi G tp 160 (upd y68tp td68 (nI (nC v1)))] H := ⟨hP, hD⟩
                        have hP := hz9.1
                        have hD := hz9.2
                        refine lv_aload_n hx hb dX6_feed_126 rfl (lv_at hl 1 rfl) ?_
                        refine lv_dup hx hb dX6_feed_127 rfl ?_
                        refine va_get (D := G.1) (ci := 6) (v := .int (nI td68)) (C := RX6) (T := TX6) (N := 42) hx hb hts hiX6 hown hK hP 0 rfl rfl 7 (by decide +kernel) kf80 (fun _ h9 => h9) rfl dX6_feed_128 ?_
                        refine lv_iconst (v := 1) hx hb dX6_feed_131 (by decide +kernel) ?_
                        refine lv_iadd hx hb dX6_feed_132 ?_
                        refine g_topi (y := nI (td68 + 1)) (nI_add td68 1) ?_
                        refine va_put (D := G.1) (ci := 6) (v := .int (nI (td68 + 1))) (ty := .int) (C := RX6) (T := TX6) (N := 42) hx hb hts hiX6 tyX6 tyX6_ok nmX6 hown hK hP hD hS 0 rfl rfl 7 (by decide +kernel) kf80 (fun _ h9 => h9) rfl (by decide +kernel) rfl rfl (Nat.le_of_ble_eq_true rfl) dX6_feed_133 (fun H locs hP hD hS => ?_)
                        have hz9 : gPD G A [zo6 h0 (nI pb) kd mo st (nI jg) ro tp (nI (td68 + 1)) cd sr (nI tx) (nI ru) him ir ih ss sq ce lw s19 s20 s21 s22 wo he s25 s26 s27 sk na kp s31 s32 s33 s34 gb go fa ga s39 s40 vo, zi G tp 160 (upd y68tp td68 (nI (nC v1)))] H := ⟨hP, hD⟩
                        have hP := hz9.1
                        have hD := hz9.2
                        refine lv_iinc (v := nI (k68 + 1)) (lv' := [zI 7 (nI (k68 + 1)), zR 0 h0, zI 1 v0, zI 2 v1, zI 3 v2, zI 4 v3, zI 5 v4, zI 6 v5]) hx hb dX6_feed_136 hl (k := 0) rfl (nI_add k68 1) (by decide +kernel) rfl (fun ls hl => ?_)
                        refine lv_goto (tgt := 68) hx hb dX6_feed_139 (by decide +kernel) ?_
                        exact ih9_68 (k68 + 1) (upd y68tp td68 (nI (nC v1))) (td68 + 1) (by omega) (Eq.trans (Eq.symm ((congrArg (fun z9 => p_X6_feed_68 v1 v2 v3 v4 v5 (z9) k68 y68tp td68) (show nC v0 - k68 = nC v0 - (k68 + 1) + 1 by omega)).trans (by show p_X6_feed_68 v1 v2 v3 v4 v5 (nC v0 - (k68 + 1) + 1) k68 y68tp td68 = _; rw [p_X6_feed_68, if_pos c_61]))) R68) (by omega) (by omega) _ _ hP hD hS ls hl
                exact loop_68 (nC v0 - 0 + 1) 0 ftp td (by omega) (rfl) (rfl) (by omega) _ _ hP hD hS ls hl
              · skip
                have c_56N : 160 < (td + (nC v0)) := nI_le0 (a := (td + (nC v0))) (b := 160) (by omega) (by omega) c_56
                refine lv_bipush (v := -4) hx hb dX6_feed_62 (by decide +kernel) ?_
                have q_75 : m_X6_feed_h07 td ftp v0 v1 v2 v3 v4 v5 = td := by unfold m_X6_feed_h07; rw [if_pos p_4, if_pos p_14, if_pos p_23, if_pos p_32, if_pos p_41, if_pos p_50, if_neg c_56]
                have q_76 : m_X6_feed_tp td ftp v0 v1 v2 v3 v4 v5 = ftp := by unfold m_X6_feed_tp; rw [if_pos p_4, if_pos p_14, if_pos p_23, if_pos p_32, if_pos p_41, if_pos p_50, if_neg c_56]
                have hz9 : gPD G A [zo6 h0 (nI pb) kd mo st (nI jg) ro tp (nI (m_X6_feed_h07 td ftp v0 v1 v2 v3 v4 v5)) cd sr (nI tx) (nI ru) him ir ih ss sq ce lw s19 s20 s21 s22 wo he s25 s26 s27 sk na kp s31 s32 s33 s34 gb go fa ga s39 s40 vo, zi G tp 160 (m_X6_feed_tp td ftp v0 v1 v2 v3 v4 v5)] H := ⟨by rw [q_75, q_76]; exact hP, by rw [q_75, q_76]; exact hD⟩
                have hP9 := hz9.1
                have hD9 := hz9.2
                have hpost : (fun (r : Int32) (u : Unit) => match u with | _ => r = m_X6_feed td ftp v0 v1 v2 v3 v4 v5) (-4) () := (show m_X6_feed td ftp v0 v1 v2 v3 v4 v5 = (-4) from by unfold m_X6_feed; rw [if_pos p_4, if_pos p_14, if_pos p_23, if_pos p_32, if_pos p_41, if_pos p_50, if_neg c_56]).symm
                exact W.iret (v := (-4)) hx hb hr (fun t ht hW => ⟨⟨(-4), (), rfl, hpost, by rw [ht]; exact hP9, va_K.moved hW.alike hK, hD9⟩, hS.F ht⟩) hS.2.2 dX6_feed_64
            · skip
              have n_51 : ¬ (0 ≤ v5 ∧ v5 ≤ 255) := of_decide_eq_false (bz_eq rfl c_49)
              refine lv_bipush (v := -2) hx hb dX6_feed_47 (by decide +kernel) ?_
              have q_77 : m_X6_feed_h07 td ftp v0 v1 v2 v3 v4 v5 = td := by unfold m_X6_feed_h07; rw [if_pos p_4, if_pos p_14, if_pos p_23, if_pos p_32, if_pos p_41, if_neg n_51]
              have q_78 : m_X6_feed_tp td ftp v0 v1 v2 v3 v4 v5 = ftp := by unfold m_X6_feed_tp; rw [if_pos p_4, if_pos p_14, if_pos p_23, if_pos p_32, if_pos p_41, if_neg n_51]
              have hz9 : gPD G A [zo6 h0 (nI pb) kd mo st (nI jg) ro tp (nI (m_X6_feed_h07 td ftp v0 v1 v2 v3 v4 v5)) cd sr (nI tx) (nI ru) him ir ih ss sq ce lw s19 s20 s21 s22 wo he s25 s26 s27 sk na kp s31 s32 s33 s34 gb go fa ga s39 s40 vo, zi G tp 160 (m_X6_feed_tp td ftp v0 v1 v2 v3 v4 v5)] H := ⟨by rw [q_77, q_78]; exact hP, by rw [q_77, q_78]; exact hD⟩
              have hP9 := hz9.1
              have hD9 := hz9.2
              have hpost : (fun (r : Int32) (u : Unit) => match u with | _ => r = m_X6_feed td ftp v0 v1 v2 v3 v4 v5) (-2) () := (show m_X6_feed td ftp v0 v1 v2 v3 v4 v5 = (-2) from by unfold m_X6_feed; rw [if_pos p_4, if_pos p_14, if_pos p_23, if_pos p_32, if_pos p_41, if_neg n_51]).symm
              exact W.iret (v := (-2)) hx hb hr (fun t ht hW => ⟨⟨(-2), (), rfl, hpost, by rw [ht]; exact hP9, va_K.moved hW.alike hK, hD9⟩, hS.F ht⟩) hS.2.2 dX6_feed_49
noncomputable def p_X6_pebblesBy_64 (fsq : Nat → Nat) (fce : Nat → Int32) (v0 : Int32) (v2 : Int32) : Nat → Nat → Int32 → (Nat → Int32) → (Nat → Int32) → (Nat → Int32) → Nat → Nat × Int32 × (Nat → Int32) × (Nat → Int32) × (Nat → Int32) × Nat
  | 0, k64, cm, y64kd, y64mo, y64st, pb6 => (k64, cm, y64kd, y64mo, y64st, pb6)
  | q9 + 1, k64, cm, y64kd, y64mo, y64st, pb6 => if v2 < 0 then (k64, cm, y64kd, y64mo, y64st, pb6) else (if (v2 + (nI (2 * k64))) < (nI (nC v2)) then (k64, cm, y64kd, y64mo, y64st, pb6) else (if (v2 + (nI (2 * k64))) ≤ ((nI (fsq (nC v0))) - 2) then (if (m_X6_pebble pb6 (fce ((40 * (nC v0)) + (nC v2 + 2 * k64))) (fce (((40 * (nC v0)) + (nC v2 + 2 * k64)) + 1))) < 0 then p_X6_pebblesBy_64 fsq fce v0 v2 q9 (k64 + 1) (cm + 0) (m_X6_pebble_kd pb6 y64kd (fce ((40 * (nC v0)) + (nC v2 + 2 * k64))) (fce (((40 * (nC v0)) + (nC v2 + 2 * k64)) + 1))) (m_X6_pebble_mo pb6 y64mo (fce ((40 * (nC v0)) + (nC v2 + 2 * k64))) (fce (((40 * (nC v0)) + (nC v2 + 2 * k64)) + 1))) (m_X6_pebble_st pb6 y64st (fce ((40 * (nC v0)) + (nC v2 + 2 * k64))) (fce (((40 * (nC v0)) + (nC v2 + 2 * k64)) + 1))) (m_X6_pebble_h00 pb6 (fce ((40 * (nC v0)) + (nC v2 + 2 * k64))) (fce (((40 * (nC v0)) + (nC v2 + 2 * k64)) + 1))) else p_X6_pebblesBy_64 fsq fce v0 v2 q9 (k64 + 1) (cm + 1) (m_X6_pebble_kd pb6 y64kd (fce ((40 * (nC v0)) + (nC v2 + 2 * k64))) (fce (((40 * (nC v0)) + (nC v2 + 2 * k64)) + 1))) (m_X6_pebble_mo pb6 y64mo (fce ((40 * (nC v0)) + (nC v2 + 2 * k64))) (fce (((40 * (nC v0)) + (nC v2 + 2 * k64)) + 1))) (m_X6_pebble_st pb6 y64st (fce ((40 * (nC v0)) + (nC v2 + 2 * k64))) (fce (((40 * (nC v0)) + (nC v2 + 2 * k64)) + 1))) (m_X6_pebble_h00 pb6 (fce ((40 * (nC v0)) + (nC v2 + 2 * k64))) (fce (((40 * (nC v0)) + (nC v2 + 2 * k64)) + 1)))) else (k64, cm, y64kd, y64mo, y64st, pb6)))
noncomputable def g_X6_pebblesBy_64 (pb : Nat) (fsq : Nat → Nat) (fce : Nat → Int32) (fkd : Nat → Int32) (fmo : Nat → Int32) (fst : Nat → Int32) (v0 : Int32) (v2 : Int32) (v3 : Int32) : Nat × Int32 × (Nat → Int32) × (Nat → Int32) × (Nat → Int32) × Nat := p_X6_pebblesBy_64 fsq fce v0 v2 (nC v3 - 0) 0 0 fkd fmo fst pb
noncomputable def m_X6_pebblesBy (pb : Nat) (fss : Nat → Int32) (fsq : Nat → Nat) (fce : Nat → Int32) (fkd : Nat → Int32) (fmo : Nat → Int32) (fst : Nat → Int32) (v0 : Int32) (v1 : Int32) (v2 : Int32) (v3 : Int32) : Int32 := if 0 ≤ v0 ∧ v0 ≤ 3 then (if 0 ≤ v1 ∧ v1 ≤ 2 then (if 0 ≤ v3 ∧ v3 ≤ 6 then (if (fss (nC v0)) = (-1) then -11 else (if (fss (nC v0)) = (nI (nC v1)) then (if (nI (nC v3)) ≤ (nI ((g_X6_pebblesBy_64 pb fsq fce fkd fmo fst v0 v2 v3).1)) then ((g_X6_pebblesBy_64 pb fsq fce fkd fmo fst v0 v2 v3).2.1) else -12) else -13)) else -2) else -2) else -2
noncomputable def m_X6_pebblesBy_h00 (pb : Nat) (fss : Nat → Int32) (fsq : Nat → Nat) (fce : Nat → Int32) (fkd : Nat → Int32) (fmo : Nat → Int32) (fst : Nat → Int32) (v0 : Int32) (v1 : Int32) (v2 : Int32) (v3 : Int32) : Nat := if 0 ≤ v0 ∧ v0 ≤ 3 then (if 0 ≤ v1 ∧ v1 ≤ 2 then (if 0 ≤ v3 ∧ v3 ≤ 6 then (if (fss (nC v0)) = (-1) then pb else (if (fss (nC v0)) = (nI (nC v1)) then ((g_X6_pebblesBy_64 pb fsq fce fkd fmo fst v0 v2 v3).2.2.2.2.2) else pb)) else pb) else pb) else pb
noncomputable def m_X6_pebblesBy_kd (pb : Nat) (fss : Nat → Int32) (fsq : Nat → Nat) (fce : Nat → Int32) (fkd : Nat → Int32) (fmo : Nat → Int32) (fst : Nat → Int32) (v0 : Int32) (v1 : Int32) (v2 : Int32) (v3 : Int32) : Nat → Int32 := if 0 ≤ v0 ∧ v0 ≤ 3 then (if 0 ≤ v1 ∧ v1 ≤ 2 then (if 0 ≤ v3 ∧ v3 ≤ 6 then (if (fss (nC v0)) = (-1) then fkd else (if (fss (nC v0)) = (nI (nC v1)) then ((g_X6_pebblesBy_64 pb fsq fce fkd fmo fst v0 v2 v3).2.2.1) else fkd)) else fkd) else fkd) else fkd
noncomputable def m_X6_pebblesBy_mo (pb : Nat) (fss : Nat → Int32) (fsq : Nat → Nat) (fce : Nat → Int32) (fkd : Nat → Int32) (fmo : Nat → Int32) (fst : Nat → Int32) (v0 : Int32) (v1 : Int32) (v2 : Int32) (v3 : Int32) : Nat → Int32 := if 0 ≤ v0 ∧ v0 ≤ 3 then (if 0 ≤ v1 ∧ v1 ≤ 2 then (if 0 ≤ v3 ∧ v3 ≤ 6 then (if (fss (nC v0)) = (-1) then fmo else (if (fss (nC v0)) = (nI (nC v1)) then ((g_X6_pebblesBy_64 pb fsq fce fkd fmo fst v0 v2 v3).2.2.2.1) else fmo)) else fmo) else fmo) else fmo
noncomputable def m_X6_pebblesBy_st (pb : Nat) (fss : Nat → Int32) (fsq : Nat → Nat) (fce : Nat → Int32) (fkd : Nat → Int32) (fmo : Nat → Int32) (fst : Nat → Int32) (v0 : Int32) (v1 : Int32) (v2 : Int32) (v3 : Int32) : Nat → Int32 := if 0 ≤ v0 ∧ v0 ≤ 3 then (if 0 ≤ v1 ∧ v1 ≤ 2 then (if 0 ≤ v3 ∧ v3 ≤ 6 then (if (fss (nC v0)) = (-1) then fst else (if (fss (nC v0)) = (nI (nC v1)) then ((g_X6_pebblesBy_64 pb fsq fce fkd fmo fst v0 v2 v3).2.2.2.2.1) else fst)) else fst) else fst) else fst
abbrev q_X6_pebblesBy (G : gG) (h0 kd mo st ro tp cd sr ir ih ss sq ce lw wo he sk na kp gb go fa ga vo : Nat) (pb : Nat) (jg : Nat) (td : Nat) (tx : Nat) (ru : Nat) (him : Int32) (s19 : Int32) (s20 : Int32) (s21 : Int32) (s22 : Int32) (s25 : Int32) (s26 : Int32) (s27 : Int32) (s31 : Int32) (s32 : Int32) (s33 : Int32) (s34 : Int32) (s39 : Int32) (s40 : Int32) (fss : Nat → Int32) (fsq : Nat → Nat) (fce : Nat → Int32) (fkd : Nat → Int32) (fmo : Nat → Int32) (fst : Nat → Int32) (v0 : Int32) (v1 : Int32) (v2 : Int32) (v3 : Int32) (A : Nat → Prop) : Array Value → State → Outcome → State → Prop := va_Qi (fun (r : Int32) (u : Unit) => match u with | _ => r = m_X6_pebblesBy pb fss fsq fce fkd fmo fst v0 v1 v2 v3) (fun (u : Unit) t => match u with | _ => va_P G.1 vwCl [zo6 h0 (nI (m_X6_pebblesBy_h00 pb fss fsq fce fkd fmo fst v0 v1 v2 v3)) kd mo st (nI jg) ro tp (nI td) cd sr (nI tx) (nI ru) him ir ih ss sq ce lw s19 s20 s21 s22 wo he s25 s26 s27 sk na kp s31 s32 s33 s34 gb go fa ga s39 s40 vo, zi G ss 4 fss, zi G sq 4 (nF fsq), zi G ce 160 fce, zi G kd 6 (m_X6_pebblesBy_kd pb fss fsq fce fkd fmo fst v0 v1 v2 v3), zi G mo 6 (m_X6_pebblesBy_mo pb fss fsq fce fkd fmo fst v0 v1 v2 v3), zi G st 12 (m_X6_pebblesBy_st pb fss fsq fce fkd fmo fst v0 v1 v2 v3)] t.heap ∧ gK G t ∧ va_D A [zo6 h0 (nI (m_X6_pebblesBy_h00 pb fss fsq fce fkd fmo fst v0 v1 v2 v3)) kd mo st (nI jg) ro tp (nI td) cd sr (nI tx) (nI ru) him ir ih ss sq ce lw s19 s20 s21 s22 wo he s25 s26 s27 sk na kp s31 s32 s33 s34 gb go fa ga s39 s40 vo, zi G ss 4 fss, zi G sq 4 (nF fsq), zi G ce 160 fce, zi G kd 6 (m_X6_pebblesBy_kd pb fss fsq fce fkd fmo fst v0 v1 v2 v3), zi G mo 6 (m_X6_pebblesBy_mo pb fss fsq fce fkd fmo fst v0 v1 v2 v3), zi G st 12 (m_X6_pebblesBy_st pb fss fsq fce fkd fmo fst v0 v1 v2 v3)]) A
set_option maxHeartbeats 4000000 in
set_option maxRecDepth 100000 in
theorem c_X6_pebblesBy (l : Launch) (G : gG) (h0 kd mo st ro tp cd sr ir ih ss sq ce lw wo he sk na kp gb go fa ga vo : Nat) (pb : Nat) (jg : Nat) (td : Nat) (tx : Nat) (ru : Nat) (him : Int32) (s19 : Int32) (s20 : Int32) (s21 : Int32) (s22 : Int32) (s25 : Int32) (s26 : Int32) (s27 : Int32) (s31 : Int32) (s32 : Int32) (s33 : Int32) (s34 : Int32) (s39 : Int32) (s40 : Int32) (fss : Nat → Int32) (fsq : Nat → Nat) (fce : Nat → Int32) (fkd : Nat → Int32) (fmo : Nat → Int32) (fst : Nat → Int32) (v0 : Int32) (v1 : Int32) (v2 : Int32) (v3 : Int32) (sz : Nat) (hsq : ∀ q9, q9 < 4 → fsq q9 ≤ 40) (hpb : pb ≤ 6) (hjg : jg ≤ 4) (htx : tx ≤ 6) (hru : ru < tx) : Met l yX6_pebblesBy wsX6_pebblesBy ({ frames := 2, cells := 0, slots := 0, locals := 44 }) (gPre G [.ref h0, .int v0, .int v1, .int v2, .int v3] [zo6 h0 (nI pb) kd mo st (nI jg) ro tp (nI td) cd sr (nI tx) (nI ru) him ir ih ss sq ce lw s19 s20 s21 s22 wo he s25 s26 s27 sk na kp s31 s32 s33 s34 gb go fa ga s39 s40 vo, zi G ss 4 fss, zi G sq 4 (nF fsq), zi G ce 160 fce, zi G kd 6 fkd, zi G mo 6 fmo, zi G st 12 fst] sz) (q_X6_pebblesBy G h0 kd mo st ro tp cd sr ir ih ss sq ce lw wo he sk na kp gb go fa ga vo pb jg td tx ru him s19 s20 s21 s22 s25 s26 s27 s31 s32 s33 s34 s39 s40 fss fsq fce fkd fmo fst v0 v1 v2 v3 (va_A [zo6 h0 (nI pb) kd mo st (nI jg) ro tp (nI td) cd sr (nI tx) (nI ru) him ir ih ss sq ce lw s19 s20 s21 s22 wo he s25 s26 s27 sk na kp s31 s32 s33 s34 gb go fa ga s39 s40 vo, zi G ss 4 fss, zi G sq 4 (nF fsq), zi G ce 160 fce, zi G kd 6 fkd, zi G mo 6 fmo, zi G st 12 fst] sz)) 0 0 (va_A [zo6 h0 (nI pb) kd mo st (nI jg) ro tp (nI td) cd sr (nI tx) (nI ru) him ir ih ss sq ce lw s19 s20 s21 s22 wo he s25 s26 s27 sk na kp s31 s32 s33 s34 gb go fa ga s39 s40 vo, zi G ss 4 fss, zi G sq 4 (nF fsq), zi G ce 160 fce, zi G kd 6 fkd, zi G mo 6 fmo, zi G st 12 fst] sz) := by
  refine Met.ofW (cc := cX6_pebblesBy) (maxL := 9) (ret := (some .int)) (by decide +kernel) rfl ?_
  intro p e s m args below meth c s₁ B hml hv
  obtain ⟨rfl, hsz, hP, hK, hD0⟩ := hv
  have hx := B.exec
  have hb := B.bytes
  have hr := B.returns
  have hts := atoms_spec (ws := wsX6_pebblesBy) B.pre
  have hown : s.vm.findClass RX6 = some m.cls := findClass_of_methodNamed B.named
  have hlocks := B.notSynchronized
  subst hsz
  have hD := hD0.self (sz := s.heap.size)
  generalize hAe : va_A [zo6 h0 (nI pb) kd mo st (nI jg) ro tp (nI td) cd sr (nI tx) (nI ru) him ir ih ss sq ce lw s19 s20 s21 s22 wo he s25 s26 s27 sk na kp s31 s32 s33 s34 gb go fa ga s39 s40 vo, zi G ss 4 fss, zi G sq 4 (nF fsq), zi G ce 160 fce, zi G kd 6 fkd, zi G mo 6 fmo, zi G st 12 fst] s.heap.size = A at hD ⊢
  have hA : ∀ q : Nat, s.heap.size ≤ q → A q := fun q h => by rw [← hAe]; exact Or.inr h
  have hS : va_S A s.heap s.heap [] := va_S.rf
  have hz9 : gPD G A [zo6 h0 (nI pb) kd mo st (nI jg) ro tp (nI td) cd sr (nI tx) (nI ru) him ir ih ss sq ce lw s19 s20 s21 s22 wo he s25 s26 s27 sk na kp s31 s32 s33 s34 gb go fa ga s39 s40 vo, zi G ss 4 fss, zi G sq 4 (nF fsq), zi G ce 160 fce, zi G kd 6 fkd, zi G mo 6 fmo, zi G st 12 fst] s.heap := ⟨hP, hD⟩
  have hP := hz9.1
  have hD := hz9.2
  have hl := lv_entry ([.ref h0, .int v0, .int v1, .int v2, .int v3]) (n := 9) (Nat.le_of_ble_eq_true rfl)
  rw [lg_entry_eq]
  generalize (lg_sl ([.ref h0, .int v0, .int v1, .int v2, .int v3]) ++ List.replicate (9 - (lg_sl ([.ref h0, .int v0, .int v1, .int v2, .int v3])).length) Slot.unset).toArray = ls at hl ⊢
  have hl : lv_has ls 9 [zR 0 h0, zI 1 v0, zI 2 v1, zI 3 v2, zI 4 v3] := hl
  have kf37 := hts (.fieldLink RX6 37 "PebbleInShoeModel" "sheetSort" "[I") (by decide +kernel)
  have hiX6 := (by decide +kernel : ∀ w ∈ wsX60, w ∈ wsX6_pebblesBy)
  have kf40 := hts (.fieldLink RX6 40 "PebbleInShoeModel" "sheetSize" "[I") (by decide +kernel)
  have kf43 := hts (.fieldLink RX6 43 "PebbleInShoeModel" "cells" "[I") (by decide +kernel)
  refine lv_iload_n hx hb dX6_pebblesBy_0 rfl (lv_at hl 1 rfl) ?_
  refine lv_iconst (v := 0) hx hb dX6_pebblesBy_1 (by decide +kernel) ?_
  refine lv_iconst (v := 3) hx hb dX6_pebblesBy_2 (by decide +kernel) ?_
  refine z_calli [] (v := bz (decide (0 ≤ v0 ∧ v0 ≤ 3))) (fun _ _ h => h) (va_runS (As := [.int v0, .int 0, .int 3]) (rest := []) ⟨hx, hb, hml, hown, hts⟩ (c_X6_in l G v0 0 3 s.heap.size) (va_cwS 3 hts gX6_pebblesBy_X6_in rfl rfl rfl (by decide +kernel) ⟨Nat.le_of_ble_eq_true rfl, Nat.le_of_ble_eq_true rfl⟩) ⟨gPre_blind, fun U hU hW => gPre_ofF [] hU hW hK hP hD (by decide +kernel) rfl⟩ rfl rfl hl.1 rfl (lv_room (Nat.le_of_ble_eq_true rfl)) dX6_pebblesBy_3 ⟨Nat.le_of_ble_eq_true rfl, Nat.le_of_ble_eq_true rfl⟩) hS hD hA rfl (fun u t H locs ht hvm hB hz1 hk1 hFq hAq hS => ?_)
  obtain ⟨hP1, hK1, hD1⟩ := hB
  have hP := zKeep hP hD [] hAq hk1 ht hP1 rfl
  refine lv_if_eq (tgt := 29) hx hb dX6_pebblesBy_6 (by decide +kernel) (fun c_3 => ?_) (fun c_3 => ?_)
  · skip
    have n_5 : ¬ (0 ≤ v0 ∧ v0 ≤ 3) := of_decide_eq_false (bz_eq rfl c_3)
    refine lv_bipush (v := -2) hx hb dX6_pebblesBy_29 (by decide +kernel) ?_
    have q_8 : m_X6_pebblesBy_h00 pb fss fsq fce fkd fmo fst v0 v1 v2 v3 = pb := by unfold m_X6_pebblesBy_h00; rw [if_neg n_5]
    have q_9 : m_X6_pebblesBy_kd pb fss fsq fce fkd fmo fst v0 v1 v2 v3 = fkd := by unfold m_X6_pebblesBy_kd; rw [if_neg n_5]
    have q_10 : m_X6_pebblesBy_mo pb fss fsq fce fkd fmo fst v0 v1 v2 v3 = fmo := by unfold m_X6_pebblesBy_mo; rw [if_neg n_5]
    have q_11 : m_X6_pebblesBy_st pb fss fsq fce fkd fmo fst v0 v1 v2 v3 = fst := by unfold m_X6_pebblesBy_st; rw [if_neg n_5]
    have hz9 : gPD G A [zo6 h0 (nI (m_X6_pebblesBy_h00 pb fss fsq fce fkd fmo fst v0 v1 v2 v3)) kd mo st (nI jg) ro tp (nI td) cd sr (nI tx) (nI ru) him ir ih ss sq ce lw s19 s20 s21 s22 wo he s25 s26 s27 sk na kp s31 s32 s33 s34 gb go fa ga s39 s40 vo, zi G ss 4 fss, zi G sq 4 (nF fsq), zi G ce 160 fce, zi G kd 6 (m_X6_pebblesBy_kd pb fss fsq fce fkd fmo fst v0 v1 v2 v3), zi G mo 6 (m_X6_pebblesBy_mo pb fss fsq fce fkd fmo fst v0 v1 v2 v3), zi G st 12 (m_X6_pebblesBy_st pb fss fsq fce fkd fmo fst v0 v1 v2 v3)] H := ⟨by rw [q_8, q_9, q_10, q_11]; exact hP, by rw [q_8, q_9, q_10, q_11]; exact hD⟩
    have hP9 := hz9.1
    have hD9 := hz9.2
    have hpost : (fun (r : Int32) (u : Unit) => match u with | _ => r = m_X6_pebblesBy pb fss fsq fce fkd fmo fst v0 v1 v2 v3) (-2) () := (show m_X6_pebblesBy pb fss fsq fce fkd fmo fst v0 v1 v2 v3 = (-2) from by unfold m_X6_pebblesBy; rw [if_neg n_5]).symm
    exact W.iret (v := (-2)) hx hb hr (fun t ht hW => ⟨⟨(-2), (), rfl, hpost, by rw [ht]; exact hP9, va_K.moved hW.alike hK, hD9⟩, hS.F ht⟩) hS.2.2 dX6_pebblesBy_31
  · skip
    have p_4 : 0 ≤ v0 ∧ v0 ≤ 3 := of_decide_eq_true (bz_ne rfl c_3)
    have hv_6 : v0 = nI (nC v0) := nC_eq p_4.1
    have hk_7 : nC v0 ≤ 3 := nC_le (n := 3) (by omega) p_4
    refine lv_iload_n hx hb dX6_pebblesBy_9 rfl (lv_at hl 2 rfl) ?_
    refine lv_iconst (v := 0) hx hb dX6_pebblesBy_10 (by decide +kernel) ?_
    refine lv_iconst (v := 2) hx hb dX6_pebblesBy_11 (by decide +kernel) ?_
    refine z_calli [] (v := bz (decide (0 ≤ v1 ∧ v1 ≤ 2))) (fun _ _ h => h) (va_runS (As := [.int v1, .int 0, .int 2]) (rest := []) ⟨hx, hb, hml, hown, hts⟩ (c_X6_in l G v1 0 2 H.size) (va_cwS 3 hts gX6_pebblesBy_X6_in rfl rfl rfl (by decide +kernel) ⟨Nat.le_of_ble_eq_true rfl, Nat.le_of_ble_eq_true rfl⟩) ⟨gPre_blind, fun U hU hW => gPre_ofF [] hU hW hK hP hD (by decide +kernel) rfl⟩ rfl rfl hl.1 rfl (lv_room (Nat.le_of_ble_eq_true rfl)) dX6_pebblesBy_12 ⟨Nat.le_of_ble_eq_true rfl, Nat.le_of_ble_eq_true rfl⟩) hS hD hA rfl (fun u t H locs ht hvm hB hz1 hk1 hFq hAq hS => ?_)
    obtain ⟨hP1, hK1, hD1⟩ := hB
    have hP := zKeep hP hD [] hAq hk1 ht hP1 rfl
    refine lv_if_eq (tgt := 29) hx hb dX6_pebblesBy_15 (by decide +kernel) (fun c_14 => ?_) (fun c_14 => ?_)
    · skip
      have n_16 : ¬ (0 ≤ v1 ∧ v1 ≤ 2) := of_decide_eq_false (bz_eq rfl c_14)
      refine lv_bipush (v := -2) hx hb dX6_pebblesBy_29 (by decide +kernel) ?_
      have q_19 : m_X6_pebblesBy_h00 pb fss fsq fce fkd fmo fst v0 v1 v2 v3 = pb := by unfold m_X6_pebblesBy_h00; rw [if_pos p_4, if_neg n_16]
      have q_20 : m_X6_pebblesBy_kd pb fss fsq fce fkd fmo fst v0 v1 v2 v3 = fkd := by unfold m_X6_pebblesBy_kd; rw [if_pos p_4, if_neg n_16]
      have q_21 : m_X6_pebblesBy_mo pb fss fsq fce fkd fmo fst v0 v1 v2 v3 = fmo := by unfold m_X6_pebblesBy_mo; rw [if_pos p_4, if_neg n_16]
      have q_22 : m_X6_pebblesBy_st pb fss fsq fce fkd fmo fst v0 v1 v2 v3 = fst := by unfold m_X6_pebblesBy_st; rw [if_pos p_4, if_neg n_16]
      have hz9 : gPD G A [zo6 h0 (nI (m_X6_pebblesBy_h00 pb fss fsq fce fkd fmo fst v0 v1 v2 v3)) kd mo st (nI jg) ro tp (nI td) cd sr (nI tx) (nI ru) him ir ih ss sq ce lw s19 s20 s21 s22 wo he s25 s26 s27 sk na kp s31 s32 s33 s34 gb go fa ga s39 s40 vo, zi G ss 4 fss, zi G sq 4 (nF fsq), zi G ce 160 fce, zi G kd 6 (m_X6_pebblesBy_kd pb fss fsq fce fkd fmo fst v0 v1 v2 v3), zi G mo 6 (m_X6_pebblesBy_mo pb fss fsq fce fkd fmo fst v0 v1 v2 v3), zi G st 12 (m_X6_pebblesBy_st pb fss fsq fce fkd fmo fst v0 v1 v2 v3)] H := ⟨by rw [q_19, q_20, q_21, q_22]; exact hP, by rw [q_19, q_20, q_21, q_22]; exact hD⟩
      have hP9 := hz9.1
      have hD9 := hz9.2
      have hpost : (fun (r : Int32) (u : Unit) => match u with | _ => r = m_X6_pebblesBy pb fss fsq fce fkd fmo fst v0 v1 v2 v3) (-2) () := (show m_X6_pebblesBy pb fss fsq fce fkd fmo fst v0 v1 v2 v3 = (-2) from by unfold m_X6_pebblesBy; rw [if_pos p_4, if_neg n_16]).symm
      exact W.iret (v := (-2)) hx hb hr (fun t ht hW => ⟨⟨(-2), (), rfl, hpost, by rw [ht]; exact hP9, va_K.moved hW.alike hK, hD9⟩, hS.F ht⟩) hS.2.2 dX6_pebblesBy_31
    · skip
      have p_15 : 0 ≤ v1 ∧ v1 ≤ 2 := of_decide_eq_true (bz_ne rfl c_14)
      have hv_17 : v1 = nI (nC v1) := nC_eq p_15.1
      have hk_18 : nC v1 ≤ 2 := nC_le (n := 2) (by omega) p_15
      refine lv_iload hx hb dX6_pebblesBy_18 (lv_at hl 4 rfl) ?_
      refine lv_iconst (v := 0) hx hb dX6_pebblesBy_20 (by decide +kernel) ?_
      refine lv_bipush (v := 6) hx hb dX6_pebblesBy_21 (by decide +kernel) ?_
      refine z_calli [] (v := bz (decide (0 ≤ v3 ∧ v3 ≤ 6))) (fun _ _ h => h) (va_runS (As := [.int v3, .int 0, .int 6]) (rest := []) ⟨hx, hb, hml, hown, hts⟩ (c_X6_in l G v3 0 6 H.size) (va_cwS 3 hts gX6_pebblesBy_X6_in rfl rfl rfl (by decide +kernel) ⟨Nat.le_of_ble_eq_true rfl, Nat.le_of_ble_eq_true rfl⟩) ⟨gPre_blind, fun U hU hW => gPre_ofF [] hU hW hK hP hD (by decide +kernel) rfl⟩ rfl rfl hl.1 rfl (lv_room (Nat.le_of_ble_eq_true rfl)) dX6_pebblesBy_23 ⟨Nat.le_of_ble_eq_true rfl, Nat.le_of_ble_eq_true rfl⟩) hS hD hA rfl (fun u t H locs ht hvm hB hz1 hk1 hFq hAq hS => ?_)
      obtain ⟨hP1, hK1, hD1⟩ := hB
      have hP := zKeep hP hD [] hAq hk1 ht hP1 rfl
      refine lv_if_ne (tgt := 32) hx hb dX6_pebblesBy_26 (by decide +kernel) (fun c_25 => ?_) (fun c_25 => ?_)
      · skip
        have p_26 : 0 ≤ v3 ∧ v3 ≤ 6 := of_decide_eq_true (bz_ne rfl c_25)
        have hv_28 : v3 = nI (nC v3) := nC_eq p_26.1
        have hk_29 : nC v3 ≤ 6 := nC_le (n := 6) (by omega) p_26
        refine g_aget (D := G.1) (ci := 6) (v := .ref ss) (C := RX6) (T := TX6) (N := 42) hx hb dX6_pebblesBy_32 rfl (lv_at hl 0 rfl) hts hiX6 hown hK hP 0 rfl rfl 15 (by decide +kernel) kf37 (fun _ h9 => h9) rfl dX6_pebblesBy_33 ?_
        refine lv_iload_n hx hb dX6_pebblesBy_36 rfl (lv_at hl 1 rfl) ?_
        refine g_topi (y := nI (nC v0)) hv_6 ?_
        refine g_iald (D := G.1) hx hb hK hP 1 0 rfl rfl (k := nC v0) (y := fss (nC v0)) (by omega) rfl rfl dX6_pebblesBy_37 ?_
        refine lv_iconst (v := -1) hx hb dX6_pebblesBy_38 (by decide +kernel) ?_
        refine lv_icmp_ne (tgt := 45) hx hb dX6_pebblesBy_39 (by decide +kernel) (fun c_32 => ?_) (fun c_32 => ?_)
        · skip
          refine g_aget (D := G.1) (ci := 6) (v := .ref ss) (C := RX6) (T := TX6) (N := 42) hx hb dX6_pebblesBy_45 rfl (lv_at hl 0 rfl) hts hiX6 hown hK hP 0 rfl rfl 15 (by decide +kernel) kf37 (fun _ h9 => h9) rfl dX6_pebblesBy_46 ?_
          refine lv_iload_n hx hb dX6_pebblesBy_49 rfl (lv_at hl 1 rfl) ?_
          refine g_topi (y := nI (nC v0)) hv_6 ?_
          refine g_iald (D := G.1) hx hb hK hP 1 0 rfl rfl (k := nC v0) (y := fss (nC v0)) (by omega) rfl rfl dX6_pebblesBy_50 ?_
          refine lv_iload_n hx hb dX6_pebblesBy_51 rfl (lv_at hl 2 rfl) ?_
          refine g_topi (y := nI (nC v1)) hv_17 ?_
          refine lv_icmp_eq (tgt := 58) hx hb dX6_pebblesBy_52 (by decide +kernel) (fun c_36 => ?_) (fun c_36 => ?_)
          · skip
            have hs4 := hsq (nC v0) (by omega)
            refine lv_iconst (v := 0) hx hb dX6_pebblesBy_58 (by decide +kernel) ?_
            refine lv_istore (lv' := [zI 5 0, zR 0 h0, zI 1 v0, zI 2 v1, zI 3 v2, zI 4 v3]) hx hb dX6_pebblesBy_59 hl (by decide +kernel) rfl (fun ls hl => ?_)
            refine lv_iconst (v := 0) hx hb dX6_pebblesBy_61 (by decide +kernel) ?_
            refine lv_istore (lv' := [zI 6 0, zI 5 0, zR 0 h0, zI 1 v0, zI 2 v1, zI 3 v2, zI 4 v3]) hx hb dX6_pebblesBy_62 hl (by decide +kernel) rfl (fun ls hl => ?_)
            have loop_64 : ∀ (n9 : Nat) (k64 : Nat) (cm : Int32) (y64kd : Nat → Int32) (y64mo : Nat → Int32) (y64st : Nat → Int32) (pb6 : Nat), (k64 ≤ nC v3) → (p_X6_pebblesBy_64 fsq fce v0 v2 (nC v3 - k64) k64 cm y64kd y64mo y64st pb6 = (g_X6_pebblesBy_64 pb fsq fce fkd fmo fst v0 v2 v3)) → (pb6 ≤ 6) → (nC v3 - k64) < n9 → ∀ (H : Heap) (locs : List Loc), va_P G.1 vwCl [zo6 h0 (nI pb6) kd mo st (nI jg) ro tp (nI td) cd sr (nI tx) (nI ru) him ir ih ss sq ce lw s19 s20 s21 s22 wo he s25 s26 s27 sk na kp s31 s32 s33 s34 gb go fa ga s39 s40 vo, zi G ss 4 fss, zi G sq 4 (nF fsq), zi G ce 160 fce, zi G kd 6 y64kd, zi G mo 6 y64mo, zi G st 12 y64st] H → va_D A [zo6 h0 (nI pb6) kd mo st (nI jg) ro tp (nI td) cd sr (nI tx) (nI ru) him ir ih ss sq ce lw s19 s20 s21 s22 wo he s25 s26 s27 sk na kp s31 s32 s33 s34 gb go fa ga s39 s40 vo, zi G ss 4 fss, zi G sq 4 (nF fsq), zi G ce 160 fce, zi G kd 6 y64kd, zi G mo 6 y64mo, zi G st 12 y64st] → va_S A s.heap H locs → ∀ ls : Array Slot, lv_has ls 9 [zI 6 (nI k64), zI 5 cm, zR 0 h0, zI 1 v0, zI 2 v1, zI 3 v2, zI 4 v3] → W p l e (headSpec wsX6_pebblesBy ({ frames := 2, cells := 0, slots := 0, locals := 44 })).room s m ([.ref h0, .int v0, .int v1, .int v2, .int v3] : List Value).toArray below meth c H locs 0 0 (MQ below (q_X6_pebblesBy G h0 kd mo st ro tp cd sr ir ih ss sq ce lw wo he sk na kp gb go fa ga vo pb jg td tx ru him s19 s20 s21 s22 s25 s26 s27 s31 s32 s33 s34 s39 s40 fss fsq fce fkd fmo fst v0 v1 v2 v3 A) ([.ref h0, .int v0, .int v1, .int v2, .int v3] : List Value).toArray s 0 0 A) (F0 m 64 ls []) := by
              intro n9
              induction n9 with
              | zero => intro k64 cm y64kd y64mo y64st pb6 hk64 R64 hpb6 hm9_64; exact absurd hm9_64 (Nat.not_lt_zero _)
              | succ n9 ih9_64 =>
                intro k64 cm y64kd y64mo y64st pb6 hk64 R64 hpb6 hm9_64 H locs hP hD hS ls hl
                refine lv_iload hx hb dX6_pebblesBy_64 (lv_at hl 0 rfl) ?_
                refine lv_iload hx hb dX6_pebblesBy_66 (lv_at hl 6 rfl) ?_
                refine g_topi (y := nI (nC v3)) hv_28 ?_
                refine lv_icmp_ge (tgt := 153) hx hb dX6_pebblesBy_68 (by decide +kernel) (fun c_38 => ?_) (fun c_38 => ?_)
                · skip
                  have c_38N : (nC v3) ≤ k64 := nI_le1 (a := (nC v3)) (b := k64) (by omega) (by omega) c_38
                  have hF64 : (g_X6_pebblesBy_64 pb fsq fce fkd fmo fst v0 v2 v3) = (k64, cm, y64kd, y64mo, y64st, pb6) := by rw [← R64, show nC v3 - k64 = 0 by omega]; rfl
                  have hE64_0 : k64 = ((g_X6_pebblesBy_64 pb fsq fce fkd fmo fst v0 v2 v3).1) := by rw [hF64]
                  have hE64_1 : cm = ((g_X6_pebblesBy_64 pb fsq fce fkd fmo fst v0 v2 v3).2.1) := by rw [hF64]
                  have hE64_2 : y64kd = ((g_X6_pebblesBy_64 pb fsq fce fkd fmo fst v0 v2 v3).2.2.1) := by rw [hF64]
                  have hE64_3 : y64mo = ((g_X6_pebblesBy_64 pb fsq fce fkd fmo fst v0 v2 v3).2.2.2.1) := by rw [hF64]
                  have hE64_4 : y64st = ((g_X6_pebblesBy_64 pb fsq fce fkd fmo fst v0 v2 v3).2.2.2.2.1) := by rw [hF64]
                  have hE64_5 : pb6 = ((g_X6_pebblesBy_64 pb fsq fce fkd fmo fst v0 v2 v3).2.2.2.2.2) := by rw [hF64]
                  clear hF64 R64
                  subst hE64_0
                  subst hE64_1
                  subst hE64_2
                  subst hE64_3
                  subst hE64_4
                  subst hE64_5
                  refine lv_iload hx hb dX6_pebblesBy_153 (lv_at hl 1 rfl) ?_
                  have q_39 : m_X6_pebblesBy_h00 pb fss fsq fce fkd fmo fst v0 v1 v2 v3 = (g_X6_pebblesBy_64 pb fsq fce fkd fmo fst v0 v2 v3).2.2.2.2.2 := by unfold m_X6_pebblesBy_h00; rw [if_pos p_4, if_pos p_15, if_pos p_26, if_neg c_32, if_pos c_36]
                  have q_40 : m_X6_pebblesBy_kd pb fss fsq fce fkd fmo fst v0 v1 v2 v3 = ((g_X6_pebblesBy_64 pb fsq fce fkd fmo fst v0 v2 v3).2.2.1) := by unfold m_X6_pebblesBy_kd; rw [if_pos p_4, if_pos p_15, if_pos p_26, if_neg c_32, if_pos c_36]
                  have q_41 : m_X6_pebblesBy_mo pb fss fsq fce fkd fmo fst v0 v1 v2 v3 = ((g_X6_pebblesBy_64 pb fsq fce fkd fmo fst v0 v2 v3).2.2.2.1) := by unfold m_X6_pebblesBy_mo; rw [if_pos p_4, if_pos p_15, if_pos p_26, if_neg c_32, if_pos c_36]
                  have q_42 : m_X6_pebblesBy_st pb fss fsq fce fkd fmo fst v0 v1 v2 v3 = ((g_X6_pebblesBy_64 pb fsq fce fkd fmo fst v0 v2 v3).2.2.2.2.1) := by unfold m_X6_pebblesBy_st; rw [if_pos p_4, if_pos p_15, if_pos p_26, if_neg c_32, if_pos c_36]
                  have hz9 : gPD G A [zo6 h0 (nI (m_X6_pebblesBy_h00 pb fss fsq fce fkd fmo fst v0 v1 v2 v3)) kd mo st (nI jg) ro tp (nI td) cd sr (nI tx) (nI ru) him ir ih ss sq ce lw s19 s20 s21 s22 wo he s25 s26 s27 sk na kp s31 s32 s33 s34 gb go fa ga s39 s40 vo, zi G ss 4 fss, zi G sq 4 (nF fsq), zi G ce 160 fce, zi G kd 6 (m_X6_pebblesBy_kd pb fss fsq fce fkd fmo fst v0 v1 v2 v3), zi G mo 6 (m_X6_pebblesBy_mo pb fss fsq fce fkd fmo fst v0 v1 v2 v3), zi G st 12 (m_X6_pebblesBy_st pb fss fsq fce fkd fmo fst v0 v1 v2 v3)] H := ⟨by rw [q_39, q_40, q_41, q_42]; exact hP, by rw [q_39, q_40, q_41, q_42]; exact hD⟩
                  have hP9 := hz9.1
                  have hD9 := hz9.2
                  have hpost : (fun (r : Int32) (u : Unit) => match u with | _ => r = m_X6_pebblesBy pb fss fsq fce fkd fmo fst v0 v1 v2 v3) ((g_X6_pebblesBy_64 pb fsq fce fkd fmo fst v0 v2 v3).2.1) () := (show m_X6_pebblesBy pb fss fsq fce fkd fmo fst v0 v1 v2 v3 = ((g_X6_pebblesBy_64 pb fsq fce fkd fmo fst v0 v2 v3).2.1) from by unfold m_X6_pebblesBy; rw [if_pos p_4, if_pos p_15, if_pos p_26, if_neg c_32, if_pos c_36, if_pos c_38]).symm
                  exact W.iret (v := ((g_X6_pebblesBy_64 pb fsq fce fkd fmo fst v0 v2 v3).2.1)) hx hb hr (fun t ht hW => ⟨⟨((g_X6_pebblesBy_64 pb fsq fce fkd fmo fst v0 v2 v3).2.1), (), rfl, hpost, by rw [ht]; exact hP9, va_K.moved hW.alike hK, hD9⟩, hS.F ht⟩) hS.2.2 dX6_pebblesBy_155
                · skip
                  have c_38N : k64 < (nC v3) := nI_le0 (a := (nC v3)) (b := k64) (by omega) (by omega) c_38
                  refine lv_iload_n hx hb dX6_pebblesBy_71 rfl (lv_at hl 5 rfl) ?_
                  refine lv_iconst (v := 2) hx hb dX6_pebblesBy_72 (by decide +kernel) ?_
                  refine lv_iload hx hb dX6_pebblesBy_73 (lv_at hl 0 rfl) ?_
                  refine lv_imul hx hb dX6_pebblesBy_75 ?_
                  refine g_topi (y := nI (2 * k64)) (pk_mul 2 k64) ?_
                  refine lv_iadd hx hb dX6_pebblesBy_76 ?_
                  refine lv_istore (lv' := [zI 7 (v2 + (nI (2 * k64))), zI 6 (nI k64), zI 5 cm, zR 0 h0, zI 1 v0, zI 2 v1, zI 3 v2, zI 4 v3]) hx hb dX6_pebblesBy_77 hl (by decide +kernel) rfl (fun ls hl => ?_)
                  refine lv_iload_n hx hb dX6_pebblesBy_79 rfl (lv_at hl 6 rfl) ?_
                  refine lv_if_lt (tgt := 102) hx hb dX6_pebblesBy_80 (by decide +kernel) (fun c_44 => ?_) (fun c_44 => ?_)
                  · skip
                    refine lv_bipush (v := -12) hx hb dX6_pebblesBy_102 (by decide +kernel) ?_
                    have hF64 : (g_X6_pebblesBy_64 pb fsq fce fkd fmo fst v0 v2 v3) = (k64, cm, y64kd, y64mo, y64st, pb6) := R64.symm.trans ((congrArg (fun z9 => p_X6_pebblesBy_64 fsq fce v0 v2 (z9) k64 cm y64kd y64mo y64st pb6) (show nC v3 - k64 = nC v3 - (k64 + 1) + 1 by omega)).trans (by show p_X6_pebblesBy_64 fsq fce v0 v2 (nC v3 - (k64 + 1) + 1) k64 cm y64kd y64mo y64st pb6 = _; rw [p_X6_pebblesBy_64, if_pos c_44]))
                    have hE64_0 : k64 = ((g_X6_pebblesBy_64 pb fsq fce fkd fmo fst v0 v2 v3).1) := by rw [hF64]
                    have hE64_1 : cm = ((g_X6_pebblesBy_64 pb fsq fce fkd fmo fst v0 v2 v3).2.1) := by rw [hF64]
                    have hE64_2 : y64kd = ((g_X6_pebblesBy_64 pb fsq fce fkd fmo fst v0 v2 v3).2.2.1) := by rw [hF64]
                    have hE64_3 : y64mo = ((g_X6_pebblesBy_64 pb fsq fce fkd fmo fst v0 v2 v3).2.2.2.1) := by rw [hF64]
                    have hE64_4 : y64st = ((g_X6_pebblesBy_64 pb fsq fce fkd fmo fst v0 v2 v3).2.2.2.2.1) := by rw [hF64]
                    have hE64_5 : pb6 = ((g_X6_pebblesBy_64 pb fsq fce fkd fmo fst v0 v2 v3).2.2.2.2.2) := by rw [hF64]
                    clear hF64 R64
                    subst hE64_0
                    subst hE64_1
                    subst hE64_2
                    subst hE64_3
                    subst hE64_4
                    subst hE64_5
                    have q_47 : m_X6_pebblesBy_h00 pb fss fsq fce fkd fmo fst v0 v1 v2 v3 = (g_X6_pebblesBy_64 pb fsq fce fkd fmo fst v0 v2 v3).2.2.2.2.2 := by unfold m_X6_pebblesBy_h00; rw [if_pos p_4, if_pos p_15, if_pos p_26, if_neg c_32, if_pos c_36]
                    have q_48 : m_X6_pebblesBy_kd pb fss fsq fce fkd fmo fst v0 v1 v2 v3 = ((g_X6_pebblesBy_64 pb fsq fce fkd fmo fst v0 v2 v3).2.2.1) := by unfold m_X6_pebblesBy_kd; rw [if_pos p_4, if_pos p_15, if_pos p_26, if_neg c_32, if_pos c_36]
                    have q_49 : m_X6_pebblesBy_mo pb fss fsq fce fkd fmo fst v0 v1 v2 v3 = ((g_X6_pebblesBy_64 pb fsq fce fkd fmo fst v0 v2 v3).2.2.2.1) := by unfold m_X6_pebblesBy_mo; rw [if_pos p_4, if_pos p_15, if_pos p_26, if_neg c_32, if_pos c_36]
                    have q_50 : m_X6_pebblesBy_st pb fss fsq fce fkd fmo fst v0 v1 v2 v3 = ((g_X6_pebblesBy_64 pb fsq fce fkd fmo fst v0 v2 v3).2.2.2.2.1) := by unfold m_X6_pebblesBy_st; rw [if_pos p_4, if_pos p_15, if_pos p_26, if_neg c_32, if_pos c_36]
                    have hz9 : gPD G A [zo6 h0 (nI (m_X6_pebblesBy_h00 pb fss fsq fce fkd fmo fst v0 v1 v2 v3)) kd mo st (nI jg) ro tp (nI td) cd sr (nI tx) (nI ru) him ir ih ss sq ce lw s19 s20 s21 s22 wo he s25 s26 s27 sk na kp s31 s32 s33 s34 gb go fa ga s39 s40 vo, zi G ss 4 fss, zi G sq 4 (nF fsq), zi G ce 160 fce, zi G kd 6 (m_X6_pebblesBy_kd pb fss fsq fce fkd fmo fst v0 v1 v2 v3), zi G mo 6 (m_X6_pebblesBy_mo pb fss fsq fce fkd fmo fst v0 v1 v2 v3), zi G st 12 (m_X6_pebblesBy_st pb fss fsq fce fkd fmo fst v0 v1 v2 v3)] H := ⟨by rw [q_47, q_48, q_49, q_50]; exact hP, by rw [q_47, q_48, q_49, q_50]; exact hD⟩
                    have hP9 := hz9.1
                    have hD9 := hz9.2
                    have hpost : (fun (r : Int32) (u : Unit) => match u with | _ => r = m_X6_pebblesBy pb fss fsq fce fkd fmo fst v0 v1 v2 v3) (-12) () := (show m_X6_pebblesBy pb fss fsq fce fkd fmo fst v0 v1 v2 v3 = (-12) from by unfold m_X6_pebblesBy; rw [if_pos p_4, if_pos p_15, if_pos p_26, if_neg c_32, if_pos c_36, if_neg c_38]).symm
                    exact W.iret (v := (-12)) hx hb hr (fun t ht hW => ⟨⟨(-12), (), rfl, hpost, by rw [ht]; exact hP9, va_K.moved hW.alike hK, hD9⟩, hS.F ht⟩) hS.2.2 dX6_pebblesBy_104
                  · skip
                    have hv_45 : v2 = nI (nC v2) := nC_eq (Int32.not_lt.mp c_44)
                    have hk_46 : nC v2 < 2 ^ 31 := nC_31 _
                    refine lv_iload hx hb dX6_pebblesBy_83 (lv_at hl 0 rfl) ?_
                    refine lv_iload_n hx hb dX6_pebblesBy_85 rfl (lv_at hl 6 rfl) ?_
                    refine g_topi (y := nI (nC v2)) hv_45 ?_
                    refine lv_icmp_lt (tgt := 102) hx hb dX6_pebblesBy_86 (by decide +kernel) (fun c_52 => ?_) (fun c_52 => ?_)
                    · skip
                      refine lv_bipush (v := -12) hx hb dX6_pebblesBy_102 (by decide +kernel) ?_
                      have hF64 : (g_X6_pebblesBy_64 pb fsq fce fkd fmo fst v0 v2 v3) = (k64, cm, y64kd, y64mo, y64st, pb6) := R64.symm.trans ((congrArg (fun z9 => p_X6_pebblesBy_64 fsq fce v0 v2 (z9) k64 cm y64kd y64mo y64st pb6) (show nC v3 - k64 = nC v3 - (k64 + 1) + 1 by omega)).trans (by show p_X6_pebblesBy_64 fsq fce v0 v2 (nC v3 - (k64 + 1) + 1) k64 cm y64kd y64mo y64st pb6 = _; rw [p_X6_pebblesBy_64, if_neg c_44, if_pos c_52]))
                      have hE64_0 : k64 = ((g_X6_pebblesBy_64 pb fsq fce fkd fmo fst v0 v2 v3).1) := by rw [hF64]
                      have hE64_1 : cm = ((g_X6_pebblesBy_64 pb fsq fce fkd fmo fst v0 v2 v3).2.1) := by rw [hF64]
                      have hE64_2 : y64kd = ((g_X6_pebblesBy_64 pb fsq fce fkd fmo fst v0 v2 v3).2.2.1) := by rw [hF64]
                      have hE64_3 : y64mo = ((g_X6_pebblesBy_64 pb fsq fce fkd fmo fst v0 v2 v3).2.2.2.1) := by rw [hF64]
                      have hE64_4 : y64st = ((g_X6_pebblesBy_64 pb fsq fce fkd fmo fst v0 v2 v3).2.2.2.2.1) := by rw [hF64]
                      have hE64_5 : pb6 = ((g_X6_pebblesBy_64 pb fsq fce fkd fmo fst v0 v2 v3).2.2.2.2.2) := by rw [hF64]
                      clear hF64 R64
                      subst hE64_0
                      subst hE64_1
                      subst hE64_2
                      subst hE64_3
                      subst hE64_4
                      subst hE64_5
                      have q_53 : m_X6_pebblesBy_h00 pb fss fsq fce fkd fmo fst v0 v1 v2 v3 = (g_X6_pebblesBy_64 pb fsq fce fkd fmo fst v0 v2 v3).2.2.2.2.2 := by unfold m_X6_pebblesBy_h00; rw [if_pos p_4, if_pos p_15, if_pos p_26, if_neg c_32, if_pos c_36]
                      have q_54 : m_X6_pebblesBy_kd pb fss fsq fce fkd fmo fst v0 v1 v2 v3 = ((g_X6_pebblesBy_64 pb fsq fce fkd fmo fst v0 v2 v3).2.2.1) := by unfold m_X6_pebblesBy_kd; rw [if_pos p_4, if_pos p_15, if_pos p_26, if_neg c_32, if_pos c_36]
                      have q_55 : m_X6_pebblesBy_mo pb fss fsq fce fkd fmo fst v0 v1 v2 v3 = ((g_X6_pebblesBy_64 pb fsq fce fkd fmo fst v0 v2 v3).2.2.2.1) := by unfold m_X6_pebblesBy_mo; rw [if_pos p_4, if_pos p_15, if_pos p_26, if_neg c_32, if_pos c_36]
                      have q_56 : m_X6_pebblesBy_st pb fss fsq fce fkd fmo fst v0 v1 v2 v3 = ((g_X6_pebblesBy_64 pb fsq fce fkd fmo fst v0 v2 v3).2.2.2.2.1) := by unfold m_X6_pebblesBy_st; rw [if_pos p_4, if_pos p_15, if_pos p_26, if_neg c_32, if_pos c_36]
                      have hz9 : gPD G A [zo6 h0 (nI (m_X6_pebblesBy_h00 pb fss fsq fce fkd fmo fst v0 v1 v2 v3)) kd mo st (nI jg) ro tp (nI td) cd sr (nI tx) (nI ru) him ir ih ss sq ce lw s19 s20 s21 s22 wo he s25 s26 s27 sk na kp s31 s32 s33 s34 gb go fa ga s39 s40 vo, zi G ss 4 fss, zi G sq 4 (nF fsq), zi G ce 160 fce, zi G kd 6 (m_X6_pebblesBy_kd pb fss fsq fce fkd fmo fst v0 v1 v2 v3), zi G mo 6 (m_X6_pebblesBy_mo pb fss fsq fce fkd fmo fst v0 v1 v2 v3), zi G st 12 (m_X6_pebblesBy_st pb fss fsq fce fkd fmo fst v0 v1 v2 v3)] H := ⟨by rw [q_53, q_54, q_55, q_56]; exact hP, by rw [q_53, q_54, q_55, q_56]; exact hD⟩
                      have hP9 := hz9.1
                      have hD9 := hz9.2
                      have hpost : (fun (r : Int32) (u : Unit) => match u with | _ => r = m_X6_pebblesBy pb fss fsq fce fkd fmo fst v0 v1 v2 v3) (-12) () := (show m_X6_pebblesBy pb fss fsq fce fkd fmo fst v0 v1 v2 v3 = (-12) from by unfold m_X6_pebblesBy; rw [if_pos p_4, if_pos p_15, if_pos p_26, if_neg c_32, if_pos c_36, if_neg c_38]).symm
                      exact W.iret (v := (-12)) hx hb hr (fun t ht hW => ⟨⟨(-12), (), rfl, hpost, by rw [ht]; exact hP9, va_K.moved hW.alike hK, hD9⟩, hS.F ht⟩) hS.2.2 dX6_pebblesBy_104
                    · skip
                      refine lv_iload hx hb dX6_pebblesBy_89 (lv_at hl 0 rfl) ?_
                      refine g_aget (D := G.1) (ci := 6) (v := .ref sq) (C := RX6) (T := TX6) (N := 42) hx hb dX6_pebblesBy_91 rfl (lv_at hl 3 rfl) hts hiX6 hown hK hP 0 rfl rfl 16 (by decide +kernel) kf40 (fun _ h9 => h9) rfl dX6_pebblesBy_92 ?_
                      refine lv_iload_n hx hb dX6_pebblesBy_95 rfl (lv_at hl 4 rfl) ?_
                      refine g_topi (y := nI (nC v0)) hv_6 ?_
                      refine va_iald (D := G.1) hx hb hK hP 2 0 rfl rfl (i := (nI (nC v0))) (vpn (by omega) rfl) dX6_pebblesBy_96 ?_
                      refine g_topi (y := nI (fsq (nC v0))) (nF_at (by omega)) ?_
                      refine lv_iconst (v := 2) hx hb dX6_pebblesBy_97 (by decide +kernel) ?_
                      refine lv_isub hx hb dX6_pebblesBy_98 ?_
                      refine lv_icmp_le (tgt := 105) hx hb dX6_pebblesBy_99 (by decide +kernel) (fun c_59 => ?_) (fun c_59 => ?_)
                      · skip
                        obtain ⟨hx1, hx2⟩ := pbIx (k := k64) (sz := fsq (nC v0)) hv_45 (nC_31 v2) (by omega) (by omega) c_52 c_59
                        rw [hx2] at hl
                        have hl : lv_has ls 9 [zI 7 (nI (nC v2 + 2 * k64)), zI 6 (nI k64), zI 5 cm, zR 0 h0, zI 1 v0, zI 2 v1, zI 3 v2, zI 4 v3] := hl
                        refine lv_bipush (v := 40) hx hb dX6_pebblesBy_105 (by decide +kernel) ?_
                        refine lv_iload_n hx hb dX6_pebblesBy_107 rfl (lv_at hl 4 rfl) ?_
                        refine g_topi (y := nI (nC v0)) hv_6 ?_
                        refine lv_imul hx hb dX6_pebblesBy_108 ?_
                        refine g_topi (y := nI (40 * (nC v0))) (pk_mul 40 (nC v0)) ?_
                        refine lv_iload hx hb dX6_pebblesBy_109 (lv_at hl 0 rfl) ?_
                        refine lv_iadd hx hb dX6_pebblesBy_111 ?_
                        refine g_topi (y := nI ((40 * (nC v0)) + (nC v2 + 2 * k64))) (nI_add (40 * (nC v0)) (nC v2 + 2 * k64)) ?_
                        refine lv_istore (lv' := [zI 8 (nI ((40 * (nC v0)) + (nC v2 + 2 * k64))), zI 7 (nI (nC v2 + 2 * k64)), zI 6 (nI k64), zI 5 cm, zR 0 h0, zI 1 v0, zI 2 v1, zI 3 v2, zI 4 v3]) hx hb dX6_pebblesBy_112 hl (by decide +kernel) rfl (fun ls hl => ?_)
                        refine lv_iload hx hb dX6_pebblesBy_114 (lv_at hl 3 rfl) ?_
                        refine lv_aload_n hx hb dX6_pebblesBy_116 rfl (lv_at hl 4 rfl) ?_
                        refine g_aget (D := G.1) (ci := 6) (v := .ref ce) (C := RX6) (T := TX6) (N := 42) hx hb dX6_pebblesBy_117 rfl (lv_at hl 4 rfl) hts hiX6 hown hK hP 0 rfl rfl 17 (by decide +kernel) kf43 (fun _ h9 => h9) rfl dX6_pebblesBy_118 ?_
                        refine lv_iload hx hb dX6_pebblesBy_121 (lv_at hl 0 rfl) ?_
                        refine g_iald (D := G.1) hx hb hK hP 3 0 rfl rfl (k := (40 * (nC v0)) + (nC v2 + 2 * k64)) (y := fce ((40 * (nC v0)) + (nC v2 + 2 * k64))) (by omega) rfl rfl dX6_pebblesBy_123 ?_
                        refine g_aget (D := G.1) (ci := 6) (v := .ref ce) (C := RX6) (T := TX6) (N := 42) hx hb dX6_pebblesBy_124 rfl (lv_at hl 4 rfl) hts hiX6 hown hK hP 0 rfl rfl 17 (by decide +kernel) kf43 (fun _ h9 => h9) rfl dX6_pebblesBy_125 ?_
                        refine lv_iload hx hb dX6_pebblesBy_128 (lv_at hl 0 rfl) ?_
                        refine lv_iconst (v := 1) hx hb dX6_pebblesBy_130 (by decide +kernel) ?_
                        refine lv_iadd hx hb dX6_pebblesBy_131 ?_
                        refine g_topi (y := nI (((40 * (nC v0)) + (nC v2 + 2 * k64)) + 1)) (nI_add ((40 * (nC v0)) + (nC v2 + 2 * k64)) 1) ?_
                        refine g_iald (D := G.1) hx hb hK hP 3 0 rfl rfl (k := ((40 * (nC v0)) + (nC v2 + 2 * k64)) + 1) (y := fce (((40 * (nC v0)) + (nC v2 + 2 * k64)) + 1)) (by omega) rfl rfl dX6_pebblesBy_132 ?_
                        refine z_calli [0, 4, 5, 6] (v := m_X6_pebble pb6 (fce ((40 * (nC v0)) + (nC v2 + 2 * k64))) (fce (((40 * (nC v0)) + (nC v2 + 2 * k64)) + 1))) (fun _ _ h => h) (va_runV (As := [.int (fce ((40 * (nC v0)) + (nC v2 + 2 * k64))), .int (fce (((40 * (nC v0)) + (nC v2 + 2 * k64)) + 1))]) (rest := [.int cm]) ⟨hx, hb, hml, hown, hts⟩ (c_X6_pebble l G h0 kd mo st ro tp cd sr ir ih ss sq ce lw wo he sk na kp gb go fa ga vo pb6 jg td tx ru him s19 s20 s21 s22 s25 s26 s27 s31 s32 s33 s34 s39 s40 y64kd y64mo y64st (fce ((40 * (nC v0)) + (nC v2 + 2 * k64))) (fce (((40 * (nC v0)) + (nC v2 + 2 * k64)) + 1)) H.size (by first | exact hpb | assumption | omega) (by first | exact hjg | assumption | omega) (by first | exact htx | assumption | omega) (by first | exact hru | assumption | omega)) (cwV 2 hts gX6_pebblesBy_X6_pebble rfl rfl rfl (by decide +kernel) ⟨Nat.le_of_ble_eq_true rfl, Nat.le_of_ble_eq_true rfl⟩) ⟨gPre_blind, va_recv (q := (RX6, TX6, 42)) hK hP (ci := 6) (q0 := 0) rfl rfl, fun U hU hW => gPre_ofF [0, 4, 5, 6] hU hW hK hP hD (by decide +kernel) rfl⟩ rfl rfl hl.1 rfl (lv_room (Nat.le_of_ble_eq_true rfl)) dX6_pebblesBy_133 ⟨Nat.le_of_ble_eq_true rfl, Nat.le_of_ble_eq_true rfl⟩) hS hD hA rfl (fun u t H locs ht hvm hB hz1 hk1 hFq hAq hS => ?_)
                        obtain ⟨hP1, hK1, hD1⟩ := hB
                        have hz9 : gPD G A [zo6 h0 (nI (m_X6_pebble_h00 pb6 (fce ((40 * (nC v0)) + (nC v2 + 2 * k64))) (fce (((40 * (nC v0)) + (nC v2 + 2 * k64)) + 1)))) kd mo st (nI jg) ro tp (nI td) cd sr (nI tx) (nI ru) him ir ih ss sq ce lw s19 s20 s21 s22 wo he s25 s26 s27 sk na kp s31 s32 s33 s34 gb go fa ga s39 s40 vo, zi G ss 4 fss, zi G sq 4 (nF fsq), zi G ce 160 fce, zi G kd 6 (m_X6_pebble_kd pb6 y64kd (fce ((40 * (nC v0)) + (nC v2 + 2 * k64))) (fce (((40 * (nC v0)) + (nC v2 + 2 * k64)) + 1))), zi G mo 6 (m_X6_pebble_mo pb6 y64mo (fce ((40 * (nC v0)) + (nC v2 + 2 * k64))) (fce (((40 * (nC v0)) + (nC v2 + 2 * k64)) + 1))), zi G st 12 (m_X6_pebble_st pb6 y64st (fce ((40 * (nC v0)) + (nC v2 + 2 * k64))) (fce (((40 * (nC v0)) + (nC v2 + 2 * k64)) + 1)))] H := zFill hP hD [0, 4, 5, 6] [1, 0, 0, 0, 2, 3, 4] hAq hk1 hFq ht hP1 hD1 rfl (by decide +kernel)
                        have hP := hz9.1
                        have hD := hz9.2
                        refine lv_if_lt (tgt := 143) hx hb dX6_pebblesBy_136 (by decide +kernel) (fun c_68 => ?_) (fun c_68 => ?_)
                        · skip
                          refine lv_iconst (v := 0) hx hb dX6_pebblesBy_143 (by decide +kernel) ?_
                          refine lv_iadd hx hb dX6_pebblesBy_144 ?_
                          refine lv_istore (lv' := [zI 5 (cm + 0), zI 8 (nI ((40 * (nC v0)) + (nC v2 + 2 * k64))), zI 7 (nI (nC v2 + 2 * k64)), zI 6 (nI k64), zR 0 h0, zI 1 v0, zI 2 v1, zI 3 v2, zI 4 v3]) hx hb dX6_pebblesBy_145 hl (by decide +kernel) rfl (fun ls hl => ?_)
                          refine lv_iinc (v := nI (k64 + 1)) (lv' := [zI 6 (nI (k64 + 1)), zI 5 (cm + 0), zI 8 (nI ((40 * (nC v0)) + (nC v2 + 2 * k64))), zI 7 (nI (nC v2 + 2 * k64)), zR 0 h0, zI 1 v0, zI 2 v1, zI 3 v2, zI 4 v3]) hx hb dX6_pebblesBy_147 hl (k := 3) rfl (nI_add k64 1) (by decide +kernel) rfl (fun ls hl => ?_)
                          refine lv_goto (tgt := 64) hx hb dX6_pebblesBy_150 (by decide +kernel) ?_
                          exact ih9_64 (k64 + 1) (cm + 0) (m_X6_pebble_kd pb6 y64kd (fce ((40 * (nC v0)) + (nC v2 + 2 * k64))) (fce (((40 * (nC v0)) + (nC v2 + 2 * k64)) + 1))) (m_X6_pebble_mo pb6 y64mo (fce ((40 * (nC v0)) + (nC v2 + 2 * k64))) (fce (((40 * (nC v0)) + (nC v2 + 2 * k64)) + 1))) (m_X6_pebble_st pb6 y64st (fce ((40 * (nC v0)) + (nC v2 + 2 * k64))) (fce (((40 * (nC v0)) + (nC v2 + 2 * k64)) + 1))) (m_X6_pebble_h00 pb6 (fce ((40 * (nC v0)) + (nC v2 + 2 * k64))) (fce (((40 * (nC v0)) + (nC v2 + 2 * k64)) + 1))) (by omega) (Eq.trans (Eq.symm ((congrArg (fun z9 => p_X6_pebblesBy_64 fsq fce v0 v2 (z9) k64 cm y64kd y64mo y64st pb6) (show nC v3 - k64 = nC v3 - (k64 + 1) + 1 by omega)).trans (by show p_X6_pebblesBy_64 fsq fce v0 v2 (nC v3 - (k64 + 1) + 1) k64 cm y64kd y64mo y64st pb6 = _; rw [p_X6_pebblesBy_64, if_neg c_44, if_neg c_52, if_pos c_59, if_pos c_68]))) R64) (X6_pebble_le hpb6) (by omega) _ _ hP hD hS ls (lv_sub hl [0, 1, 4, 5, 6, 7, 8] rfl)
                        · skip
                          refine lv_iconst (v := 1) hx hb dX6_pebblesBy_139 (by decide +kernel) ?_
                          refine lv_goto (tgt := 144) hx hb dX6_pebblesBy_140 (by decide +kernel) ?_
                          refine lv_iadd hx hb dX6_pebblesBy_144 ?_
                          refine lv_istore (lv' := [zI 5 (cm + 1), zI 8 (nI ((40 * (nC v0)) + (nC v2 + 2 * k64))), zI 7 (nI (nC v2 + 2 * k64)), zI 6 (nI k64), zR 0 h0, zI 1 v0, zI 2 v1, zI 3 v2, zI 4 v3]) hx hb dX6_pebblesBy_145 hl (by decide +kernel) rfl (fun ls hl => ?_)
                          refine lv_iinc (v := nI (k64 + 1)) (lv' := [zI 6 (nI (k64 + 1)), zI 5 (cm + 1), zI 8 (nI ((40 * (nC v0)) + (nC v2 + 2 * k64))), zI 7 (nI (nC v2 + 2 * k64)), zR 0 h0, zI 1 v0, zI 2 v1, zI 3 v2, zI 4 v3]) hx hb dX6_pebblesBy_147 hl (k := 3) rfl (nI_add k64 1) (by decide +kernel) rfl (fun ls hl => ?_)
                          refine lv_goto (tgt := 64) hx hb dX6_pebblesBy_150 (by decide +kernel) ?_
                          exact ih9_64 (k64 + 1) (cm + 1) (m_X6_pebble_kd pb6 y64kd (fce ((40 * (nC v0)) + (nC v2 + 2 * k64))) (fce (((40 * (nC v0)) + (nC v2 + 2 * k64)) + 1))) (m_X6_pebble_mo pb6 y64mo (fce ((40 * (nC v0)) + (nC v2 + 2 * k64))) (fce (((40 * (nC v0)) + (nC v2 + 2 * k64)) + 1))) (m_X6_pebble_st pb6 y64st (fce ((40 * (nC v0)) + (nC v2 + 2 * k64))) (fce (((40 * (nC v0)) + (nC v2 + 2 * k64)) + 1))) (m_X6_pebble_h00 pb6 (fce ((40 * (nC v0)) + (nC v2 + 2 * k64))) (fce (((40 * (nC v0)) + (nC v2 + 2 * k64)) + 1))) (by omega) (Eq.trans (Eq.symm ((congrArg (fun z9 => p_X6_pebblesBy_64 fsq fce v0 v2 (z9) k64 cm y64kd y64mo y64st pb6) (show nC v3 - k64 = nC v3 - (k64 + 1) + 1 by omega)).trans (by show p_X6_pebblesBy_64 fsq fce v0 v2 (nC v3 - (k64 + 1) + 1) k64 cm y64kd y64mo y64st pb6 = _; rw [p_X6_pebblesBy_64, if_neg c_44, if_neg c_52, if_pos c_59, if_neg c_68]))) R64) (X6_pebble_le hpb6) (by omega) _ _ hP hD hS ls (lv_sub hl [0, 1, 4, 5, 6, 7, 8] rfl)
                      · skip
                        refine lv_bipush (v := -12) hx hb dX6_pebblesBy_102 (by decide +kernel) ?_
                        have hF64 : (g_X6_pebblesBy_64 pb fsq fce fkd fmo fst v0 v2 v3) = (k64, cm, y64kd, y64mo, y64st, pb6) := R64.symm.trans ((congrArg (fun z9 => p_X6_pebblesBy_64 fsq fce v0 v2 (z9) k64 cm y64kd y64mo y64st pb6) (show nC v3 - k64 = nC v3 - (k64 + 1) + 1 by omega)).trans (by show p_X6_pebblesBy_64 fsq fce v0 v2 (nC v3 - (k64 + 1) + 1) k64 cm y64kd y64mo y64st pb6 = _; rw [p_X6_pebblesBy_64, if_neg c_44, if_neg c_52, if_neg c_59]))
                        have hE64_0 : k64 = ((g_X6_pebblesBy_64 pb fsq fce fkd fmo fst v0 v2 v3).1) := by rw [hF64]
                        have hE64_1 : cm = ((g_X6_pebblesBy_64 pb fsq fce fkd fmo fst v0 v2 v3).2.1) := by rw [hF64]
                        have hE64_2 : y64kd = ((g_X6_pebblesBy_64 pb fsq fce fkd fmo fst v0 v2 v3).2.2.1) := by rw [hF64]
                        have hE64_3 : y64mo = ((g_X6_pebblesBy_64 pb fsq fce fkd fmo fst v0 v2 v3).2.2.2.1) := by rw [hF64]
                        have hE64_4 : y64st = ((g_X6_pebblesBy_64 pb fsq fce fkd fmo fst v0 v2 v3).2.2.2.2.1) := by rw [hF64]
                        have hE64_5 : pb6 = ((g_X6_pebblesBy_64 pb fsq fce fkd fmo fst v0 v2 v3).2.2.2.2.2) := by rw [hF64]
                        clear hF64 R64
                        subst hE64_0
                        subst hE64_1
                        subst hE64_2
                        subst hE64_3
                        subst hE64_4
                        subst hE64_5
                        have q_69 : m_X6_pebblesBy_h00 pb fss fsq fce fkd fmo fst v0 v1 v2 v3 = (g_X6_pebblesBy_64 pb fsq fce fkd fmo fst v0 v2 v3).2.2.2.2.2 := by unfold m_X6_pebblesBy_h00; rw [if_pos p_4, if_pos p_15, if_pos p_26, if_neg c_32, if_pos c_36]
                        have q_70 : m_X6_pebblesBy_kd pb fss fsq fce fkd fmo fst v0 v1 v2 v3 = ((g_X6_pebblesBy_64 pb fsq fce fkd fmo fst v0 v2 v3).2.2.1) := by unfold m_X6_pebblesBy_kd; rw [if_pos p_4, if_pos p_15, if_pos p_26, if_neg c_32, if_pos c_36]
                        have q_71 : m_X6_pebblesBy_mo pb fss fsq fce fkd fmo fst v0 v1 v2 v3 = ((g_X6_pebblesBy_64 pb fsq fce fkd fmo fst v0 v2 v3).2.2.2.1) := by unfold m_X6_pebblesBy_mo; rw [if_pos p_4, if_pos p_15, if_pos p_26, if_neg c_32, if_pos c_36]
                        have q_72 : m_X6_pebblesBy_st pb fss fsq fce fkd fmo fst v0 v1 v2 v3 = ((g_X6_pebblesBy_64 pb fsq fce fkd fmo fst v0 v2 v3).2.2.2.2.1) := by unfold m_X6_pebblesBy_st; rw [if_pos p_4, if_pos p_15, if_pos p_26, if_neg c_32, if_pos c_36]
                        have hz9 : gPD G A [zo6 h0 (nI (m_X6_pebblesBy_h00 pb fss fsq fce fkd fmo fst v0 v1 v2 v3)) kd mo st (nI jg) ro tp (nI td) cd sr (nI tx) (nI ru) him ir ih ss sq ce lw s19 s20 s21 s22 wo he s25 s26 s27 sk na kp s31 s32 s33 s34 gb go fa ga s39 s40 vo, zi G ss 4 fss, zi G sq 4 (nF fsq), zi G ce 160 fce, zi G kd 6 (m_X6_pebblesBy_kd pb fss fsq fce fkd fmo fst v0 v1 v2 v3), zi G mo 6 (m_X6_pebblesBy_mo pb fss fsq fce fkd fmo fst v0 v1 v2 v3), zi G st 12 (m_X6_pebblesBy_st pb fss fsq fce fkd fmo fst v0 v1 v2 v3)] H := ⟨by rw [q_69, q_70, q_71, q_72]; exact hP, by rw [q_69, q_70, q_71, q_72]; exact hD⟩
                        have hP9 := hz9.1
                        have hD9 := hz9.2
                        have hpost : (fun (r : Int32) (u : Unit) => match u with | _ => r = m_X6_pebblesBy pb fss fsq fce fkd fmo fst v0 v1 v2 v3) (-12) () := (show m_X6_pebblesBy pb fss fsq fce fkd fmo fst v0 v1 v2 v3 = (-12) from by unfold m_X6_pebblesBy; rw [if_pos p_4, if_pos p_15, if_pos p_26, if_neg c_32, if_pos c_36, if_neg c_38]).symm
                        exact W.iret (v := (-12)) hx hb hr (fun t ht hW => ⟨⟨(-12), (), rfl, hpost, by rw [ht]; exact hP9, va_K.moved hW.alike hK, hD9⟩, hS.F ht⟩) hS.2.2 dX6_pebblesBy_104
            exact loop_64 (nC v3 - 0 + 1) 0 0 fkd fmo fst pb (by omega) (rfl) (hpb) (by omega) _ _ hP hD hS ls hl
          · skip
            refine lv_bipush (v := -13) hx hb dX6_pebblesBy_55 (by decide +kernel) ?_
            have q_73 : m_X6_pebblesBy_h00 pb fss fsq fce fkd fmo fst v0 v1 v2 v3 = pb := by unfold m_X6_pebblesBy_h00; rw [if_pos p_4, if_pos p_15, if_pos p_26, if_neg c_32, if_neg c_36]
            have q_74 : m_X6_pebblesBy_kd pb fss fsq fce fkd fmo fst v0 v1 v2 v3 = fkd := by unfold m_X6_pebblesBy_kd; rw [if_pos p_4, if_pos p_15, if_pos p_26, if_neg c_32, if_neg c_36]
            have q_75 : m_X6_pebblesBy_mo pb fss fsq fce fkd fmo fst v0 v1 v2 v3 = fmo := by unfold m_X6_pebblesBy_mo; rw [if_pos p_4, if_pos p_15, if_pos p_26, if_neg c_32, if_neg c_36]
            have q_76 : m_X6_pebblesBy_st pb fss fsq fce fkd fmo fst v0 v1 v2 v3 = fst := by unfold m_X6_pebblesBy_st; rw [if_pos p_4, if_pos p_15, if_pos p_26, if_neg c_32, if_neg c_36]
            have hz9 : gPD G A [zo6 h0 (nI (m_X6_pebblesBy_h00 pb fss fsq fce fkd fmo fst v0 v1 v2 v3)) kd mo st (nI jg) ro tp (nI td) cd sr (nI tx) (nI ru) him ir ih ss sq ce lw s19 s20 s21 s22 wo he s25 s26 s27 sk na kp s31 s32 s33 s34 gb go fa ga s39 s40 vo, zi G ss 4 fss, zi G sq 4 (nF fsq), zi G ce 160 fce, zi G kd 6 (m_X6_pebblesBy_kd pb fss fsq fce fkd fmo fst v0 v1 v2 v3), zi G mo 6 (m_X6_pebblesBy_mo pb fss fsq fce fkd fmo fst v0 v1 v2 v3), zi G st 12 (m_X6_pebblesBy_st pb fss fsq fce fkd fmo fst v0 v1 v2 v3)] H := ⟨by rw [q_73, q_74, q_75, q_76]; exact hP, by rw [q_73, q_74, q_75, q_76]; exact hD⟩
            have hP9 := hz9.1
            have hD9 := hz9.2
            have hpost : (fun (r : Int32) (u : Unit) => match u with | _ => r = m_X6_pebblesBy pb fss fsq fce fkd fmo fst v0 v1 v2 v3) (-13) () := (show m_X6_pebblesBy pb fss fsq fce fkd fmo fst v0 v1 v2 v3 = (-13) from by unfold m_X6_pebblesBy; rw [if_pos p_4, if_pos p_15, if_pos p_26, if_neg c_32, if_neg c_36]).symm
            exact W.iret (v := (-13)) hx hb hr (fun t ht hW => ⟨⟨(-13), (), rfl, hpost, by rw [ht]; exact hP9, va_K.moved hW.alike hK, hD9⟩, hS.F ht⟩) hS.2.2 dX6_pebblesBy_57
        · skip
          refine lv_bipush (v := -11) hx hb dX6_pebblesBy_42 (by decide +kernel) ?_
          have q_77 : m_X6_pebblesBy_h00 pb fss fsq fce fkd fmo fst v0 v1 v2 v3 = pb := by unfold m_X6_pebblesBy_h00; rw [if_pos p_4, if_pos p_15, if_pos p_26, if_pos c_32]
          have q_78 : m_X6_pebblesBy_kd pb fss fsq fce fkd fmo fst v0 v1 v2 v3 = fkd := by unfold m_X6_pebblesBy_kd; rw [if_pos p_4, if_pos p_15, if_pos p_26, if_pos c_32]
          have q_79 : m_X6_pebblesBy_mo pb fss fsq fce fkd fmo fst v0 v1 v2 v3 = fmo := by unfold m_X6_pebblesBy_mo; rw [if_pos p_4, if_pos p_15, if_pos p_26, if_pos c_32]
          have q_80 : m_X6_pebblesBy_st pb fss fsq fce fkd fmo fst v0 v1 v2 v3 = fst := by unfold m_X6_pebblesBy_st; rw [if_pos p_4, if_pos p_15, if_pos p_26, if_pos c_32]
          have hz9 : gPD G A [zo6 h0 (nI (m_X6_pebblesBy_h00 pb fss fsq fce fkd fmo fst v0 v1 v2 v3)) kd mo st (nI jg) ro tp (nI td) cd sr (nI tx) (nI ru) him ir ih ss sq ce lw s19 s20 s21 s22 wo he s25 s26 s27 sk na kp s31 s32 s33 s34 gb go fa ga s39 s40 vo, zi G ss 4 fss, zi G sq 4 (nF fsq), zi G ce 160 fce, zi G kd 6 (m_X6_pebblesBy_kd pb fss fsq fce fkd fmo fst v0 v1 v2 v3), zi G mo 6 (m_X6_pebblesBy_mo pb fss fsq fce fkd fmo fst v0 v1 v2 v3), zi G st 12 (m_X6_pebblesBy_st pb fss fsq fce fkd fmo fst v0 v1 v2 v3)] H := ⟨by rw [q_77, q_78, q_79, q_80]; exact hP, by rw [q_77, q_78, q_79, q_80]; exact hD⟩
          have hP9 := hz9.1
          have hD9 := hz9.2
          have hpost : (fun (r : Int32) (u : Unit) => match u with | _ => r = m_X6_pebblesBy pb fss fsq fce fkd fmo fst v0 v1 v2 v3) (-11) () := (show m_X6_pebblesBy pb fss fsq fce fkd fmo fst v0 v1 v2 v3 = (-11) from by unfold m_X6_pebblesBy; rw [if_pos p_4, if_pos p_15, if_pos p_26, if_pos c_32]).symm
          exact W.iret (v := (-11)) hx hb hr (fun t ht hW => ⟨⟨(-11), (), rfl, hpost, by rw [ht]; exact hP9, va_K.moved hW.alike hK, hD9⟩, hS.F ht⟩) hS.2.2 dX6_pebblesBy_44
      · skip
        have n_27 : ¬ (0 ≤ v3 ∧ v3 ≤ 6) := of_decide_eq_false (bz_eq rfl c_25)
        refine lv_bipush (v := -2) hx hb dX6_pebblesBy_29 (by decide +kernel) ?_
        have q_81 : m_X6_pebblesBy_h00 pb fss fsq fce fkd fmo fst v0 v1 v2 v3 = pb := by unfold m_X6_pebblesBy_h00; rw [if_pos p_4, if_pos p_15, if_neg n_27]
        have q_82 : m_X6_pebblesBy_kd pb fss fsq fce fkd fmo fst v0 v1 v2 v3 = fkd := by unfold m_X6_pebblesBy_kd; rw [if_pos p_4, if_pos p_15, if_neg n_27]
        have q_83 : m_X6_pebblesBy_mo pb fss fsq fce fkd fmo fst v0 v1 v2 v3 = fmo := by unfold m_X6_pebblesBy_mo; rw [if_pos p_4, if_pos p_15, if_neg n_27]
        have q_84 : m_X6_pebblesBy_st pb fss fsq fce fkd fmo fst v0 v1 v2 v3 = fst := by unfold m_X6_pebblesBy_st; rw [if_pos p_4, if_pos p_15, if_neg n_27]
        have hz9 : gPD G A [zo6 h0 (nI (m_X6_pebblesBy_h00 pb fss fsq fce fkd fmo fst v0 v1 v2 v3)) kd mo st (nI jg) ro tp (nI td) cd sr (nI tx) (nI ru) him ir ih ss sq ce lw s19 s20 s21 s22 wo he s25 s26 s27 sk na kp s31 s32 s33 s34 gb go fa ga s39 s40 vo, zi G ss 4 fss, zi G sq 4 (nF fsq), zi G ce 160 fce, zi G kd 6 (m_X6_pebblesBy_kd pb fss fsq fce fkd fmo fst v0 v1 v2 v3), zi G mo 6 (m_X6_pebblesBy_mo pb fss fsq fce fkd fmo fst v0 v1 v2 v3), zi G st 12 (m_X6_pebblesBy_st pb fss fsq fce fkd fmo fst v0 v1 v2 v3)] H := ⟨by rw [q_81, q_82, q_83, q_84]; exact hP, by rw [q_81, q_82, q_83, q_84]; exact hD⟩
        have hP9 := hz9.1
        have hD9 := hz9.2
        have hpost : (fun (r : Int32) (u : Unit) => match u with | _ => r = m_X6_pebblesBy pb fss fsq fce fkd fmo fst v0 v1 v2 v3) (-2) () := (show m_X6_pebblesBy pb fss fsq fce fkd fmo fst v0 v1 v2 v3 = (-2) from by unfold m_X6_pebblesBy; rw [if_pos p_4, if_pos p_15, if_neg n_27]).symm
        exact W.iret (v := (-2)) hx hb hr (fun t ht hW => ⟨⟨(-2), (), rfl, hpost, by rw [ht]; exact hP9, va_K.moved hW.alike hK, hD9⟩, hS.F ht⟩) hS.2.2 dX6_pebblesBy_31
abbrev q_X6_lowest (G : gG) (v2 : Int32) (sa : Nat) (sb : Nat) (A : Nat → Prop) : Array Value → State → Outcome → State → Prop := va_Ql (fun (r : Int64) (u : Unit) => match u with | _ => r = mLow sa sb v2) (fun (u : Unit) t => match u with | _ => va_P G.1 vwCl [] t.heap ∧ gK G t ∧ va_D A []) A
set_option maxHeartbeats 4000000 in
set_option maxRecDepth 100000 in
theorem c_X6_lowest (l : Launch) (G : gG) (v2 : Int32) (sa : Nat) (sb : Nat) (sz : Nat) (hsa : sa ≤ 40) (hsb : 1 ≤ sb ∧ sb ≤ 40) : Met l yX6_lowest wsX6_lowest ({ frames := 0, cells := 0, slots := 0, locals := 0 }) (gPre G [.long (lN sa), .long (lN sb), .int v2] [] sz) (q_X6_lowest G v2 sa sb (va_A [] sz)) 0 0 (va_A [] sz) := by
  refine Met.ofW (cc := cX6_lowest) (maxL := 11) (ret := (some .long)) (by decide +kernel) rfl ?_
  intro p e s m args below meth c s₁ B hml hv
  obtain ⟨rfl, hsz, hP, hK, hD0⟩ := hv
  have hx := B.exec
  have hb := B.bytes
  have hr := B.returns
  have hts := atoms_spec (ws := wsX6_lowest) B.pre
  have hown : s.vm.findClass RX6 = some m.cls := findClass_of_methodNamed B.named
  have hlocks := B.notSynchronized
  subst hsz
  have hD := hD0.self (sz := s.heap.size)
  generalize hAe : va_A [] s.heap.size = A at hD ⊢
  have hA : ∀ q : Nat, s.heap.size ≤ q → A q := fun q h => by rw [← hAe]; exact Or.inr h
  have hS : va_S A s.heap s.heap [] := va_S.rf
  have hz9 : gPD G A [] s.heap := ⟨hP, hD⟩
  have hP := hz9.1
  have hD := hz9.2
  have hl := lv_entry ([.long (lN sa), .long (lN sb), .int v2]) (n := 11) (Nat.le_of_ble_eq_true rfl)
  rw [lg_entry_eq]
  generalize (lg_sl ([.long (lN sa), .long (lN sb), .int v2]) ++ List.replicate (11 - (lg_sl ([.long (lN sa), .long (lN sb), .int v2])).length) Slot.unset).toArray = ls at hl ⊢
  have hl : lv_has ls 11 [zL 0 (lN sa), zL 2 (lN sb), zI 4 v2] := hl
  refine lv_lload_n hx hb dX6_lowest_0 rfl (lv_at hl 0 rfl) ?_
  refine lv_lconst (v := 0) hx hb dX6_lowest_1 (by decide +kernel) ?_
  refine W.lcmp hx hb dX6_lowest_2 ?_
  refine lv_if_ne (tgt := 10) hx hb dX6_lowest_3 (by decide +kernel) (fun c_1 => ?_) (fun c_1 => ?_)
  · skip
    have hs0 : ¬ sa = 0 := lgc_ne (by omega) c_1
    refine lv_lload_n hx hb dX6_lowest_10 rfl (lv_at hl 0 rfl) ?_
    refine lv_lstore (lv' := [zL 5 (lN sa), zL 0 (lN sa), zL 2 (lN sb), zI 4 v2]) hx hb dX6_lowest_11 hl (by decide +kernel) rfl (fun ls hl => ?_)
    refine lv_lload_n hx hb dX6_lowest_13 rfl (lv_at hl 2 rfl) ?_
    refine lv_lstore (lv' := [zL 7 (lN sb), zL 5 (lN sa), zL 0 (lN sa), zL 2 (lN sb), zI 4 v2]) hx hb dX6_lowest_14 hl (by decide +kernel) rfl (fun ls hl => ?_)
    have loop_16 : ∀ (n9 : Nat) (a9 : Nat) (b9 : Nat), (0 < a9 ∧ a9 ≤ 40) → (b9 ≤ 40) → (Nat.gcd a9 b9 = Nat.gcd sa sb) → b9 < n9 → ∀ (H : Heap) (locs : List Loc), va_P G.1 vwCl [] H → va_D A [] → va_S A s.heap H locs → ∀ ls : Array Slot, lv_has ls 11 [zL 5 (lN a9), zL 7 (lN b9), zL 0 (lN sa), zL 2 (lN sb), zI 4 v2] → W p l e (headSpec wsX6_lowest ({ frames := 0, cells := 0, slots := 0, locals := 0 })).room s m ([.long (lN sa), .long (lN sb), .int v2] : List Value).toArray below meth c H locs 0 0 (MQ below (q_X6_lowest G v2 sa sb A) ([.long (lN sa), .long (lN sb), .int v2] : List Value).toArray s 0 0 A) (F0 m 16 ls []) := by
      intro n9
      induction n9 with
      | zero => intro a9 b9 ha9 hb9 hg9 hm9; exact absurd hm9 (Nat.not_lt_zero _)
      | succ n9 ih9 =>
        intro a9 b9 ha9 hb9 hg9 hm9 H locs hP hD hS ls hl
        refine lv_lload hx hb dX6_lowest_16 (lv_at hl 1 rfl) ?_
        refine lv_lconst (v := 0) hx hb dX6_lowest_18 (by decide +kernel) ?_
        refine W.lcmp hx hb dX6_lowest_19 ?_
        refine lv_if_eq (tgt := 41) hx hb dX6_lowest_20 (by decide +kernel) (fun c_2 => ?_) (fun c_2 => ?_)
        · skip
          have hb0 : b9 = 0 := lgc_eq (by omega) c_2
          refine lv_iload hx hb dX6_lowest_41 (lv_at hl 4 rfl) ?_
          refine lv_if_ne (tgt := 50) hx hb dX6_lowest_43 (by decide +kernel) (fun c_3 => ?_) (fun c_3 => ?_)
          · skip
            refine lv_lload_n hx hb dX6_lowest_50 rfl (lv_at hl 3 rfl) ?_
            refine lv_lload hx hb dX6_lowest_51 (lv_at hl 0 rfl) ?_
            refine lv_ldiv hx hb dX6_lowest_53 (lN_ne0 (by omega) (by omega)) ?_
            have hpost : (fun (r : Int64) (u : Unit) => match u with | _ => r = mLow sa sb v2) ((lN sb) / (lN a9)) () := by show (lN sb) / (lN a9) = mLow sa sb v2; unfold mLow; rw [if_neg hs0, if_neg c_3, ← hg9, hb0, Nat.gcd_zero_right]
            exact W.lret (v := ((lN sb) / (lN a9))) hx hb hr (fun t ht hW => ⟨⟨((lN sb) / (lN a9)), (), rfl, hpost, by rw [ht]; exact hP, va_K.moved hW.alike hK, hD⟩, hS.F ht⟩) hS.2.2 dX6_lowest_54
          · skip
            refine lv_lload_n hx hb dX6_lowest_46 rfl (lv_at hl 2 rfl) ?_
            refine lv_goto (tgt := 51) hx hb dX6_lowest_47 (by decide +kernel) ?_
            refine lv_lload hx hb dX6_lowest_51 (lv_at hl 0 rfl) ?_
            refine lv_ldiv hx hb dX6_lowest_53 (lN_ne0 (by omega) (by omega)) ?_
            have hpost : (fun (r : Int64) (u : Unit) => match u with | _ => r = mLow sa sb v2) ((lN sa) / (lN a9)) () := by show (lN sa) / (lN a9) = mLow sa sb v2; unfold mLow; rw [if_neg hs0, if_pos c_3, ← hg9, hb0, Nat.gcd_zero_right]
            exact W.lret (v := ((lN sa) / (lN a9))) hx hb hr (fun t ht hW => ⟨⟨((lN sa) / (lN a9)), (), rfl, hpost, by rw [ht]; exact hP, va_K.moved hW.alike hK, hD⟩, hS.F ht⟩) hS.2.2 dX6_lowest_54
        · skip
          have hb0 : ¬ b9 = 0 := lgc_ne (by omega) c_2
          have hmd : a9 % b9 < b9 := Nat.mod_lt _ (by omega)
          refine lv_lload hx hb dX6_lowest_23 (lv_at hl 0 rfl) ?_
          refine lv_lload hx hb dX6_lowest_25 (lv_at hl 1 rfl) ?_
          refine lv_lrem hx hb dX6_lowest_27 (lN_ne0 (by omega) (by omega)) ?_
          rw [lN_rem (by omega) (by omega) (by omega)]
          refine lv_lstore (lv' := [zL 9 (lN (a9 % b9)), zL 5 (lN a9), zL 7 (lN b9), zL 0 (lN sa), zL 2 (lN sb), zI 4 v2]) hx hb dX6_lowest_28 hl (by decide +kernel) rfl (fun ls hl => ?_)
          refine lv_lload hx hb dX6_lowest_30 (lv_at hl 2 rfl) ?_
          refine lv_lstore (lv' := [zL 5 (lN b9), zL 9 (lN (a9 % b9)), zL 7 (lN b9), zL 0 (lN sa), zL 2 (lN sb), zI 4 v2]) hx hb dX6_lowest_32 hl (by decide +kernel) rfl (fun ls hl => ?_)
          refine lv_lload hx hb dX6_lowest_34 (lv_at hl 1 rfl) ?_
          refine lv_lstore (lv' := [zL 7 (lN (a9 % b9)), zL 5 (lN b9), zL 9 (lN (a9 % b9)), zL 0 (lN sa), zL 2 (lN sb), zI 4 v2]) hx hb dX6_lowest_36 hl (by decide +kernel) rfl (fun ls hl => ?_)
          refine lv_goto (tgt := 16) hx hb dX6_lowest_38 (by decide +kernel) ?_
          exact ih9 b9 (a9 % b9) (⟨by omega, hb9⟩) (by omega) (by rw [← hg9, gcd_step]) (by omega) _ _ hP hD hS ls (lv_sub hl [1, 0, 3, 4, 5] rfl)
    exact loop_16 (sb + 1) sa sb (⟨by omega, hsa⟩) (hsb.2) (rfl) (by omega) _ _ hP hD hS ls (lv_sub hl [1, 0, 2, 3, 4] rfl)
  · skip
    have hs0 : sa = 0 := lgc_eq (by omega) c_1
    refine lv_iload hx hb dX6_lowest_6 (lv_at hl 2 rfl) ?_
    refine lv_i2l (v := v2.toInt64) hx hb dX6_lowest_8 rfl ?_
    have hpost : (fun (r : Int64) (u : Unit) => match u with | _ => r = mLow sa sb v2) v2.toInt64 () := by show v2.toInt64 = mLow sa sb v2; unfold mLow; rw [if_pos hs0]
    exact W.lret (v := v2.toInt64) hx hb hr (fun t ht hW => ⟨⟨v2.toInt64, (), rfl, hpost, by rw [ht]; exact hP, va_K.moved hW.alike hK, hD⟩, hS.F ht⟩) hS.2.2 dX6_lowest_9
noncomputable def p_X6_odds_77 (ru : Nat) (fst : Nat → Int32) (fro : Nat → Int32) (fmo : Nat → Int32) (fkd : Nat → Int32) (fcd : Nat → Int32) (fsr : Nat → Nat) (v0 : Int32) (v2 : Int32) (v3 : Int32) (v4 : Int32) : Nat → Nat → Nat → Nat × Nat
  | 0, k77, so => (k77, so)
  | q9 + 1, k77, so => if (m_X6_caseBy_h034 ru fst fro fmo fkd fcd fsr (nI ((nC v0) + k77)) (nC v2) (nC v3) (nC v4)) = 0 then p_X6_odds_77 ru fst fro fmo fkd fcd fsr v0 v2 v3 v4 q9 (k77 + 1) so else p_X6_odds_77 ru fst fro fmo fkd fcd fsr v0 v2 v3 v4 q9 (k77 + 1) (so + 1)
noncomputable def g_X6_odds_77 (ru : Nat) (fst : Nat → Int32) (fro : Nat → Int32) (fmo : Nat → Int32) (fkd : Nat → Int32) (fcd : Nat → Int32) (fsr : Nat → Nat) (v0 : Int32) (v1 : Int32) (v2 : Int32) (v3 : Int32) (v4 : Int32) : Nat × Nat := p_X6_odds_77 ru fst fro fmo fkd fcd fsr v0 v2 v3 v4 (nC v1 - 0) 0 0
noncomputable def m_X6_odds (pb : Nat) (jg : Nat) (ru : Nat) (fst : Nat → Int32) (fro : Nat → Int32) (fmo : Nat → Int32) (fkd : Nat → Int32) (fcd : Nat → Int32) (fsr : Nat → Nat) (v0 : Int32) (v1 : Int32) (v2 : Int32) (v3 : Int32) (v4 : Int32) (v5 : Int32) : Int64 := if 0 ≤ v0 ∧ v0 ≤ 99999 then (if 1 ≤ v1 ∧ v1 ≤ 40 then (if (mHas jg v2) = true then (if (mHas pb v3) = true then (if (mMil v4) = true then (if 0 ≤ v5 ∧ v5 ≤ 1 then mLow ((g_X6_odds_77 ru fst fro fmo fkd fcd fsr v0 v1 v2 v3 v4).2) (nC v1) (nI (nC v5)) else -4611686018427387904) else -4611686018427387904) else -4611686018427387904) else -4611686018427387904) else -4611686018427387904) else -4611686018427387904
abbrev q_X6_odds (G : gG) (h0 kd mo st ro tp cd sr ir ih ss sq ce lw wo he sk na kp gb go fa ga vo : Nat) (pb : Nat) (jg : Nat) (td : Nat) (tx : Nat) (ru : Nat) (him : Int32) (s19 : Int32) (s20 : Int32) (s21 : Int32) (s22 : Int32) (s25 : Int32) (s26 : Int32) (s27 : Int32) (s31 : Int32) (s32 : Int32) (s33 : Int32) (s34 : Int32) (s39 : Int32) (s40 : Int32) (fst : Nat → Int32) (fro : Nat → Int32) (fmo : Nat → Int32) (fkd : Nat → Int32) (fcd : Nat → Int32) (fsr : Nat → Nat) (fsk : Nat → Int32) (fna : Nat → Int32) (fkp : Nat → Int32) (v0 : Int32) (v1 : Int32) (v2 : Int32) (v3 : Int32) (v4 : Int32) (v5 : Int32) (A : Nat → Prop) : Array Value → State → Outcome → State → Prop := va_Ql (fun (r : Int64) (u : Int32 × Int32 × Int32 × Int32 × (Nat → Int32) × (Nat → Int32) × (Nat → Int32)) => match u with | (z31, z32, z33, z34, ysk, yna, ykp) => r = m_X6_odds pb jg ru fst fro fmo fkd fcd fsr v0 v1 v2 v3 v4 v5) (fun (u : Int32 × Int32 × Int32 × Int32 × (Nat → Int32) × (Nat → Int32) × (Nat → Int32)) t => match u with | (z31, z32, z33, z34, ysk, yna, ykp) => va_P G.1 vwCl [zo6 h0 (nI pb) kd mo st (nI jg) ro tp (nI td) cd sr (nI tx) (nI ru) him ir ih ss sq ce lw s19 s20 s21 s22 wo he s25 s26 s27 sk na kp z31 z32 z33 z34 gb go fa ga s39 s40 vo, zi G st 12 fst, zi G ro 12 fro, zi G mo 6 fmo, zi G kd 6 fkd, zi G cd 1200 fcd, zi G sr 24 (nF fsr), zi G sk 200 ysk, zi G na 6 yna, zi G kp 24 ykp] t.heap ∧ gK G t ∧ va_D A [zo6 h0 (nI pb) kd mo st (nI jg) ro tp (nI td) cd sr (nI tx) (nI ru) him ir ih ss sq ce lw s19 s20 s21 s22 wo he s25 s26 s27 sk na kp z31 z32 z33 z34 gb go fa ga s39 s40 vo, zi G st 12 fst, zi G ro 12 fro, zi G mo 6 fmo, zi G kd 6 fkd, zi G cd 1200 fcd, zi G sr 24 (nF fsr), zi G sk 200 ysk, zi G na 6 yna, zi G kp 24 ykp]) A
set_option maxHeartbeats 4000000 in
set_option maxRecDepth 100000 in
theorem c_X6_odds (l : Launch) (G : gG) (h0 kd mo st ro tp cd sr ir ih ss sq ce lw wo he sk na kp gb go fa ga vo : Nat) (pb : Nat) (jg : Nat) (td : Nat) (tx : Nat) (ru : Nat) (him : Int32) (s19 : Int32) (s20 : Int32) (s21 : Int32) (s22 : Int32) (s25 : Int32) (s26 : Int32) (s27 : Int32) (s31 : Int32) (s32 : Int32) (s33 : Int32) (s34 : Int32) (s39 : Int32) (s40 : Int32) (fst : Nat → Int32) (fro : Nat → Int32) (fmo : Nat → Int32) (fkd : Nat → Int32) (fcd : Nat → Int32) (fsr : Nat → Nat) (fsk : Nat → Int32) (fna : Nat → Int32) (fkp : Nat → Int32) (v0 : Int32) (v1 : Int32) (v2 : Int32) (v3 : Int32) (v4 : Int32) (v5 : Int32) (sz : Nat) (hwa : ∀ t9, t9 < tx → mWf fcd fsr t9) (hpb : pb ≤ 6) (hjg : jg ≤ 4) (htx : tx ≤ 6) (hru : ru < tx) : Met l yX6_odds wsX6_odds ({ frames := 6, cells := 0, slots := 0, locals := 147 }) (gPre G [.ref h0, .int v0, .int v1, .int v2, .int v3, .int v4, .int v5] [zo6 h0 (nI pb) kd mo st (nI jg) ro tp (nI td) cd sr (nI tx) (nI ru) him ir ih ss sq ce lw s19 s20 s21 s22 wo he s25 s26 s27 sk na kp s31 s32 s33 s34 gb go fa ga s39 s40 vo, zi G st 12 fst, zi G ro 12 fro, zi G mo 6 fmo, zi G kd 6 fkd, zi G cd 1200 fcd, zi G sr 24 (nF fsr), zi G sk 200 fsk, zi G na 6 fna, zi G kp 24 fkp] sz) (q_X6_odds G h0 kd mo st ro tp cd sr ir ih ss sq ce lw wo he sk na kp gb go fa ga vo pb jg td tx ru him s19 s20 s21 s22 s25 s26 s27 s31 s32 s33 s34 s39 s40 fst fro fmo fkd fcd fsr fsk fna fkp v0 v1 v2 v3 v4 v5 (va_A [zo6 h0 (nI pb) kd mo st (nI jg) ro tp (nI td) cd sr (nI tx) (nI ru) him ir ih ss sq ce lw s19 s20 s21 s22 wo he s25 s26 s27 sk na kp s31 s32 s33 s34 gb go fa ga s39 s40 vo, zi G st 12 fst, zi G ro 12 fro, zi G mo 6 fmo, zi G kd 6 fkd, zi G cd 1200 fcd, zi G sr 24 (nF fsr), zi G sk 200 fsk, zi G na 6 fna, zi G kp 24 fkp] sz)) 0 0 (va_A [zo6 h0 (nI pb) kd mo st (nI jg) ro tp (nI td) cd sr (nI tx) (nI ru) him ir ih ss sq ce lw s19 s20 s21 s22 wo he s25 s26 s27 sk na kp s31 s32 s33 s34 gb go fa ga s39 s40 vo, zi G st 12 fst, zi G ro 12 fro, zi G mo 6 fmo, zi G kd 6 fkd, zi G cd 1200 fcd, zi G sr 24 (nF fsr), zi G sk 200 fsk, zi G na 6 fna, zi G kp 24 fkp] sz) := by
  refine Met.ofW (cc := cX6_odds) (maxL := 11) (ret := (some .long)) (by decide +kernel) rfl ?_
  intro p e s m args below meth c s₁ B hml hv
  obtain ⟨rfl, hsz, hP, hK, hD0⟩ := hv
  have hx := B.exec
  have hb := B.bytes
  have hr := B.returns
  have hts := atoms_spec (ws := wsX6_odds) B.pre
  have hown : s.vm.findClass RX6 = some m.cls := findClass_of_methodNamed B.named
  have hlocks := B.notSynchronized
  subst hsz
  have hD := hD0.self (sz := s.heap.size)
  generalize hAe : va_A [zo6 h0 (nI pb) kd mo st (nI jg) ro tp (nI td) cd sr (nI tx) (nI ru) him ir ih ss sq ce lw s19 s20 s21 s22 wo he s25 s26 s27 sk na kp s31 s32 s33 s34 gb go fa ga s39 s40 vo, zi G st 12 fst, zi G ro 12 fro, zi G mo 6 fmo, zi G kd 6 fkd, zi G cd 1200 fcd, zi G sr 24 (nF fsr), zi G sk 200 fsk, zi G na 6 fna, zi G kp 24 fkp] s.heap.size = A at hD ⊢
  have hA : ∀ q : Nat, s.heap.size ≤ q → A q := fun q h => by rw [← hAe]; exact Or.inr h
  have hS : va_S A s.heap s.heap [] := va_S.rf
  have hz9 : gPD G A [zo6 h0 (nI pb) kd mo st (nI jg) ro tp (nI td) cd sr (nI tx) (nI ru) him ir ih ss sq ce lw s19 s20 s21 s22 wo he s25 s26 s27 sk na kp s31 s32 s33 s34 gb go fa ga s39 s40 vo, zi G st 12 fst, zi G ro 12 fro, zi G mo 6 fmo, zi G kd 6 fkd, zi G cd 1200 fcd, zi G sr 24 (nF fsr), zi G sk 200 fsk, zi G na 6 fna, zi G kp 24 fkp] s.heap := ⟨hP, hD⟩
  have hP := hz9.1
  have hD := hz9.2
  have hl := lv_entry ([.ref h0, .int v0, .int v1, .int v2, .int v3, .int v4, .int v5]) (n := 11) (Nat.le_of_ble_eq_true rfl)
  rw [lg_entry_eq]
  generalize (lg_sl ([.ref h0, .int v0, .int v1, .int v2, .int v3, .int v4, .int v5]) ++ List.replicate (11 - (lg_sl ([.ref h0, .int v0, .int v1, .int v2, .int v3, .int v4, .int v5])).length) Slot.unset).toArray = ls at hl ⊢
  have hl : lv_has ls 11 [zR 0 h0, zI 1 v0, zI 2 v1, zI 3 v2, zI 4 v3, zI 5 v4, zI 6 v5] := hl
  have kf214 := hts (.fieldLink RX6 214 "PebbleInShoeModel" "isGuilty" "Z") (by decide +kernel)
  have hiX6 := (by decide +kernel : ∀ w ∈ wsX60, w ∈ wsX6_odds)
  refine lv_iload_n hx hb dX6_odds_0 rfl (lv_at hl 1 rfl) ?_
  refine lv_iconst (v := 0) hx hb dX6_odds_1 (by decide +kernel) ?_
  refine lv_ldc hx hb hown (hts (.constant RX6 192 (99999)) (by decide +kernel)) dX6_odds_2 ?_
  refine z_calli [] (v := bz (decide (0 ≤ v0 ∧ v0 ≤ 99999))) (fun _ _ h => h) (va_runS (As := [.int v0, .int 0, .int 99999]) (rest := []) ⟨hx, hb, hml, hown, hts⟩ (c_X6_in l G v0 0 99999 s.heap.size) (va_cwS 3 hts gX6_odds_X6_in rfl rfl rfl (by decide +kernel) ⟨Nat.le_of_ble_eq_true rfl, Nat.le_of_ble_eq_true rfl⟩) ⟨gPre_blind, fun U hU hW => gPre_ofF [] hU hW hK hP hD (by decide +kernel) rfl⟩ rfl rfl hl.1 rfl (lv_room (Nat.le_of_ble_eq_true rfl)) dX6_odds_4 ⟨Nat.le_of_ble_eq_true rfl, Nat.le_of_ble_eq_true rfl⟩) hS hD hA rfl (fun u t H locs ht hvm hB hz1 hk1 hFq hAq hS => ?_)
  obtain ⟨hP1, hK1, hD1⟩ := hB
  have hP := zKeep hP hD [] hAq hk1 ht hP1 rfl
  refine lv_if_eq (tgt := 59) hx hb dX6_odds_7 (by decide +kernel) (fun c_3 => ?_) (fun c_3 => ?_)
  · skip
    have n_5 : ¬ (0 ≤ v0 ∧ v0 ≤ 99999) := of_decide_eq_false (bz_eq rfl c_3)
    refine lv_iconst (v := 0) hx hb dX6_odds_59 (by decide +kernel) ?_
    refine lv_istore (lv' := [zI 7 0, zR 0 h0, zI 1 v0, zI 2 v1, zI 3 v2, zI 4 v3, zI 5 v4, zI 6 v5]) hx hb dX6_odds_60 hl (by decide +kernel) rfl (fun ls hl => ?_)
    refine lv_iload hx hb dX6_odds_62 (lv_at hl 0 rfl) ?_
    refine lv_if_ne (tgt := 71) hx hb dX6_odds_64 (by decide +kernel) (fun c_8 => ?_) (fun c_8 => ?_)
    · exact absurd (by decide +kernel) c_8
    refine lv_ldc2 hx hb hown (hts (.constantLong RX6 268 (-4611686018427387904)) (by decide +kernel)) dX6_odds_67 ?_
    have hpost : (fun (r : Int64) (u : Int32 × Int32 × Int32 × Int32 × (Nat → Int32) × (Nat → Int32) × (Nat → Int32)) => match u with | (z31, z32, z33, z34, ysk, yna, ykp) => r = m_X6_odds pb jg ru fst fro fmo fkd fcd fsr v0 v1 v2 v3 v4 v5) (-4611686018427387904) (s31, s32, s33, s34, fsk, fna, fkp) := (show m_X6_odds pb jg ru fst fro fmo fkd fcd fsr v0 v1 v2 v3 v4 v5 = (-4611686018427387904) from by unfold m_X6_odds; rw [if_neg n_5]).symm
    exact W.lret (v := (-4611686018427387904)) hx hb hr (fun t ht hW => ⟨⟨(-4611686018427387904), (s31, s32, s33, s34, fsk, fna, fkp), rfl, hpost, by rw [ht]; exact hP, va_K.moved hW.alike hK, hD⟩, hS.F ht⟩) hS.2.2 dX6_odds_70
  · skip
    have p_4 : 0 ≤ v0 ∧ v0 ≤ 99999 := of_decide_eq_true (bz_ne rfl c_3)
    have hv_6 : v0 = nI (nC v0) := nC_eq p_4.1
    have hk_7 : nC v0 ≤ 99999 := nC_le (n := 99999) (by omega) p_4
    refine lv_iload_n hx hb dX6_odds_10 rfl (lv_at hl 2 rfl) ?_
    refine lv_iconst (v := 1) hx hb dX6_odds_11 (by decide +kernel) ?_
    refine lv_bipush (v := 40) hx hb dX6_odds_12 (by decide +kernel) ?_
    refine z_calli [] (v := bz (decide (1 ≤ v1 ∧ v1 ≤ 40))) (fun _ _ h => h) (va_runS (As := [.int v1, .int 1, .int 40]) (rest := []) ⟨hx, hb, hml, hown, hts⟩ (c_X6_in l G v1 1 40 H.size) (va_cwS 3 hts gX6_odds_X6_in rfl rfl rfl (by decide +kernel) ⟨Nat.le_of_ble_eq_true rfl, Nat.le_of_ble_eq_true rfl⟩) ⟨gPre_blind, fun U hU hW => gPre_ofF [] hU hW hK hP hD (by decide +kernel) rfl⟩ rfl rfl hl.1 rfl (lv_room (Nat.le_of_ble_eq_true rfl)) dX6_odds_14 ⟨Nat.le_of_ble_eq_true rfl, Nat.le_of_ble_eq_true rfl⟩) hS hD hA rfl (fun u t H locs ht hvm hB hz1 hk1 hFq hAq hS => ?_)
    obtain ⟨hP1, hK1, hD1⟩ := hB
    have hP := zKeep hP hD [] hAq hk1 ht hP1 rfl
    refine lv_if_eq (tgt := 59) hx hb dX6_odds_17 (by decide +kernel) (fun c_11 => ?_) (fun c_11 => ?_)
    · skip
      have n_13 : ¬ (1 ≤ v1 ∧ v1 ≤ 40) := of_decide_eq_false (bz_eq rfl c_11)
      refine lv_iconst (v := 0) hx hb dX6_odds_59 (by decide +kernel) ?_
      refine lv_istore (lv' := [zI 7 0, zR 0 h0, zI 1 v0, zI 2 v1, zI 3 v2, zI 4 v3, zI 5 v4, zI 6 v5]) hx hb dX6_odds_60 hl (by decide +kernel) rfl (fun ls hl => ?_)
      refine lv_iload hx hb dX6_odds_62 (lv_at hl 0 rfl) ?_
      refine lv_if_ne (tgt := 71) hx hb dX6_odds_64 (by decide +kernel) (fun c_17 => ?_) (fun c_17 => ?_)
      · exact absurd (by decide +kernel) c_17
      refine lv_ldc2 hx hb hown (hts (.constantLong RX6 268 (-4611686018427387904)) (by decide +kernel)) dX6_odds_67 ?_
      have hpost : (fun (r : Int64) (u : Int32 × Int32 × Int32 × Int32 × (Nat → Int32) × (Nat → Int32) × (Nat → Int32)) => match u with | (z31, z32, z33, z34, ysk, yna, ykp) => r = m_X6_odds pb jg ru fst fro fmo fkd fcd fsr v0 v1 v2 v3 v4 v5) (-4611686018427387904) (s31, s32, s33, s34, fsk, fna, fkp) := (show m_X6_odds pb jg ru fst fro fmo fkd fcd fsr v0 v1 v2 v3 v4 v5 = (-4611686018427387904) from by unfold m_X6_odds; rw [if_pos p_4, if_neg n_13]).symm
      exact W.lret (v := (-4611686018427387904)) hx hb hr (fun t ht hW => ⟨⟨(-4611686018427387904), (s31, s32, s33, s34, fsk, fna, fkp), rfl, hpost, by rw [ht]; exact hP, va_K.moved hW.alike hK, hD⟩, hS.F ht⟩) hS.2.2 dX6_odds_70
    · skip
      have p_12 : 1 ≤ v1 ∧ v1 ≤ 40 := of_decide_eq_true (bz_ne rfl c_11)
      have hv_14 : v1 = nI (nC v1) := nC_eq (nC_1 p_12.1)
      have hk_15 : nC v1 ≤ 40 := nC_le (n := 40) (by omega) ⟨nC_1 p_12.1, p_12.2⟩
      have hk_16 : 1 ≤ nC v1 := nC_1n p_12.1
      refine lv_aload_n hx hb dX6_odds_20 rfl (lv_at hl 0 rfl) ?_
      refine lv_iload_n hx hb dX6_odds_21 rfl (lv_at hl 3 rfl) ?_
      refine z_calli [0] (v := bz (mHas jg v2)) (fun _ _ h => h) (va_runV (As := [.int v2]) (rest := []) ⟨hx, hb, hml, hown, hts⟩ (c_X6_isJudge l G h0 kd mo st ro tp cd sr ir ih ss sq ce lw wo he sk na kp gb go fa ga vo pb jg td tx ru him s19 s20 s21 s22 s25 s26 s27 s31 s32 s33 s34 s39 s40 v2 H.size (by first | exact hpb | assumption | omega) (by first | exact hjg | assumption | omega) (by first | exact htx | assumption | omega) (by first | exact hru | assumption | omega)) (cwV 1 hts gX6_odds_X6_isJudge rfl rfl rfl (by decide +kernel) ⟨Nat.le_of_ble_eq_true rfl, Nat.le_of_ble_eq_true rfl⟩) ⟨gPre_blind, va_recv (q := (RX6, TX6, 42)) hK hP (ci := 6) (q0 := 0) rfl rfl, fun U hU hW => gPre_ofF [0] hU hW hK hP hD (by decide +kernel) rfl⟩ rfl rfl hl.1 rfl (lv_room (Nat.le_of_ble_eq_true rfl)) dX6_odds_22 ⟨Nat.le_of_ble_eq_true rfl, Nat.le_of_ble_eq_true rfl⟩) hS hD hA rfl (fun u t H locs ht hvm hB hz1 hk1 hFq hAq hS => ?_)
      obtain ⟨hP1, hK1, hD1⟩ := hB
      have hP := zKeep hP hD [0] hAq hk1 ht hP1 rfl
      refine lv_if_eq (tgt := 59) hx hb dX6_odds_25 (by decide +kernel) (fun c_20 => ?_) (fun c_20 => ?_)
      · skip
        have n_22 : (mHas jg v2) = false := bz_eq rfl c_20
        have n_22N : ¬ ((mHas jg v2) = true) := by rw [n_22]; decide
        refine lv_iconst (v := 0) hx hb dX6_odds_59 (by decide +kernel) ?_
        refine lv_istore (lv' := [zI 7 0, zR 0 h0, zI 1 v0, zI 2 v1, zI 3 v2, zI 4 v3, zI 5 v4, zI 6 v5]) hx hb dX6_odds_60 hl (by decide +kernel) rfl (fun ls hl => ?_)
        refine lv_iload hx hb dX6_odds_62 (lv_at hl 0 rfl) ?_
        refine lv_if_ne (tgt := 71) hx hb dX6_odds_64 (by decide +kernel) (fun c_25 => ?_) (fun c_25 => ?_)
        · exact absurd (by decide +kernel) c_25
        refine lv_ldc2 hx hb hown (hts (.constantLong RX6 268 (-4611686018427387904)) (by decide +kernel)) dX6_odds_67 ?_
        have hpost : (fun (r : Int64) (u : Int32 × Int32 × Int32 × Int32 × (Nat → Int32) × (Nat → Int32) × (Nat → Int32)) => match u with | (z31, z32, z33, z34, ysk, yna, ykp) => r = m_X6_odds pb jg ru fst fro fmo fkd fcd fsr v0 v1 v2 v3 v4 v5) (-4611686018427387904) (s31, s32, s33, s34, fsk, fna, fkp) := (show m_X6_odds pb jg ru fst fro fmo fkd fcd fsr v0 v1 v2 v3 v4 v5 = (-4611686018427387904) from by unfold m_X6_odds; rw [if_pos p_4, if_pos p_12, if_neg n_22N]).symm
        exact W.lret (v := (-4611686018427387904)) hx hb hr (fun t ht hW => ⟨⟨(-4611686018427387904), (s31, s32, s33, s34, fsk, fna, fkp), rfl, hpost, by rw [ht]; exact hP, va_K.moved hW.alike hK, hD⟩, hS.F ht⟩) hS.2.2 dX6_odds_70
      · skip
        have p_21 : (mHas jg v2) = true := bz_ne rfl c_20
        have hv_23 : v2 = nI (nC v2) := mHas_eq p_21
        have hk_24 : nC v2 < jg := mHas_lt (by omega) p_21
        refine lv_aload_n hx hb dX6_odds_28 rfl (lv_at hl 0 rfl) ?_
        refine lv_iload hx hb dX6_odds_29 (lv_at hl 4 rfl) ?_
        refine z_calli [0] (v := bz (mHas pb v3)) (fun _ _ h => h) (va_runV (As := [.int v3]) (rest := []) ⟨hx, hb, hml, hown, hts⟩ (c_X6_isPebble l G h0 kd mo st ro tp cd sr ir ih ss sq ce lw wo he sk na kp gb go fa ga vo pb jg td tx ru him s19 s20 s21 s22 s25 s26 s27 s31 s32 s33 s34 s39 s40 v3 H.size (by first | exact hpb | assumption | omega) (by first | exact hjg | assumption | omega) (by first | exact htx | assumption | omega) (by first | exact hru | assumption | omega)) (cwV 1 hts gX6_odds_X6_isPebble rfl rfl rfl (by decide +kernel) ⟨Nat.le_of_ble_eq_true rfl, Nat.le_of_ble_eq_true rfl⟩) ⟨gPre_blind, va_recv (q := (RX6, TX6, 42)) hK hP (ci := 6) (q0 := 0) rfl rfl, fun U hU hW => gPre_ofF [0] hU hW hK hP hD (by decide +kernel) rfl⟩ rfl rfl hl.1 rfl (lv_room (Nat.le_of_ble_eq_true rfl)) dX6_odds_31 ⟨Nat.le_of_ble_eq_true rfl, Nat.le_of_ble_eq_true rfl⟩) hS hD hA rfl (fun u t H locs ht hvm hB hz1 hk1 hFq hAq hS => ?_)
        obtain ⟨hP1, hK1, hD1⟩ := hB
        have hP := zKeep hP hD [0] hAq hk1 ht hP1 rfl
        refine lv_if_eq (tgt := 59) hx hb dX6_odds_34 (by decide +kernel) (fun c_28 => ?_) (fun c_28 => ?_)
        · skip
          have n_30 : (mHas pb v3) = false := bz_eq rfl c_28
          have n_30N : ¬ ((mHas pb v3) = true) := by rw [n_30]; decide
          refine lv_iconst (v := 0) hx hb dX6_odds_59 (by decide +kernel) ?_
          refine lv_istore (lv' := [zI 7 0, zR 0 h0, zI 1 v0, zI 2 v1, zI 3 v2, zI 4 v3, zI 5 v4, zI 6 v5]) hx hb dX6_odds_60 hl (by decide +kernel) rfl (fun ls hl => ?_)
          refine lv_iload hx hb dX6_odds_62 (lv_at hl 0 rfl) ?_
          refine lv_if_ne (tgt := 71) hx hb dX6_odds_64 (by decide +kernel) (fun c_33 => ?_) (fun c_33 => ?_)
          · exact absurd (by decide +kernel) c_33
          refine lv_ldc2 hx hb hown (hts (.constantLong RX6 268 (-4611686018427387904)) (by decide +kernel)) dX6_odds_67 ?_
          have hpost : (fun (r : Int64) (u : Int32 × Int32 × Int32 × Int32 × (Nat → Int32) × (Nat → Int32) × (Nat → Int32)) => match u with | (z31, z32, z33, z34, ysk, yna, ykp) => r = m_X6_odds pb jg ru fst fro fmo fkd fcd fsr v0 v1 v2 v3 v4 v5) (-4611686018427387904) (s31, s32, s33, s34, fsk, fna, fkp) := (show m_X6_odds pb jg ru fst fro fmo fkd fcd fsr v0 v1 v2 v3 v4 v5 = (-4611686018427387904) from by unfold m_X6_odds; rw [if_pos p_4, if_pos p_12, if_pos p_21, if_neg n_30N]).symm
          exact W.lret (v := (-4611686018427387904)) hx hb hr (fun t ht hW => ⟨⟨(-4611686018427387904), (s31, s32, s33, s34, fsk, fna, fkp), rfl, hpost, by rw [ht]; exact hP, va_K.moved hW.alike hK, hD⟩, hS.F ht⟩) hS.2.2 dX6_odds_70
        · skip
          have p_29 : (mHas pb v3) = true := bz_ne rfl c_28
          have hv_31 : v3 = nI (nC v3) := mHas_eq p_29
          have hk_32 : nC v3 < pb := mHas_lt (by omega) p_29
          refine lv_iload hx hb dX6_odds_37 (lv_at hl 5 rfl) ?_
          refine z_calli [] (v := bz (mMil v4)) (fun _ _ h => h) (va_runS (As := [.int v4]) (rest := []) ⟨hx, hb, hml, hown, hts⟩ (c_X6_areMiles l G v4 H.size) (va_cwS 1 hts gX6_odds_X6_areMiles rfl rfl rfl (by decide +kernel) ⟨Nat.le_of_ble_eq_true rfl, Nat.le_of_ble_eq_true rfl⟩) ⟨gPre_blind, fun U hU hW => gPre_ofF [] hU hW hK hP hD (by decide +kernel) rfl⟩ rfl rfl hl.1 rfl (lv_room (Nat.le_of_ble_eq_true rfl)) dX6_odds_39 ⟨Nat.le_of_ble_eq_true rfl, Nat.le_of_ble_eq_true rfl⟩) hS hD hA rfl (fun u t H locs ht hvm hB hz1 hk1 hFq hAq hS => ?_)
          obtain ⟨hP1, hK1, hD1⟩ := hB
          have hP := zKeep hP hD [] hAq hk1 ht hP1 rfl
          refine lv_if_eq (tgt := 59) hx hb dX6_odds_42 (by decide +kernel) (fun c_36 => ?_) (fun c_36 => ?_)
          · skip
            have n_38 : (mMil v4) = false := bz_eq rfl c_36
            have n_38N : ¬ ((mMil v4) = true) := by rw [n_38]; decide
            refine lv_iconst (v := 0) hx hb dX6_odds_59 (by decide +kernel) ?_
            refine lv_istore (lv' := [zI 7 0, zR 0 h0, zI 1 v0, zI 2 v1, zI 3 v2, zI 4 v3, zI 5 v4, zI 6 v5]) hx hb dX6_odds_60 hl (by decide +kernel) rfl (fun ls hl => ?_)
            refine lv_iload hx hb dX6_odds_62 (lv_at hl 0 rfl) ?_
            refine lv_if_ne (tgt := 71) hx hb dX6_odds_64 (by decide +kernel) (fun c_42 => ?_) (fun c_42 => ?_)
            · exact absurd (by decide +kernel) c_42
            refine lv_ldc2 hx hb hown (hts (.constantLong RX6 268 (-4611686018427387904)) (by decide +kernel)) dX6_odds_67 ?_
            have hpost : (fun (r : Int64) (u : Int32 × Int32 × Int32 × Int32 × (Nat → Int32) × (Nat → Int32) × (Nat → Int32)) => match u with | (z31, z32, z33, z34, ysk, yna, ykp) => r = m_X6_odds pb jg ru fst fro fmo fkd fcd fsr v0 v1 v2 v3 v4 v5) (-4611686018427387904) (s31, s32, s33, s34, fsk, fna, fkp) := (show m_X6_odds pb jg ru fst fro fmo fkd fcd fsr v0 v1 v2 v3 v4 v5 = (-4611686018427387904) from by unfold m_X6_odds; rw [if_pos p_4, if_pos p_12, if_pos p_21, if_pos p_29, if_neg n_38N]).symm
            exact W.lret (v := (-4611686018427387904)) hx hb hr (fun t ht hW => ⟨⟨(-4611686018427387904), (s31, s32, s33, s34, fsk, fna, fkp), rfl, hpost, by rw [ht]; exact hP, va_K.moved hW.alike hK, hD⟩, hS.F ht⟩) hS.2.2 dX6_odds_70
          · skip
            have p_37 : (mMil v4) = true := bz_ne rfl c_36
            have hv_39 : v4 = nI (nC v4) := mMil_eq p_37
            have hk_40 : nC v4 ≤ 960 := mMil_le p_37
            have hk_41 : nC v4 % 100 ≤ 60 := mMil_rem p_37
            refine lv_iload hx hb dX6_odds_45 (lv_at hl 6 rfl) ?_
            refine lv_iconst (v := 0) hx hb dX6_odds_47 (by decide +kernel) ?_
            refine lv_iconst (v := 1) hx hb dX6_odds_48 (by decide +kernel) ?_
            refine z_calli [] (v := bz (decide (0 ≤ v5 ∧ v5 ≤ 1))) (fun _ _ h => h) (va_runS (As := [.int v5, .int 0, .int 1]) (rest := []) ⟨hx, hb, hml, hown, hts⟩ (c_X6_in l G v5 0 1 H.size) (va_cwS 3 hts gX6_odds_X6_in rfl rfl rfl (by decide +kernel) ⟨Nat.le_of_ble_eq_true rfl, Nat.le_of_ble_eq_true rfl⟩) ⟨gPre_blind, fun U hU hW => gPre_ofF [] hU hW hK hP hD (by decide +kernel) rfl⟩ rfl rfl hl.1 rfl (lv_room (Nat.le_of_ble_eq_true rfl)) dX6_odds_49 ⟨Nat.le_of_ble_eq_true rfl, Nat.le_of_ble_eq_true rfl⟩) hS hD hA rfl (fun u t H locs ht hvm hB hz1 hk1 hFq hAq hS => ?_)
            obtain ⟨hP1, hK1, hD1⟩ := hB
            have hP := zKeep hP hD [] hAq hk1 ht hP1 rfl
            refine lv_if_eq (tgt := 59) hx hb dX6_odds_52 (by decide +kernel) (fun c_45 => ?_) (fun c_45 => ?_)
            · skip
              have n_47 : ¬ (0 ≤ v5 ∧ v5 ≤ 1) := of_decide_eq_false (bz_eq rfl c_45)
              refine lv_iconst (v := 0) hx hb dX6_odds_59 (by decide +kernel) ?_
              refine lv_istore (lv' := [zI 7 0, zR 0 h0, zI 1 v0, zI 2 v1, zI 3 v2, zI 4 v3, zI 5 v4, zI 6 v5]) hx hb dX6_odds_60 hl (by decide +kernel) rfl (fun ls hl => ?_)
              refine lv_iload hx hb dX6_odds_62 (lv_at hl 0 rfl) ?_
              refine lv_if_ne (tgt := 71) hx hb dX6_odds_64 (by decide +kernel) (fun c_50 => ?_) (fun c_50 => ?_)
              · exact absurd (by decide +kernel) c_50
              refine lv_ldc2 hx hb hown (hts (.constantLong RX6 268 (-4611686018427387904)) (by decide +kernel)) dX6_odds_67 ?_
              have hpost : (fun (r : Int64) (u : Int32 × Int32 × Int32 × Int32 × (Nat → Int32) × (Nat → Int32) × (Nat → Int32)) => match u with | (z31, z32, z33, z34, ysk, yna, ykp) => r = m_X6_odds pb jg ru fst fro fmo fkd fcd fsr v0 v1 v2 v3 v4 v5) (-4611686018427387904) (s31, s32, s33, s34, fsk, fna, fkp) := (show m_X6_odds pb jg ru fst fro fmo fkd fcd fsr v0 v1 v2 v3 v4 v5 = (-4611686018427387904) from by unfold m_X6_odds; rw [if_pos p_4, if_pos p_12, if_pos p_21, if_pos p_29, if_pos p_37, if_neg n_47]).symm
              exact W.lret (v := (-4611686018427387904)) hx hb hr (fun t ht hW => ⟨⟨(-4611686018427387904), (s31, s32, s33, s34, fsk, fna, fkp), rfl, hpost, by rw [ht]; exact hP, va_K.moved hW.alike hK, hD⟩, hS.F ht⟩) hS.2.2 dX6_odds_70
            · skip
              have p_46 : 0 ≤ v5 ∧ v5 ≤ 1 := of_decide_eq_true (bz_ne rfl c_45)
              have hv_48 : v5 = nI (nC v5) := nC_eq p_46.1
              have hk_49 : nC v5 ≤ 1 := nC_le (n := 1) (by omega) p_46
              refine lv_iconst (v := 1) hx hb dX6_odds_55 (by decide +kernel) ?_
              refine lv_goto (tgt := 60) hx hb dX6_odds_56 (by decide +kernel) ?_
              refine lv_istore (lv' := [zI 7 1, zR 0 h0, zI 1 v0, zI 2 v1, zI 3 v2, zI 4 v3, zI 5 v4, zI 6 v5]) hx hb dX6_odds_60 hl (by decide +kernel) rfl (fun ls hl => ?_)
              refine lv_iload hx hb dX6_odds_62 (lv_at hl 0 rfl) ?_
              refine lv_if_ne (tgt := 71) hx hb dX6_odds_64 (by decide +kernel) (fun c_51 => ?_) (fun c_51 => ?_)
              rotate_left
              · exact absurd c_51 (by decide +kernel)
              refine lv_lconst (v := 0) hx hb dX6_odds_71 (by decide +kernel) ?_
              refine lv_lstore (lv' := [zL 8 0, zI 7 1, zR 0 h0, zI 1 v0, zI 2 v1, zI 3 v2, zI 4 v3, zI 5 v4, zI 6 v5]) hx hb dX6_odds_72 hl (by decide +kernel) rfl (fun ls hl => ?_)
              refine lv_iconst (v := 0) hx hb dX6_odds_74 (by decide +kernel) ?_
              refine lv_istore (lv' := [zI 10 0, zL 8 0, zI 7 1, zR 0 h0, zI 1 v0, zI 2 v1, zI 3 v2, zI 4 v3, zI 5 v4, zI 6 v5]) hx hb dX6_odds_75 hl (by decide +kernel) rfl (fun ls hl => ?_)
              have loop_77 : ∀ (n9 : Nat) (k77 : Nat) (so : Nat) (x77sk : Nat → Int32) (x77na : Nat → Int32) (x77kp : Nat → Int32) (zz31 : Int32) (zz32 : Int32) (zz33 : Int32) (zz34 : Int32), (k77 ≤ nC v1) → (p_X6_odds_77 ru fst fro fmo fkd fcd fsr v0 v2 v3 v4 (nC v1 - k77) k77 so = (g_X6_odds_77 ru fst fro fmo fkd fcd fsr v0 v1 v2 v3 v4)) → (so ≤ k77) → (nC v1 - k77) < n9 → ∀ (H : Heap) (locs : List Loc), va_P G.1 vwCl [zo6 h0 (nI pb) kd mo st (nI jg) ro tp (nI td) cd sr (nI tx) (nI ru) him ir ih ss sq ce lw s19 s20 s21 s22 wo he s25 s26 s27 sk na kp zz31 zz32 zz33 zz34 gb go fa ga s39 s40 vo, zi G st 12 fst, zi G ro 12 fro, zi G mo 6 fmo, zi G kd 6 fkd, zi G cd 1200 fcd, zi G sr 24 (nF fsr), zi G sk 200 x77sk, zi G na 6 x77na, zi G kp 24 x77kp] H → va_D A [zo6 h0 (nI pb) kd mo st (nI jg) ro tp (nI td) cd sr (nI tx) (nI ru) him ir ih ss sq ce lw s19 s20 s21 s22 wo he s25 s26 s27 sk na kp zz31 zz32 zz33 zz34 gb go fa ga s39 s40 vo, zi G st 12 fst, zi G ro 12 fro, zi G mo 6 fmo, zi G kd 6 fkd, zi G cd 1200 fcd, zi G sr 24 (nF fsr), zi G sk 200 x77sk, zi G na 6 x77na, zi G kp 24 x77kp] → va_S A s.heap H locs → ∀ ls : Array Slot, lv_has ls 11 [zI 10 (nI k77), zL 8 (lN so), zI 7 1, zR 0 h0, zI 1 v0, zI 2 v1, zI 3 v2, zI 4 v3, zI 5 v4, zI 6 v5] → W p l e (headSpec wsX6_odds ({ frames := 6, cells := 0, slots := 0, locals := 147 })).room s m ([.ref h0, .int v0, .int v1, .int v2, .int v3, .int v4, .int v5] : List Value).toArray below meth c H locs 0 0 (MQ below (q_X6_odds G h0 kd mo st ro tp cd sr ir ih ss sq ce lw wo he sk na kp gb go fa ga vo pb jg td tx ru him s19 s20 s21 s22 s25 s26 s27 s31 s32 s33 s34 s39 s40 fst fro fmo fkd fcd fsr fsk fna fkp v0 v1 v2 v3 v4 v5 A) ([.ref h0, .int v0, .int v1, .int v2, .int v3, .int v4, .int v5] : List Value).toArray s 0 0 A) (F0 m 77 ls []) := by
                intro n9
                induction n9 with
                | zero => intro k77 so x77sk x77na x77kp zz31 zz32 zz33 zz34 hk77 R77 hso hm9_77; exact absurd hm9_77 (Nat.not_lt_zero _)
                | succ n9 ih9_77 =>
                  intro k77 so x77sk x77na x77kp zz31 zz32 zz33 zz34 hk77 R77 hso hm9_77 H locs hP hD hS ls hl
                  refine lv_iload hx hb dX6_odds_77 (lv_at hl 0 rfl) ?_
                  refine lv_iload_n hx hb dX6_odds_79 rfl (lv_at hl 5 rfl) ?_
                  refine g_topi (y := nI (nC v1)) hv_14 ?_
                  refine lv_icmp_ge (tgt := 119) hx hb dX6_odds_80 (by decide +kernel) (fun c_53 => ?_) (fun c_53 => ?_)
                  · skip
                    have c_53N : (nC v1) ≤ k77 := nI_le1 (a := (nC v1)) (b := k77) (by omega) (by omega) c_53
                    have hF77 : (g_X6_odds_77 ru fst fro fmo fkd fcd fsr v0 v1 v2 v3 v4) = (k77, so) := by rw [← R77, show nC v1 - k77 = 0 by omega]; rfl
                    have hE77_0 : k77 = ((g_X6_odds_77 ru fst fro fmo fkd fcd fsr v0 v1 v2 v3 v4).1) := by rw [hF77]
                    have hE77_1 : so = ((g_X6_odds_77 ru fst fro fmo fkd fcd fsr v0 v1 v2 v3 v4).2) := by rw [hF77]
                    clear hF77 R77
                    subst hE77_0
                    subst hE77_1
                    refine lv_lload hx hb dX6_odds_119 (lv_at hl 1 rfl) ?_
                    refine lv_iload_n hx hb dX6_odds_121 rfl (lv_at hl 5 rfl) ?_
                    refine g_topi (y := nI (nC v1)) hv_14 ?_
                    refine lv_i2l (v := lN (nC v1)) hx hb dX6_odds_122 (nI_l (by omega)) ?_
                    refine lv_iload hx hb dX6_odds_123 (lv_at hl 9 rfl) ?_
                    refine g_topi (y := nI (nC v5)) hv_48 ?_
                    refine z_calll [] (v := mLow ((g_X6_odds_77 ru fst fro fmo fkd fcd fsr v0 v1 v2 v3 v4).2) (nC v1) (nI (nC v5))) (fun _ _ h => h) (va_runS (As := [.long (lN ((g_X6_odds_77 ru fst fro fmo fkd fcd fsr v0 v1 v2 v3 v4).2)), .long (lN (nC v1)), .int (nI (nC v5))]) (rest := []) ⟨hx, hb, hml, hown, hts⟩ (c_X6_lowest l G (nI (nC v5)) ((g_X6_odds_77 ru fst fro fmo fkd fcd fsr v0 v1 v2 v3 v4).2) (nC v1) H.size (by omega) (⟨by omega, by omega⟩)) (va_cwS 3 hts gX6_odds_X6_lowest rfl rfl rfl (by decide +kernel) ⟨Nat.le_of_ble_eq_true rfl, Nat.le_of_ble_eq_true rfl⟩) ⟨gPre_blind, fun U hU hW => gPre_ofF [] hU hW hK hP hD (by decide +kernel) rfl⟩ rfl rfl hl.1 rfl (lv_room (Nat.le_of_ble_eq_true rfl)) dX6_odds_125 ⟨Nat.le_of_ble_eq_true rfl, Nat.le_of_ble_eq_true rfl⟩) hS hD hA rfl (fun u t H locs ht hvm hB hz1 hk1 hFq hAq hS => ?_)
                    obtain ⟨hP1, hK1, hD1⟩ := hB
                    have hP := zKeep hP hD [] hAq hk1 ht hP1 rfl
                    have hpost : (fun (r : Int64) (u : Int32 × Int32 × Int32 × Int32 × (Nat → Int32) × (Nat → Int32) × (Nat → Int32)) => match u with | (z31, z32, z33, z34, ysk, yna, ykp) => r = m_X6_odds pb jg ru fst fro fmo fkd fcd fsr v0 v1 v2 v3 v4 v5) (mLow ((g_X6_odds_77 ru fst fro fmo fkd fcd fsr v0 v1 v2 v3 v4).2) (nC v1) (nI (nC v5))) (zz31, zz32, zz33, zz34, x77sk, x77na, x77kp) := (show m_X6_odds pb jg ru fst fro fmo fkd fcd fsr v0 v1 v2 v3 v4 v5 = (mLow ((g_X6_odds_77 ru fst fro fmo fkd fcd fsr v0 v1 v2 v3 v4).2) (nC v1) (nI (nC v5))) from by unfold m_X6_odds; rw [if_pos p_4, if_pos p_12, if_pos p_21, if_pos p_29, if_pos p_37, if_pos p_46]).symm
                    exact W.lret (v := (mLow ((g_X6_odds_77 ru fst fro fmo fkd fcd fsr v0 v1 v2 v3 v4).2) (nC v1) (nI (nC v5)))) hx hb hr (fun t ht hW => ⟨⟨(mLow ((g_X6_odds_77 ru fst fro fmo fkd fcd fsr v0 v1 v2 v3 v4).2) (nC v1) (nI (nC v5))), (zz31, zz32, zz33, zz34, x77sk, x77na, x77kp), rfl, hpost, by rw [ht]; exact hP, va_K.moved hW.alike hK, hD⟩, hS.F ht⟩) hS.2.2 dX6_odds_128
                  · skip
                    have c_53N : k77 < (nC v1) := nI_le0 (a := (nC v1)) (b := k77) (by omega) (by omega) c_53
                    refine lv_aload_n hx hb dX6_odds_83 rfl (lv_at hl 3 rfl) ?_
                    refine lv_iload_n hx hb dX6_odds_84 rfl (lv_at hl 4 rfl) ?_
                    refine g_topi (y := nI (nC v0)) hv_6 ?_
                    refine lv_iload hx hb dX6_odds_85 (lv_at hl 0 rfl) ?_
                    refine lv_iadd hx hb dX6_odds_87 ?_
                    refine g_topi (y := nI ((nC v0) + k77)) (nI_add (nC v0) k77) ?_
                    refine lv_iload_n hx hb dX6_odds_88 rfl (lv_at hl 6 rfl) ?_
                    refine g_topi (y := nI (nC v2)) hv_23 ?_
                    refine lv_iload hx hb dX6_odds_89 (lv_at hl 7 rfl) ?_
                    refine g_topi (y := nI (nC v3)) hv_31 ?_
                    refine lv_iload hx hb dX6_odds_91 (lv_at hl 8 rfl) ?_
                    refine g_topi (y := nI (nC v4)) hv_39 ?_
                    refine z_callv [0, 1, 2, 3, 4, 5, 6, 7, 8, 9] (va_runV (As := [.int (nI ((nC v0) + k77)), .int (nI (nC v2)), .int (nI (nC v3)), .int (nI (nC v4))]) (rest := []) ⟨hx, hb, hml, hown, hts⟩ (c_X6_caseBy l G h0 kd mo st ro tp cd sr ir ih ss sq ce lw wo he sk na kp gb go fa ga vo pb jg td tx ru him s19 s20 s21 s22 s25 s26 s27 zz31 zz32 zz33 zz34 s39 s40 fst fro fmo fkd fcd fsr x77sk x77na x77kp (nI ((nC v0) + k77)) (nC v2) (nC v3) (nC v4) H.size (by first | exact hj | assumption | omega) (by first | exact hp | assumption | omega) (by omega) (by omega) (hwa _ (by omega)) (by first | exact hpb | assumption | omega) (by first | exact hjg | assumption | omega) (by first | exact htx | assumption | omega) (by first | exact hru | assumption | omega)) (cwV 4 hts gX6_odds_X6_caseBy rfl rfl rfl (by decide +kernel) ⟨Nat.le_of_ble_eq_true rfl, Nat.le_of_ble_eq_true rfl⟩) ⟨gPre_blind, va_recv (q := (RX6, TX6, 42)) hK hP (ci := 6) (q0 := 0) rfl rfl, fun U hU hW => gPre_of hU hW hK hP hD⟩ rfl rfl hl.1 rfl (lv_room (Nat.le_of_ble_eq_true rfl)) dX6_odds_93 ⟨Nat.le_of_ble_eq_true rfl, Nat.le_of_ble_eq_true rfl⟩) hS hD hA rfl (fun u t H locs ht hvm w_64 hB hz1 hk1 hFq hAq hS => ?_)
                    obtain ⟨ysk_65, yna_66, ykp_67⟩ := u
                    obtain ⟨hP1, hK1, hD1⟩ := hB
                    have hz9 : gPD G A [zo6 h0 (nI pb) kd mo st (nI jg) ro tp (nI td) cd sr (nI tx) (nI ru) him ir ih ss sq ce lw s19 s20 s21 s22 wo he s25 s26 s27 sk na kp (m_X6_caseBy_h031 ru fst fro fmo fkd fcd fsr (nI ((nC v0) + k77)) (nC v2) (nC v3) (nC v4)) (m_X6_caseBy_h032 ru fst fro fmo fkd fcd fsr (nI ((nC v0) + k77)) (nC v2) (nC v3) (nC v4)) zz33 (m_X6_caseBy_h034 ru fst fro fmo fkd fcd fsr (nI ((nC v0) + k77)) (nC v2) (nC v3) (nC v4)) gb go fa ga s39 s40 vo, zi G st 12 fst, zi G ro 12 fro, zi G mo 6 fmo, zi G kd 6 fkd, zi G cd 1200 fcd, zi G sr 24 (nF fsr), zi G sk 200 ysk_65, zi G na 6 yna_66, zi G kp 24 ykp_67] H := zFill hP hD [0, 1, 2, 3, 4, 5, 6, 7, 8, 9] [1, 2, 3, 4, 5, 6, 7, 8, 9, 10] hAq hk1 hFq ht hP1 hD1 rfl (by decide +kernel)
                    have hP := hz9.1
                    have hD := hz9.2
                    refine lv_lload hx hb dX6_odds_96 (lv_at hl 1 rfl) ?_
                    refine g_aget (D := G.1) (ci := 6) (v := .int (m_X6_caseBy_h034 ru fst fro fmo fkd fcd fsr (nI ((nC v0) + k77)) (nC v2) (nC v3) (nC v4))) (C := RX6) (T := TX6) (N := 42) hx hb dX6_odds_98 rfl (lv_at hl 3 rfl) hts hiX6 hown hK hP 0 rfl rfl 34 (by decide +kernel) kf214 (fun _ h9 => h9) rfl dX6_odds_99 ?_
                    refine lv_if_eq (tgt := 109) hx hb dX6_odds_102 (by decide +kernel) (fun c_68 => ?_) (fun c_68 => ?_)
                    · skip
                      refine lv_lconst (v := 0) hx hb dX6_odds_109 (by decide +kernel) ?_
                      refine lv_ladd hx hb dX6_odds_110 ?_
                      rw [lN_z]
                      refine lv_lstore (lv' := [zL 8 (lN so), zI 10 (nI k77), zI 7 1, zR 0 h0, zI 1 v0, zI 2 v1, zI 3 v2, zI 4 v3, zI 5 v4, zI 6 v5]) hx hb dX6_odds_111 hl (by decide +kernel) rfl (fun ls hl => ?_)
                      refine lv_iinc (v := nI (k77 + 1)) (lv' := [zI 10 (nI (k77 + 1)), zL 8 (lN so), zI 7 1, zR 0 h0, zI 1 v0, zI 2 v1, zI 3 v2, zI 4 v3, zI 5 v4, zI 6 v5]) hx hb dX6_odds_113 hl (k := 1) rfl (nI_add k77 1) (by decide +kernel) rfl (fun ls hl => ?_)
                      refine lv_goto (tgt := 77) hx hb dX6_odds_116 (by decide +kernel) ?_
                      exact ih9_77 (k77 + 1) so ysk_65 yna_66 ykp_67 (m_X6_caseBy_h031 ru fst fro fmo fkd fcd fsr (nI ((nC v0) + k77)) (nC v2) (nC v3) (nC v4)) (m_X6_caseBy_h032 ru fst fro fmo fkd fcd fsr (nI ((nC v0) + k77)) (nC v2) (nC v3) (nC v4)) zz33 (m_X6_caseBy_h034 ru fst fro fmo fkd fcd fsr (nI ((nC v0) + k77)) (nC v2) (nC v3) (nC v4)) (by omega) (Eq.trans (Eq.symm ((congrArg (fun z9 => p_X6_odds_77 ru fst fro fmo fkd fcd fsr v0 v2 v3 v4 (z9) k77 so) (show nC v1 - k77 = nC v1 - (k77 + 1) + 1 by omega)).trans (by show p_X6_odds_77 ru fst fro fmo fkd fcd fsr v0 v2 v3 v4 (nC v1 - (k77 + 1) + 1) k77 so = _; rw [p_X6_odds_77, if_pos c_68]))) R77) (by omega) (by omega) _ _ hP hD hS ls hl
                    · skip
                      refine lv_lconst (v := 1) hx hb dX6_odds_105 (by decide +kernel) ?_
                      refine lv_goto (tgt := 110) hx hb dX6_odds_106 (by decide +kernel) ?_
                      refine lv_ladd hx hb dX6_odds_110 ?_
                      rw [lN_1]
                      refine lv_lstore (lv' := [zL 8 (lN (so + 1)), zI 10 (nI k77), zI 7 1, zR 0 h0, zI 1 v0, zI 2 v1, zI 3 v2, zI 4 v3, zI 5 v4, zI 6 v5]) hx hb dX6_odds_111 hl (by decide +kernel) rfl (fun ls hl => ?_)
                      refine lv_iinc (v := nI (k77 + 1)) (lv' := [zI 10 (nI (k77 + 1)), zL 8 (lN (so + 1)), zI 7 1, zR 0 h0, zI 1 v0, zI 2 v1, zI 3 v2, zI 4 v3, zI 5 v4, zI 6 v5]) hx hb dX6_odds_113 hl (k := 1) rfl (nI_add k77 1) (by decide +kernel) rfl (fun ls hl => ?_)
                      refine lv_goto (tgt := 77) hx hb dX6_odds_116 (by decide +kernel) ?_
                      exact ih9_77 (k77 + 1) (so + 1) ysk_65 yna_66 ykp_67 (m_X6_caseBy_h031 ru fst fro fmo fkd fcd fsr (nI ((nC v0) + k77)) (nC v2) (nC v3) (nC v4)) (m_X6_caseBy_h032 ru fst fro fmo fkd fcd fsr (nI ((nC v0) + k77)) (nC v2) (nC v3) (nC v4)) zz33 (m_X6_caseBy_h034 ru fst fro fmo fkd fcd fsr (nI ((nC v0) + k77)) (nC v2) (nC v3) (nC v4)) (by omega) (Eq.trans (Eq.symm ((congrArg (fun z9 => p_X6_odds_77 ru fst fro fmo fkd fcd fsr v0 v2 v3 v4 (z9) k77 so) (show nC v1 - k77 = nC v1 - (k77 + 1) + 1 by omega)).trans (by show p_X6_odds_77 ru fst fro fmo fkd fcd fsr v0 v2 v3 v4 (nC v1 - (k77 + 1) + 1) k77 so = _; rw [p_X6_odds_77, if_neg c_68]))) R77) (by omega) (by omega) _ _ hP hD hS ls hl
              exact loop_77 (nC v1 - 0 + 1) 0 0 fsk fna fkp s31 s32 s33 s34 (by omega) (rfl) (Nat.le_refl 0) (by omega) _ _ hP hD hS ls hl
