/-- a part of a text, as the reference reads it: from a place and an end to others -/
def rP (tx td : Nat) (ftp fwo : Nat → Int32) (k : Int32) (za ou : Nat) (cd he : Nat → Int32) (b : Bool) (a2 o2 : Nat) (bg : Int32) (cd2 he2 : Nat → Int32) : Prop :=
  ((m_X6_next_h021 td ftp fwo za = 3 ∧ m_X6_next_h022 td ftp fwo za = k) ∧ ∃ j9, eRun tx td ftp fwo j9 (m_X6_next_h019 td ftp za) 0 ou 0 cd he 1 1 = some (b, a2, o2, bg, cd2, he2)) ∨ (¬ (m_X6_next_h021 td ftp fwo za = 3 ∧ m_X6_next_h022 td ftp fwo za = k) ∧ b = false ∧ bg = m_X6_next_h020 td ftp za)
/-- a text, as the reference reads it: whether it stands, where it stopped, its codes, its parts' ends -/
def rT (tx td : Nat) (ftp fwo fcd fhe : Nat → Int32) (b : Bool) (bg : Int32) (cd : Nat → Int32) (o1 o2 o3 : Nat) : Prop :=
  (b = false ∧ ∃ a2 o c2 h2, rP tx td ftp fwo 0 0 0 fcd fhe false a2 o bg c2 h2) ∨
  ∃ a1 b1 c1 h1, rP tx td ftp fwo 0 0 0 fcd fhe true a1 o1 b1 c1 h1 ∧ ((b = false ∧ ∃ a2 o c2 h2, rP tx td ftp fwo 1 a1 o1 c1 h1 false a2 o bg c2 h2) ∨
  ∃ a2 b2 c2 h2, rP tx td ftp fwo 1 a1 o1 c1 h1 true a2 o2 b2 c2 h2 ∧ ((b = false ∧ ∃ a3 o c3 h3, rP tx td ftp fwo 2 a2 o2 c2 h2 false a3 o bg c3 h3) ∨
  ∃ a3 b3 h3, rP tx td ftp fwo 2 a2 o2 c2 h2 true a3 o3 b3 cd h3 ∧ bg = m_X6_next_h020 td ftp a3 ∧ ((b = true ∧ m_X6_next_h021 td ftp fwo a3 = 0) ∨ (b = false ∧ ¬ m_X6_next_h021 td ftp fwo a3 = 0))))
theorem er_t {α : Type} {F : Nat → Option (Bool × α)} {x : α} {r : Int32} (h : ∃ j9 b9, F j9 = some (b9, x) ∧ r = bz b9) (c : ¬ r = 0) : ∃ j9, F j9 = some (true, x) := by
  obtain ⟨j, b, h1, h2⟩ := h
  cases b with
  | true => exact ⟨j, h1⟩
  | false => exact absurd h2 c
theorem er_f {α : Type} {F : Nat → Option (Bool × α)} {x : α} {r : Int32} (h : ∃ j9 b9, F j9 = some (b9, x) ∧ r = bz b9) (c : r = 0) : ∃ j9, F j9 = some (false, x) := by
  obtain ⟨j, b, h1, h2⟩ := h
  cases b with
  | true => exact absurd (h2.symm.trans c) (by decide +kernel)
  | false => exact ⟨j, h1⟩
theorem updN_lo {g : Nat → Nat} {k x i : Nat} (h : ¬ i = k) : updN g k x i = g i := if_neg h
theorem updN_at {g : Nat → Nat} {k x i : Nat} (h : i = k) : updN g k x i = x := if_pos h
theorem sr4 (g : Nat → Nat) (tx o1 o2 o3 : Nat) : updN (updN (updN (updN g (4 * tx + 0) 0) (4 * tx + 1) o1) (4 * tx + 2) o2) (4 * tx + 3) o3 (4 * tx) = 0 ∧ updN (updN (updN (updN g (4 * tx + 0) 0) (4 * tx + 1) o1) (4 * tx + 2) o2) (4 * tx + 3) o3 (4 * tx + 1) = o1 ∧ updN (updN (updN (updN g (4 * tx + 0) 0) (4 * tx + 1) o1) (4 * tx + 2) o2) (4 * tx + 3) o3 (4 * tx + 2) = o2 ∧ updN (updN (updN (updN g (4 * tx + 0) 0) (4 * tx + 1) o1) (4 * tx + 2) o2) (4 * tx + 3) o3 (4 * tx + 3) = o3 := by
  refine ⟨?_, ?_, ?_, updN_at rfl⟩
  · rw [updN_lo (by omega), updN_lo (by omega), updN_lo (by omega), updN_at (by omega)]
  · rw [updN_lo (by omega), updN_lo (by omega), updN_at rfl]
  · rw [updN_lo (by omega), updN_at rfl]
theorem nI_ne6 {t : Nat} (h : t < 6) : ¬ nI t = (6 : Int32) := fun z => absurd (nI_eq1 (a := t) (b := 6) (by omega) (by omega) z) (by omega)
abbrev q_X6_text_A (G : gG) (h0 kd mo st ro tp cd sr ir ih ss sq ce lw wo he sk na kp gb go fa ga vo : Nat) (pb : Nat) (jg : Nat) (td : Nat) (tx : Nat) (ru : Nat) (him : Int32) (s19 : Int32) (s20 : Int32) (s21 : Int32) (s22 : Int32) (s25 : Int32) (s26 : Int32) (s27 : Int32) (s31 : Int32) (s32 : Int32) (s33 : Int32) (s34 : Int32) (s39 : Int32) (s40 : Int32) (fcd : Nat → Int32) (fsr : Nat → Nat) (fhe : Nat → Int32) (ftp : Nat → Int32) (fwo : Nat → Int32) (A : Nat → Prop) : Array Value → State → Outcome → State → Prop := va_Qi (fun (r : Int32) (u : Int32 × Int32 × Int32 × Int32 × Int32 × Int32 × Int32 × Nat × (Nat → Int32) × (Nat → Int32) × (Nat → Nat) × Bool × Nat × Nat × Nat) => match u with | (zat, zbg, ztk, zvl, zhm, zop, zou, ztx, ycd, yhe, ysr, zok, zo1, zo2, zo3) => (∀ i, i < 200 * tx → ycd i = fcd i) ∧ (∀ i, i < 4 * tx → ysr i = fsr i) ∧ rT tx td ftp fwo fcd fhe zok zbg ycd zo1 zo2 zo3 ∧ ((zok = true ∧ r = nI tx ∧ ztx = tx + 1 ∧ mWf ycd ysr tx ∧ ysr (4 * tx) = 0 ∧ ysr (4 * tx + 1) = zo1 ∧ ysr (4 * tx + 2) = zo2 ∧ ysr (4 * tx + 3) = zo3) ∨ (zok = false ∧ r = -100 - zbg ∧ ztx = tx))) (fun (u : Int32 × Int32 × Int32 × Int32 × Int32 × Int32 × Int32 × Nat × (Nat → Int32) × (Nat → Int32) × (Nat → Nat) × Bool × Nat × Nat × Nat) t => match u with | (zat, zbg, ztk, zvl, zhm, zop, zou, ztx, ycd, yhe, ysr, zok, zo1, zo2, zo3) => va_P G.1 vwCl [zo6 h0 (nI pb) kd mo st (nI jg) ro tp 0 cd sr (nI ztx) (nI ru) him ir ih ss sq ce lw zat zbg ztk zvl wo he zhm zop zou sk na kp s31 s32 s33 s34 gb go fa ga s39 s40 vo, zi G cd 1200 ycd, zi G sr 24 (nF ysr), zi G he 200 yhe, zi G tp 160 ftp, zi G wo 96 fwo] t.heap ∧ gK G t ∧ va_D A [zo6 h0 (nI pb) kd mo st (nI jg) ro tp 0 cd sr (nI ztx) (nI ru) him ir ih ss sq ce lw zat zbg ztk zvl wo he zhm zop zou sk na kp s31 s32 s33 s34 gb go fa ga s39 s40 vo, zi G cd 1200 ycd, zi G sr 24 (nF ysr), zi G he 200 yhe, zi G tp 160 ftp, zi G wo 96 fwo]) A
set_option maxHeartbeats 4000000 in
set_option maxRecDepth 100000 in
theorem c_X6_text_A (l : Launch) (G : gG) (h0 kd mo st ro tp cd sr ir ih ss sq ce lw wo he sk na kp gb go fa ga vo : Nat) (pb : Nat) (jg : Nat) (td : Nat) (tx : Nat) (ru : Nat) (him : Int32) (s19 : Int32) (s20 : Int32) (s21 : Int32) (s22 : Int32) (s25 : Int32) (s26 : Int32) (s27 : Int32) (s31 : Int32) (s32 : Int32) (s33 : Int32) (s34 : Int32) (s39 : Int32) (s40 : Int32) (fcd : Nat → Int32) (fsr : Nat → Nat) (fhe : Nat → Int32) (ftp : Nat → Int32) (fwo : Nat → Int32) (sz : Nat) (htd : td ≤ 160) (htx : tx < 6) : Met l yX6_text wsX6_text ({ frames := 4, cells := 0, slots := 0, locals := 87 }) (gPre G [.ref h0] [zo6 h0 (nI pb) kd mo st (nI jg) ro tp (nI td) cd sr (nI tx) (nI ru) him ir ih ss sq ce lw s19 s20 s21 s22 wo he s25 s26 s27 sk na kp s31 s32 s33 s34 gb go fa ga s39 s40 vo, zi G cd 1200 fcd, zi G sr 24 (nF fsr), zi G he 200 fhe, zi G tp 160 ftp, zi G wo 96 fwo] sz) (q_X6_text_A G h0 kd mo st ro tp cd sr ir ih ss sq ce lw wo he sk na kp gb go fa ga vo pb jg td tx ru him s19 s20 s21 s22 s25 s26 s27 s31 s32 s33 s34 s39 s40 fcd fsr fhe ftp fwo (va_A [zo6 h0 (nI pb) kd mo st (nI jg) ro tp (nI td) cd sr (nI tx) (nI ru) him ir ih ss sq ce lw s19 s20 s21 s22 wo he s25 s26 s27 sk na kp s31 s32 s33 s34 gb go fa ga s39 s40 vo, zi G cd 1200 fcd, zi G sr 24 (nF fsr), zi G he 200 fhe, zi G tp 160 ftp, zi G wo 96 fwo] sz)) 0 0 (va_A [zo6 h0 (nI pb) kd mo st (nI jg) ro tp (nI td) cd sr (nI tx) (nI ru) him ir ih ss sq ce lw s19 s20 s21 s22 wo he s25 s26 s27 sk na kp s31 s32 s33 s34 gb go fa ga s39 s40 vo, zi G cd 1200 fcd, zi G sr 24 (nF fsr), zi G he 200 fhe, zi G tp 160 ftp, zi G wo 96 fwo] sz) := by
  refine Met.ofW (cc := cX6_text) (maxL := 3) (ret := (some .int)) (by decide +kernel) rfl ?_
  intro p e s m args below meth c s₁ B hml hv
  obtain ⟨rfl, hsz, hP, hK, hD0⟩ := hv
  have hx := B.exec
  have hb := B.bytes
  have hr := B.returns
  have hts := atoms_spec (ws := wsX6_text) B.pre
  have hown : s.vm.findClass RX6 = some m.cls := findClass_of_methodNamed B.named
  have hlocks := B.notSynchronized
  subst hsz
  have hD := hD0.self (sz := s.heap.size)
  generalize hAe : va_A [zo6 h0 (nI pb) kd mo st (nI jg) ro tp (nI td) cd sr (nI tx) (nI ru) him ir ih ss sq ce lw s19 s20 s21 s22 wo he s25 s26 s27 sk na kp s31 s32 s33 s34 gb go fa ga s39 s40 vo, zi G cd 1200 fcd, zi G sr 24 (nF fsr), zi G he 200 fhe, zi G tp 160 ftp, zi G wo 96 fwo] s.heap.size = A at hD ⊢
  have hA : ∀ q : Nat, s.heap.size ≤ q → A q := fun q h => by rw [← hAe]; exact Or.inr h
  have hS : va_S A s.heap s.heap [] := va_S.rf
  have hz9 : gPD G A [zo6 h0 (nI pb) kd mo st (nI jg) ro tp (nI td) cd sr (nI tx) (nI ru) him ir ih ss sq ce lw s19 s20 s21 s22 wo he s25 s26 s27 sk na kp s31 s32 s33 s34 gb go fa ga s39 s40 vo, zi G cd 1200 fcd, zi G sr 24 (nF fsr), zi G he 200 fhe, zi G tp 160 ftp, zi G wo 96 fwo] s.heap := ⟨hP, hD⟩
  have hP := hz9.1
  have hD := hz9.2
  have hl := lv_entry ([.ref h0]) (n := 3) (Nat.le_of_ble_eq_true rfl)
  rw [lg_entry_eq]
  generalize (lg_sl ([.ref h0]) ++ List.replicate (3 - (lg_sl ([.ref h0])).length) Slot.unset).toArray = ls at hl ⊢
  have hl : lv_has ls 3 [zR 0 h0] := hl
  have kf98 := hts (.fieldLink RX6 98 "PebbleInShoeModel" "texts" "I") (by decide +kernel)
  have hiX6 := (by decide +kernel : ∀ w ∈ wsX60, w ∈ wsX6_text)
  have kf111 := hts (.fieldLink RX6 111 "PebbleInShoeModel" "at" "I") (by decide +kernel)
  have kf127 := hts (.fieldLink RX6 127 "PebbleInShoeModel" "out" "I") (by decide +kernel)
  have kf117 := hts (.fieldLink RX6 117 "PebbleInShoeModel" "token" "I") (by decide +kernel)
  have kf28 := hts (.fieldLink RX6 28 "PebbleInShoeModel" "starts" "[I") (by decide +kernel)
  have kf80 := hts (.fieldLink RX6 80 "PebbleInShoeModel" "taped" "I") (by decide +kernel)
  have kf114 := hts (.fieldLink RX6 114 "PebbleInShoeModel" "begun" "I") (by decide +kernel)
  have kf120 := hts (.fieldLink RX6 120 "PebbleInShoeModel" "value" "I") (by decide +kernel)
  refine g_aget (D := G.1) (ci := 6) (v := .int (nI tx)) (C := RX6) (T := TX6) (N := 42) hx hb dX6_text_0 rfl (lv_at hl 0 rfl) hts hiX6 hown hK hP 0 rfl rfl 10 (by decide +kernel) kf98 (fun _ h9 => h9) rfl dX6_text_1 ?_
  refine lv_bipush (v := 6) hx hb dX6_text_4 (by decide +kernel) ?_
  refine lv_icmp_ne (tgt := 12) hx hb dX6_text_6 (by decide +kernel) (fun c_1 => ?_) (fun c_1 => ?_)
  rotate_left
  · exact absurd c_1 (nI_ne6 htx)
  refine lv_aload_n hx hb dX6_text_12 rfl (lv_at hl 0 rfl) ?_
  refine lv_iconst (v := 0) hx hb dX6_text_13 (by decide +kernel) ?_
  refine va_put (D := G.1) (ci := 6) (v := .int 0) (ty := .int) (C := RX6) (T := TX6) (N := 42) hx hb hts hiX6 tyX6 tyX6_ok nmX6 hown hK hP hD hS 0 rfl rfl 19 (by decide +kernel) kf111 (fun _ h9 => h9) rfl (by decide +kernel) rfl rfl (Nat.le_of_ble_eq_true rfl) dX6_text_14 (fun H locs hP hD hS => ?_)
  have hz9 : gPD G A [zo6 h0 (nI pb) kd mo st (nI jg) ro tp (nI td) cd sr (nI tx) (nI ru) him ir ih ss sq ce lw 0 s20 s21 s22 wo he s25 s26 s27 sk na kp s31 s32 s33 s34 gb go fa ga s39 s40 vo, zi G cd 1200 fcd, zi G sr 24 (nF fsr), zi G he 200 fhe, zi G tp 160 ftp, zi G wo 96 fwo] H := ⟨hP, hD⟩
  have hP := hz9.1
  have hD := hz9.2
  refine lv_aload_n hx hb dX6_text_17 rfl (lv_at hl 0 rfl) ?_
  refine lv_iconst (v := 0) hx hb dX6_text_18 (by decide +kernel) ?_
  refine va_put (D := G.1) (ci := 6) (v := .int 0) (ty := .int) (C := RX6) (T := TX6) (N := 42) hx hb hts hiX6 tyX6 tyX6_ok nmX6 hown hK hP hD hS 0 rfl rfl 27 (by decide +kernel) kf127 (fun _ h9 => h9) rfl (by decide +kernel) rfl rfl (Nat.le_of_ble_eq_true rfl) dX6_text_19 (fun H locs hP hD hS => ?_)
  have hz9 : gPD G A [zo6 h0 (nI pb) kd mo st (nI jg) ro tp (nI td) cd sr (nI tx) (nI ru) him ir ih ss sq ce lw 0 s20 s21 s22 wo he s25 s26 0 sk na kp s31 s32 s33 s34 gb go fa ga s39 s40 vo, zi G cd 1200 fcd, zi G sr 24 (nF fsr), zi G he 200 fhe, zi G tp 160 ftp, zi G wo 96 fwo] H := ⟨hP, hD⟩
  have hP := hz9.1
  have hD := hz9.2
  refine lv_iconst (v := 1) hx hb dX6_text_22 (by decide +kernel) ?_
  refine lv_istore_n (lv' := [zI 1 1, zR 0 h0]) hx hb dX6_text_23 rfl hl (by decide +kernel) rfl (fun ls hl => ?_)
  refine lv_iconst (v := 0) hx hb dX6_text_24 (by decide +kernel) ?_
  refine lv_istore_n (lv' := [zI 2 0, zI 1 1, zR 0 h0]) hx hb dX6_text_25 rfl hl (by decide +kernel) rfl (fun ls hl => ?_)
  refine lv_iload_n hx hb dX6_text_26 rfl (lv_at hl 0 rfl) ?_
  refine lv_iconst (v := 3) hx hb dX6_text_27 (by decide +kernel) ?_
  refine lv_icmp_ge (tgt := 101) hx hb dX6_text_28 (by decide +kernel) (fun c_2 => ?_) (fun c_2 => ?_)
  · exact absurd c_2 (by decide +kernel)
  refine lv_iload_n hx hb dX6_text_31 rfl (lv_at hl 1 rfl) ?_
  refine lv_if_eq (tgt := 101) hx hb dX6_text_32 (by decide +kernel) (fun c_3 => ?_) (fun c_3 => ?_)
  · exact absurd c_3 (by decide +kernel)
  refine lv_aload_n hx hb dX6_text_35 rfl (lv_at hl 2 rfl) ?_
  refine z_callv [0, 4, 5] (va_runV (As := []) (rest := []) ⟨hx, hb, hml, hown, hts⟩ (c_X6_next l G h0 kd mo st ro tp cd sr ir ih ss sq ce lw wo he sk na kp gb go fa ga vo pb jg td tx ru him s20 s21 s22 s25 s26 0 s31 s32 s33 s34 s39 s40 ftp fwo 0 H.size (htd) (by omega)) (cwV 0 hts gX6_text_X6_next rfl rfl rfl (by decide +kernel) ⟨Nat.le_of_ble_eq_true rfl, Nat.le_of_ble_eq_true rfl⟩) ⟨gPre_blind, va_recv (q := (RX6, TX6, 42)) hK hP (ci := 6) (q0 := 0) rfl rfl, fun U hU hW => gPre_ofF [0, 4, 5] hU hW hK hP hD (by decide +kernel) rfl⟩ rfl rfl hl.1 rfl (lv_room (Nat.le_of_ble_eq_true rfl)) dX6_text_36 ⟨Nat.le_of_ble_eq_true rfl, Nat.le_of_ble_eq_true rfl⟩) hS hD hA rfl (fun u t H locs ht hvm w_5 hB hz1 hk1 hFq hAq hS => ?_)
  obtain ⟨hP1, hK1, hD1⟩ := hB
  have w_5 : 0 ≤ (m_X6_next_h019 td ftp 0) ∧ (m_X6_next_h019 td ftp 0) ≤ td ∧ (¬ (m_X6_next_h021 td ftp fwo 0) = 0 → 0 < (m_X6_next_h019 td ftp 0)) ∧ ((m_X6_next_h021 td ftp fwo 0) = 2 → 0 ≤ (m_X6_next_h022 td ftp fwo 0) ∧ (m_X6_next_h022 td ftp fwo 0) < 6) ∧ ((m_X6_next_h021 td ftp fwo 0) = 1 → 100000 ≤ 100000 + (m_X6_next_h022 td ftp fwo 0)) := w_5
  have hz9 : gPD G A [zo6 h0 (nI pb) kd mo st (nI jg) ro tp (nI td) cd sr (nI tx) (nI ru) him ir ih ss sq ce lw (nI (m_X6_next_h019 td ftp 0)) (m_X6_next_h020 td ftp 0) (m_X6_next_h021 td ftp fwo 0) (m_X6_next_h022 td ftp fwo 0) wo he s25 s26 0 sk na kp s31 s32 s33 s34 gb go fa ga s39 s40 vo, zi G cd 1200 fcd, zi G sr 24 (nF fsr), zi G he 200 fhe, zi G tp 160 ftp, zi G wo 96 fwo] H := zFill hP hD [0, 4, 5] [1, 0, 0, 0, 2, 3] hAq hk1 hFq ht hP1 hD1 rfl (by decide +kernel)
  have hP := hz9.1
  have hD := hz9.2
  obtain ⟨hn10, hn20, hn30, hn40, hn50⟩ := w_5
  refine g_aget (D := G.1) (ci := 6) (v := .int (m_X6_next_h021 td ftp fwo 0)) (C := RX6) (T := TX6) (N := 42) hx hb dX6_text_39 rfl (lv_at hl 2 rfl) hts hiX6 hown hK hP 0 rfl rfl 21 (by decide +kernel) kf117 (fun _ h9 => h9) rfl dX6_text_40 ?_
  refine lv_iconst (v := 3) hx hb dX6_text_43 (by decide +kernel) ?_
  refine lv_icmp_ne (tgt := 59) hx hb dX6_text_44 (by decide +kernel) (fun c_6 => ?_) (fun c_6 => ?_)
  · skip
    refine lv_iconst (v := 0) hx hb dX6_text_59 (by decide +kernel) ?_
    refine lv_istore_n (lv' := [zI 1 0, zI 2 0, zR 0 h0]) hx hb dX6_text_60 rfl hl (by decide +kernel) rfl (fun ls hl => ?_)
    refine g_aget (D := G.1) (ci := 6) (v := .ref sr) (C := RX6) (T := TX6) (N := 42) hx hb dX6_text_61 rfl (lv_at hl 2 rfl) hts hiX6 hown hK hP 0 rfl rfl 9 (by decide +kernel) kf28 (fun _ h9 => h9) rfl dX6_text_62 ?_
    refine lv_iconst (v := 4) hx hb dX6_text_65 (by decide +kernel) ?_
    refine g_aget (D := G.1) (ci := 6) (v := .int (nI tx)) (C := RX6) (T := TX6) (N := 42) hx hb dX6_text_66 rfl (lv_at hl 2 rfl) hts hiX6 hown hK hP 0 rfl rfl 10 (by decide +kernel) kf98 (fun _ h9 => h9) rfl dX6_text_67 ?_
    refine lv_imul hx hb dX6_text_70 ?_
    refine g_topi (y := nI (4 * tx)) (pk_mul 4 tx) ?_
    refine lv_iload_n hx hb dX6_text_71 rfl (lv_at hl 1 rfl) ?_
    refine lv_iadd hx hb dX6_text_72 ?_
    refine g_topi (y := nI ((4 * tx) + 0)) (nI_add (4 * tx) 0) ?_
    refine g_aget (D := G.1) (ci := 6) (v := .int 0) (C := RX6) (T := TX6) (N := 42) hx hb dX6_text_73 rfl (lv_at hl 2 rfl) hts hiX6 hown hK hP 0 rfl rfl 27 (by decide +kernel) kf127 (fun _ h9 => h9) rfl dX6_text_74 ?_
    refine va_iast (D := G.1) hx hb hK hP hD hS 2 0 rfl rfl (i := (nI ((4 * tx) + 0))) (x := 0) (vpn (by omega) rfl) dX6_text_77 (fun H locs hP hD hS => ?_)
    have hz9 : gPD G A [zo6 h0 (nI pb) kd mo st (nI jg) ro tp (nI td) cd sr (nI tx) (nI ru) him ir ih ss sq ce lw (nI (m_X6_next_h019 td ftp 0)) (m_X6_next_h020 td ftp 0) (m_X6_next_h021 td ftp fwo 0) (m_X6_next_h022 td ftp fwo 0) wo he s25 s26 0 sk na kp s31 s32 s33 s34 gb go fa ga s39 s40 vo, zi G cd 1200 fcd, zi G sr 24 (nF (updN fsr ((4 * tx) + 0) 0)), zi G he 200 fhe, zi G tp 160 ftp, zi G wo 96 fwo] H := ⟨by rw [nI_clamp (by omega), show upd (nF fsr) ((4 * tx) + 0) 0 = nF (updN fsr ((4 * tx) + 0) 0) from nF_upd] at hP; exact hP, by rw [nI_clamp (by omega), show upd (nF fsr) ((4 * tx) + 0) 0 = nF (updN fsr ((4 * tx) + 0) 0) from nF_upd] at hD; exact hD⟩
    have hP := hz9.1
    have hD := hz9.2
    refine lv_iload_n hx hb dX6_text_78 rfl (lv_at hl 0 rfl) ?_
    refine lv_if_eq (tgt := 93) hx hb dX6_text_79 (by decide +kernel) (fun c_9 => ?_) (fun c_9 => ?_)
    rotate_left
    · exact absurd (by decide +kernel) c_9
    refine lv_iconst (v := 0) hx hb dX6_text_93 (by decide +kernel) ?_
    refine lv_istore_n (lv' := [zI 1 0, zI 2 0, zR 0 h0]) hx hb dX6_text_94 rfl hl (by decide +kernel) rfl (fun ls hl => ?_)
    refine lv_iinc (v := 1) (lv' := [zI 2 1, zI 1 0, zR 0 h0]) hx hb dX6_text_95 hl (k := 1) rfl (by decide +kernel) (by decide +kernel) rfl (fun ls hl => ?_)
    refine lv_goto (tgt := 26) hx hb dX6_text_98 (by decide +kernel) ?_
    refine lv_iload_n hx hb dX6_text_26 rfl (lv_at hl 0 rfl) ?_
    refine lv_iconst (v := 3) hx hb dX6_text_27 (by decide +kernel) ?_
    refine lv_icmp_ge (tgt := 101) hx hb dX6_text_28 (by decide +kernel) (fun c_10 => ?_) (fun c_10 => ?_)
    · exact absurd c_10 (by decide +kernel)
    refine lv_iload_n hx hb dX6_text_31 rfl (lv_at hl 1 rfl) ?_
    refine lv_if_eq (tgt := 101) hx hb dX6_text_32 (by decide +kernel) (fun c_11 => ?_) (fun c_11 => ?_)
    rotate_left
    · exact absurd (by decide +kernel) c_11
    refine lv_iload_n hx hb dX6_text_101 rfl (lv_at hl 1 rfl) ?_
    refine lv_if_eq (tgt := 122) hx hb dX6_text_102 (by decide +kernel) (fun c_12 => ?_) (fun c_12 => ?_)
    rotate_left
    · exact absurd (by decide +kernel) c_12
    refine g_aget (D := G.1) (ci := 6) (v := .ref sr) (C := RX6) (T := TX6) (N := 42) hx hb dX6_text_122 rfl (lv_at hl 2 rfl) hts hiX6 hown hK hP 0 rfl rfl 9 (by decide +kernel) kf28 (fun _ h9 => h9) rfl dX6_text_123 ?_
    refine lv_iconst (v := 4) hx hb dX6_text_126 (by decide +kernel) ?_
    refine g_aget (D := G.1) (ci := 6) (v := .int (nI tx)) (C := RX6) (T := TX6) (N := 42) hx hb dX6_text_127 rfl (lv_at hl 2 rfl) hts hiX6 hown hK hP 0 rfl rfl 10 (by decide +kernel) kf98 (fun _ h9 => h9) rfl dX6_text_128 ?_
    refine lv_imul hx hb dX6_text_131 ?_
    refine g_topi (y := nI (4 * tx)) (pk_mul 4 tx) ?_
    refine lv_iconst (v := 3) hx hb dX6_text_132 (by decide +kernel) ?_
    refine lv_iadd hx hb dX6_text_133 ?_
    refine g_topi (y := nI ((4 * tx) + 3)) (nI_add (4 * tx) 3) ?_
    refine g_aget (D := G.1) (ci := 6) (v := .int 0) (C := RX6) (T := TX6) (N := 42) hx hb dX6_text_134 rfl (lv_at hl 2 rfl) hts hiX6 hown hK hP 0 rfl rfl 27 (by decide +kernel) kf127 (fun _ h9 => h9) rfl dX6_text_135 ?_
    refine va_iast (D := G.1) hx hb hK hP hD hS 2 0 rfl rfl (i := (nI ((4 * tx) + 3))) (x := 0) (vpn (by omega) rfl) dX6_text_138 (fun H locs hP hD hS => ?_)
    have hz9 : gPD G A [zo6 h0 (nI pb) kd mo st (nI jg) ro tp (nI td) cd sr (nI tx) (nI ru) him ir ih ss sq ce lw (nI (m_X6_next_h019 td ftp 0)) (m_X6_next_h020 td ftp 0) (m_X6_next_h021 td ftp fwo 0) (m_X6_next_h022 td ftp fwo 0) wo he s25 s26 0 sk na kp s31 s32 s33 s34 gb go fa ga s39 s40 vo, zi G cd 1200 fcd, zi G sr 24 (nF (updN (updN fsr ((4 * tx) + 0) 0) ((4 * tx) + 3) 0)), zi G he 200 fhe, zi G tp 160 ftp, zi G wo 96 fwo] H := ⟨by rw [nI_clamp (by omega), show upd (nF (updN fsr ((4 * tx) + 0) 0)) ((4 * tx) + 3) 0 = nF (updN (updN fsr ((4 * tx) + 0) 0) ((4 * tx) + 3) 0) from nF_upd] at hP; exact hP, by rw [nI_clamp (by omega), show upd (nF (updN fsr ((4 * tx) + 0) 0)) ((4 * tx) + 3) 0 = nF (updN (updN fsr ((4 * tx) + 0) 0) ((4 * tx) + 3) 0) from nF_upd] at hD; exact hD⟩
    have hP := hz9.1
    have hD := hz9.2
    refine lv_aload_n hx hb dX6_text_139 rfl (lv_at hl 2 rfl) ?_
    refine lv_iconst (v := 0) hx hb dX6_text_140 (by decide +kernel) ?_
    refine va_put (D := G.1) (ci := 6) (v := .int 0) (ty := .int) (C := RX6) (T := TX6) (N := 42) hx hb hts hiX6 tyX6 tyX6_ok nmX6 hown hK hP hD hS 0 rfl rfl 7 (by decide +kernel) kf80 (fun _ h9 => h9) rfl (by decide +kernel) rfl rfl (Nat.le_of_ble_eq_true rfl) dX6_text_141 (fun H locs hP hD hS => ?_)
    have hz9 : gPD G A [zo6 h0 (nI pb) kd mo st (nI jg) ro tp 0 cd sr (nI tx) (nI ru) him ir ih ss sq ce lw (nI (m_X6_next_h019 td ftp 0)) (m_X6_next_h020 td ftp 0) (m_X6_next_h021 td ftp fwo 0) (m_X6_next_h022 td ftp fwo 0) wo he s25 s26 0 sk na kp s31 s32 s33 s34 gb go fa ga s39 s40 vo, zi G cd 1200 fcd, zi G sr 24 (nF (updN (updN fsr ((4 * tx) + 0) 0) ((4 * tx) + 3) 0)), zi G he 200 fhe, zi G tp 160 ftp, zi G wo 96 fwo] H := ⟨hP, hD⟩
    have hP := hz9.1
    have hD := hz9.2
    refine lv_iload_n hx hb dX6_text_144 rfl (lv_at hl 1 rfl) ?_
    refine lv_if_ne (tgt := 156) hx hb dX6_text_145 (by decide +kernel) (fun c_15 => ?_) (fun c_15 => ?_)
    · exact absurd (by decide +kernel) c_15
    refine lv_bipush (v := -100) hx hb dX6_text_148 (by decide +kernel) ?_
    refine g_aget (D := G.1) (ci := 6) (v := .int (m_X6_next_h020 td ftp 0)) (C := RX6) (T := TX6) (N := 42) hx hb dX6_text_150 rfl (lv_at hl 2 rfl) hts hiX6 hown hK hP 0 rfl rfl 20 (by decide +kernel) kf114 (fun _ h9 => h9) rfl dX6_text_151 ?_
    refine lv_isub hx hb dX6_text_154 ?_
    have hpost : (fun (r : Int32) (u : Int32 × Int32 × Int32 × Int32 × Int32 × Int32 × Int32 × Nat × (Nat → Int32) × (Nat → Int32) × (Nat → Nat) × Bool × Nat × Nat × Nat) => match u with | (zat, zbg, ztk, zvl, zhm, zop, zou, ztx, ycd, yhe, ysr, zok, zo1, zo2, zo3) => (∀ i, i < 200 * tx → ycd i = fcd i) ∧ (∀ i, i < 4 * tx → ysr i = fsr i) ∧ rT tx td ftp fwo fcd fhe zok zbg ycd zo1 zo2 zo3 ∧ ((zok = true ∧ r = nI tx ∧ ztx = tx + 1 ∧ mWf ycd ysr tx ∧ ysr (4 * tx) = 0 ∧ ysr (4 * tx + 1) = zo1 ∧ ysr (4 * tx + 2) = zo2 ∧ ysr (4 * tx + 3) = zo3) ∨ (zok = false ∧ r = -100 - zbg ∧ ztx = tx))) ((-100) - (m_X6_next_h020 td ftp 0)) (nI (m_X6_next_h019 td ftp 0), (m_X6_next_h020 td ftp 0), (m_X6_next_h021 td ftp fwo 0), (m_X6_next_h022 td ftp fwo 0), s25, s26, 0, tx, fcd, fhe, (updN (updN fsr ((4 * tx) + 0) 0) ((4 * tx) + 3) 0), false, 0, 0, 0) := by exact ⟨fun i hi => rfl, fun i hi => by rw [updN_lo (by omega), updN_lo (by omega)], Or.inl ⟨rfl, 0, 0, fcd, fhe, Or.inr ⟨fun z => c_6 z.1, rfl, rfl⟩⟩, Or.inr ⟨rfl, rfl, rfl⟩⟩
    exact W.iret (v := ((-100) - (m_X6_next_h020 td ftp 0))) hx hb hr (fun t ht hW => ⟨⟨((-100) - (m_X6_next_h020 td ftp 0)), (nI (m_X6_next_h019 td ftp 0), (m_X6_next_h020 td ftp 0), (m_X6_next_h021 td ftp fwo 0), (m_X6_next_h022 td ftp fwo 0), s25, s26, 0, tx, fcd, fhe, (updN (updN fsr ((4 * tx) + 0) 0) ((4 * tx) + 3) 0), false, 0, 0, 0), rfl, hpost, by rw [ht]; exact hP, va_K.moved hW.alike hK, hD⟩, hS.F ht⟩) hS.2.2 dX6_text_155
  · skip
    refine g_aget (D := G.1) (ci := 6) (v := .int (m_X6_next_h022 td ftp fwo 0)) (C := RX6) (T := TX6) (N := 42) hx hb dX6_text_47 rfl (lv_at hl 2 rfl) hts hiX6 hown hK hP 0 rfl rfl 22 (by decide +kernel) kf120 (fun _ h9 => h9) rfl dX6_text_48 ?_
    refine lv_iload_n hx hb dX6_text_51 rfl (lv_at hl 0 rfl) ?_
    refine lv_icmp_ne (tgt := 59) hx hb dX6_text_52 (by decide +kernel) (fun c_16 => ?_) (fun c_16 => ?_)
    · skip
      refine lv_iconst (v := 0) hx hb dX6_text_59 (by decide +kernel) ?_
      refine lv_istore_n (lv' := [zI 1 0, zI 2 0, zR 0 h0]) hx hb dX6_text_60 rfl hl (by decide +kernel) rfl (fun ls hl => ?_)
      refine g_aget (D := G.1) (ci := 6) (v := .ref sr) (C := RX6) (T := TX6) (N := 42) hx hb dX6_text_61 rfl (lv_at hl 2 rfl) hts hiX6 hown hK hP 0 rfl rfl 9 (by decide +kernel) kf28 (fun _ h9 => h9) rfl dX6_text_62 ?_
      refine lv_iconst (v := 4) hx hb dX6_text_65 (by decide +kernel) ?_
      refine g_aget (D := G.1) (ci := 6) (v := .int (nI tx)) (C := RX6) (T := TX6) (N := 42) hx hb dX6_text_66 rfl (lv_at hl 2 rfl) hts hiX6 hown hK hP 0 rfl rfl 10 (by decide +kernel) kf98 (fun _ h9 => h9) rfl dX6_text_67 ?_
      refine lv_imul hx hb dX6_text_70 ?_
      refine g_topi (y := nI (4 * tx)) (pk_mul 4 tx) ?_
      refine lv_iload_n hx hb dX6_text_71 rfl (lv_at hl 1 rfl) ?_
      refine lv_iadd hx hb dX6_text_72 ?_
      refine g_topi (y := nI ((4 * tx) + 0)) (nI_add (4 * tx) 0) ?_
      refine g_aget (D := G.1) (ci := 6) (v := .int 0) (C := RX6) (T := TX6) (N := 42) hx hb dX6_text_73 rfl (lv_at hl 2 rfl) hts hiX6 hown hK hP 0 rfl rfl 27 (by decide +kernel) kf127 (fun _ h9 => h9) rfl dX6_text_74 ?_
      refine va_iast (D := G.1) hx hb hK hP hD hS 2 0 rfl rfl (i := (nI ((4 * tx) + 0))) (x := 0) (vpn (by omega) rfl) dX6_text_77 (fun H locs hP hD hS => ?_)
      have hz9 : gPD G A [zo6 h0 (nI pb) kd mo st (nI jg) ro tp (nI td) cd sr (nI tx) (nI ru) him ir ih ss sq ce lw (nI (m_X6_next_h019 td ftp 0)) (m_X6_next_h020 td ftp 0) (m_X6_next_h021 td ftp fwo 0) (m_X6_next_h022 td ftp fwo 0) wo he s25 s26 0 sk na kp s31 s32 s33 s34 gb go fa ga s39 s40 vo, zi G cd 1200 fcd, zi G sr 24 (nF (updN fsr ((4 * tx) + 0) 0)), zi G he 200 fhe, zi G tp 160 ftp, zi G wo 96 fwo] H := ⟨by rw [nI_clamp (by omega), show upd (nF fsr) ((4 * tx) + 0) 0 = nF (updN fsr ((4 * tx) + 0) 0) from nF_upd] at hP; exact hP, by rw [nI_clamp (by omega), show upd (nF fsr) ((4 * tx) + 0) 0 = nF (updN fsr ((4 * tx) + 0) 0) from nF_upd] at hD; exact hD⟩
      have hP := hz9.1
      have hD := hz9.2
      refine lv_iload_n hx hb dX6_text_78 rfl (lv_at hl 0 rfl) ?_
      refine lv_if_eq (tgt := 93) hx hb dX6_text_79 (by decide +kernel) (fun c_19 => ?_) (fun c_19 => ?_)
      rotate_left
      · exact absurd (by decide +kernel) c_19
      refine lv_iconst (v := 0) hx hb dX6_text_93 (by decide +kernel) ?_
      refine lv_istore_n (lv' := [zI 1 0, zI 2 0, zR 0 h0]) hx hb dX6_text_94 rfl hl (by decide +kernel) rfl (fun ls hl => ?_)
      refine lv_iinc (v := 1) (lv' := [zI 2 1, zI 1 0, zR 0 h0]) hx hb dX6_text_95 hl (k := 1) rfl (by decide +kernel) (by decide +kernel) rfl (fun ls hl => ?_)
      refine lv_goto (tgt := 26) hx hb dX6_text_98 (by decide +kernel) ?_
      refine lv_iload_n hx hb dX6_text_26 rfl (lv_at hl 0 rfl) ?_
      refine lv_iconst (v := 3) hx hb dX6_text_27 (by decide +kernel) ?_
      refine lv_icmp_ge (tgt := 101) hx hb dX6_text_28 (by decide +kernel) (fun c_20 => ?_) (fun c_20 => ?_)
      · exact absurd c_20 (by decide +kernel)
      refine lv_iload_n hx hb dX6_text_31 rfl (lv_at hl 1 rfl) ?_
      refine lv_if_eq (tgt := 101) hx hb dX6_text_32 (by decide +kernel) (fun c_21 => ?_) (fun c_21 => ?_)
      rotate_left
      · exact absurd (by decide +kernel) c_21
      refine lv_iload_n hx hb dX6_text_101 rfl (lv_at hl 1 rfl) ?_
      refine lv_if_eq (tgt := 122) hx hb dX6_text_102 (by decide +kernel) (fun c_22 => ?_) (fun c_22 => ?_)
      rotate_left
      · exact absurd (by decide +kernel) c_22
      refine g_aget (D := G.1) (ci := 6) (v := .ref sr) (C := RX6) (T := TX6) (N := 42) hx hb dX6_text_122 rfl (lv_at hl 2 rfl) hts hiX6 hown hK hP 0 rfl rfl 9 (by decide +kernel) kf28 (fun _ h9 => h9) rfl dX6_text_123 ?_
      refine lv_iconst (v := 4) hx hb dX6_text_126 (by decide +kernel) ?_
      refine g_aget (D := G.1) (ci := 6) (v := .int (nI tx)) (C := RX6) (T := TX6) (N := 42) hx hb dX6_text_127 rfl (lv_at hl 2 rfl) hts hiX6 hown hK hP 0 rfl rfl 10 (by decide +kernel) kf98 (fun _ h9 => h9) rfl dX6_text_128 ?_
      refine lv_imul hx hb dX6_text_131 ?_
      refine g_topi (y := nI (4 * tx)) (pk_mul 4 tx) ?_
      refine lv_iconst (v := 3) hx hb dX6_text_132 (by decide +kernel) ?_
      refine lv_iadd hx hb dX6_text_133 ?_
      refine g_topi (y := nI ((4 * tx) + 3)) (nI_add (4 * tx) 3) ?_
      refine g_aget (D := G.1) (ci := 6) (v := .int 0) (C := RX6) (T := TX6) (N := 42) hx hb dX6_text_134 rfl (lv_at hl 2 rfl) hts hiX6 hown hK hP 0 rfl rfl 27 (by decide +kernel) kf127 (fun _ h9 => h9) rfl dX6_text_135 ?_
      refine va_iast (D := G.1) hx hb hK hP hD hS 2 0 rfl rfl (i := (nI ((4 * tx) + 3))) (x := 0) (vpn (by omega) rfl) dX6_text_138 (fun H locs hP hD hS => ?_)
      have hz9 : gPD G A [zo6 h0 (nI pb) kd mo st (nI jg) ro tp (nI td) cd sr (nI tx) (nI ru) him ir ih ss sq ce lw (nI (m_X6_next_h019 td ftp 0)) (m_X6_next_h020 td ftp 0) (m_X6_next_h021 td ftp fwo 0) (m_X6_next_h022 td ftp fwo 0) wo he s25 s26 0 sk na kp s31 s32 s33 s34 gb go fa ga s39 s40 vo, zi G cd 1200 fcd, zi G sr 24 (nF (updN (updN fsr ((4 * tx) + 0) 0) ((4 * tx) + 3) 0)), zi G he 200 fhe, zi G tp 160 ftp, zi G wo 96 fwo] H := ⟨by rw [nI_clamp (by omega), show upd (nF (updN fsr ((4 * tx) + 0) 0)) ((4 * tx) + 3) 0 = nF (updN (updN fsr ((4 * tx) + 0) 0) ((4 * tx) + 3) 0) from nF_upd] at hP; exact hP, by rw [nI_clamp (by omega), show upd (nF (updN fsr ((4 * tx) + 0) 0)) ((4 * tx) + 3) 0 = nF (updN (updN fsr ((4 * tx) + 0) 0) ((4 * tx) + 3) 0) from nF_upd] at hD; exact hD⟩
      have hP := hz9.1
      have hD := hz9.2
      refine lv_aload_n hx hb dX6_text_139 rfl (lv_at hl 2 rfl) ?_
      refine lv_iconst (v := 0) hx hb dX6_text_140 (by decide +kernel) ?_
      refine va_put (D := G.1) (ci := 6) (v := .int 0) (ty := .int) (C := RX6) (T := TX6) (N := 42) hx hb hts hiX6 tyX6 tyX6_ok nmX6 hown hK hP hD hS 0 rfl rfl 7 (by decide +kernel) kf80 (fun _ h9 => h9) rfl (by decide +kernel) rfl rfl (Nat.le_of_ble_eq_true rfl) dX6_text_141 (fun H locs hP hD hS => ?_)
      have hz9 : gPD G A [zo6 h0 (nI pb) kd mo st (nI jg) ro tp 0 cd sr (nI tx) (nI ru) him ir ih ss sq ce lw (nI (m_X6_next_h019 td ftp 0)) (m_X6_next_h020 td ftp 0) (m_X6_next_h021 td ftp fwo 0) (m_X6_next_h022 td ftp fwo 0) wo he s25 s26 0 sk na kp s31 s32 s33 s34 gb go fa ga s39 s40 vo, zi G cd 1200 fcd, zi G sr 24 (nF (updN (updN fsr ((4 * tx) + 0) 0) ((4 * tx) + 3) 0)), zi G he 200 fhe, zi G tp 160 ftp, zi G wo 96 fwo] H := ⟨hP, hD⟩
      have hP := hz9.1
      have hD := hz9.2
      refine lv_iload_n hx hb dX6_text_144 rfl (lv_at hl 1 rfl) ?_
      refine lv_if_ne (tgt := 156) hx hb dX6_text_145 (by decide +kernel) (fun c_25 => ?_) (fun c_25 => ?_)
      · exact absurd (by decide +kernel) c_25
      refine lv_bipush (v := -100) hx hb dX6_text_148 (by decide +kernel) ?_
      refine g_aget (D := G.1) (ci := 6) (v := .int (m_X6_next_h020 td ftp 0)) (C := RX6) (T := TX6) (N := 42) hx hb dX6_text_150 rfl (lv_at hl 2 rfl) hts hiX6 hown hK hP 0 rfl rfl 20 (by decide +kernel) kf114 (fun _ h9 => h9) rfl dX6_text_151 ?_
      refine lv_isub hx hb dX6_text_154 ?_
      have hpost : (fun (r : Int32) (u : Int32 × Int32 × Int32 × Int32 × Int32 × Int32 × Int32 × Nat × (Nat → Int32) × (Nat → Int32) × (Nat → Nat) × Bool × Nat × Nat × Nat) => match u with | (zat, zbg, ztk, zvl, zhm, zop, zou, ztx, ycd, yhe, ysr, zok, zo1, zo2, zo3) => (∀ i, i < 200 * tx → ycd i = fcd i) ∧ (∀ i, i < 4 * tx → ysr i = fsr i) ∧ rT tx td ftp fwo fcd fhe zok zbg ycd zo1 zo2 zo3 ∧ ((zok = true ∧ r = nI tx ∧ ztx = tx + 1 ∧ mWf ycd ysr tx ∧ ysr (4 * tx) = 0 ∧ ysr (4 * tx + 1) = zo1 ∧ ysr (4 * tx + 2) = zo2 ∧ ysr (4 * tx + 3) = zo3) ∨ (zok = false ∧ r = -100 - zbg ∧ ztx = tx))) ((-100) - (m_X6_next_h020 td ftp 0)) (nI (m_X6_next_h019 td ftp 0), (m_X6_next_h020 td ftp 0), (m_X6_next_h021 td ftp fwo 0), (m_X6_next_h022 td ftp fwo 0), s25, s26, 0, tx, fcd, fhe, (updN (updN fsr ((4 * tx) + 0) 0) ((4 * tx) + 3) 0), false, 0, 0, 0) := by exact ⟨fun i hi => rfl, fun i hi => by rw [updN_lo (by omega), updN_lo (by omega)], Or.inl ⟨rfl, 0, 0, fcd, fhe, Or.inr ⟨fun z => c_16 z.2, rfl, rfl⟩⟩, Or.inr ⟨rfl, rfl, rfl⟩⟩
      exact W.iret (v := ((-100) - (m_X6_next_h020 td ftp 0))) hx hb hr (fun t ht hW => ⟨⟨((-100) - (m_X6_next_h020 td ftp 0)), (nI (m_X6_next_h019 td ftp 0), (m_X6_next_h020 td ftp 0), (m_X6_next_h021 td ftp fwo 0), (m_X6_next_h022 td ftp fwo 0), s25, s26, 0, tx, fcd, fhe, (updN (updN fsr ((4 * tx) + 0) 0) ((4 * tx) + 3) 0), false, 0, 0, 0), rfl, hpost, by rw [ht]; exact hP, va_K.moved hW.alike hK, hD⟩, hS.F ht⟩) hS.2.2 dX6_text_155
    · skip
      refine lv_iconst (v := 1) hx hb dX6_text_55 (by decide +kernel) ?_
      refine lv_goto (tgt := 60) hx hb dX6_text_56 (by decide +kernel) ?_
      refine lv_istore_n (lv' := [zI 1 1, zI 2 0, zR 0 h0]) hx hb dX6_text_60 rfl hl (by decide +kernel) rfl (fun ls hl => ?_)
      refine g_aget (D := G.1) (ci := 6) (v := .ref sr) (C := RX6) (T := TX6) (N := 42) hx hb dX6_text_61 rfl (lv_at hl 2 rfl) hts hiX6 hown hK hP 0 rfl rfl 9 (by decide +kernel) kf28 (fun _ h9 => h9) rfl dX6_text_62 ?_
      refine lv_iconst (v := 4) hx hb dX6_text_65 (by decide +kernel) ?_
      refine g_aget (D := G.1) (ci := 6) (v := .int (nI tx)) (C := RX6) (T := TX6) (N := 42) hx hb dX6_text_66 rfl (lv_at hl 2 rfl) hts hiX6 hown hK hP 0 rfl rfl 10 (by decide +kernel) kf98 (fun _ h9 => h9) rfl dX6_text_67 ?_
      refine lv_imul hx hb dX6_text_70 ?_
      refine g_topi (y := nI (4 * tx)) (pk_mul 4 tx) ?_
      refine lv_iload_n hx hb dX6_text_71 rfl (lv_at hl 1 rfl) ?_
      refine lv_iadd hx hb dX6_text_72 ?_
      refine g_topi (y := nI ((4 * tx) + 0)) (nI_add (4 * tx) 0) ?_
      refine g_aget (D := G.1) (ci := 6) (v := .int 0) (C := RX6) (T := TX6) (N := 42) hx hb dX6_text_73 rfl (lv_at hl 2 rfl) hts hiX6 hown hK hP 0 rfl rfl 27 (by decide +kernel) kf127 (fun _ h9 => h9) rfl dX6_text_74 ?_
      refine va_iast (D := G.1) hx hb hK hP hD hS 2 0 rfl rfl (i := (nI ((4 * tx) + 0))) (x := 0) (vpn (by omega) rfl) dX6_text_77 (fun H locs hP hD hS => ?_)
      have hz9 : gPD G A [zo6 h0 (nI pb) kd mo st (nI jg) ro tp (nI td) cd sr (nI tx) (nI ru) him ir ih ss sq ce lw (nI (m_X6_next_h019 td ftp 0)) (m_X6_next_h020 td ftp 0) (m_X6_next_h021 td ftp fwo 0) (m_X6_next_h022 td ftp fwo 0) wo he s25 s26 0 sk na kp s31 s32 s33 s34 gb go fa ga s39 s40 vo, zi G cd 1200 fcd, zi G sr 24 (nF (updN fsr ((4 * tx) + 0) 0)), zi G he 200 fhe, zi G tp 160 ftp, zi G wo 96 fwo] H := ⟨by rw [nI_clamp (by omega), show upd (nF fsr) ((4 * tx) + 0) 0 = nF (updN fsr ((4 * tx) + 0) 0) from nF_upd] at hP; exact hP, by rw [nI_clamp (by omega), show upd (nF fsr) ((4 * tx) + 0) 0 = nF (updN fsr ((4 * tx) + 0) 0) from nF_upd] at hD; exact hD⟩
      have hP := hz9.1
      have hD := hz9.2
      refine lv_iload_n hx hb dX6_text_78 rfl (lv_at hl 0 rfl) ?_
      refine lv_if_eq (tgt := 93) hx hb dX6_text_79 (by decide +kernel) (fun c_28 => ?_) (fun c_28 => ?_)
      · exact absurd c_28 (by decide +kernel)
      refine lv_aload_n hx hb dX6_text_82 rfl (lv_at hl 2 rfl) ?_
      have hgt0 := hn30 (fun z9 => absurd (c_6.symm.trans z9) (by decide +kernel))
      refine z_callp [0, 1, 3, 4, 5] (va_runV (As := []) (rest := []) ⟨hx, hb, hml, hown, hts⟩ (c_X6_eRead l G h0 kd mo st ro tp cd sr ir ih ss sq ce lw wo he sk na kp gb go fa ga vo pb jg td tx ru him (m_X6_next_h020 td ftp 0) (m_X6_next_h021 td ftp fwo 0) (m_X6_next_h022 td ftp fwo 0) s25 s26 s31 s32 s33 s34 s39 s40 fcd fhe ftp fwo (m_X6_next_h019 td ftp 0) 0 H.size (htd) (⟨by omega, by omega⟩) (by first | exact htx | assumption | omega)) (cwV 0 hts gX6_text_X6_eRead rfl rfl rfl (by decide +kernel) ⟨Nat.le_of_ble_eq_true rfl, Nat.le_of_ble_eq_true rfl⟩) ⟨gPre_blind, va_recv (q := (RX6, TX6, 42)) hK hP (ci := 6) (q0 := 0) rfl rfl, fun U hU hW => gPre_ofF [0, 1, 3, 4, 5] hU hW hK hP hD (by decide +kernel) rfl⟩ rfl rfl hl.1 rfl (lv_room (Nat.le_of_ble_eq_true rfl)) dX6_text_83 ⟨Nat.le_of_ble_eq_true rfl, Nat.le_of_ble_eq_true rfl⟩) hS hD hA rfl (fun r_29 u t H locs ht hvm w_30 hB hz1 hk1 hFq hAq hS => ?_)
      obtain ⟨zza_31, zou_32, zhm_33, zop_34, zb_35, zt_36, zv_37, ycd_38, yhe_39⟩ := u
      obtain ⟨hP1, hK1, hD1⟩ := hB
      have w_30 : (r_29 = 0 ∨ r_29 = 1) ∧ (r_29 = 1 → dp (eF ycd_38 tx) 0 (zou_32 - 0) = some 1) ∧ zza_31 ≤ td ∧ zou_32 + 1 ≤ zza_31 ∧ 0 ≤ zou_32 ∧ (∀ i, (i < 200 * tx + 0 ∨ 200 * tx + 200 ≤ i) → ycd_38 i = fcd i) ∧ ∃ j9 b9, eRun tx td ftp fwo j9 (m_X6_next_h019 td ftp 0) 0 0 0 fcd fhe 1 1 = some (b9, zza_31, zou_32, zb_35, ycd_38, yhe_39) ∧ r_29 = bz b9 := w_30
      have hz9 : gPD G A [zo6 h0 (nI pb) kd mo st (nI jg) ro tp (nI td) cd sr (nI tx) (nI ru) him ir ih ss sq ce lw (nI zza_31) zb_35 zt_36 zv_37 wo he zhm_33 zop_34 (nI zou_32) sk na kp s31 s32 s33 s34 gb go fa ga s39 s40 vo, zi G cd 1200 ycd_38, zi G sr 24 (nF (updN fsr ((4 * tx) + 0) 0)), zi G he 200 yhe_39, zi G tp 160 ftp, zi G wo 96 fwo] H := zFill hP hD [0, 1, 3, 4, 5] [1, 2, 0, 3, 4, 5] hAq hk1 hFq ht hP1 hD1 rfl (by decide +kernel)
      have hP := hz9.1
      have hD := hz9.2
      obtain ⟨hq0, hd0, ha0, hb0, hc0, hu0, hE0⟩ := w_30
      refine lv_if_eq (tgt := 93) hx hb dX6_text_86 (by decide +kernel) (fun c_40 => ?_) (fun c_40 => ?_)
      · skip
        have hF0 := er_f hE0 c_40
        refine lv_iconst (v := 0) hx hb dX6_text_93 (by decide +kernel) ?_
        refine lv_istore_n (lv' := [zI 1 0, zI 2 0, zR 0 h0]) hx hb dX6_text_94 rfl hl (by decide +kernel) rfl (fun ls hl => ?_)
        refine lv_iinc (v := 1) (lv' := [zI 2 1, zI 1 0, zR 0 h0]) hx hb dX6_text_95 hl (k := 1) rfl (by decide +kernel) (by decide +kernel) rfl (fun ls hl => ?_)
        refine lv_goto (tgt := 26) hx hb dX6_text_98 (by decide +kernel) ?_
        refine lv_iload_n hx hb dX6_text_26 rfl (lv_at hl 0 rfl) ?_
        refine lv_iconst (v := 3) hx hb dX6_text_27 (by decide +kernel) ?_
        refine lv_icmp_ge (tgt := 101) hx hb dX6_text_28 (by decide +kernel) (fun c_41 => ?_) (fun c_41 => ?_)
        · exact absurd c_41 (by decide +kernel)
        refine lv_iload_n hx hb dX6_text_31 rfl (lv_at hl 1 rfl) ?_
        refine lv_if_eq (tgt := 101) hx hb dX6_text_32 (by decide +kernel) (fun c_42 => ?_) (fun c_42 => ?_)
        rotate_left
        · exact absurd (by decide +kernel) c_42
        refine lv_iload_n hx hb dX6_text_101 rfl (lv_at hl 1 rfl) ?_
        refine lv_if_eq (tgt := 122) hx hb dX6_text_102 (by decide +kernel) (fun c_43 => ?_) (fun c_43 => ?_)
        rotate_left
        · exact absurd (by decide +kernel) c_43
        refine g_aget (D := G.1) (ci := 6) (v := .ref sr) (C := RX6) (T := TX6) (N := 42) hx hb dX6_text_122 rfl (lv_at hl 2 rfl) hts hiX6 hown hK hP 0 rfl rfl 9 (by decide +kernel) kf28 (fun _ h9 => h9) rfl dX6_text_123 ?_
        refine lv_iconst (v := 4) hx hb dX6_text_126 (by decide +kernel) ?_
        refine g_aget (D := G.1) (ci := 6) (v := .int (nI tx)) (C := RX6) (T := TX6) (N := 42) hx hb dX6_text_127 rfl (lv_at hl 2 rfl) hts hiX6 hown hK hP 0 rfl rfl 10 (by decide +kernel) kf98 (fun _ h9 => h9) rfl dX6_text_128 ?_
        refine lv_imul hx hb dX6_text_131 ?_
        refine g_topi (y := nI (4 * tx)) (pk_mul 4 tx) ?_
        refine lv_iconst (v := 3) hx hb dX6_text_132 (by decide +kernel) ?_
        refine lv_iadd hx hb dX6_text_133 ?_
        refine g_topi (y := nI ((4 * tx) + 3)) (nI_add (4 * tx) 3) ?_
        refine g_aget (D := G.1) (ci := 6) (v := .int (nI zou_32)) (C := RX6) (T := TX6) (N := 42) hx hb dX6_text_134 rfl (lv_at hl 2 rfl) hts hiX6 hown hK hP 0 rfl rfl 27 (by decide +kernel) kf127 (fun _ h9 => h9) rfl dX6_text_135 ?_
        refine va_iast (D := G.1) hx hb hK hP hD hS 2 0 rfl rfl (i := (nI ((4 * tx) + 3))) (x := (nI zou_32)) (vpn (by omega) rfl) dX6_text_138 (fun H locs hP hD hS => ?_)
        have hz9 : gPD G A [zo6 h0 (nI pb) kd mo st (nI jg) ro tp (nI td) cd sr (nI tx) (nI ru) him ir ih ss sq ce lw (nI zza_31) zb_35 zt_36 zv_37 wo he zhm_33 zop_34 (nI zou_32) sk na kp s31 s32 s33 s34 gb go fa ga s39 s40 vo, zi G cd 1200 ycd_38, zi G sr 24 (nF (updN (updN fsr ((4 * tx) + 0) 0) ((4 * tx) + 3) zou_32)), zi G he 200 yhe_39, zi G tp 160 ftp, zi G wo 96 fwo] H := ⟨by rw [nI_clamp (by omega), show upd (nF (updN fsr ((4 * tx) + 0) 0)) ((4 * tx) + 3) (nI zou_32) = nF (updN (updN fsr ((4 * tx) + 0) 0) ((4 * tx) + 3) zou_32) from nF_upd] at hP; exact hP, by rw [nI_clamp (by omega), show upd (nF (updN fsr ((4 * tx) + 0) 0)) ((4 * tx) + 3) (nI zou_32) = nF (updN (updN fsr ((4 * tx) + 0) 0) ((4 * tx) + 3) zou_32) from nF_upd] at hD; exact hD⟩
        have hP := hz9.1
        have hD := hz9.2
        refine lv_aload_n hx hb dX6_text_139 rfl (lv_at hl 2 rfl) ?_
        refine lv_iconst (v := 0) hx hb dX6_text_140 (by decide +kernel) ?_
        refine va_put (D := G.1) (ci := 6) (v := .int 0) (ty := .int) (C := RX6) (T := TX6) (N := 42) hx hb hts hiX6 tyX6 tyX6_ok nmX6 hown hK hP hD hS 0 rfl rfl 7 (by decide +kernel) kf80 (fun _ h9 => h9) rfl (by decide +kernel) rfl rfl (Nat.le_of_ble_eq_true rfl) dX6_text_141 (fun H locs hP hD hS => ?_)
        have hz9 : gPD G A [zo6 h0 (nI pb) kd mo st (nI jg) ro tp 0 cd sr (nI tx) (nI ru) him ir ih ss sq ce lw (nI zza_31) zb_35 zt_36 zv_37 wo he zhm_33 zop_34 (nI zou_32) sk na kp s31 s32 s33 s34 gb go fa ga s39 s40 vo, zi G cd 1200 ycd_38, zi G sr 24 (nF (updN (updN fsr ((4 * tx) + 0) 0) ((4 * tx) + 3) zou_32)), zi G he 200 yhe_39, zi G tp 160 ftp, zi G wo 96 fwo] H := ⟨hP, hD⟩
        have hP := hz9.1
        have hD := hz9.2
        refine lv_iload_n hx hb dX6_text_144 rfl (lv_at hl 1 rfl) ?_
        refine lv_if_ne (tgt := 156) hx hb dX6_text_145 (by decide +kernel) (fun c_46 => ?_) (fun c_46 => ?_)
        · exact absurd (by decide +kernel) c_46
        refine lv_bipush (v := -100) hx hb dX6_text_148 (by decide +kernel) ?_
        refine g_aget (D := G.1) (ci := 6) (v := .int zb_35) (C := RX6) (T := TX6) (N := 42) hx hb dX6_text_150 rfl (lv_at hl 2 rfl) hts hiX6 hown hK hP 0 rfl rfl 20 (by decide +kernel) kf114 (fun _ h9 => h9) rfl dX6_text_151 ?_
        refine lv_isub hx hb dX6_text_154 ?_
        have hpost : (fun (r : Int32) (u : Int32 × Int32 × Int32 × Int32 × Int32 × Int32 × Int32 × Nat × (Nat → Int32) × (Nat → Int32) × (Nat → Nat) × Bool × Nat × Nat × Nat) => match u with | (zat, zbg, ztk, zvl, zhm, zop, zou, ztx, ycd, yhe, ysr, zok, zo1, zo2, zo3) => (∀ i, i < 200 * tx → ycd i = fcd i) ∧ (∀ i, i < 4 * tx → ysr i = fsr i) ∧ rT tx td ftp fwo fcd fhe zok zbg ycd zo1 zo2 zo3 ∧ ((zok = true ∧ r = nI tx ∧ ztx = tx + 1 ∧ mWf ycd ysr tx ∧ ysr (4 * tx) = 0 ∧ ysr (4 * tx + 1) = zo1 ∧ ysr (4 * tx + 2) = zo2 ∧ ysr (4 * tx + 3) = zo3) ∨ (zok = false ∧ r = -100 - zbg ∧ ztx = tx))) ((-100) - zb_35) (nI zza_31, zb_35, zt_36, zv_37, zhm_33, zop_34, nI zou_32, tx, ycd_38, yhe_39, (updN (updN fsr ((4 * tx) + 0) 0) ((4 * tx) + 3) zou_32), false, zou_32, 0, 0) := by exact ⟨fun i hi => (hu0 i (Or.inl (by omega))), fun i hi => by rw [updN_lo (by omega), updN_lo (by omega)], Or.inl ⟨rfl, _, _, _, _, Or.inl ⟨⟨c_6, c_16⟩, hF0⟩⟩, Or.inr ⟨rfl, rfl, rfl⟩⟩
        exact W.iret (v := ((-100) - zb_35)) hx hb hr (fun t ht hW => ⟨⟨((-100) - zb_35), (nI zza_31, zb_35, zt_36, zv_37, zhm_33, zop_34, nI zou_32, tx, ycd_38, yhe_39, (updN (updN fsr ((4 * tx) + 0) 0) ((4 * tx) + 3) zou_32), false, zou_32, 0, 0), rfl, hpost, by rw [ht]; exact hP, va_K.moved hW.alike hK, hD⟩, hS.F ht⟩) hS.2.2 dX6_text_155
      · skip
        have hg0 := hd0 (hq0.resolve_left c_40)
        have hF0 := er_t hE0 c_40
        refine lv_iconst (v := 1) hx hb dX6_text_89 (by decide +kernel) ?_
        refine lv_goto (tgt := 94) hx hb dX6_text_90 (by decide +kernel) ?_
        refine lv_istore_n (lv' := [zI 1 1, zI 2 0, zR 0 h0]) hx hb dX6_text_94 rfl hl (by decide +kernel) rfl (fun ls hl => ?_)
        refine lv_iinc (v := 1) (lv' := [zI 2 1, zI 1 1, zR 0 h0]) hx hb dX6_text_95 hl (k := 1) rfl (by decide +kernel) (by decide +kernel) rfl (fun ls hl => ?_)
        refine lv_goto (tgt := 26) hx hb dX6_text_98 (by decide +kernel) ?_
        refine lv_iload_n hx hb dX6_text_26 rfl (lv_at hl 0 rfl) ?_
        refine lv_iconst (v := 3) hx hb dX6_text_27 (by decide +kernel) ?_
        refine lv_icmp_ge (tgt := 101) hx hb dX6_text_28 (by decide +kernel) (fun c_47 => ?_) (fun c_47 => ?_)
        · exact absurd c_47 (by decide +kernel)
        refine lv_iload_n hx hb dX6_text_31 rfl (lv_at hl 1 rfl) ?_
        refine lv_if_eq (tgt := 101) hx hb dX6_text_32 (by decide +kernel) (fun c_48 => ?_) (fun c_48 => ?_)
        · exact absurd c_48 (by decide +kernel)
        refine lv_aload_n hx hb dX6_text_35 rfl (lv_at hl 2 rfl) ?_
        refine z_callv [0, 4, 5] (va_runV (As := []) (rest := []) ⟨hx, hb, hml, hown, hts⟩ (c_X6_next l G h0 kd mo st ro tp cd sr ir ih ss sq ce lw wo he sk na kp gb go fa ga vo pb jg td tx ru him zb_35 zt_36 zv_37 zhm_33 zop_34 (nI zou_32) s31 s32 s33 s34 s39 s40 ftp fwo zza_31 H.size (htd) (by omega)) (cwV 0 hts gX6_text_X6_next rfl rfl rfl (by decide +kernel) ⟨Nat.le_of_ble_eq_true rfl, Nat.le_of_ble_eq_true rfl⟩) ⟨gPre_blind, va_recv (q := (RX6, TX6, 42)) hK hP (ci := 6) (q0 := 0) rfl rfl, fun U hU hW => gPre_ofF [0, 4, 5] hU hW hK hP hD (by decide +kernel) rfl⟩ rfl rfl hl.1 rfl (lv_room (Nat.le_of_ble_eq_true rfl)) dX6_text_36 ⟨Nat.le_of_ble_eq_true rfl, Nat.le_of_ble_eq_true rfl⟩) hS hD hA rfl (fun u t H locs ht hvm w_50 hB hz1 hk1 hFq hAq hS => ?_)
        obtain ⟨hP1, hK1, hD1⟩ := hB
        have w_50 : zza_31 ≤ (m_X6_next_h019 td ftp zza_31) ∧ (m_X6_next_h019 td ftp zza_31) ≤ td ∧ (¬ (m_X6_next_h021 td ftp fwo zza_31) = 0 → zza_31 < (m_X6_next_h019 td ftp zza_31)) ∧ ((m_X6_next_h021 td ftp fwo zza_31) = 2 → 0 ≤ (m_X6_next_h022 td ftp fwo zza_31) ∧ (m_X6_next_h022 td ftp fwo zza_31) < 6) ∧ ((m_X6_next_h021 td ftp fwo zza_31) = 1 → 100000 ≤ 100000 + (m_X6_next_h022 td ftp fwo zza_31)) := w_50
        have hz9 : gPD G A [zo6 h0 (nI pb) kd mo st (nI jg) ro tp (nI td) cd sr (nI tx) (nI ru) him ir ih ss sq ce lw (nI (m_X6_next_h019 td ftp zza_31)) (m_X6_next_h020 td ftp zza_31) (m_X6_next_h021 td ftp fwo zza_31) (m_X6_next_h022 td ftp fwo zza_31) wo he zhm_33 zop_34 (nI zou_32) sk na kp s31 s32 s33 s34 gb go fa ga s39 s40 vo, zi G cd 1200 ycd_38, zi G sr 24 (nF (updN fsr ((4 * tx) + 0) 0)), zi G he 200 yhe_39, zi G tp 160 ftp, zi G wo 96 fwo] H := zFill hP hD [0, 4, 5] [1, 0, 0, 0, 2, 3] hAq hk1 hFq ht hP1 hD1 rfl (by decide +kernel)
        have hP := hz9.1
        have hD := hz9.2
        obtain ⟨hn11, hn21, hn31, hn41, hn51⟩ := w_50
        refine g_aget (D := G.1) (ci := 6) (v := .int (m_X6_next_h021 td ftp fwo zza_31)) (C := RX6) (T := TX6) (N := 42) hx hb dX6_text_39 rfl (lv_at hl 2 rfl) hts hiX6 hown hK hP 0 rfl rfl 21 (by decide +kernel) kf117 (fun _ h9 => h9) rfl dX6_text_40 ?_
        refine lv_iconst (v := 3) hx hb dX6_text_43 (by decide +kernel) ?_
        refine lv_icmp_ne (tgt := 59) hx hb dX6_text_44 (by decide +kernel) (fun c_51 => ?_) (fun c_51 => ?_)
        · skip
          refine lv_iconst (v := 0) hx hb dX6_text_59 (by decide +kernel) ?_
          refine lv_istore_n (lv' := [zI 1 0, zI 2 1, zR 0 h0]) hx hb dX6_text_60 rfl hl (by decide +kernel) rfl (fun ls hl => ?_)
          refine g_aget (D := G.1) (ci := 6) (v := .ref sr) (C := RX6) (T := TX6) (N := 42) hx hb dX6_text_61 rfl (lv_at hl 2 rfl) hts hiX6 hown hK hP 0 rfl rfl 9 (by decide +kernel) kf28 (fun _ h9 => h9) rfl dX6_text_62 ?_
          refine lv_iconst (v := 4) hx hb dX6_text_65 (by decide +kernel) ?_
          refine g_aget (D := G.1) (ci := 6) (v := .int (nI tx)) (C := RX6) (T := TX6) (N := 42) hx hb dX6_text_66 rfl (lv_at hl 2 rfl) hts hiX6 hown hK hP 0 rfl rfl 10 (by decide +kernel) kf98 (fun _ h9 => h9) rfl dX6_text_67 ?_
          refine lv_imul hx hb dX6_text_70 ?_
          refine g_topi (y := nI (4 * tx)) (pk_mul 4 tx) ?_
          refine lv_iload_n hx hb dX6_text_71 rfl (lv_at hl 1 rfl) ?_
          refine lv_iadd hx hb dX6_text_72 ?_
          refine g_topi (y := nI ((4 * tx) + 1)) (nI_add (4 * tx) 1) ?_
          refine g_aget (D := G.1) (ci := 6) (v := .int (nI zou_32)) (C := RX6) (T := TX6) (N := 42) hx hb dX6_text_73 rfl (lv_at hl 2 rfl) hts hiX6 hown hK hP 0 rfl rfl 27 (by decide +kernel) kf127 (fun _ h9 => h9) rfl dX6_text_74 ?_
          refine va_iast (D := G.1) hx hb hK hP hD hS 2 0 rfl rfl (i := (nI ((4 * tx) + 1))) (x := (nI zou_32)) (vpn (by omega) rfl) dX6_text_77 (fun H locs hP hD hS => ?_)
          have hz9 : gPD G A [zo6 h0 (nI pb) kd mo st (nI jg) ro tp (nI td) cd sr (nI tx) (nI ru) him ir ih ss sq ce lw (nI (m_X6_next_h019 td ftp zza_31)) (m_X6_next_h020 td ftp zza_31) (m_X6_next_h021 td ftp fwo zza_31) (m_X6_next_h022 td ftp fwo zza_31) wo he zhm_33 zop_34 (nI zou_32) sk na kp s31 s32 s33 s34 gb go fa ga s39 s40 vo, zi G cd 1200 ycd_38, zi G sr 24 (nF (updN (updN fsr ((4 * tx) + 0) 0) ((4 * tx) + 1) zou_32)), zi G he 200 yhe_39, zi G tp 160 ftp, zi G wo 96 fwo] H := ⟨by rw [nI_clamp (by omega), show upd (nF (updN fsr ((4 * tx) + 0) 0)) ((4 * tx) + 1) (nI zou_32) = nF (updN (updN fsr ((4 * tx) + 0) 0) ((4 * tx) + 1) zou_32) from nF_upd] at hP; exact hP, by rw [nI_clamp (by omega), show upd (nF (updN fsr ((4 * tx) + 0) 0)) ((4 * tx) + 1) (nI zou_32) = nF (updN (updN fsr ((4 * tx) + 0) 0) ((4 * tx) + 1) zou_32) from nF_upd] at hD; exact hD⟩
          have hP := hz9.1
          have hD := hz9.2
          refine lv_iload_n hx hb dX6_text_78 rfl (lv_at hl 0 rfl) ?_
          refine lv_if_eq (tgt := 93) hx hb dX6_text_79 (by decide +kernel) (fun c_54 => ?_) (fun c_54 => ?_)
          rotate_left
          · exact absurd (by decide +kernel) c_54
          refine lv_iconst (v := 0) hx hb dX6_text_93 (by decide +kernel) ?_
          refine lv_istore_n (lv' := [zI 1 0, zI 2 1, zR 0 h0]) hx hb dX6_text_94 rfl hl (by decide +kernel) rfl (fun ls hl => ?_)
          refine lv_iinc (v := 2) (lv' := [zI 2 2, zI 1 0, zR 0 h0]) hx hb dX6_text_95 hl (k := 1) rfl (by decide +kernel) (by decide +kernel) rfl (fun ls hl => ?_)
          refine lv_goto (tgt := 26) hx hb dX6_text_98 (by decide +kernel) ?_
          refine lv_iload_n hx hb dX6_text_26 rfl (lv_at hl 0 rfl) ?_
          refine lv_iconst (v := 3) hx hb dX6_text_27 (by decide +kernel) ?_
          refine lv_icmp_ge (tgt := 101) hx hb dX6_text_28 (by decide +kernel) (fun c_55 => ?_) (fun c_55 => ?_)
          · exact absurd c_55 (by decide +kernel)
          refine lv_iload_n hx hb dX6_text_31 rfl (lv_at hl 1 rfl) ?_
          refine lv_if_eq (tgt := 101) hx hb dX6_text_32 (by decide +kernel) (fun c_56 => ?_) (fun c_56 => ?_)
          rotate_left
          · exact absurd (by decide +kernel) c_56
          refine lv_iload_n hx hb dX6_text_101 rfl (lv_at hl 1 rfl) ?_
          refine lv_if_eq (tgt := 122) hx hb dX6_text_102 (by decide +kernel) (fun c_57 => ?_) (fun c_57 => ?_)
          rotate_left
          · exact absurd (by decide +kernel) c_57
          refine g_aget (D := G.1) (ci := 6) (v := .ref sr) (C := RX6) (T := TX6) (N := 42) hx hb dX6_text_122 rfl (lv_at hl 2 rfl) hts hiX6 hown hK hP 0 rfl rfl 9 (by decide +kernel) kf28 (fun _ h9 => h9) rfl dX6_text_123 ?_
          refine lv_iconst (v := 4) hx hb dX6_text_126 (by decide +kernel) ?_
          refine g_aget (D := G.1) (ci := 6) (v := .int (nI tx)) (C := RX6) (T := TX6) (N := 42) hx hb dX6_text_127 rfl (lv_at hl 2 rfl) hts hiX6 hown hK hP 0 rfl rfl 10 (by decide +kernel) kf98 (fun _ h9 => h9) rfl dX6_text_128 ?_
          refine lv_imul hx hb dX6_text_131 ?_
          refine g_topi (y := nI (4 * tx)) (pk_mul 4 tx) ?_
          refine lv_iconst (v := 3) hx hb dX6_text_132 (by decide +kernel) ?_
          refine lv_iadd hx hb dX6_text_133 ?_
          refine g_topi (y := nI ((4 * tx) + 3)) (nI_add (4 * tx) 3) ?_
          refine g_aget (D := G.1) (ci := 6) (v := .int (nI zou_32)) (C := RX6) (T := TX6) (N := 42) hx hb dX6_text_134 rfl (lv_at hl 2 rfl) hts hiX6 hown hK hP 0 rfl rfl 27 (by decide +kernel) kf127 (fun _ h9 => h9) rfl dX6_text_135 ?_
          refine va_iast (D := G.1) hx hb hK hP hD hS 2 0 rfl rfl (i := (nI ((4 * tx) + 3))) (x := (nI zou_32)) (vpn (by omega) rfl) dX6_text_138 (fun H locs hP hD hS => ?_)
          have hz9 : gPD G A [zo6 h0 (nI pb) kd mo st (nI jg) ro tp (nI td) cd sr (nI tx) (nI ru) him ir ih ss sq ce lw (nI (m_X6_next_h019 td ftp zza_31)) (m_X6_next_h020 td ftp zza_31) (m_X6_next_h021 td ftp fwo zza_31) (m_X6_next_h022 td ftp fwo zza_31) wo he zhm_33 zop_34 (nI zou_32) sk na kp s31 s32 s33 s34 gb go fa ga s39 s40 vo, zi G cd 1200 ycd_38, zi G sr 24 (nF (updN (updN (updN fsr ((4 * tx) + 0) 0) ((4 * tx) + 1) zou_32) ((4 * tx) + 3) zou_32)), zi G he 200 yhe_39, zi G tp 160 ftp, zi G wo 96 fwo] H := ⟨by rw [nI_clamp (by omega), show upd (nF (updN (updN fsr ((4 * tx) + 0) 0) ((4 * tx) + 1) zou_32)) ((4 * tx) + 3) (nI zou_32) = nF (updN (updN (updN fsr ((4 * tx) + 0) 0) ((4 * tx) + 1) zou_32) ((4 * tx) + 3) zou_32) from nF_upd] at hP; exact hP, by rw [nI_clamp (by omega), show upd (nF (updN (updN fsr ((4 * tx) + 0) 0) ((4 * tx) + 1) zou_32)) ((4 * tx) + 3) (nI zou_32) = nF (updN (updN (updN fsr ((4 * tx) + 0) 0) ((4 * tx) + 1) zou_32) ((4 * tx) + 3) zou_32) from nF_upd] at hD; exact hD⟩
          have hP := hz9.1
          have hD := hz9.2
          refine lv_aload_n hx hb dX6_text_139 rfl (lv_at hl 2 rfl) ?_
          refine lv_iconst (v := 0) hx hb dX6_text_140 (by decide +kernel) ?_
          refine va_put (D := G.1) (ci := 6) (v := .int 0) (ty := .int) (C := RX6) (T := TX6) (N := 42) hx hb hts hiX6 tyX6 tyX6_ok nmX6 hown hK hP hD hS 0 rfl rfl 7 (by decide +kernel) kf80 (fun _ h9 => h9) rfl (by decide +kernel) rfl rfl (Nat.le_of_ble_eq_true rfl) dX6_text_141 (fun H locs hP hD hS => ?_)
          have hz9 : gPD G A [zo6 h0 (nI pb) kd mo st (nI jg) ro tp 0 cd sr (nI tx) (nI ru) him ir ih ss sq ce lw (nI (m_X6_next_h019 td ftp zza_31)) (m_X6_next_h020 td ftp zza_31) (m_X6_next_h021 td ftp fwo zza_31) (m_X6_next_h022 td ftp fwo zza_31) wo he zhm_33 zop_34 (nI zou_32) sk na kp s31 s32 s33 s34 gb go fa ga s39 s40 vo, zi G cd 1200 ycd_38, zi G sr 24 (nF (updN (updN (updN fsr ((4 * tx) + 0) 0) ((4 * tx) + 1) zou_32) ((4 * tx) + 3) zou_32)), zi G he 200 yhe_39, zi G tp 160 ftp, zi G wo 96 fwo] H := ⟨hP, hD⟩
          have hP := hz9.1
          have hD := hz9.2
          refine lv_iload_n hx hb dX6_text_144 rfl (lv_at hl 1 rfl) ?_
          refine lv_if_ne (tgt := 156) hx hb dX6_text_145 (by decide +kernel) (fun c_60 => ?_) (fun c_60 => ?_)
          · exact absurd (by decide +kernel) c_60
          refine lv_bipush (v := -100) hx hb dX6_text_148 (by decide +kernel) ?_
          refine g_aget (D := G.1) (ci := 6) (v := .int (m_X6_next_h020 td ftp zza_31)) (C := RX6) (T := TX6) (N := 42) hx hb dX6_text_150 rfl (lv_at hl 2 rfl) hts hiX6 hown hK hP 0 rfl rfl 20 (by decide +kernel) kf114 (fun _ h9 => h9) rfl dX6_text_151 ?_
          refine lv_isub hx hb dX6_text_154 ?_
          have hpost : (fun (r : Int32) (u : Int32 × Int32 × Int32 × Int32 × Int32 × Int32 × Int32 × Nat × (Nat → Int32) × (Nat → Int32) × (Nat → Nat) × Bool × Nat × Nat × Nat) => match u with | (zat, zbg, ztk, zvl, zhm, zop, zou, ztx, ycd, yhe, ysr, zok, zo1, zo2, zo3) => (∀ i, i < 200 * tx → ycd i = fcd i) ∧ (∀ i, i < 4 * tx → ysr i = fsr i) ∧ rT tx td ftp fwo fcd fhe zok zbg ycd zo1 zo2 zo3 ∧ ((zok = true ∧ r = nI tx ∧ ztx = tx + 1 ∧ mWf ycd ysr tx ∧ ysr (4 * tx) = 0 ∧ ysr (4 * tx + 1) = zo1 ∧ ysr (4 * tx + 2) = zo2 ∧ ysr (4 * tx + 3) = zo3) ∨ (zok = false ∧ r = -100 - zbg ∧ ztx = tx))) ((-100) - (m_X6_next_h020 td ftp zza_31)) (nI (m_X6_next_h019 td ftp zza_31), (m_X6_next_h020 td ftp zza_31), (m_X6_next_h021 td ftp fwo zza_31), (m_X6_next_h022 td ftp fwo zza_31), zhm_33, zop_34, (nI zou_32), tx, ycd_38, yhe_39, (updN (updN (updN fsr ((4 * tx) + 0) 0) ((4 * tx) + 1) zou_32) ((4 * tx) + 3) zou_32), false, zou_32, 0, 0) := by exact ⟨fun i hi => (hu0 i (Or.inl (by omega))), fun i hi => by rw [updN_lo (by omega), updN_lo (by omega), updN_lo (by omega)], Or.inr ⟨_, _, _, _, Or.inl ⟨⟨c_6, c_16⟩, hF0⟩, Or.inl ⟨rfl, 0, 0, fcd, fhe, Or.inr ⟨fun z => c_51 z.1, rfl, rfl⟩⟩⟩, Or.inr ⟨rfl, rfl, rfl⟩⟩
          exact W.iret (v := ((-100) - (m_X6_next_h020 td ftp zza_31))) hx hb hr (fun t ht hW => ⟨⟨((-100) - (m_X6_next_h020 td ftp zza_31)), (nI (m_X6_next_h019 td ftp zza_31), (m_X6_next_h020 td ftp zza_31), (m_X6_next_h021 td ftp fwo zza_31), (m_X6_next_h022 td ftp fwo zza_31), zhm_33, zop_34, (nI zou_32), tx, ycd_38, yhe_39, (updN (updN (updN fsr ((4 * tx) + 0) 0) ((4 * tx) + 1) zou_32) ((4 * tx) + 3) zou_32), false, zou_32, 0, 0), rfl, hpost, by rw [ht]; exact hP, va_K.moved hW.alike hK, hD⟩, hS.F ht⟩) hS.2.2 dX6_text_155
        · skip
          refine g_aget (D := G.1) (ci := 6) (v := .int (m_X6_next_h022 td ftp fwo zza_31)) (C := RX6) (T := TX6) (N := 42) hx hb dX6_text_47 rfl (lv_at hl 2 rfl) hts hiX6 hown hK hP 0 rfl rfl 22 (by decide +kernel) kf120 (fun _ h9 => h9) rfl dX6_text_48 ?_
          refine lv_iload_n hx hb dX6_text_51 rfl (lv_at hl 0 rfl) ?_
          refine lv_icmp_ne (tgt := 59) hx hb dX6_text_52 (by decide +kernel) (fun c_61 => ?_) (fun c_61 => ?_)
          · skip
            refine lv_iconst (v := 0) hx hb dX6_text_59 (by decide +kernel) ?_
            refine lv_istore_n (lv' := [zI 1 0, zI 2 1, zR 0 h0]) hx hb dX6_text_60 rfl hl (by decide +kernel) rfl (fun ls hl => ?_)
            refine g_aget (D := G.1) (ci := 6) (v := .ref sr) (C := RX6) (T := TX6) (N := 42) hx hb dX6_text_61 rfl (lv_at hl 2 rfl) hts hiX6 hown hK hP 0 rfl rfl 9 (by decide +kernel) kf28 (fun _ h9 => h9) rfl dX6_text_62 ?_
            refine lv_iconst (v := 4) hx hb dX6_text_65 (by decide +kernel) ?_
            refine g_aget (D := G.1) (ci := 6) (v := .int (nI tx)) (C := RX6) (T := TX6) (N := 42) hx hb dX6_text_66 rfl (lv_at hl 2 rfl) hts hiX6 hown hK hP 0 rfl rfl 10 (by decide +kernel) kf98 (fun _ h9 => h9) rfl dX6_text_67 ?_
            refine lv_imul hx hb dX6_text_70 ?_
            refine g_topi (y := nI (4 * tx)) (pk_mul 4 tx) ?_
            refine lv_iload_n hx hb dX6_text_71 rfl (lv_at hl 1 rfl) ?_
            refine lv_iadd hx hb dX6_text_72 ?_
            refine g_topi (y := nI ((4 * tx) + 1)) (nI_add (4 * tx) 1) ?_
            refine g_aget (D := G.1) (ci := 6) (v := .int (nI zou_32)) (C := RX6) (T := TX6) (N := 42) hx hb dX6_text_73 rfl (lv_at hl 2 rfl) hts hiX6 hown hK hP 0 rfl rfl 27 (by decide +kernel) kf127 (fun _ h9 => h9) rfl dX6_text_74 ?_
            refine va_iast (D := G.1) hx hb hK hP hD hS 2 0 rfl rfl (i := (nI ((4 * tx) + 1))) (x := (nI zou_32)) (vpn (by omega) rfl) dX6_text_77 (fun H locs hP hD hS => ?_)
            have hz9 : gPD G A [zo6 h0 (nI pb) kd mo st (nI jg) ro tp (nI td) cd sr (nI tx) (nI ru) him ir ih ss sq ce lw (nI (m_X6_next_h019 td ftp zza_31)) (m_X6_next_h020 td ftp zza_31) (m_X6_next_h021 td ftp fwo zza_31) (m_X6_next_h022 td ftp fwo zza_31) wo he zhm_33 zop_34 (nI zou_32) sk na kp s31 s32 s33 s34 gb go fa ga s39 s40 vo, zi G cd 1200 ycd_38, zi G sr 24 (nF (updN (updN fsr ((4 * tx) + 0) 0) ((4 * tx) + 1) zou_32)), zi G he 200 yhe_39, zi G tp 160 ftp, zi G wo 96 fwo] H := ⟨by rw [nI_clamp (by omega), show upd (nF (updN fsr ((4 * tx) + 0) 0)) ((4 * tx) + 1) (nI zou_32) = nF (updN (updN fsr ((4 * tx) + 0) 0) ((4 * tx) + 1) zou_32) from nF_upd] at hP; exact hP, by rw [nI_clamp (by omega), show upd (nF (updN fsr ((4 * tx) + 0) 0)) ((4 * tx) + 1) (nI zou_32) = nF (updN (updN fsr ((4 * tx) + 0) 0) ((4 * tx) + 1) zou_32) from nF_upd] at hD; exact hD⟩
            have hP := hz9.1
            have hD := hz9.2
            refine lv_iload_n hx hb dX6_text_78 rfl (lv_at hl 0 rfl) ?_
            refine lv_if_eq (tgt := 93) hx hb dX6_text_79 (by decide +kernel) (fun c_64 => ?_) (fun c_64 => ?_)
            rotate_left
            · exact absurd (by decide +kernel) c_64
            refine lv_iconst (v := 0) hx hb dX6_text_93 (by decide +kernel) ?_
            refine lv_istore_n (lv' := [zI 1 0, zI 2 1, zR 0 h0]) hx hb dX6_text_94 rfl hl (by decide +kernel) rfl (fun ls hl => ?_)
            refine lv_iinc (v := 2) (lv' := [zI 2 2, zI 1 0, zR 0 h0]) hx hb dX6_text_95 hl (k := 1) rfl (by decide +kernel) (by decide +kernel) rfl (fun ls hl => ?_)
            refine lv_goto (tgt := 26) hx hb dX6_text_98 (by decide +kernel) ?_
            refine lv_iload_n hx hb dX6_text_26 rfl (lv_at hl 0 rfl) ?_
            refine lv_iconst (v := 3) hx hb dX6_text_27 (by decide +kernel) ?_
            refine lv_icmp_ge (tgt := 101) hx hb dX6_text_28 (by decide +kernel) (fun c_65 => ?_) (fun c_65 => ?_)
            · exact absurd c_65 (by decide +kernel)
            refine lv_iload_n hx hb dX6_text_31 rfl (lv_at hl 1 rfl) ?_
            refine lv_if_eq (tgt := 101) hx hb dX6_text_32 (by decide +kernel) (fun c_66 => ?_) (fun c_66 => ?_)
            rotate_left
            · exact absurd (by decide +kernel) c_66
            refine lv_iload_n hx hb dX6_text_101 rfl (lv_at hl 1 rfl) ?_
            refine lv_if_eq (tgt := 122) hx hb dX6_text_102 (by decide +kernel) (fun c_67 => ?_) (fun c_67 => ?_)
            rotate_left
            · exact absurd (by decide +kernel) c_67
            refine g_aget (D := G.1) (ci := 6) (v := .ref sr) (C := RX6) (T := TX6) (N := 42) hx hb dX6_text_122 rfl (lv_at hl 2 rfl) hts hiX6 hown hK hP 0 rfl rfl 9 (by decide +kernel) kf28 (fun _ h9 => h9) rfl dX6_text_123 ?_
            refine lv_iconst (v := 4) hx hb dX6_text_126 (by decide +kernel) ?_
            refine g_aget (D := G.1) (ci := 6) (v := .int (nI tx)) (C := RX6) (T := TX6) (N := 42) hx hb dX6_text_127 rfl (lv_at hl 2 rfl) hts hiX6 hown hK hP 0 rfl rfl 10 (by decide +kernel) kf98 (fun _ h9 => h9) rfl dX6_text_128 ?_
            refine lv_imul hx hb dX6_text_131 ?_
            refine g_topi (y := nI (4 * tx)) (pk_mul 4 tx) ?_
            refine lv_iconst (v := 3) hx hb dX6_text_132 (by decide +kernel) ?_
            refine lv_iadd hx hb dX6_text_133 ?_
            refine g_topi (y := nI ((4 * tx) + 3)) (nI_add (4 * tx) 3) ?_
            refine g_aget (D := G.1) (ci := 6) (v := .int (nI zou_32)) (C := RX6) (T := TX6) (N := 42) hx hb dX6_text_134 rfl (lv_at hl 2 rfl) hts hiX6 hown hK hP 0 rfl rfl 27 (by decide +kernel) kf127 (fun _ h9 => h9) rfl dX6_text_135 ?_
            refine va_iast (D := G.1) hx hb hK hP hD hS 2 0 rfl rfl (i := (nI ((4 * tx) + 3))) (x := (nI zou_32)) (vpn (by omega) rfl) dX6_text_138 (fun H locs hP hD hS => ?_)
            have hz9 : gPD G A [zo6 h0 (nI pb) kd mo st (nI jg) ro tp (nI td) cd sr (nI tx) (nI ru) him ir ih ss sq ce lw (nI (m_X6_next_h019 td ftp zza_31)) (m_X6_next_h020 td ftp zza_31) (m_X6_next_h021 td ftp fwo zza_31) (m_X6_next_h022 td ftp fwo zza_31) wo he zhm_33 zop_34 (nI zou_32) sk na kp s31 s32 s33 s34 gb go fa ga s39 s40 vo, zi G cd 1200 ycd_38, zi G sr 24 (nF (updN (updN (updN fsr ((4 * tx) + 0) 0) ((4 * tx) + 1) zou_32) ((4 * tx) + 3) zou_32)), zi G he 200 yhe_39, zi G tp 160 ftp, zi G wo 96 fwo] H := ⟨by rw [nI_clamp (by omega), show upd (nF (updN (updN fsr ((4 * tx) + 0) 0) ((4 * tx) + 1) zou_32)) ((4 * tx) + 3) (nI zou_32) = nF (updN (updN (updN fsr ((4 * tx) + 0) 0) ((4 * tx) + 1) zou_32) ((4 * tx) + 3) zou_32) from nF_upd] at hP; exact hP, by rw [nI_clamp (by omega), show upd (nF (updN (updN fsr ((4 * tx) + 0) 0) ((4 * tx) + 1) zou_32)) ((4 * tx) + 3) (nI zou_32) = nF (updN (updN (updN fsr ((4 * tx) + 0) 0) ((4 * tx) + 1) zou_32) ((4 * tx) + 3) zou_32) from nF_upd] at hD; exact hD⟩
            have hP := hz9.1
            have hD := hz9.2
            refine lv_aload_n hx hb dX6_text_139 rfl (lv_at hl 2 rfl) ?_
            refine lv_iconst (v := 0) hx hb dX6_text_140 (by decide +kernel) ?_
            refine va_put (D := G.1) (ci := 6) (v := .int 0) (ty := .int) (C := RX6) (T := TX6) (N := 42) hx hb hts hiX6 tyX6 tyX6_ok nmX6 hown hK hP hD hS 0 rfl rfl 7 (by decide +kernel) kf80 (fun _ h9 => h9) rfl (by decide +kernel) rfl rfl (Nat.le_of_ble_eq_true rfl) dX6_text_141 (fun H locs hP hD hS => ?_)
            have hz9 : gPD G A [zo6 h0 (nI pb) kd mo st (nI jg) ro tp 0 cd sr (nI tx) (nI ru) him ir ih ss sq ce lw (nI (m_X6_next_h019 td ftp zza_31)) (m_X6_next_h020 td ftp zza_31) (m_X6_next_h021 td ftp fwo zza_31) (m_X6_next_h022 td ftp fwo zza_31) wo he zhm_33 zop_34 (nI zou_32) sk na kp s31 s32 s33 s34 gb go fa ga s39 s40 vo, zi G cd 1200 ycd_38, zi G sr 24 (nF (updN (updN (updN fsr ((4 * tx) + 0) 0) ((4 * tx) + 1) zou_32) ((4 * tx) + 3) zou_32)), zi G he 200 yhe_39, zi G tp 160 ftp, zi G wo 96 fwo] H := ⟨hP, hD⟩
            have hP := hz9.1
            have hD := hz9.2
            refine lv_iload_n hx hb dX6_text_144 rfl (lv_at hl 1 rfl) ?_
            refine lv_if_ne (tgt := 156) hx hb dX6_text_145 (by decide +kernel) (fun c_70 => ?_) (fun c_70 => ?_)
            · exact absurd (by decide +kernel) c_70
            refine lv_bipush (v := -100) hx hb dX6_text_148 (by decide +kernel) ?_
            refine g_aget (D := G.1) (ci := 6) (v := .int (m_X6_next_h020 td ftp zza_31)) (C := RX6) (T := TX6) (N := 42) hx hb dX6_text_150 rfl (lv_at hl 2 rfl) hts hiX6 hown hK hP 0 rfl rfl 20 (by decide +kernel) kf114 (fun _ h9 => h9) rfl dX6_text_151 ?_
            refine lv_isub hx hb dX6_text_154 ?_
            have hpost : (fun (r : Int32) (u : Int32 × Int32 × Int32 × Int32 × Int32 × Int32 × Int32 × Nat × (Nat → Int32) × (Nat → Int32) × (Nat → Nat) × Bool × Nat × Nat × Nat) => match u with | (zat, zbg, ztk, zvl, zhm, zop, zou, ztx, ycd, yhe, ysr, zok, zo1, zo2, zo3) => (∀ i, i < 200 * tx → ycd i = fcd i) ∧ (∀ i, i < 4 * tx → ysr i = fsr i) ∧ rT tx td ftp fwo fcd fhe zok zbg ycd zo1 zo2 zo3 ∧ ((zok = true ∧ r = nI tx ∧ ztx = tx + 1 ∧ mWf ycd ysr tx ∧ ysr (4 * tx) = 0 ∧ ysr (4 * tx + 1) = zo1 ∧ ysr (4 * tx + 2) = zo2 ∧ ysr (4 * tx + 3) = zo3) ∨ (zok = false ∧ r = -100 - zbg ∧ ztx = tx))) ((-100) - (m_X6_next_h020 td ftp zza_31)) (nI (m_X6_next_h019 td ftp zza_31), (m_X6_next_h020 td ftp zza_31), (m_X6_next_h021 td ftp fwo zza_31), (m_X6_next_h022 td ftp fwo zza_31), zhm_33, zop_34, (nI zou_32), tx, ycd_38, yhe_39, (updN (updN (updN fsr ((4 * tx) + 0) 0) ((4 * tx) + 1) zou_32) ((4 * tx) + 3) zou_32), false, zou_32, 0, 0) := by exact ⟨fun i hi => (hu0 i (Or.inl (by omega))), fun i hi => by rw [updN_lo (by omega), updN_lo (by omega), updN_lo (by omega)], Or.inr ⟨_, _, _, _, Or.inl ⟨⟨c_6, c_16⟩, hF0⟩, Or.inl ⟨rfl, 0, 0, fcd, fhe, Or.inr ⟨fun z => c_61 z.2, rfl, rfl⟩⟩⟩, Or.inr ⟨rfl, rfl, rfl⟩⟩
            exact W.iret (v := ((-100) - (m_X6_next_h020 td ftp zza_31))) hx hb hr (fun t ht hW => ⟨⟨((-100) - (m_X6_next_h020 td ftp zza_31)), (nI (m_X6_next_h019 td ftp zza_31), (m_X6_next_h020 td ftp zza_31), (m_X6_next_h021 td ftp fwo zza_31), (m_X6_next_h022 td ftp fwo zza_31), zhm_33, zop_34, (nI zou_32), tx, ycd_38, yhe_39, (updN (updN (updN fsr ((4 * tx) + 0) 0) ((4 * tx) + 1) zou_32) ((4 * tx) + 3) zou_32), false, zou_32, 0, 0), rfl, hpost, by rw [ht]; exact hP, va_K.moved hW.alike hK, hD⟩, hS.F ht⟩) hS.2.2 dX6_text_155
          · skip
            refine lv_iconst (v := 1) hx hb dX6_text_55 (by decide +kernel) ?_
            refine lv_goto (tgt := 60) hx hb dX6_text_56 (by decide +kernel) ?_
            refine lv_istore_n (lv' := [zI 1 1, zI 2 1, zR 0 h0]) hx hb dX6_text_60 rfl hl (by decide +kernel) rfl (fun ls hl => ?_)
            refine g_aget (D := G.1) (ci := 6) (v := .ref sr) (C := RX6) (T := TX6) (N := 42) hx hb dX6_text_61 rfl (lv_at hl 2 rfl) hts hiX6 hown hK hP 0 rfl rfl 9 (by decide +kernel) kf28 (fun _ h9 => h9) rfl dX6_text_62 ?_
            refine lv_iconst (v := 4) hx hb dX6_text_65 (by decide +kernel) ?_
            refine g_aget (D := G.1) (ci := 6) (v := .int (nI tx)) (C := RX6) (T := TX6) (N := 42) hx hb dX6_text_66 rfl (lv_at hl 2 rfl) hts hiX6 hown hK hP 0 rfl rfl 10 (by decide +kernel) kf98 (fun _ h9 => h9) rfl dX6_text_67 ?_
            refine lv_imul hx hb dX6_text_70 ?_
            refine g_topi (y := nI (4 * tx)) (pk_mul 4 tx) ?_
            refine lv_iload_n hx hb dX6_text_71 rfl (lv_at hl 1 rfl) ?_
            refine lv_iadd hx hb dX6_text_72 ?_
            refine g_topi (y := nI ((4 * tx) + 1)) (nI_add (4 * tx) 1) ?_
            refine g_aget (D := G.1) (ci := 6) (v := .int (nI zou_32)) (C := RX6) (T := TX6) (N := 42) hx hb dX6_text_73 rfl (lv_at hl 2 rfl) hts hiX6 hown hK hP 0 rfl rfl 27 (by decide +kernel) kf127 (fun _ h9 => h9) rfl dX6_text_74 ?_
            refine va_iast (D := G.1) hx hb hK hP hD hS 2 0 rfl rfl (i := (nI ((4 * tx) + 1))) (x := (nI zou_32)) (vpn (by omega) rfl) dX6_text_77 (fun H locs hP hD hS => ?_)
            have hz9 : gPD G A [zo6 h0 (nI pb) kd mo st (nI jg) ro tp (nI td) cd sr (nI tx) (nI ru) him ir ih ss sq ce lw (nI (m_X6_next_h019 td ftp zza_31)) (m_X6_next_h020 td ftp zza_31) (m_X6_next_h021 td ftp fwo zza_31) (m_X6_next_h022 td ftp fwo zza_31) wo he zhm_33 zop_34 (nI zou_32) sk na kp s31 s32 s33 s34 gb go fa ga s39 s40 vo, zi G cd 1200 ycd_38, zi G sr 24 (nF (updN (updN fsr ((4 * tx) + 0) 0) ((4 * tx) + 1) zou_32)), zi G he 200 yhe_39, zi G tp 160 ftp, zi G wo 96 fwo] H := ⟨by rw [nI_clamp (by omega), show upd (nF (updN fsr ((4 * tx) + 0) 0)) ((4 * tx) + 1) (nI zou_32) = nF (updN (updN fsr ((4 * tx) + 0) 0) ((4 * tx) + 1) zou_32) from nF_upd] at hP; exact hP, by rw [nI_clamp (by omega), show upd (nF (updN fsr ((4 * tx) + 0) 0)) ((4 * tx) + 1) (nI zou_32) = nF (updN (updN fsr ((4 * tx) + 0) 0) ((4 * tx) + 1) zou_32) from nF_upd] at hD; exact hD⟩
            have hP := hz9.1
            have hD := hz9.2
            refine lv_iload_n hx hb dX6_text_78 rfl (lv_at hl 0 rfl) ?_
            refine lv_if_eq (tgt := 93) hx hb dX6_text_79 (by decide +kernel) (fun c_73 => ?_) (fun c_73 => ?_)
            · exact absurd c_73 (by decide +kernel)
            refine lv_aload_n hx hb dX6_text_82 rfl (lv_at hl 2 rfl) ?_
            have hgt1 := hn31 (fun z9 => absurd (c_51.symm.trans z9) (by decide +kernel))
            refine z_callp [0, 1, 3, 4, 5] (va_runV (As := []) (rest := []) ⟨hx, hb, hml, hown, hts⟩ (c_X6_eRead l G h0 kd mo st ro tp cd sr ir ih ss sq ce lw wo he sk na kp gb go fa ga vo pb jg td tx ru him (m_X6_next_h020 td ftp zza_31) (m_X6_next_h021 td ftp fwo zza_31) (m_X6_next_h022 td ftp fwo zza_31) zhm_33 zop_34 s31 s32 s33 s34 s39 s40 ycd_38 yhe_39 ftp fwo (m_X6_next_h019 td ftp zza_31) zou_32 H.size (htd) (⟨by omega, by omega⟩) (by first | exact htx | assumption | omega)) (cwV 0 hts gX6_text_X6_eRead rfl rfl rfl (by decide +kernel) ⟨Nat.le_of_ble_eq_true rfl, Nat.le_of_ble_eq_true rfl⟩) ⟨gPre_blind, va_recv (q := (RX6, TX6, 42)) hK hP (ci := 6) (q0 := 0) rfl rfl, fun U hU hW => gPre_ofF [0, 1, 3, 4, 5] hU hW hK hP hD (by decide +kernel) rfl⟩ rfl rfl hl.1 rfl (lv_room (Nat.le_of_ble_eq_true rfl)) dX6_text_83 ⟨Nat.le_of_ble_eq_true rfl, Nat.le_of_ble_eq_true rfl⟩) hS hD hA rfl (fun r_74 u t H locs ht hvm w_75 hB hz1 hk1 hFq hAq hS => ?_)
            obtain ⟨zza_76, zou_77, zhm_78, zop_79, zb_80, zt_81, zv_82, ycd_83, yhe_84⟩ := u
            obtain ⟨hP1, hK1, hD1⟩ := hB
            have w_75 : (r_74 = 0 ∨ r_74 = 1) ∧ (r_74 = 1 → dp (eF ycd_83 tx) zou_32 (zou_77 - zou_32) = some 1) ∧ zza_76 ≤ td ∧ zou_77 + 1 ≤ zza_76 ∧ zou_32 ≤ zou_77 ∧ (∀ i, (i < 200 * tx + zou_32 ∨ 200 * tx + 200 ≤ i) → ycd_83 i = ycd_38 i) ∧ ∃ j9 b9, eRun tx td ftp fwo j9 (m_X6_next_h019 td ftp zza_31) 0 zou_32 0 ycd_38 yhe_39 1 1 = some (b9, zza_76, zou_77, zb_80, ycd_83, yhe_84) ∧ r_74 = bz b9 := w_75
            have hz9 : gPD G A [zo6 h0 (nI pb) kd mo st (nI jg) ro tp (nI td) cd sr (nI tx) (nI ru) him ir ih ss sq ce lw (nI zza_76) zb_80 zt_81 zv_82 wo he zhm_78 zop_79 (nI zou_77) sk na kp s31 s32 s33 s34 gb go fa ga s39 s40 vo, zi G cd 1200 ycd_83, zi G sr 24 (nF (updN (updN fsr ((4 * tx) + 0) 0) ((4 * tx) + 1) zou_32)), zi G he 200 yhe_84, zi G tp 160 ftp, zi G wo 96 fwo] H := zFill hP hD [0, 1, 3, 4, 5] [1, 2, 0, 3, 4, 5] hAq hk1 hFq ht hP1 hD1 rfl (by decide +kernel)
            have hP := hz9.1
            have hD := hz9.2
            obtain ⟨hq1, hd1, ha1, hb1, hc1, hu1, hE1⟩ := w_75
            refine lv_if_eq (tgt := 93) hx hb dX6_text_86 (by decide +kernel) (fun c_85 => ?_) (fun c_85 => ?_)
            · skip
              have hF1 := er_f hE1 c_85
              refine lv_iconst (v := 0) hx hb dX6_text_93 (by decide +kernel) ?_
              refine lv_istore_n (lv' := [zI 1 0, zI 2 1, zR 0 h0]) hx hb dX6_text_94 rfl hl (by decide +kernel) rfl (fun ls hl => ?_)
              refine lv_iinc (v := 2) (lv' := [zI 2 2, zI 1 0, zR 0 h0]) hx hb dX6_text_95 hl (k := 1) rfl (by decide +kernel) (by decide +kernel) rfl (fun ls hl => ?_)
              refine lv_goto (tgt := 26) hx hb dX6_text_98 (by decide +kernel) ?_
              refine lv_iload_n hx hb dX6_text_26 rfl (lv_at hl 0 rfl) ?_
              refine lv_iconst (v := 3) hx hb dX6_text_27 (by decide +kernel) ?_
              refine lv_icmp_ge (tgt := 101) hx hb dX6_text_28 (by decide +kernel) (fun c_86 => ?_) (fun c_86 => ?_)
              · exact absurd c_86 (by decide +kernel)
              refine lv_iload_n hx hb dX6_text_31 rfl (lv_at hl 1 rfl) ?_
              refine lv_if_eq (tgt := 101) hx hb dX6_text_32 (by decide +kernel) (fun c_87 => ?_) (fun c_87 => ?_)
              rotate_left
              · exact absurd (by decide +kernel) c_87
              refine lv_iload_n hx hb dX6_text_101 rfl (lv_at hl 1 rfl) ?_
              refine lv_if_eq (tgt := 122) hx hb dX6_text_102 (by decide +kernel) (fun c_88 => ?_) (fun c_88 => ?_)
              rotate_left
              · exact absurd (by decide +kernel) c_88
              refine g_aget (D := G.1) (ci := 6) (v := .ref sr) (C := RX6) (T := TX6) (N := 42) hx hb dX6_text_122 rfl (lv_at hl 2 rfl) hts hiX6 hown hK hP 0 rfl rfl 9 (by decide +kernel) kf28 (fun _ h9 => h9) rfl dX6_text_123 ?_
              refine lv_iconst (v := 4) hx hb dX6_text_126 (by decide +kernel) ?_
              refine g_aget (D := G.1) (ci := 6) (v := .int (nI tx)) (C := RX6) (T := TX6) (N := 42) hx hb dX6_text_127 rfl (lv_at hl 2 rfl) hts hiX6 hown hK hP 0 rfl rfl 10 (by decide +kernel) kf98 (fun _ h9 => h9) rfl dX6_text_128 ?_
              refine lv_imul hx hb dX6_text_131 ?_
              refine g_topi (y := nI (4 * tx)) (pk_mul 4 tx) ?_
              refine lv_iconst (v := 3) hx hb dX6_text_132 (by decide +kernel) ?_
              refine lv_iadd hx hb dX6_text_133 ?_
              refine g_topi (y := nI ((4 * tx) + 3)) (nI_add (4 * tx) 3) ?_
              refine g_aget (D := G.1) (ci := 6) (v := .int (nI zou_77)) (C := RX6) (T := TX6) (N := 42) hx hb dX6_text_134 rfl (lv_at hl 2 rfl) hts hiX6 hown hK hP 0 rfl rfl 27 (by decide +kernel) kf127 (fun _ h9 => h9) rfl dX6_text_135 ?_
              refine va_iast (D := G.1) hx hb hK hP hD hS 2 0 rfl rfl (i := (nI ((4 * tx) + 3))) (x := (nI zou_77)) (vpn (by omega) rfl) dX6_text_138 (fun H locs hP hD hS => ?_)
              have hz9 : gPD G A [zo6 h0 (nI pb) kd mo st (nI jg) ro tp (nI td) cd sr (nI tx) (nI ru) him ir ih ss sq ce lw (nI zza_76) zb_80 zt_81 zv_82 wo he zhm_78 zop_79 (nI zou_77) sk na kp s31 s32 s33 s34 gb go fa ga s39 s40 vo, zi G cd 1200 ycd_83, zi G sr 24 (nF (updN (updN (updN fsr ((4 * tx) + 0) 0) ((4 * tx) + 1) zou_32) ((4 * tx) + 3) zou_77)), zi G he 200 yhe_84, zi G tp 160 ftp, zi G wo 96 fwo] H := ⟨by rw [nI_clamp (by omega), show upd (nF (updN (updN fsr ((4 * tx) + 0) 0) ((4 * tx) + 1) zou_32)) ((4 * tx) + 3) (nI zou_77) = nF (updN (updN (updN fsr ((4 * tx) + 0) 0) ((4 * tx) + 1) zou_32) ((4 * tx) + 3) zou_77) from nF_upd] at hP; exact hP, by rw [nI_clamp (by omega), show upd (nF (updN (updN fsr ((4 * tx) + 0) 0) ((4 * tx) + 1) zou_32)) ((4 * tx) + 3) (nI zou_77) = nF (updN (updN (updN fsr ((4 * tx) + 0) 0) ((4 * tx) + 1) zou_32) ((4 * tx) + 3) zou_77) from nF_upd] at hD; exact hD⟩
              have hP := hz9.1
              have hD := hz9.2
              refine lv_aload_n hx hb dX6_text_139 rfl (lv_at hl 2 rfl) ?_
              refine lv_iconst (v := 0) hx hb dX6_text_140 (by decide +kernel) ?_
              refine va_put (D := G.1) (ci := 6) (v := .int 0) (ty := .int) (C := RX6) (T := TX6) (N := 42) hx hb hts hiX6 tyX6 tyX6_ok nmX6 hown hK hP hD hS 0 rfl rfl 7 (by decide +kernel) kf80 (fun _ h9 => h9) rfl (by decide +kernel) rfl rfl (Nat.le_of_ble_eq_true rfl) dX6_text_141 (fun H locs hP hD hS => ?_)
              have hz9 : gPD G A [zo6 h0 (nI pb) kd mo st (nI jg) ro tp 0 cd sr (nI tx) (nI ru) him ir ih ss sq ce lw (nI zza_76) zb_80 zt_81 zv_82 wo he zhm_78 zop_79 (nI zou_77) sk na kp s31 s32 s33 s34 gb go fa ga s39 s40 vo, zi G cd 1200 ycd_83, zi G sr 24 (nF (updN (updN (updN fsr ((4 * tx) + 0) 0) ((4 * tx) + 1) zou_32) ((4 * tx) + 3) zou_77)), zi G he 200 yhe_84, zi G tp 160 ftp, zi G wo 96 fwo] H := ⟨hP, hD⟩
              have hP := hz9.1
              have hD := hz9.2
              refine lv_iload_n hx hb dX6_text_144 rfl (lv_at hl 1 rfl) ?_
              refine lv_if_ne (tgt := 156) hx hb dX6_text_145 (by decide +kernel) (fun c_91 => ?_) (fun c_91 => ?_)
              · exact absurd (by decide +kernel) c_91
              refine lv_bipush (v := -100) hx hb dX6_text_148 (by decide +kernel) ?_
              refine g_aget (D := G.1) (ci := 6) (v := .int zb_80) (C := RX6) (T := TX6) (N := 42) hx hb dX6_text_150 rfl (lv_at hl 2 rfl) hts hiX6 hown hK hP 0 rfl rfl 20 (by decide +kernel) kf114 (fun _ h9 => h9) rfl dX6_text_151 ?_
              refine lv_isub hx hb dX6_text_154 ?_
              have hpost : (fun (r : Int32) (u : Int32 × Int32 × Int32 × Int32 × Int32 × Int32 × Int32 × Nat × (Nat → Int32) × (Nat → Int32) × (Nat → Nat) × Bool × Nat × Nat × Nat) => match u with | (zat, zbg, ztk, zvl, zhm, zop, zou, ztx, ycd, yhe, ysr, zok, zo1, zo2, zo3) => (∀ i, i < 200 * tx → ycd i = fcd i) ∧ (∀ i, i < 4 * tx → ysr i = fsr i) ∧ rT tx td ftp fwo fcd fhe zok zbg ycd zo1 zo2 zo3 ∧ ((zok = true ∧ r = nI tx ∧ ztx = tx + 1 ∧ mWf ycd ysr tx ∧ ysr (4 * tx) = 0 ∧ ysr (4 * tx + 1) = zo1 ∧ ysr (4 * tx + 2) = zo2 ∧ ysr (4 * tx + 3) = zo3) ∨ (zok = false ∧ r = -100 - zbg ∧ ztx = tx))) ((-100) - zb_80) (nI zza_76, zb_80, zt_81, zv_82, zhm_78, zop_79, nI zou_77, tx, ycd_83, yhe_84, (updN (updN (updN fsr ((4 * tx) + 0) 0) ((4 * tx) + 1) zou_32) ((4 * tx) + 3) zou_77), false, zou_32, zou_77, 0) := by exact ⟨fun i hi => ((hu1 i (Or.inl (by omega)))).trans (hu0 i (Or.inl (by omega))), fun i hi => by rw [updN_lo (by omega), updN_lo (by omega), updN_lo (by omega)], Or.inr ⟨_, _, _, _, Or.inl ⟨⟨c_6, c_16⟩, hF0⟩, Or.inl ⟨rfl, _, _, _, _, Or.inl ⟨⟨c_51, c_61⟩, hF1⟩⟩⟩, Or.inr ⟨rfl, rfl, rfl⟩⟩
              exact W.iret (v := ((-100) - zb_80)) hx hb hr (fun t ht hW => ⟨⟨((-100) - zb_80), (nI zza_76, zb_80, zt_81, zv_82, zhm_78, zop_79, nI zou_77, tx, ycd_83, yhe_84, (updN (updN (updN fsr ((4 * tx) + 0) 0) ((4 * tx) + 1) zou_32) ((4 * tx) + 3) zou_77), false, zou_32, zou_77, 0), rfl, hpost, by rw [ht]; exact hP, va_K.moved hW.alike hK, hD⟩, hS.F ht⟩) hS.2.2 dX6_text_155
            · skip
              have hg1 := hd1 (hq1.resolve_left c_85)
              have hF1 := er_t hE1 c_85
              refine lv_iconst (v := 1) hx hb dX6_text_89 (by decide +kernel) ?_
              refine lv_goto (tgt := 94) hx hb dX6_text_90 (by decide +kernel) ?_
              refine lv_istore_n (lv' := [zI 1 1, zI 2 1, zR 0 h0]) hx hb dX6_text_94 rfl hl (by decide +kernel) rfl (fun ls hl => ?_)
              refine lv_iinc (v := 2) (lv' := [zI 2 2, zI 1 1, zR 0 h0]) hx hb dX6_text_95 hl (k := 1) rfl (by decide +kernel) (by decide +kernel) rfl (fun ls hl => ?_)
              refine lv_goto (tgt := 26) hx hb dX6_text_98 (by decide +kernel) ?_
              refine lv_iload_n hx hb dX6_text_26 rfl (lv_at hl 0 rfl) ?_
              refine lv_iconst (v := 3) hx hb dX6_text_27 (by decide +kernel) ?_
              refine lv_icmp_ge (tgt := 101) hx hb dX6_text_28 (by decide +kernel) (fun c_92 => ?_) (fun c_92 => ?_)
              · exact absurd c_92 (by decide +kernel)
              refine lv_iload_n hx hb dX6_text_31 rfl (lv_at hl 1 rfl) ?_
              refine lv_if_eq (tgt := 101) hx hb dX6_text_32 (by decide +kernel) (fun c_93 => ?_) (fun c_93 => ?_)
              · exact absurd c_93 (by decide +kernel)
              refine lv_aload_n hx hb dX6_text_35 rfl (lv_at hl 2 rfl) ?_
              refine z_callv [0, 4, 5] (va_runV (As := []) (rest := []) ⟨hx, hb, hml, hown, hts⟩ (c_X6_next l G h0 kd mo st ro tp cd sr ir ih ss sq ce lw wo he sk na kp gb go fa ga vo pb jg td tx ru him zb_80 zt_81 zv_82 zhm_78 zop_79 (nI zou_77) s31 s32 s33 s34 s39 s40 ftp fwo zza_76 H.size (htd) (by omega)) (cwV 0 hts gX6_text_X6_next rfl rfl rfl (by decide +kernel) ⟨Nat.le_of_ble_eq_true rfl, Nat.le_of_ble_eq_true rfl⟩) ⟨gPre_blind, va_recv (q := (RX6, TX6, 42)) hK hP (ci := 6) (q0 := 0) rfl rfl, fun U hU hW => gPre_ofF [0, 4, 5] hU hW hK hP hD (by decide +kernel) rfl⟩ rfl rfl hl.1 rfl (lv_room (Nat.le_of_ble_eq_true rfl)) dX6_text_36 ⟨Nat.le_of_ble_eq_true rfl, Nat.le_of_ble_eq_true rfl⟩) hS hD hA rfl (fun u t H locs ht hvm w_95 hB hz1 hk1 hFq hAq hS => ?_)
              obtain ⟨hP1, hK1, hD1⟩ := hB
              have w_95 : zza_76 ≤ (m_X6_next_h019 td ftp zza_76) ∧ (m_X6_next_h019 td ftp zza_76) ≤ td ∧ (¬ (m_X6_next_h021 td ftp fwo zza_76) = 0 → zza_76 < (m_X6_next_h019 td ftp zza_76)) ∧ ((m_X6_next_h021 td ftp fwo zza_76) = 2 → 0 ≤ (m_X6_next_h022 td ftp fwo zza_76) ∧ (m_X6_next_h022 td ftp fwo zza_76) < 6) ∧ ((m_X6_next_h021 td ftp fwo zza_76) = 1 → 100000 ≤ 100000 + (m_X6_next_h022 td ftp fwo zza_76)) := w_95
              have hz9 : gPD G A [zo6 h0 (nI pb) kd mo st (nI jg) ro tp (nI td) cd sr (nI tx) (nI ru) him ir ih ss sq ce lw (nI (m_X6_next_h019 td ftp zza_76)) (m_X6_next_h020 td ftp zza_76) (m_X6_next_h021 td ftp fwo zza_76) (m_X6_next_h022 td ftp fwo zza_76) wo he zhm_78 zop_79 (nI zou_77) sk na kp s31 s32 s33 s34 gb go fa ga s39 s40 vo, zi G cd 1200 ycd_83, zi G sr 24 (nF (updN (updN fsr ((4 * tx) + 0) 0) ((4 * tx) + 1) zou_32)), zi G he 200 yhe_84, zi G tp 160 ftp, zi G wo 96 fwo] H := zFill hP hD [0, 4, 5] [1, 0, 0, 0, 2, 3] hAq hk1 hFq ht hP1 hD1 rfl (by decide +kernel)
              have hP := hz9.1
              have hD := hz9.2
              obtain ⟨hn12, hn22, hn32, hn42, hn52⟩ := w_95
              refine g_aget (D := G.1) (ci := 6) (v := .int (m_X6_next_h021 td ftp fwo zza_76)) (C := RX6) (T := TX6) (N := 42) hx hb dX6_text_39 rfl (lv_at hl 2 rfl) hts hiX6 hown hK hP 0 rfl rfl 21 (by decide +kernel) kf117 (fun _ h9 => h9) rfl dX6_text_40 ?_
              refine lv_iconst (v := 3) hx hb dX6_text_43 (by decide +kernel) ?_
              refine lv_icmp_ne (tgt := 59) hx hb dX6_text_44 (by decide +kernel) (fun c_96 => ?_) (fun c_96 => ?_)
              · skip
                refine lv_iconst (v := 0) hx hb dX6_text_59 (by decide +kernel) ?_
                refine lv_istore_n (lv' := [zI 1 0, zI 2 2, zR 0 h0]) hx hb dX6_text_60 rfl hl (by decide +kernel) rfl (fun ls hl => ?_)
                refine g_aget (D := G.1) (ci := 6) (v := .ref sr) (C := RX6) (T := TX6) (N := 42) hx hb dX6_text_61 rfl (lv_at hl 2 rfl) hts hiX6 hown hK hP 0 rfl rfl 9 (by decide +kernel) kf28 (fun _ h9 => h9) rfl dX6_text_62 ?_
                refine lv_iconst (v := 4) hx hb dX6_text_65 (by decide +kernel) ?_
                refine g_aget (D := G.1) (ci := 6) (v := .int (nI tx)) (C := RX6) (T := TX6) (N := 42) hx hb dX6_text_66 rfl (lv_at hl 2 rfl) hts hiX6 hown hK hP 0 rfl rfl 10 (by decide +kernel) kf98 (fun _ h9 => h9) rfl dX6_text_67 ?_
                refine lv_imul hx hb dX6_text_70 ?_
                refine g_topi (y := nI (4 * tx)) (pk_mul 4 tx) ?_
                refine lv_iload_n hx hb dX6_text_71 rfl (lv_at hl 1 rfl) ?_
                refine lv_iadd hx hb dX6_text_72 ?_
                refine g_topi (y := nI ((4 * tx) + 2)) (nI_add (4 * tx) 2) ?_
                refine g_aget (D := G.1) (ci := 6) (v := .int (nI zou_77)) (C := RX6) (T := TX6) (N := 42) hx hb dX6_text_73 rfl (lv_at hl 2 rfl) hts hiX6 hown hK hP 0 rfl rfl 27 (by decide +kernel) kf127 (fun _ h9 => h9) rfl dX6_text_74 ?_
                refine va_iast (D := G.1) hx hb hK hP hD hS 2 0 rfl rfl (i := (nI ((4 * tx) + 2))) (x := (nI zou_77)) (vpn (by omega) rfl) dX6_text_77 (fun H locs hP hD hS => ?_)
                have hz9 : gPD G A [zo6 h0 (nI pb) kd mo st (nI jg) ro tp (nI td) cd sr (nI tx) (nI ru) him ir ih ss sq ce lw (nI (m_X6_next_h019 td ftp zza_76)) (m_X6_next_h020 td ftp zza_76) (m_X6_next_h021 td ftp fwo zza_76) (m_X6_next_h022 td ftp fwo zza_76) wo he zhm_78 zop_79 (nI zou_77) sk na kp s31 s32 s33 s34 gb go fa ga s39 s40 vo, zi G cd 1200 ycd_83, zi G sr 24 (nF (updN (updN (updN fsr ((4 * tx) + 0) 0) ((4 * tx) + 1) zou_32) ((4 * tx) + 2) zou_77)), zi G he 200 yhe_84, zi G tp 160 ftp, zi G wo 96 fwo] H := ⟨by rw [nI_clamp (by omega), show upd (nF (updN (updN fsr ((4 * tx) + 0) 0) ((4 * tx) + 1) zou_32)) ((4 * tx) + 2) (nI zou_77) = nF (updN (updN (updN fsr ((4 * tx) + 0) 0) ((4 * tx) + 1) zou_32) ((4 * tx) + 2) zou_77) from nF_upd] at hP; exact hP, by rw [nI_clamp (by omega), show upd (nF (updN (updN fsr ((4 * tx) + 0) 0) ((4 * tx) + 1) zou_32)) ((4 * tx) + 2) (nI zou_77) = nF (updN (updN (updN fsr ((4 * tx) + 0) 0) ((4 * tx) + 1) zou_32) ((4 * tx) + 2) zou_77) from nF_upd] at hD; exact hD⟩
                have hP := hz9.1
                have hD := hz9.2
                refine lv_iload_n hx hb dX6_text_78 rfl (lv_at hl 0 rfl) ?_
                refine lv_if_eq (tgt := 93) hx hb dX6_text_79 (by decide +kernel) (fun c_99 => ?_) (fun c_99 => ?_)
                rotate_left
                · exact absurd (by decide +kernel) c_99
                refine lv_iconst (v := 0) hx hb dX6_text_93 (by decide +kernel) ?_
                refine lv_istore_n (lv' := [zI 1 0, zI 2 2, zR 0 h0]) hx hb dX6_text_94 rfl hl (by decide +kernel) rfl (fun ls hl => ?_)
                refine lv_iinc (v := 3) (lv' := [zI 2 3, zI 1 0, zR 0 h0]) hx hb dX6_text_95 hl (k := 1) rfl (by decide +kernel) (by decide +kernel) rfl (fun ls hl => ?_)
                refine lv_goto (tgt := 26) hx hb dX6_text_98 (by decide +kernel) ?_
                refine lv_iload_n hx hb dX6_text_26 rfl (lv_at hl 0 rfl) ?_
                refine lv_iconst (v := 3) hx hb dX6_text_27 (by decide +kernel) ?_
                refine lv_icmp_ge (tgt := 101) hx hb dX6_text_28 (by decide +kernel) (fun c_100 => ?_) (fun c_100 => ?_)
                rotate_left
                · exact absurd (by decide +kernel) c_100
                refine lv_iload_n hx hb dX6_text_101 rfl (lv_at hl 1 rfl) ?_
                refine lv_if_eq (tgt := 122) hx hb dX6_text_102 (by decide +kernel) (fun c_101 => ?_) (fun c_101 => ?_)
                rotate_left
                · exact absurd (by decide +kernel) c_101
                refine g_aget (D := G.1) (ci := 6) (v := .ref sr) (C := RX6) (T := TX6) (N := 42) hx hb dX6_text_122 rfl (lv_at hl 2 rfl) hts hiX6 hown hK hP 0 rfl rfl 9 (by decide +kernel) kf28 (fun _ h9 => h9) rfl dX6_text_123 ?_
                refine lv_iconst (v := 4) hx hb dX6_text_126 (by decide +kernel) ?_
                refine g_aget (D := G.1) (ci := 6) (v := .int (nI tx)) (C := RX6) (T := TX6) (N := 42) hx hb dX6_text_127 rfl (lv_at hl 2 rfl) hts hiX6 hown hK hP 0 rfl rfl 10 (by decide +kernel) kf98 (fun _ h9 => h9) rfl dX6_text_128 ?_
                refine lv_imul hx hb dX6_text_131 ?_
                refine g_topi (y := nI (4 * tx)) (pk_mul 4 tx) ?_
                refine lv_iconst (v := 3) hx hb dX6_text_132 (by decide +kernel) ?_
                refine lv_iadd hx hb dX6_text_133 ?_
                refine g_topi (y := nI ((4 * tx) + 3)) (nI_add (4 * tx) 3) ?_
                refine g_aget (D := G.1) (ci := 6) (v := .int (nI zou_77)) (C := RX6) (T := TX6) (N := 42) hx hb dX6_text_134 rfl (lv_at hl 2 rfl) hts hiX6 hown hK hP 0 rfl rfl 27 (by decide +kernel) kf127 (fun _ h9 => h9) rfl dX6_text_135 ?_
                refine va_iast (D := G.1) hx hb hK hP hD hS 2 0 rfl rfl (i := (nI ((4 * tx) + 3))) (x := (nI zou_77)) (vpn (by omega) rfl) dX6_text_138 (fun H locs hP hD hS => ?_)
                have hz9 : gPD G A [zo6 h0 (nI pb) kd mo st (nI jg) ro tp (nI td) cd sr (nI tx) (nI ru) him ir ih ss sq ce lw (nI (m_X6_next_h019 td ftp zza_76)) (m_X6_next_h020 td ftp zza_76) (m_X6_next_h021 td ftp fwo zza_76) (m_X6_next_h022 td ftp fwo zza_76) wo he zhm_78 zop_79 (nI zou_77) sk na kp s31 s32 s33 s34 gb go fa ga s39 s40 vo, zi G cd 1200 ycd_83, zi G sr 24 (nF (updN (updN (updN (updN fsr ((4 * tx) + 0) 0) ((4 * tx) + 1) zou_32) ((4 * tx) + 2) zou_77) ((4 * tx) + 3) zou_77)), zi G he 200 yhe_84, zi G tp 160 ftp, zi G wo 96 fwo] H := ⟨by rw [nI_clamp (by omega), show upd (nF (updN (updN (updN fsr ((4 * tx) + 0) 0) ((4 * tx) + 1) zou_32) ((4 * tx) + 2) zou_77)) ((4 * tx) + 3) (nI zou_77) = nF (updN (updN (updN (updN fsr ((4 * tx) + 0) 0) ((4 * tx) + 1) zou_32) ((4 * tx) + 2) zou_77) ((4 * tx) + 3) zou_77) from nF_upd] at hP; exact hP, by rw [nI_clamp (by omega), show upd (nF (updN (updN (updN fsr ((4 * tx) + 0) 0) ((4 * tx) + 1) zou_32) ((4 * tx) + 2) zou_77)) ((4 * tx) + 3) (nI zou_77) = nF (updN (updN (updN (updN fsr ((4 * tx) + 0) 0) ((4 * tx) + 1) zou_32) ((4 * tx) + 2) zou_77) ((4 * tx) + 3) zou_77) from nF_upd] at hD; exact hD⟩
                have hP := hz9.1
                have hD := hz9.2
                refine lv_aload_n hx hb dX6_text_139 rfl (lv_at hl 2 rfl) ?_
                refine lv_iconst (v := 0) hx hb dX6_text_140 (by decide +kernel) ?_
                refine va_put (D := G.1) (ci := 6) (v := .int 0) (ty := .int) (C := RX6) (T := TX6) (N := 42) hx hb hts hiX6 tyX6 tyX6_ok nmX6 hown hK hP hD hS 0 rfl rfl 7 (by decide +kernel) kf80 (fun _ h9 => h9) rfl (by decide +kernel) rfl rfl (Nat.le_of_ble_eq_true rfl) dX6_text_141 (fun H locs hP hD hS => ?_)
                have hz9 : gPD G A [zo6 h0 (nI pb) kd mo st (nI jg) ro tp 0 cd sr (nI tx) (nI ru) him ir ih ss sq ce lw (nI (m_X6_next_h019 td ftp zza_76)) (m_X6_next_h020 td ftp zza_76) (m_X6_next_h021 td ftp fwo zza_76) (m_X6_next_h022 td ftp fwo zza_76) wo he zhm_78 zop_79 (nI zou_77) sk na kp s31 s32 s33 s34 gb go fa ga s39 s40 vo, zi G cd 1200 ycd_83, zi G sr 24 (nF (updN (updN (updN (updN fsr ((4 * tx) + 0) 0) ((4 * tx) + 1) zou_32) ((4 * tx) + 2) zou_77) ((4 * tx) + 3) zou_77)), zi G he 200 yhe_84, zi G tp 160 ftp, zi G wo 96 fwo] H := ⟨hP, hD⟩
                have hP := hz9.1
                have hD := hz9.2
                refine lv_iload_n hx hb dX6_text_144 rfl (lv_at hl 1 rfl) ?_
                refine lv_if_ne (tgt := 156) hx hb dX6_text_145 (by decide +kernel) (fun c_104 => ?_) (fun c_104 => ?_)
                · exact absurd (by decide +kernel) c_104
                refine lv_bipush (v := -100) hx hb dX6_text_148 (by decide +kernel) ?_
                refine g_aget (D := G.1) (ci := 6) (v := .int (m_X6_next_h020 td ftp zza_76)) (C := RX6) (T := TX6) (N := 42) hx hb dX6_text_150 rfl (lv_at hl 2 rfl) hts hiX6 hown hK hP 0 rfl rfl 20 (by decide +kernel) kf114 (fun _ h9 => h9) rfl dX6_text_151 ?_
                refine lv_isub hx hb dX6_text_154 ?_
                have hpost : (fun (r : Int32) (u : Int32 × Int32 × Int32 × Int32 × Int32 × Int32 × Int32 × Nat × (Nat → Int32) × (Nat → Int32) × (Nat → Nat) × Bool × Nat × Nat × Nat) => match u with | (zat, zbg, ztk, zvl, zhm, zop, zou, ztx, ycd, yhe, ysr, zok, zo1, zo2, zo3) => (∀ i, i < 200 * tx → ycd i = fcd i) ∧ (∀ i, i < 4 * tx → ysr i = fsr i) ∧ rT tx td ftp fwo fcd fhe zok zbg ycd zo1 zo2 zo3 ∧ ((zok = true ∧ r = nI tx ∧ ztx = tx + 1 ∧ mWf ycd ysr tx ∧ ysr (4 * tx) = 0 ∧ ysr (4 * tx + 1) = zo1 ∧ ysr (4 * tx + 2) = zo2 ∧ ysr (4 * tx + 3) = zo3) ∨ (zok = false ∧ r = -100 - zbg ∧ ztx = tx))) ((-100) - (m_X6_next_h020 td ftp zza_76)) (nI (m_X6_next_h019 td ftp zza_76), (m_X6_next_h020 td ftp zza_76), (m_X6_next_h021 td ftp fwo zza_76), (m_X6_next_h022 td ftp fwo zza_76), zhm_78, zop_79, (nI zou_77), tx, ycd_83, yhe_84, (updN (updN (updN (updN fsr ((4 * tx) + 0) 0) ((4 * tx) + 1) zou_32) ((4 * tx) + 2) zou_77) ((4 * tx) + 3) zou_77), false, zou_32, zou_77, 0) := by exact ⟨fun i hi => ((hu1 i (Or.inl (by omega)))).trans (hu0 i (Or.inl (by omega))), fun i hi => by rw [updN_lo (by omega), updN_lo (by omega), updN_lo (by omega), updN_lo (by omega)], Or.inr ⟨_, _, _, _, Or.inl ⟨⟨c_6, c_16⟩, hF0⟩, Or.inr ⟨_, _, _, _, Or.inl ⟨⟨c_51, c_61⟩, hF1⟩, Or.inl ⟨rfl, 0, 0, fcd, fhe, Or.inr ⟨fun z => c_96 z.1, rfl, rfl⟩⟩⟩⟩, Or.inr ⟨rfl, rfl, rfl⟩⟩
                exact W.iret (v := ((-100) - (m_X6_next_h020 td ftp zza_76))) hx hb hr (fun t ht hW => ⟨⟨((-100) - (m_X6_next_h020 td ftp zza_76)), (nI (m_X6_next_h019 td ftp zza_76), (m_X6_next_h020 td ftp zza_76), (m_X6_next_h021 td ftp fwo zza_76), (m_X6_next_h022 td ftp fwo zza_76), zhm_78, zop_79, (nI zou_77), tx, ycd_83, yhe_84, (updN (updN (updN (updN fsr ((4 * tx) + 0) 0) ((4 * tx) + 1) zou_32) ((4 * tx) + 2) zou_77) ((4 * tx) + 3) zou_77), false, zou_32, zou_77, 0), rfl, hpost, by rw [ht]; exact hP, va_K.moved hW.alike hK, hD⟩, hS.F ht⟩) hS.2.2 dX6_text_155
              · skip
                refine g_aget (D := G.1) (ci := 6) (v := .int (m_X6_next_h022 td ftp fwo zza_76)) (C := RX6) (T := TX6) (N := 42) hx hb dX6_text_47 rfl (lv_at hl 2 rfl) hts hiX6 hown hK hP 0 rfl rfl 22 (by decide +kernel) kf120 (fun _ h9 => h9) rfl dX6_text_48 ?_
                refine lv_iload_n hx hb dX6_text_51 rfl (lv_at hl 0 rfl) ?_
                refine lv_icmp_ne (tgt := 59) hx hb dX6_text_52 (by decide +kernel) (fun c_105 => ?_) (fun c_105 => ?_)
                · skip
                  refine lv_iconst (v := 0) hx hb dX6_text_59 (by decide +kernel) ?_
                  refine lv_istore_n (lv' := [zI 1 0, zI 2 2, zR 0 h0]) hx hb dX6_text_60 rfl hl (by decide +kernel) rfl (fun ls hl => ?_)
                  refine g_aget (D := G.1) (ci := 6) (v := .ref sr) (C := RX6) (T := TX6) (N := 42) hx hb dX6_text_61 rfl (lv_at hl 2 rfl) hts hiX6 hown hK hP 0 rfl rfl 9 (by decide +kernel) kf28 (fun _ h9 => h9) rfl dX6_text_62 ?_
                  refine lv_iconst (v := 4) hx hb dX6_text_65 (by decide +kernel) ?_
                  refine g_aget (D := G.1) (ci := 6) (v := .int (nI tx)) (C := RX6) (T := TX6) (N := 42) hx hb dX6_text_66 rfl (lv_at hl 2 rfl) hts hiX6 hown hK hP 0 rfl rfl 10 (by decide +kernel) kf98 (fun _ h9 => h9) rfl dX6_text_67 ?_
                  refine lv_imul hx hb dX6_text_70 ?_
                  refine g_topi (y := nI (4 * tx)) (pk_mul 4 tx) ?_
                  refine lv_iload_n hx hb dX6_text_71 rfl (lv_at hl 1 rfl) ?_
                  refine lv_iadd hx hb dX6_text_72 ?_
                  refine g_topi (y := nI ((4 * tx) + 2)) (nI_add (4 * tx) 2) ?_
                  refine g_aget (D := G.1) (ci := 6) (v := .int (nI zou_77)) (C := RX6) (T := TX6) (N := 42) hx hb dX6_text_73 rfl (lv_at hl 2 rfl) hts hiX6 hown hK hP 0 rfl rfl 27 (by decide +kernel) kf127 (fun _ h9 => h9) rfl dX6_text_74 ?_
                  refine va_iast (D := G.1) hx hb hK hP hD hS 2 0 rfl rfl (i := (nI ((4 * tx) + 2))) (x := (nI zou_77)) (vpn (by omega) rfl) dX6_text_77 (fun H locs hP hD hS => ?_)
                  have hz9 : gPD G A [zo6 h0 (nI pb) kd mo st (nI jg) ro tp (nI td) cd sr (nI tx) (nI ru) him ir ih ss sq ce lw (nI (m_X6_next_h019 td ftp zza_76)) (m_X6_next_h020 td ftp zza_76) (m_X6_next_h021 td ftp fwo zza_76) (m_X6_next_h022 td ftp fwo zza_76) wo he zhm_78 zop_79 (nI zou_77) sk na kp s31 s32 s33 s34 gb go fa ga s39 s40 vo, zi G cd 1200 ycd_83, zi G sr 24 (nF (updN (updN (updN fsr ((4 * tx) + 0) 0) ((4 * tx) + 1) zou_32) ((4 * tx) + 2) zou_77)), zi G he 200 yhe_84, zi G tp 160 ftp, zi G wo 96 fwo] H := ⟨by rw [nI_clamp (by omega), show upd (nF (updN (updN fsr ((4 * tx) + 0) 0) ((4 * tx) + 1) zou_32)) ((4 * tx) + 2) (nI zou_77) = nF (updN (updN (updN fsr ((4 * tx) + 0) 0) ((4 * tx) + 1) zou_32) ((4 * tx) + 2) zou_77) from nF_upd] at hP; exact hP, by rw [nI_clamp (by omega), show upd (nF (updN (updN fsr ((4 * tx) + 0) 0) ((4 * tx) + 1) zou_32)) ((4 * tx) + 2) (nI zou_77) = nF (updN (updN (updN fsr ((4 * tx) + 0) 0) ((4 * tx) + 1) zou_32) ((4 * tx) + 2) zou_77) from nF_upd] at hD; exact hD⟩
                  have hP := hz9.1
                  have hD := hz9.2
                  refine lv_iload_n hx hb dX6_text_78 rfl (lv_at hl 0 rfl) ?_
                  refine lv_if_eq (tgt := 93) hx hb dX6_text_79 (by decide +kernel) (fun c_108 => ?_) (fun c_108 => ?_)
                  rotate_left
                  · exact absurd (by decide +kernel) c_108
                  refine lv_iconst (v := 0) hx hb dX6_text_93 (by decide +kernel) ?_
                  refine lv_istore_n (lv' := [zI 1 0, zI 2 2, zR 0 h0]) hx hb dX6_text_94 rfl hl (by decide +kernel) rfl (fun ls hl => ?_)
                  refine lv_iinc (v := 3) (lv' := [zI 2 3, zI 1 0, zR 0 h0]) hx hb dX6_text_95 hl (k := 1) rfl (by decide +kernel) (by decide +kernel) rfl (fun ls hl => ?_)
                  refine lv_goto (tgt := 26) hx hb dX6_text_98 (by decide +kernel) ?_
                  refine lv_iload_n hx hb dX6_text_26 rfl (lv_at hl 0 rfl) ?_
                  refine lv_iconst (v := 3) hx hb dX6_text_27 (by decide +kernel) ?_
                  refine lv_icmp_ge (tgt := 101) hx hb dX6_text_28 (by decide +kernel) (fun c_109 => ?_) (fun c_109 => ?_)
                  rotate_left
                  · exact absurd (by decide +kernel) c_109
                  refine lv_iload_n hx hb dX6_text_101 rfl (lv_at hl 1 rfl) ?_
                  refine lv_if_eq (tgt := 122) hx hb dX6_text_102 (by decide +kernel) (fun c_110 => ?_) (fun c_110 => ?_)
                  rotate_left
                  · exact absurd (by decide +kernel) c_110
                  refine g_aget (D := G.1) (ci := 6) (v := .ref sr) (C := RX6) (T := TX6) (N := 42) hx hb dX6_text_122 rfl (lv_at hl 2 rfl) hts hiX6 hown hK hP 0 rfl rfl 9 (by decide +kernel) kf28 (fun _ h9 => h9) rfl dX6_text_123 ?_
                  refine lv_iconst (v := 4) hx hb dX6_text_126 (by decide +kernel) ?_
                  refine g_aget (D := G.1) (ci := 6) (v := .int (nI tx)) (C := RX6) (T := TX6) (N := 42) hx hb dX6_text_127 rfl (lv_at hl 2 rfl) hts hiX6 hown hK hP 0 rfl rfl 10 (by decide +kernel) kf98 (fun _ h9 => h9) rfl dX6_text_128 ?_
                  refine lv_imul hx hb dX6_text_131 ?_
                  refine g_topi (y := nI (4 * tx)) (pk_mul 4 tx) ?_
                  refine lv_iconst (v := 3) hx hb dX6_text_132 (by decide +kernel) ?_
                  refine lv_iadd hx hb dX6_text_133 ?_
                  refine g_topi (y := nI ((4 * tx) + 3)) (nI_add (4 * tx) 3) ?_
                  refine g_aget (D := G.1) (ci := 6) (v := .int (nI zou_77)) (C := RX6) (T := TX6) (N := 42) hx hb dX6_text_134 rfl (lv_at hl 2 rfl) hts hiX6 hown hK hP 0 rfl rfl 27 (by decide +kernel) kf127 (fun _ h9 => h9) rfl dX6_text_135 ?_
                  refine va_iast (D := G.1) hx hb hK hP hD hS 2 0 rfl rfl (i := (nI ((4 * tx) + 3))) (x := (nI zou_77)) (vpn (by omega) rfl) dX6_text_138 (fun H locs hP hD hS => ?_)
                  have hz9 : gPD G A [zo6 h0 (nI pb) kd mo st (nI jg) ro tp (nI td) cd sr (nI tx) (nI ru) him ir ih ss sq ce lw (nI (m_X6_next_h019 td ftp zza_76)) (m_X6_next_h020 td ftp zza_76) (m_X6_next_h021 td ftp fwo zza_76) (m_X6_next_h022 td ftp fwo zza_76) wo he zhm_78 zop_79 (nI zou_77) sk na kp s31 s32 s33 s34 gb go fa ga s39 s40 vo, zi G cd 1200 ycd_83, zi G sr 24 (nF (updN (updN (updN (updN fsr ((4 * tx) + 0) 0) ((4 * tx) + 1) zou_32) ((4 * tx) + 2) zou_77) ((4 * tx) + 3) zou_77)), zi G he 200 yhe_84, zi G tp 160 ftp, zi G wo 96 fwo] H := ⟨by rw [nI_clamp (by omega), show upd (nF (updN (updN (updN fsr ((4 * tx) + 0) 0) ((4 * tx) + 1) zou_32) ((4 * tx) + 2) zou_77)) ((4 * tx) + 3) (nI zou_77) = nF (updN (updN (updN (updN fsr ((4 * tx) + 0) 0) ((4 * tx) + 1) zou_32) ((4 * tx) + 2) zou_77) ((4 * tx) + 3) zou_77) from nF_upd] at hP; exact hP, by rw [nI_clamp (by omega), show upd (nF (updN (updN (updN fsr ((4 * tx) + 0) 0) ((4 * tx) + 1) zou_32) ((4 * tx) + 2) zou_77)) ((4 * tx) + 3) (nI zou_77) = nF (updN (updN (updN (updN fsr ((4 * tx) + 0) 0) ((4 * tx) + 1) zou_32) ((4 * tx) + 2) zou_77) ((4 * tx) + 3) zou_77) from nF_upd] at hD; exact hD⟩
                  have hP := hz9.1
                  have hD := hz9.2
                  refine lv_aload_n hx hb dX6_text_139 rfl (lv_at hl 2 rfl) ?_
                  refine lv_iconst (v := 0) hx hb dX6_text_140 (by decide +kernel) ?_
                  refine va_put (D := G.1) (ci := 6) (v := .int 0) (ty := .int) (C := RX6) (T := TX6) (N := 42) hx hb hts hiX6 tyX6 tyX6_ok nmX6 hown hK hP hD hS 0 rfl rfl 7 (by decide +kernel) kf80 (fun _ h9 => h9) rfl (by decide +kernel) rfl rfl (Nat.le_of_ble_eq_true rfl) dX6_text_141 (fun H locs hP hD hS => ?_)
                  have hz9 : gPD G A [zo6 h0 (nI pb) kd mo st (nI jg) ro tp 0 cd sr (nI tx) (nI ru) him ir ih ss sq ce lw (nI (m_X6_next_h019 td ftp zza_76)) (m_X6_next_h020 td ftp zza_76) (m_X6_next_h021 td ftp fwo zza_76) (m_X6_next_h022 td ftp fwo zza_76) wo he zhm_78 zop_79 (nI zou_77) sk na kp s31 s32 s33 s34 gb go fa ga s39 s40 vo, zi G cd 1200 ycd_83, zi G sr 24 (nF (updN (updN (updN (updN fsr ((4 * tx) + 0) 0) ((4 * tx) + 1) zou_32) ((4 * tx) + 2) zou_77) ((4 * tx) + 3) zou_77)), zi G he 200 yhe_84, zi G tp 160 ftp, zi G wo 96 fwo] H := ⟨hP, hD⟩
                  have hP := hz9.1
                  have hD := hz9.2
                  refine lv_iload_n hx hb dX6_text_144 rfl (lv_at hl 1 rfl) ?_
                  refine lv_if_ne (tgt := 156) hx hb dX6_text_145 (by decide +kernel) (fun c_113 => ?_) (fun c_113 => ?_)
                  · exact absurd (by decide +kernel) c_113
                  refine lv_bipush (v := -100) hx hb dX6_text_148 (by decide +kernel) ?_
                  refine g_aget (D := G.1) (ci := 6) (v := .int (m_X6_next_h020 td ftp zza_76)) (C := RX6) (T := TX6) (N := 42) hx hb dX6_text_150 rfl (lv_at hl 2 rfl) hts hiX6 hown hK hP 0 rfl rfl 20 (by decide +kernel) kf114 (fun _ h9 => h9) rfl dX6_text_151 ?_
                  refine lv_isub hx hb dX6_text_154 ?_
                  have hpost : (fun (r : Int32) (u : Int32 × Int32 × Int32 × Int32 × Int32 × Int32 × Int32 × Nat × (Nat → Int32) × (Nat → Int32) × (Nat → Nat) × Bool × Nat × Nat × Nat) => match u with | (zat, zbg, ztk, zvl, zhm, zop, zou, ztx, ycd, yhe, ysr, zok, zo1, zo2, zo3) => (∀ i, i < 200 * tx → ycd i = fcd i) ∧ (∀ i, i < 4 * tx → ysr i = fsr i) ∧ rT tx td ftp fwo fcd fhe zok zbg ycd zo1 zo2 zo3 ∧ ((zok = true ∧ r = nI tx ∧ ztx = tx + 1 ∧ mWf ycd ysr tx ∧ ysr (4 * tx) = 0 ∧ ysr (4 * tx + 1) = zo1 ∧ ysr (4 * tx + 2) = zo2 ∧ ysr (4 * tx + 3) = zo3) ∨ (zok = false ∧ r = -100 - zbg ∧ ztx = tx))) ((-100) - (m_X6_next_h020 td ftp zza_76)) (nI (m_X6_next_h019 td ftp zza_76), (m_X6_next_h020 td ftp zza_76), (m_X6_next_h021 td ftp fwo zza_76), (m_X6_next_h022 td ftp fwo zza_76), zhm_78, zop_79, (nI zou_77), tx, ycd_83, yhe_84, (updN (updN (updN (updN fsr ((4 * tx) + 0) 0) ((4 * tx) + 1) zou_32) ((4 * tx) + 2) zou_77) ((4 * tx) + 3) zou_77), false, zou_32, zou_77, 0) := by exact ⟨fun i hi => ((hu1 i (Or.inl (by omega)))).trans (hu0 i (Or.inl (by omega))), fun i hi => by rw [updN_lo (by omega), updN_lo (by omega), updN_lo (by omega), updN_lo (by omega)], Or.inr ⟨_, _, _, _, Or.inl ⟨⟨c_6, c_16⟩, hF0⟩, Or.inr ⟨_, _, _, _, Or.inl ⟨⟨c_51, c_61⟩, hF1⟩, Or.inl ⟨rfl, 0, 0, fcd, fhe, Or.inr ⟨fun z => c_105 z.2, rfl, rfl⟩⟩⟩⟩, Or.inr ⟨rfl, rfl, rfl⟩⟩
                  exact W.iret (v := ((-100) - (m_X6_next_h020 td ftp zza_76))) hx hb hr (fun t ht hW => ⟨⟨((-100) - (m_X6_next_h020 td ftp zza_76)), (nI (m_X6_next_h019 td ftp zza_76), (m_X6_next_h020 td ftp zza_76), (m_X6_next_h021 td ftp fwo zza_76), (m_X6_next_h022 td ftp fwo zza_76), zhm_78, zop_79, (nI zou_77), tx, ycd_83, yhe_84, (updN (updN (updN (updN fsr ((4 * tx) + 0) 0) ((4 * tx) + 1) zou_32) ((4 * tx) + 2) zou_77) ((4 * tx) + 3) zou_77), false, zou_32, zou_77, 0), rfl, hpost, by rw [ht]; exact hP, va_K.moved hW.alike hK, hD⟩, hS.F ht⟩) hS.2.2 dX6_text_155
                · skip
                  refine lv_iconst (v := 1) hx hb dX6_text_55 (by decide +kernel) ?_
                  refine lv_goto (tgt := 60) hx hb dX6_text_56 (by decide +kernel) ?_
                  refine lv_istore_n (lv' := [zI 1 1, zI 2 2, zR 0 h0]) hx hb dX6_text_60 rfl hl (by decide +kernel) rfl (fun ls hl => ?_)
                  refine g_aget (D := G.1) (ci := 6) (v := .ref sr) (C := RX6) (T := TX6) (N := 42) hx hb dX6_text_61 rfl (lv_at hl 2 rfl) hts hiX6 hown hK hP 0 rfl rfl 9 (by decide +kernel) kf28 (fun _ h9 => h9) rfl dX6_text_62 ?_
                  refine lv_iconst (v := 4) hx hb dX6_text_65 (by decide +kernel) ?_
                  refine g_aget (D := G.1) (ci := 6) (v := .int (nI tx)) (C := RX6) (T := TX6) (N := 42) hx hb dX6_text_66 rfl (lv_at hl 2 rfl) hts hiX6 hown hK hP 0 rfl rfl 10 (by decide +kernel) kf98 (fun _ h9 => h9) rfl dX6_text_67 ?_
                  refine lv_imul hx hb dX6_text_70 ?_
                  refine g_topi (y := nI (4 * tx)) (pk_mul 4 tx) ?_
                  refine lv_iload_n hx hb dX6_text_71 rfl (lv_at hl 1 rfl) ?_
                  refine lv_iadd hx hb dX6_text_72 ?_
                  refine g_topi (y := nI ((4 * tx) + 2)) (nI_add (4 * tx) 2) ?_
                  refine g_aget (D := G.1) (ci := 6) (v := .int (nI zou_77)) (C := RX6) (T := TX6) (N := 42) hx hb dX6_text_73 rfl (lv_at hl 2 rfl) hts hiX6 hown hK hP 0 rfl rfl 27 (by decide +kernel) kf127 (fun _ h9 => h9) rfl dX6_text_74 ?_
                  refine va_iast (D := G.1) hx hb hK hP hD hS 2 0 rfl rfl (i := (nI ((4 * tx) + 2))) (x := (nI zou_77)) (vpn (by omega) rfl) dX6_text_77 (fun H locs hP hD hS => ?_)
                  have hz9 : gPD G A [zo6 h0 (nI pb) kd mo st (nI jg) ro tp (nI td) cd sr (nI tx) (nI ru) him ir ih ss sq ce lw (nI (m_X6_next_h019 td ftp zza_76)) (m_X6_next_h020 td ftp zza_76) (m_X6_next_h021 td ftp fwo zza_76) (m_X6_next_h022 td ftp fwo zza_76) wo he zhm_78 zop_79 (nI zou_77) sk na kp s31 s32 s33 s34 gb go fa ga s39 s40 vo, zi G cd 1200 ycd_83, zi G sr 24 (nF (updN (updN (updN fsr ((4 * tx) + 0) 0) ((4 * tx) + 1) zou_32) ((4 * tx) + 2) zou_77)), zi G he 200 yhe_84, zi G tp 160 ftp, zi G wo 96 fwo] H := ⟨by rw [nI_clamp (by omega), show upd (nF (updN (updN fsr ((4 * tx) + 0) 0) ((4 * tx) + 1) zou_32)) ((4 * tx) + 2) (nI zou_77) = nF (updN (updN (updN fsr ((4 * tx) + 0) 0) ((4 * tx) + 1) zou_32) ((4 * tx) + 2) zou_77) from nF_upd] at hP; exact hP, by rw [nI_clamp (by omega), show upd (nF (updN (updN fsr ((4 * tx) + 0) 0) ((4 * tx) + 1) zou_32)) ((4 * tx) + 2) (nI zou_77) = nF (updN (updN (updN fsr ((4 * tx) + 0) 0) ((4 * tx) + 1) zou_32) ((4 * tx) + 2) zou_77) from nF_upd] at hD; exact hD⟩
                  have hP := hz9.1
                  have hD := hz9.2
                  refine lv_iload_n hx hb dX6_text_78 rfl (lv_at hl 0 rfl) ?_
                  refine lv_if_eq (tgt := 93) hx hb dX6_text_79 (by decide +kernel) (fun c_116 => ?_) (fun c_116 => ?_)
                  · exact absurd c_116 (by decide +kernel)
                  refine lv_aload_n hx hb dX6_text_82 rfl (lv_at hl 2 rfl) ?_
                  have hgt2 := hn32 (fun z9 => absurd (c_96.symm.trans z9) (by decide +kernel))
                  refine z_callp [0, 1, 3, 4, 5] (va_runV (As := []) (rest := []) ⟨hx, hb, hml, hown, hts⟩ (c_X6_eRead l G h0 kd mo st ro tp cd sr ir ih ss sq ce lw wo he sk na kp gb go fa ga vo pb jg td tx ru him (m_X6_next_h020 td ftp zza_76) (m_X6_next_h021 td ftp fwo zza_76) (m_X6_next_h022 td ftp fwo zza_76) zhm_78 zop_79 s31 s32 s33 s34 s39 s40 ycd_83 yhe_84 ftp fwo (m_X6_next_h019 td ftp zza_76) zou_77 H.size (htd) (⟨by omega, by omega⟩) (by first | exact htx | assumption | omega)) (cwV 0 hts gX6_text_X6_eRead rfl rfl rfl (by decide +kernel) ⟨Nat.le_of_ble_eq_true rfl, Nat.le_of_ble_eq_true rfl⟩) ⟨gPre_blind, va_recv (q := (RX6, TX6, 42)) hK hP (ci := 6) (q0 := 0) rfl rfl, fun U hU hW => gPre_ofF [0, 1, 3, 4, 5] hU hW hK hP hD (by decide +kernel) rfl⟩ rfl rfl hl.1 rfl (lv_room (Nat.le_of_ble_eq_true rfl)) dX6_text_83 ⟨Nat.le_of_ble_eq_true rfl, Nat.le_of_ble_eq_true rfl⟩) hS hD hA rfl (fun r_117 u t H locs ht hvm w_118 hB hz1 hk1 hFq hAq hS => ?_)
                  obtain ⟨zza_119, zou_120, zhm_121, zop_122, zb_123, zt_124, zv_125, ycd_126, yhe_127⟩ := u
                  obtain ⟨hP1, hK1, hD1⟩ := hB
                  have w_118 : (r_117 = 0 ∨ r_117 = 1) ∧ (r_117 = 1 → dp (eF ycd_126 tx) zou_77 (zou_120 - zou_77) = some 1) ∧ zza_119 ≤ td ∧ zou_120 + 1 ≤ zza_119 ∧ zou_77 ≤ zou_120 ∧ (∀ i, (i < 200 * tx + zou_77 ∨ 200 * tx + 200 ≤ i) → ycd_126 i = ycd_83 i) ∧ ∃ j9 b9, eRun tx td ftp fwo j9 (m_X6_next_h019 td ftp zza_76) 0 zou_77 0 ycd_83 yhe_84 1 1 = some (b9, zza_119, zou_120, zb_123, ycd_126, yhe_127) ∧ r_117 = bz b9 := w_118
                  have hz9 : gPD G A [zo6 h0 (nI pb) kd mo st (nI jg) ro tp (nI td) cd sr (nI tx) (nI ru) him ir ih ss sq ce lw (nI zza_119) zb_123 zt_124 zv_125 wo he zhm_121 zop_122 (nI zou_120) sk na kp s31 s32 s33 s34 gb go fa ga s39 s40 vo, zi G cd 1200 ycd_126, zi G sr 24 (nF (updN (updN (updN fsr ((4 * tx) + 0) 0) ((4 * tx) + 1) zou_32) ((4 * tx) + 2) zou_77)), zi G he 200 yhe_127, zi G tp 160 ftp, zi G wo 96 fwo] H := zFill hP hD [0, 1, 3, 4, 5] [1, 2, 0, 3, 4, 5] hAq hk1 hFq ht hP1 hD1 rfl (by decide +kernel)
                  have hP := hz9.1
                  have hD := hz9.2
                  obtain ⟨hq2, hd2, ha2, hb2, hc2, hu2, hE2⟩ := w_118
                  refine lv_if_eq (tgt := 93) hx hb dX6_text_86 (by decide +kernel) (fun c_128 => ?_) (fun c_128 => ?_)
                  · skip
                    have hF2 := er_f hE2 c_128
                    refine lv_iconst (v := 0) hx hb dX6_text_93 (by decide +kernel) ?_
                    refine lv_istore_n (lv' := [zI 1 0, zI 2 2, zR 0 h0]) hx hb dX6_text_94 rfl hl (by decide +kernel) rfl (fun ls hl => ?_)
                    refine lv_iinc (v := 3) (lv' := [zI 2 3, zI 1 0, zR 0 h0]) hx hb dX6_text_95 hl (k := 1) rfl (by decide +kernel) (by decide +kernel) rfl (fun ls hl => ?_)
                    refine lv_goto (tgt := 26) hx hb dX6_text_98 (by decide +kernel) ?_
                    refine lv_iload_n hx hb dX6_text_26 rfl (lv_at hl 0 rfl) ?_
                    refine lv_iconst (v := 3) hx hb dX6_text_27 (by decide +kernel) ?_
                    refine lv_icmp_ge (tgt := 101) hx hb dX6_text_28 (by decide +kernel) (fun c_129 => ?_) (fun c_129 => ?_)
                    rotate_left
                    · exact absurd (by decide +kernel) c_129
                    refine lv_iload_n hx hb dX6_text_101 rfl (lv_at hl 1 rfl) ?_
                    refine lv_if_eq (tgt := 122) hx hb dX6_text_102 (by decide +kernel) (fun c_130 => ?_) (fun c_130 => ?_)
                    rotate_left
                    · exact absurd (by decide +kernel) c_130
                    refine g_aget (D := G.1) (ci := 6) (v := .ref sr) (C := RX6) (T := TX6) (N := 42) hx hb dX6_text_122 rfl (lv_at hl 2 rfl) hts hiX6 hown hK hP 0 rfl rfl 9 (by decide +kernel) kf28 (fun _ h9 => h9) rfl dX6_text_123 ?_
                    refine lv_iconst (v := 4) hx hb dX6_text_126 (by decide +kernel) ?_
                    refine g_aget (D := G.1) (ci := 6) (v := .int (nI tx)) (C := RX6) (T := TX6) (N := 42) hx hb dX6_text_127 rfl (lv_at hl 2 rfl) hts hiX6 hown hK hP 0 rfl rfl 10 (by decide +kernel) kf98 (fun _ h9 => h9) rfl dX6_text_128 ?_
                    refine lv_imul hx hb dX6_text_131 ?_
                    refine g_topi (y := nI (4 * tx)) (pk_mul 4 tx) ?_
                    refine lv_iconst (v := 3) hx hb dX6_text_132 (by decide +kernel) ?_
                    refine lv_iadd hx hb dX6_text_133 ?_
                    refine g_topi (y := nI ((4 * tx) + 3)) (nI_add (4 * tx) 3) ?_
                    refine g_aget (D := G.1) (ci := 6) (v := .int (nI zou_120)) (C := RX6) (T := TX6) (N := 42) hx hb dX6_text_134 rfl (lv_at hl 2 rfl) hts hiX6 hown hK hP 0 rfl rfl 27 (by decide +kernel) kf127 (fun _ h9 => h9) rfl dX6_text_135 ?_
                    refine va_iast (D := G.1) hx hb hK hP hD hS 2 0 rfl rfl (i := (nI ((4 * tx) + 3))) (x := (nI zou_120)) (vpn (by omega) rfl) dX6_text_138 (fun H locs hP hD hS => ?_)
                    have hz9 : gPD G A [zo6 h0 (nI pb) kd mo st (nI jg) ro tp (nI td) cd sr (nI tx) (nI ru) him ir ih ss sq ce lw (nI zza_119) zb_123 zt_124 zv_125 wo he zhm_121 zop_122 (nI zou_120) sk na kp s31 s32 s33 s34 gb go fa ga s39 s40 vo, zi G cd 1200 ycd_126, zi G sr 24 (nF (updN (updN (updN (updN fsr ((4 * tx) + 0) 0) ((4 * tx) + 1) zou_32) ((4 * tx) + 2) zou_77) ((4 * tx) + 3) zou_120)), zi G he 200 yhe_127, zi G tp 160 ftp, zi G wo 96 fwo] H := ⟨by rw [nI_clamp (by omega), show upd (nF (updN (updN (updN fsr ((4 * tx) + 0) 0) ((4 * tx) + 1) zou_32) ((4 * tx) + 2) zou_77)) ((4 * tx) + 3) (nI zou_120) = nF (updN (updN (updN (updN fsr ((4 * tx) + 0) 0) ((4 * tx) + 1) zou_32) ((4 * tx) + 2) zou_77) ((4 * tx) + 3) zou_120) from nF_upd] at hP; exact hP, by rw [nI_clamp (by omega), show upd (nF (updN (updN (updN fsr ((4 * tx) + 0) 0) ((4 * tx) + 1) zou_32) ((4 * tx) + 2) zou_77)) ((4 * tx) + 3) (nI zou_120) = nF (updN (updN (updN (updN fsr ((4 * tx) + 0) 0) ((4 * tx) + 1) zou_32) ((4 * tx) + 2) zou_77) ((4 * tx) + 3) zou_120) from nF_upd] at hD; exact hD⟩
                    have hP := hz9.1
                    have hD := hz9.2
                    refine lv_aload_n hx hb dX6_text_139 rfl (lv_at hl 2 rfl) ?_
                    refine lv_iconst (v := 0) hx hb dX6_text_140 (by decide +kernel) ?_
                    refine va_put (D := G.1) (ci := 6) (v := .int 0) (ty := .int) (C := RX6) (T := TX6) (N := 42) hx hb hts hiX6 tyX6 tyX6_ok nmX6 hown hK hP hD hS 0 rfl rfl 7 (by decide +kernel) kf80 (fun _ h9 => h9) rfl (by decide +kernel) rfl rfl (Nat.le_of_ble_eq_true rfl) dX6_text_141 (fun H locs hP hD hS => ?_)
                    have hz9 : gPD G A [zo6 h0 (nI pb) kd mo st (nI jg) ro tp 0 cd sr (nI tx) (nI ru) him ir ih ss sq ce lw (nI zza_119) zb_123 zt_124 zv_125 wo he zhm_121 zop_122 (nI zou_120) sk na kp s31 s32 s33 s34 gb go fa ga s39 s40 vo, zi G cd 1200 ycd_126, zi G sr 24 (nF (updN (updN (updN (updN fsr ((4 * tx) + 0) 0) ((4 * tx) + 1) zou_32) ((4 * tx) + 2) zou_77) ((4 * tx) + 3) zou_120)), zi G he 200 yhe_127, zi G tp 160 ftp, zi G wo 96 fwo] H := ⟨hP, hD⟩
                    have hP := hz9.1
                    have hD := hz9.2
                    refine lv_iload_n hx hb dX6_text_144 rfl (lv_at hl 1 rfl) ?_
                    refine lv_if_ne (tgt := 156) hx hb dX6_text_145 (by decide +kernel) (fun c_133 => ?_) (fun c_133 => ?_)
                    · exact absurd (by decide +kernel) c_133
                    refine lv_bipush (v := -100) hx hb dX6_text_148 (by decide +kernel) ?_
                    refine g_aget (D := G.1) (ci := 6) (v := .int zb_123) (C := RX6) (T := TX6) (N := 42) hx hb dX6_text_150 rfl (lv_at hl 2 rfl) hts hiX6 hown hK hP 0 rfl rfl 20 (by decide +kernel) kf114 (fun _ h9 => h9) rfl dX6_text_151 ?_
                    refine lv_isub hx hb dX6_text_154 ?_
                    have hpost : (fun (r : Int32) (u : Int32 × Int32 × Int32 × Int32 × Int32 × Int32 × Int32 × Nat × (Nat → Int32) × (Nat → Int32) × (Nat → Nat) × Bool × Nat × Nat × Nat) => match u with | (zat, zbg, ztk, zvl, zhm, zop, zou, ztx, ycd, yhe, ysr, zok, zo1, zo2, zo3) => (∀ i, i < 200 * tx → ycd i = fcd i) ∧ (∀ i, i < 4 * tx → ysr i = fsr i) ∧ rT tx td ftp fwo fcd fhe zok zbg ycd zo1 zo2 zo3 ∧ ((zok = true ∧ r = nI tx ∧ ztx = tx + 1 ∧ mWf ycd ysr tx ∧ ysr (4 * tx) = 0 ∧ ysr (4 * tx + 1) = zo1 ∧ ysr (4 * tx + 2) = zo2 ∧ ysr (4 * tx + 3) = zo3) ∨ (zok = false ∧ r = -100 - zbg ∧ ztx = tx))) ((-100) - zb_123) (nI zza_119, zb_123, zt_124, zv_125, zhm_121, zop_122, nI zou_120, tx, ycd_126, yhe_127, (updN (updN (updN (updN fsr ((4 * tx) + 0) 0) ((4 * tx) + 1) zou_32) ((4 * tx) + 2) zou_77) ((4 * tx) + 3) zou_120), false, zou_32, zou_77, zou_120) := by exact ⟨fun i hi => (((hu2 i (Or.inl (by omega)))).trans (hu1 i (Or.inl (by omega)))).trans (hu0 i (Or.inl (by omega))), fun i hi => by rw [updN_lo (by omega), updN_lo (by omega), updN_lo (by omega), updN_lo (by omega)], Or.inr ⟨_, _, _, _, Or.inl ⟨⟨c_6, c_16⟩, hF0⟩, Or.inr ⟨_, _, _, _, Or.inl ⟨⟨c_51, c_61⟩, hF1⟩, Or.inl ⟨rfl, _, _, _, _, Or.inl ⟨⟨c_96, c_105⟩, hF2⟩⟩⟩⟩, Or.inr ⟨rfl, rfl, rfl⟩⟩
                    exact W.iret (v := ((-100) - zb_123)) hx hb hr (fun t ht hW => ⟨⟨((-100) - zb_123), (nI zza_119, zb_123, zt_124, zv_125, zhm_121, zop_122, nI zou_120, tx, ycd_126, yhe_127, (updN (updN (updN (updN fsr ((4 * tx) + 0) 0) ((4 * tx) + 1) zou_32) ((4 * tx) + 2) zou_77) ((4 * tx) + 3) zou_120), false, zou_32, zou_77, zou_120), rfl, hpost, by rw [ht]; exact hP, va_K.moved hW.alike hK, hD⟩, hS.F ht⟩) hS.2.2 dX6_text_155
                  · skip
                    have hg2 := hd2 (hq2.resolve_left c_128)
                    have hF2 := er_t hE2 c_128
                    refine lv_iconst (v := 1) hx hb dX6_text_89 (by decide +kernel) ?_
                    refine lv_goto (tgt := 94) hx hb dX6_text_90 (by decide +kernel) ?_
                    refine lv_istore_n (lv' := [zI 1 1, zI 2 2, zR 0 h0]) hx hb dX6_text_94 rfl hl (by decide +kernel) rfl (fun ls hl => ?_)
                    refine lv_iinc (v := 3) (lv' := [zI 2 3, zI 1 1, zR 0 h0]) hx hb dX6_text_95 hl (k := 1) rfl (by decide +kernel) (by decide +kernel) rfl (fun ls hl => ?_)
                    refine lv_goto (tgt := 26) hx hb dX6_text_98 (by decide +kernel) ?_
                    refine lv_iload_n hx hb dX6_text_26 rfl (lv_at hl 0 rfl) ?_
                    refine lv_iconst (v := 3) hx hb dX6_text_27 (by decide +kernel) ?_
                    refine lv_icmp_ge (tgt := 101) hx hb dX6_text_28 (by decide +kernel) (fun c_134 => ?_) (fun c_134 => ?_)
                    rotate_left
                    · exact absurd (by decide +kernel) c_134
                    refine lv_iload_n hx hb dX6_text_101 rfl (lv_at hl 1 rfl) ?_
                    refine lv_if_eq (tgt := 122) hx hb dX6_text_102 (by decide +kernel) (fun c_135 => ?_) (fun c_135 => ?_)
                    · exact absurd c_135 (by decide +kernel)
                    refine lv_aload_n hx hb dX6_text_105 rfl (lv_at hl 2 rfl) ?_
                    refine z_callv [0, 4, 5] (va_runV (As := []) (rest := []) ⟨hx, hb, hml, hown, hts⟩ (c_X6_next l G h0 kd mo st ro tp cd sr ir ih ss sq ce lw wo he sk na kp gb go fa ga vo pb jg td tx ru him zb_123 zt_124 zv_125 zhm_121 zop_122 (nI zou_120) s31 s32 s33 s34 s39 s40 ftp fwo zza_119 H.size (htd) (by omega)) (cwV 0 hts gX6_text_X6_next rfl rfl rfl (by decide +kernel) ⟨Nat.le_of_ble_eq_true rfl, Nat.le_of_ble_eq_true rfl⟩) ⟨gPre_blind, va_recv (q := (RX6, TX6, 42)) hK hP (ci := 6) (q0 := 0) rfl rfl, fun U hU hW => gPre_ofF [0, 4, 5] hU hW hK hP hD (by decide +kernel) rfl⟩ rfl rfl hl.1 rfl (lv_room (Nat.le_of_ble_eq_true rfl)) dX6_text_106 ⟨Nat.le_of_ble_eq_true rfl, Nat.le_of_ble_eq_true rfl⟩) hS hD hA rfl (fun u t H locs ht hvm w_137 hB hz1 hk1 hFq hAq hS => ?_)
                    obtain ⟨hP1, hK1, hD1⟩ := hB
                    have w_137 : zza_119 ≤ (m_X6_next_h019 td ftp zza_119) ∧ (m_X6_next_h019 td ftp zza_119) ≤ td ∧ (¬ (m_X6_next_h021 td ftp fwo zza_119) = 0 → zza_119 < (m_X6_next_h019 td ftp zza_119)) ∧ ((m_X6_next_h021 td ftp fwo zza_119) = 2 → 0 ≤ (m_X6_next_h022 td ftp fwo zza_119) ∧ (m_X6_next_h022 td ftp fwo zza_119) < 6) ∧ ((m_X6_next_h021 td ftp fwo zza_119) = 1 → 100000 ≤ 100000 + (m_X6_next_h022 td ftp fwo zza_119)) := w_137
                    have hz9 : gPD G A [zo6 h0 (nI pb) kd mo st (nI jg) ro tp (nI td) cd sr (nI tx) (nI ru) him ir ih ss sq ce lw (nI (m_X6_next_h019 td ftp zza_119)) (m_X6_next_h020 td ftp zza_119) (m_X6_next_h021 td ftp fwo zza_119) (m_X6_next_h022 td ftp fwo zza_119) wo he zhm_121 zop_122 (nI zou_120) sk na kp s31 s32 s33 s34 gb go fa ga s39 s40 vo, zi G cd 1200 ycd_126, zi G sr 24 (nF (updN (updN (updN fsr ((4 * tx) + 0) 0) ((4 * tx) + 1) zou_32) ((4 * tx) + 2) zou_77)), zi G he 200 yhe_127, zi G tp 160 ftp, zi G wo 96 fwo] H := zFill hP hD [0, 4, 5] [1, 0, 0, 0, 2, 3] hAq hk1 hFq ht hP1 hD1 rfl (by decide +kernel)
                    have hP := hz9.1
                    have hD := hz9.2
                    have hn9 := w_137
                    refine g_aget (D := G.1) (ci := 6) (v := .int (m_X6_next_h021 td ftp fwo zza_119)) (C := RX6) (T := TX6) (N := 42) hx hb dX6_text_109 rfl (lv_at hl 2 rfl) hts hiX6 hown hK hP 0 rfl rfl 21 (by decide +kernel) kf117 (fun _ h9 => h9) rfl dX6_text_110 ?_
                    refine lv_if_ne (tgt := 120) hx hb dX6_text_113 (by decide +kernel) (fun c_138 => ?_) (fun c_138 => ?_)
                    · skip
                      refine lv_iconst (v := 0) hx hb dX6_text_120 (by decide +kernel) ?_
                      refine lv_istore_n (lv' := [zI 1 0, zI 2 3, zR 0 h0]) hx hb dX6_text_121 rfl hl (by decide +kernel) rfl (fun ls hl => ?_)
                      refine g_aget (D := G.1) (ci := 6) (v := .ref sr) (C := RX6) (T := TX6) (N := 42) hx hb dX6_text_122 rfl (lv_at hl 2 rfl) hts hiX6 hown hK hP 0 rfl rfl 9 (by decide +kernel) kf28 (fun _ h9 => h9) rfl dX6_text_123 ?_
                      refine lv_iconst (v := 4) hx hb dX6_text_126 (by decide +kernel) ?_
                      refine g_aget (D := G.1) (ci := 6) (v := .int (nI tx)) (C := RX6) (T := TX6) (N := 42) hx hb dX6_text_127 rfl (lv_at hl 2 rfl) hts hiX6 hown hK hP 0 rfl rfl 10 (by decide +kernel) kf98 (fun _ h9 => h9) rfl dX6_text_128 ?_
                      refine lv_imul hx hb dX6_text_131 ?_
                      refine g_topi (y := nI (4 * tx)) (pk_mul 4 tx) ?_
                      refine lv_iconst (v := 3) hx hb dX6_text_132 (by decide +kernel) ?_
                      refine lv_iadd hx hb dX6_text_133 ?_
                      refine g_topi (y := nI ((4 * tx) + 3)) (nI_add (4 * tx) 3) ?_
                      refine g_aget (D := G.1) (ci := 6) (v := .int (nI zou_120)) (C := RX6) (T := TX6) (N := 42) hx hb dX6_text_134 rfl (lv_at hl 2 rfl) hts hiX6 hown hK hP 0 rfl rfl 27 (by decide +kernel) kf127 (fun _ h9 => h9) rfl dX6_text_135 ?_
                      refine va_iast (D := G.1) hx hb hK hP hD hS 2 0 rfl rfl (i := (nI ((4 * tx) + 3))) (x := (nI zou_120)) (vpn (by omega) rfl) dX6_text_138 (fun H locs hP hD hS => ?_)
                      have hz9 : gPD G A [zo6 h0 (nI pb) kd mo st (nI jg) ro tp (nI td) cd sr (nI tx) (nI ru) him ir ih ss sq ce lw (nI (m_X6_next_h019 td ftp zza_119)) (m_X6_next_h020 td ftp zza_119) (m_X6_next_h021 td ftp fwo zza_119) (m_X6_next_h022 td ftp fwo zza_119) wo he zhm_121 zop_122 (nI zou_120) sk na kp s31 s32 s33 s34 gb go fa ga s39 s40 vo, zi G cd 1200 ycd_126, zi G sr 24 (nF (updN (updN (updN (updN fsr ((4 * tx) + 0) 0) ((4 * tx) + 1) zou_32) ((4 * tx) + 2) zou_77) ((4 * tx) + 3) zou_120)), zi G he 200 yhe_127, zi G tp 160 ftp, zi G wo 96 fwo] H := ⟨by rw [nI_clamp (by omega), show upd (nF (updN (updN (updN fsr ((4 * tx) + 0) 0) ((4 * tx) + 1) zou_32) ((4 * tx) + 2) zou_77)) ((4 * tx) + 3) (nI zou_120) = nF (updN (updN (updN (updN fsr ((4 * tx) + 0) 0) ((4 * tx) + 1) zou_32) ((4 * tx) + 2) zou_77) ((4 * tx) + 3) zou_120) from nF_upd] at hP; exact hP, by rw [nI_clamp (by omega), show upd (nF (updN (updN (updN fsr ((4 * tx) + 0) 0) ((4 * tx) + 1) zou_32) ((4 * tx) + 2) zou_77)) ((4 * tx) + 3) (nI zou_120) = nF (updN (updN (updN (updN fsr ((4 * tx) + 0) 0) ((4 * tx) + 1) zou_32) ((4 * tx) + 2) zou_77) ((4 * tx) + 3) zou_120) from nF_upd] at hD; exact hD⟩
                      have hP := hz9.1
                      have hD := hz9.2
                      refine lv_aload_n hx hb dX6_text_139 rfl (lv_at hl 2 rfl) ?_
                      refine lv_iconst (v := 0) hx hb dX6_text_140 (by decide +kernel) ?_
                      refine va_put (D := G.1) (ci := 6) (v := .int 0) (ty := .int) (C := RX6) (T := TX6) (N := 42) hx hb hts hiX6 tyX6 tyX6_ok nmX6 hown hK hP hD hS 0 rfl rfl 7 (by decide +kernel) kf80 (fun _ h9 => h9) rfl (by decide +kernel) rfl rfl (Nat.le_of_ble_eq_true rfl) dX6_text_141 (fun H locs hP hD hS => ?_)
                      have hz9 : gPD G A [zo6 h0 (nI pb) kd mo st (nI jg) ro tp 0 cd sr (nI tx) (nI ru) him ir ih ss sq ce lw (nI (m_X6_next_h019 td ftp zza_119)) (m_X6_next_h020 td ftp zza_119) (m_X6_next_h021 td ftp fwo zza_119) (m_X6_next_h022 td ftp fwo zza_119) wo he zhm_121 zop_122 (nI zou_120) sk na kp s31 s32 s33 s34 gb go fa ga s39 s40 vo, zi G cd 1200 ycd_126, zi G sr 24 (nF (updN (updN (updN (updN fsr ((4 * tx) + 0) 0) ((4 * tx) + 1) zou_32) ((4 * tx) + 2) zou_77) ((4 * tx) + 3) zou_120)), zi G he 200 yhe_127, zi G tp 160 ftp, zi G wo 96 fwo] H := ⟨hP, hD⟩
                      have hP := hz9.1
                      have hD := hz9.2
                      refine lv_iload_n hx hb dX6_text_144 rfl (lv_at hl 0 rfl) ?_
                      refine lv_if_ne (tgt := 156) hx hb dX6_text_145 (by decide +kernel) (fun c_141 => ?_) (fun c_141 => ?_)
                      · exact absurd (by decide +kernel) c_141
                      refine lv_bipush (v := -100) hx hb dX6_text_148 (by decide +kernel) ?_
                      refine g_aget (D := G.1) (ci := 6) (v := .int (m_X6_next_h020 td ftp zza_119)) (C := RX6) (T := TX6) (N := 42) hx hb dX6_text_150 rfl (lv_at hl 2 rfl) hts hiX6 hown hK hP 0 rfl rfl 20 (by decide +kernel) kf114 (fun _ h9 => h9) rfl dX6_text_151 ?_
                      refine lv_isub hx hb dX6_text_154 ?_
                      have hpost : (fun (r : Int32) (u : Int32 × Int32 × Int32 × Int32 × Int32 × Int32 × Int32 × Nat × (Nat → Int32) × (Nat → Int32) × (Nat → Nat) × Bool × Nat × Nat × Nat) => match u with | (zat, zbg, ztk, zvl, zhm, zop, zou, ztx, ycd, yhe, ysr, zok, zo1, zo2, zo3) => (∀ i, i < 200 * tx → ycd i = fcd i) ∧ (∀ i, i < 4 * tx → ysr i = fsr i) ∧ rT tx td ftp fwo fcd fhe zok zbg ycd zo1 zo2 zo3 ∧ ((zok = true ∧ r = nI tx ∧ ztx = tx + 1 ∧ mWf ycd ysr tx ∧ ysr (4 * tx) = 0 ∧ ysr (4 * tx + 1) = zo1 ∧ ysr (4 * tx + 2) = zo2 ∧ ysr (4 * tx + 3) = zo3) ∨ (zok = false ∧ r = -100 - zbg ∧ ztx = tx))) ((-100) - (m_X6_next_h020 td ftp zza_119)) (nI (m_X6_next_h019 td ftp zza_119), (m_X6_next_h020 td ftp zza_119), (m_X6_next_h021 td ftp fwo zza_119), (m_X6_next_h022 td ftp fwo zza_119), zhm_121, zop_122, (nI zou_120), tx, ycd_126, yhe_127, (updN (updN (updN (updN fsr ((4 * tx) + 0) 0) ((4 * tx) + 1) zou_32) ((4 * tx) + 2) zou_77) ((4 * tx) + 3) zou_120), false, zou_32, zou_77, zou_120) := by exact ⟨fun i hi => (((hu2 i (Or.inl (by omega)))).trans (hu1 i (Or.inl (by omega)))).trans (hu0 i (Or.inl (by omega))), fun i hi => by rw [updN_lo (by omega), updN_lo (by omega), updN_lo (by omega), updN_lo (by omega)], Or.inr ⟨_, _, _, _, Or.inl ⟨⟨c_6, c_16⟩, hF0⟩, Or.inr ⟨_, _, _, _, Or.inl ⟨⟨c_51, c_61⟩, hF1⟩, Or.inr ⟨_, _, _, Or.inl ⟨⟨c_96, c_105⟩, hF2⟩, rfl, Or.inr ⟨rfl, c_138⟩⟩⟩⟩, Or.inr ⟨rfl, rfl, rfl⟩⟩
                      exact W.iret (v := ((-100) - (m_X6_next_h020 td ftp zza_119))) hx hb hr (fun t ht hW => ⟨⟨((-100) - (m_X6_next_h020 td ftp zza_119)), (nI (m_X6_next_h019 td ftp zza_119), (m_X6_next_h020 td ftp zza_119), (m_X6_next_h021 td ftp fwo zza_119), (m_X6_next_h022 td ftp fwo zza_119), zhm_121, zop_122, (nI zou_120), tx, ycd_126, yhe_127, (updN (updN (updN (updN fsr ((4 * tx) + 0) 0) ((4 * tx) + 1) zou_32) ((4 * tx) + 2) zou_77) ((4 * tx) + 3) zou_120), false, zou_32, zou_77, zou_120), rfl, hpost, by rw [ht]; exact hP, va_K.moved hW.alike hK, hD⟩, hS.F ht⟩) hS.2.2 dX6_text_155
                    · skip
                      refine lv_iconst (v := 1) hx hb dX6_text_116 (by decide +kernel) ?_
                      refine lv_goto (tgt := 121) hx hb dX6_text_117 (by decide +kernel) ?_
                      refine lv_istore_n (lv' := [zI 1 1, zI 2 3, zR 0 h0]) hx hb dX6_text_121 rfl hl (by decide +kernel) rfl (fun ls hl => ?_)
                      refine g_aget (D := G.1) (ci := 6) (v := .ref sr) (C := RX6) (T := TX6) (N := 42) hx hb dX6_text_122 rfl (lv_at hl 2 rfl) hts hiX6 hown hK hP 0 rfl rfl 9 (by decide +kernel) kf28 (fun _ h9 => h9) rfl dX6_text_123 ?_
                      refine lv_iconst (v := 4) hx hb dX6_text_126 (by decide +kernel) ?_
                      refine g_aget (D := G.1) (ci := 6) (v := .int (nI tx)) (C := RX6) (T := TX6) (N := 42) hx hb dX6_text_127 rfl (lv_at hl 2 rfl) hts hiX6 hown hK hP 0 rfl rfl 10 (by decide +kernel) kf98 (fun _ h9 => h9) rfl dX6_text_128 ?_
                      refine lv_imul hx hb dX6_text_131 ?_
                      refine g_topi (y := nI (4 * tx)) (pk_mul 4 tx) ?_
                      refine lv_iconst (v := 3) hx hb dX6_text_132 (by decide +kernel) ?_
                      refine lv_iadd hx hb dX6_text_133 ?_
                      refine g_topi (y := nI ((4 * tx) + 3)) (nI_add (4 * tx) 3) ?_
                      refine g_aget (D := G.1) (ci := 6) (v := .int (nI zou_120)) (C := RX6) (T := TX6) (N := 42) hx hb dX6_text_134 rfl (lv_at hl 2 rfl) hts hiX6 hown hK hP 0 rfl rfl 27 (by decide +kernel) kf127 (fun _ h9 => h9) rfl dX6_text_135 ?_
                      refine va_iast (D := G.1) hx hb hK hP hD hS 2 0 rfl rfl (i := (nI ((4 * tx) + 3))) (x := (nI zou_120)) (vpn (by omega) rfl) dX6_text_138 (fun H locs hP hD hS => ?_)
                      have hz9 : gPD G A [zo6 h0 (nI pb) kd mo st (nI jg) ro tp (nI td) cd sr (nI tx) (nI ru) him ir ih ss sq ce lw (nI (m_X6_next_h019 td ftp zza_119)) (m_X6_next_h020 td ftp zza_119) (m_X6_next_h021 td ftp fwo zza_119) (m_X6_next_h022 td ftp fwo zza_119) wo he zhm_121 zop_122 (nI zou_120) sk na kp s31 s32 s33 s34 gb go fa ga s39 s40 vo, zi G cd 1200 ycd_126, zi G sr 24 (nF (updN (updN (updN (updN fsr ((4 * tx) + 0) 0) ((4 * tx) + 1) zou_32) ((4 * tx) + 2) zou_77) ((4 * tx) + 3) zou_120)), zi G he 200 yhe_127, zi G tp 160 ftp, zi G wo 96 fwo] H := ⟨by rw [nI_clamp (by omega), show upd (nF (updN (updN (updN fsr ((4 * tx) + 0) 0) ((4 * tx) + 1) zou_32) ((4 * tx) + 2) zou_77)) ((4 * tx) + 3) (nI zou_120) = nF (updN (updN (updN (updN fsr ((4 * tx) + 0) 0) ((4 * tx) + 1) zou_32) ((4 * tx) + 2) zou_77) ((4 * tx) + 3) zou_120) from nF_upd] at hP; exact hP, by rw [nI_clamp (by omega), show upd (nF (updN (updN (updN fsr ((4 * tx) + 0) 0) ((4 * tx) + 1) zou_32) ((4 * tx) + 2) zou_77)) ((4 * tx) + 3) (nI zou_120) = nF (updN (updN (updN (updN fsr ((4 * tx) + 0) 0) ((4 * tx) + 1) zou_32) ((4 * tx) + 2) zou_77) ((4 * tx) + 3) zou_120) from nF_upd] at hD; exact hD⟩
                      have hP := hz9.1
                      have hD := hz9.2
                      refine lv_aload_n hx hb dX6_text_139 rfl (lv_at hl 2 rfl) ?_
                      refine lv_iconst (v := 0) hx hb dX6_text_140 (by decide +kernel) ?_
                      refine va_put (D := G.1) (ci := 6) (v := .int 0) (ty := .int) (C := RX6) (T := TX6) (N := 42) hx hb hts hiX6 tyX6 tyX6_ok nmX6 hown hK hP hD hS 0 rfl rfl 7 (by decide +kernel) kf80 (fun _ h9 => h9) rfl (by decide +kernel) rfl rfl (Nat.le_of_ble_eq_true rfl) dX6_text_141 (fun H locs hP hD hS => ?_)
                      have hz9 : gPD G A [zo6 h0 (nI pb) kd mo st (nI jg) ro tp 0 cd sr (nI tx) (nI ru) him ir ih ss sq ce lw (nI (m_X6_next_h019 td ftp zza_119)) (m_X6_next_h020 td ftp zza_119) (m_X6_next_h021 td ftp fwo zza_119) (m_X6_next_h022 td ftp fwo zza_119) wo he zhm_121 zop_122 (nI zou_120) sk na kp s31 s32 s33 s34 gb go fa ga s39 s40 vo, zi G cd 1200 ycd_126, zi G sr 24 (nF (updN (updN (updN (updN fsr ((4 * tx) + 0) 0) ((4 * tx) + 1) zou_32) ((4 * tx) + 2) zou_77) ((4 * tx) + 3) zou_120)), zi G he 200 yhe_127, zi G tp 160 ftp, zi G wo 96 fwo] H := ⟨hP, hD⟩
                      have hP := hz9.1
                      have hD := hz9.2
                      refine lv_iload_n hx hb dX6_text_144 rfl (lv_at hl 0 rfl) ?_
                      refine lv_if_ne (tgt := 156) hx hb dX6_text_145 (by decide +kernel) (fun c_144 => ?_) (fun c_144 => ?_)
                      rotate_left
                      · exact absurd c_144 (by decide +kernel)
                      refine lv_aload_n hx hb dX6_text_156 rfl (lv_at hl 2 rfl) ?_
                      refine lv_dup hx hb dX6_text_157 rfl ?_
                      refine va_get (D := G.1) (ci := 6) (v := .int (nI tx)) (C := RX6) (T := TX6) (N := 42) hx hb hts hiX6 hown hK hP 0 rfl rfl 10 (by decide +kernel) kf98 (fun _ h9 => h9) rfl dX6_text_158 ?_
                      refine lv_iconst (v := 1) hx hb dX6_text_161 (by decide +kernel) ?_
                      refine lv_iadd hx hb dX6_text_162 ?_
                      refine g_topi (y := nI (tx + 1)) (nI_add tx 1) ?_
                      refine va_put (D := G.1) (ci := 6) (v := .int (nI (tx + 1))) (ty := .int) (C := RX6) (T := TX6) (N := 42) hx hb hts hiX6 tyX6 tyX6_ok nmX6 hown hK hP hD hS 0 rfl rfl 10 (by decide +kernel) kf98 (fun _ h9 => h9) rfl (by decide +kernel) rfl rfl (Nat.le_of_ble_eq_true rfl) dX6_text_163 (fun H locs hP hD hS => ?_)
                      have hz9 : gPD G A [zo6 h0 (nI pb) kd mo st (nI jg) ro tp 0 cd sr (nI (tx + 1)) (nI ru) him ir ih ss sq ce lw (nI (m_X6_next_h019 td ftp zza_119)) (m_X6_next_h020 td ftp zza_119) (m_X6_next_h021 td ftp fwo zza_119) (m_X6_next_h022 td ftp fwo zza_119) wo he zhm_121 zop_122 (nI zou_120) sk na kp s31 s32 s33 s34 gb go fa ga s39 s40 vo, zi G cd 1200 ycd_126, zi G sr 24 (nF (updN (updN (updN (updN fsr ((4 * tx) + 0) 0) ((4 * tx) + 1) zou_32) ((4 * tx) + 2) zou_77) ((4 * tx) + 3) zou_120)), zi G he 200 yhe_127, zi G tp 160 ftp, zi G wo 96 fwo] H := ⟨hP, hD⟩
                      have hP := hz9.1
                      have hD := hz9.2
                      refine g_aget (D := G.1) (ci := 6) (v := .int (nI (tx + 1))) (C := RX6) (T := TX6) (N := 42) hx hb dX6_text_166 rfl (lv_at hl 2 rfl) hts hiX6 hown hK hP 0 rfl rfl 10 (by decide +kernel) kf98 (fun _ h9 => h9) rfl dX6_text_167 ?_
                      refine lv_iconst (v := 1) hx hb dX6_text_170 (by decide +kernel) ?_
                      refine lv_isub hx hb dX6_text_171 ?_
                      refine g_topi (y := nI ((tx + 1) - 1)) (pk_sub (a := (tx + 1)) (b := 1) (by omega)) ?_
                      have hpost : (fun (r : Int32) (u : Int32 × Int32 × Int32 × Int32 × Int32 × Int32 × Int32 × Nat × (Nat → Int32) × (Nat → Int32) × (Nat → Nat) × Bool × Nat × Nat × Nat) => match u with | (zat, zbg, ztk, zvl, zhm, zop, zou, ztx, ycd, yhe, ysr, zok, zo1, zo2, zo3) => (∀ i, i < 200 * tx → ycd i = fcd i) ∧ (∀ i, i < 4 * tx → ysr i = fsr i) ∧ rT tx td ftp fwo fcd fhe zok zbg ycd zo1 zo2 zo3 ∧ ((zok = true ∧ r = nI tx ∧ ztx = tx + 1 ∧ mWf ycd ysr tx ∧ ysr (4 * tx) = 0 ∧ ysr (4 * tx + 1) = zo1 ∧ ysr (4 * tx + 2) = zo2 ∧ ysr (4 * tx + 3) = zo3) ∨ (zok = false ∧ r = -100 - zbg ∧ ztx = tx))) (nI ((tx + 1) - 1)) (nI (m_X6_next_h019 td ftp zza_119), (m_X6_next_h020 td ftp zza_119), (m_X6_next_h021 td ftp fwo zza_119), (m_X6_next_h022 td ftp fwo zza_119), zhm_121, zop_122, (nI zou_120), (tx + 1), ycd_126, yhe_127, (updN (updN (updN (updN fsr ((4 * tx) + 0) 0) ((4 * tx) + 1) zou_32) ((4 * tx) + 2) zou_77) ((4 * tx) + 3) zou_120), true, zou_32, zou_77, zou_120) := by
                        refine ⟨fun i hi => (((hu2 i (Or.inl (by omega)))).trans (hu1 i (Or.inl (by omega)))).trans (hu0 i (Or.inl (by omega))), fun i hi => by rw [updN_lo (by omega), updN_lo (by omega), updN_lo (by omega), updN_lo (by omega)], Or.inr ⟨_, _, _, _, Or.inl ⟨⟨c_6, c_16⟩, hF0⟩, Or.inr ⟨_, _, _, _, Or.inl ⟨⟨c_51, c_61⟩, hF1⟩, Or.inr ⟨_, _, _, Or.inl ⟨⟨c_96, c_105⟩, hF2⟩, rfl, Or.inl ⟨rfl, c_138⟩⟩⟩⟩, Or.inl ⟨rfl, ?_, rfl, ?_, sr4 _ _ _ _ _⟩⟩
                        · show nI (tx + 1 - 1) = nI tx; rw [Nat.add_sub_cancel]
                        · exact mWf_of hg0 hg1 hg2 (by omega) (by omega) (by omega) hu1 hu2 (sr4 _ _ _ _ _).1 (sr4 _ _ _ _ _).2.1 (sr4 _ _ _ _ _).2.2.1 (sr4 _ _ _ _ _).2.2.2
                      exact W.iret (v := (nI ((tx + 1) - 1))) hx hb hr (fun t ht hW => ⟨⟨(nI ((tx + 1) - 1)), (nI (m_X6_next_h019 td ftp zza_119), (m_X6_next_h020 td ftp zza_119), (m_X6_next_h021 td ftp fwo zza_119), (m_X6_next_h022 td ftp fwo zza_119), zhm_121, zop_122, (nI zou_120), (tx + 1), ycd_126, yhe_127, (updN (updN (updN (updN fsr ((4 * tx) + 0) 0) ((4 * tx) + 1) zou_32) ((4 * tx) + 2) zou_77) ((4 * tx) + 3) zou_120), true, zou_32, zou_77, zou_120), rfl, hpost, by rw [ht]; exact hP, va_K.moved hW.alike hK, hD⟩, hS.F ht⟩) hS.2.2 dX6_text_172
abbrev q_X6_text_F (G : gG) (h0 kd mo st ro tp cd sr ir ih ss sq ce lw wo he sk na kp gb go fa ga vo : Nat) (pb : Nat) (jg : Nat) (td : Nat) (ru : Nat) (him : Int32) (s19 : Int32) (s20 : Int32) (s21 : Int32) (s22 : Int32) (s25 : Int32) (s26 : Int32) (s27 : Int32) (s31 : Int32) (s32 : Int32) (s33 : Int32) (s34 : Int32) (s39 : Int32) (s40 : Int32) (A : Nat → Prop) : Array Value → State → Outcome → State → Prop := va_Qi (fun (r : Int32) (u : Unit) => match u with | _ => r = -4) (fun (u : Unit) t => match u with | _ => va_P G.1 vwCl [zo6 h0 (nI pb) kd mo st (nI jg) ro tp (nI td) cd sr 6 (nI ru) him ir ih ss sq ce lw s19 s20 s21 s22 wo he s25 s26 s27 sk na kp s31 s32 s33 s34 gb go fa ga s39 s40 vo] t.heap ∧ gK G t ∧ va_D A [zo6 h0 (nI pb) kd mo st (nI jg) ro tp (nI td) cd sr 6 (nI ru) him ir ih ss sq ce lw s19 s20 s21 s22 wo he s25 s26 s27 sk na kp s31 s32 s33 s34 gb go fa ga s39 s40 vo]) A
set_option maxHeartbeats 4000000 in
set_option maxRecDepth 100000 in
theorem c_X6_text_F (l : Launch) (G : gG) (h0 kd mo st ro tp cd sr ir ih ss sq ce lw wo he sk na kp gb go fa ga vo : Nat) (pb : Nat) (jg : Nat) (td : Nat) (ru : Nat) (him : Int32) (s19 : Int32) (s20 : Int32) (s21 : Int32) (s22 : Int32) (s25 : Int32) (s26 : Int32) (s27 : Int32) (s31 : Int32) (s32 : Int32) (s33 : Int32) (s34 : Int32) (s39 : Int32) (s40 : Int32) (sz : Nat) : Met l yX6_text wsX6_text ({ frames := 0, cells := 0, slots := 0, locals := 0 }) (gPre G [.ref h0] [zo6 h0 (nI pb) kd mo st (nI jg) ro tp (nI td) cd sr 6 (nI ru) him ir ih ss sq ce lw s19 s20 s21 s22 wo he s25 s26 s27 sk na kp s31 s32 s33 s34 gb go fa ga s39 s40 vo] sz) (q_X6_text_F G h0 kd mo st ro tp cd sr ir ih ss sq ce lw wo he sk na kp gb go fa ga vo pb jg td ru him s19 s20 s21 s22 s25 s26 s27 s31 s32 s33 s34 s39 s40 (va_A [zo6 h0 (nI pb) kd mo st (nI jg) ro tp (nI td) cd sr 6 (nI ru) him ir ih ss sq ce lw s19 s20 s21 s22 wo he s25 s26 s27 sk na kp s31 s32 s33 s34 gb go fa ga s39 s40 vo] sz)) 0 0 (va_A [zo6 h0 (nI pb) kd mo st (nI jg) ro tp (nI td) cd sr 6 (nI ru) him ir ih ss sq ce lw s19 s20 s21 s22 wo he s25 s26 s27 sk na kp s31 s32 s33 s34 gb go fa ga s39 s40 vo] sz) := by
  refine Met.ofW (cc := cX6_text) (maxL := 3) (ret := (some .int)) (by decide +kernel) rfl ?_
  intro p e s m args below meth c s₁ B hml hv
  obtain ⟨rfl, hsz, hP, hK, hD0⟩ := hv
  have hx := B.exec
  have hb := B.bytes
  have hr := B.returns
  have hts := atoms_spec (ws := wsX6_text) B.pre
  have hown : s.vm.findClass RX6 = some m.cls := findClass_of_methodNamed B.named
  have hlocks := B.notSynchronized
  subst hsz
  have hD := hD0.self (sz := s.heap.size)
  generalize hAe : va_A [zo6 h0 (nI pb) kd mo st (nI jg) ro tp (nI td) cd sr 6 (nI ru) him ir ih ss sq ce lw s19 s20 s21 s22 wo he s25 s26 s27 sk na kp s31 s32 s33 s34 gb go fa ga s39 s40 vo] s.heap.size = A at hD ⊢
  have hA : ∀ q : Nat, s.heap.size ≤ q → A q := fun q h => by rw [← hAe]; exact Or.inr h
  have hS : va_S A s.heap s.heap [] := va_S.rf
  have hz9 : gPD G A [zo6 h0 (nI pb) kd mo st (nI jg) ro tp (nI td) cd sr 6 (nI ru) him ir ih ss sq ce lw s19 s20 s21 s22 wo he s25 s26 s27 sk na kp s31 s32 s33 s34 gb go fa ga s39 s40 vo] s.heap := ⟨hP, hD⟩
  have hP := hz9.1
  have hD := hz9.2
  have hl := lv_entry ([.ref h0]) (n := 3) (Nat.le_of_ble_eq_true rfl)
  rw [lg_entry_eq]
  generalize (lg_sl ([.ref h0]) ++ List.replicate (3 - (lg_sl ([.ref h0])).length) Slot.unset).toArray = ls at hl ⊢
  have hl : lv_has ls 3 [zR 0 h0] := hl
  have kf98 := hts (.fieldLink RX6 98 "PebbleInShoeModel" "texts" "I") (by decide +kernel)
  have hiX6 := (by decide +kernel : ∀ w ∈ wsX60, w ∈ wsX6_text)
  refine g_aget (D := G.1) (ci := 6) (v := .int 6) (C := RX6) (T := TX6) (N := 42) hx hb dX6_text_0 rfl (lv_at hl 0 rfl) hts hiX6 hown hK hP 0 rfl rfl 10 (by decide +kernel) kf98 (fun _ h9 => h9) rfl dX6_text_1 ?_
  refine lv_bipush (v := 6) hx hb dX6_text_4 (by decide +kernel) ?_
  refine lv_icmp_ne (tgt := 12) hx hb dX6_text_6 (by decide +kernel) (fun c_1 => ?_) (fun c_1 => ?_)
  · exact absurd (by decide +kernel) c_1
  refine lv_bipush (v := -4) hx hb dX6_text_9 (by decide +kernel) ?_
  have hpost : (fun (r : Int32) (u : Unit) => match u with | _ => r = -4) (-4) () := rfl
  exact W.iret (v := (-4)) hx hb hr (fun t ht hW => ⟨⟨(-4), (), rfl, hpost, by rw [ht]; exact hP, va_K.moved hW.alike hK, hD⟩, hS.F ht⟩) hS.2.2 dX6_text_11
