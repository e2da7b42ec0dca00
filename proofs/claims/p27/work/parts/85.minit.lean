abbrev q_X6_init_g (G : gG) (h0 : Nat) (A : Nat → Prop) : Array Value → State → Outcome → State → Prop := va_Qv (fun (u : Nat × Nat × Nat × Nat × Nat × Nat × Nat × Nat × Nat × Nat × Nat × Nat × Nat × Nat × Nat × Nat × Nat × Nat × Nat × Nat × Nat × Nat × Nat × Int32 × Int32 × Int32 × Int32 × Int32 × Int32 × Int32 × Nat × (Nat → Int32) × (Nat → Int32) × (Nat → Nat) × Bool × Nat × Nat × Nat) => match u with | (kd, mo, st, ro, tp, cd, sr, ir, ih, ss, sq, ce, lw, wo, he, sk, na, kp, gb, go, fa, ga, vo, zat, zbg, ztk, zvl, zhm, zop, zou, ztx, ycd, yhe, ysr, zok, zo1, zo2, zo3) => rT 0 40 (gPf tB 40) (gPf tW 96) (fun _ => 0) (fun _ => 0) zok zbg ycd zo1 zo2 zo3 ∧ ((zok = true ∧ ztx = 1 ∧ mWf ycd ysr 0 ∧ ysr 0 = 0 ∧ ysr 1 = zo1 ∧ ysr 2 = zo2 ∧ ysr 3 = zo3) ∨ (zok = false ∧ ztx = 0))) (fun (u : Nat × Nat × Nat × Nat × Nat × Nat × Nat × Nat × Nat × Nat × Nat × Nat × Nat × Nat × Nat × Nat × Nat × Nat × Nat × Nat × Nat × Nat × Nat × Int32 × Int32 × Int32 × Int32 × Int32 × Int32 × Int32 × Nat × (Nat → Int32) × (Nat → Int32) × (Nat → Nat) × Bool × Nat × Nat × Nat) t => match u with | (kd, mo, st, ro, tp, cd, sr, ir, ih, ss, sq, ce, lw, wo, he, sk, na, kp, gb, go, fa, ga, vo, zat, zbg, ztk, zvl, zhm, zop, zou, ztx, ycd, yhe, ysr, zok, zo1, zo2, zo3) => va_P G.1 vwCl [zo6 h0 0 kd mo st 0 ro tp 0 cd sr (nI ztx) 0 0 ir ih ss sq ce lw zat zbg ztk zvl wo he zhm zop zou sk na kp 0 0 0 0 gb go fa ga 0 0 vo, zi G kd 6 (fun _ => 0), zi G mo 6 (fun _ => 0), zi G st 12 (fun _ => 0), zi G ro 12 (fun _ => 0), zi G tp 160 (gPf tB 40), zi G cd 1200 ycd, zi G sr 24 (nF ysr), zi G ir 24 (fun _ => 0), zi G ih 3 (fun _ => 0), zi G ss 4 (upd (upd (upd (upd (fun _ => 0) 0 (-1)) 1 (-1)) 2 (-1)) 3 (-1)), zi G sq 4 (fun _ => 0), zi G ce 160 (fun _ => 0), zi G lw 40 (gPf tB 40), zi G wo 96 (gPf tW 96), zi G he 200 yhe, zi G sk 200 (fun _ => 0), zi G na 6 (fun _ => 0), zi G kp 24 (fun _ => 0), zb G gb 61 (fun _ => 0), zb G go 61 (fun _ => 0), zi G fa 36 (fun _ => 0), zi G ga 36 (fun _ => 0), zi G vo 64 (fun _ => 0)] t.heap ∧ gK G t ∧ va_D A [zo6 h0 0 kd mo st 0 ro tp 0 cd sr (nI ztx) 0 0 ir ih ss sq ce lw zat zbg ztk zvl wo he zhm zop zou sk na kp 0 0 0 0 gb go fa ga 0 0 vo, zi G kd 6 (fun _ => 0), zi G mo 6 (fun _ => 0), zi G st 12 (fun _ => 0), zi G ro 12 (fun _ => 0), zi G tp 160 (gPf tB 40), zi G cd 1200 ycd, zi G sr 24 (nF ysr), zi G ir 24 (fun _ => 0), zi G ih 3 (fun _ => 0), zi G ss 4 (upd (upd (upd (upd (fun _ => 0) 0 (-1)) 1 (-1)) 2 (-1)) 3 (-1)), zi G sq 4 (fun _ => 0), zi G ce 160 (fun _ => 0), zi G lw 40 (gPf tB 40), zi G wo 96 (gPf tW 96), zi G he 200 yhe, zi G sk 200 (fun _ => 0), zi G na 6 (fun _ => 0), zi G kp 24 (fun _ => 0), zb G gb 61 (fun _ => 0), zb G go 61 (fun _ => 0), zi G fa 36 (fun _ => 0), zi G ga 36 (fun _ => 0), zi G vo 64 (fun _ => 0)]) A
set_option maxHeartbeats 4000000 in
set_option maxRecDepth 100000 in
theorem c_X6_init_g (l : Launch) (G : gG) (h0 : Nat) (sz : Nat) : Met l yX6_init wsX6_init ({ frames := 5, cells := 23, slots := 2439, locals := 109 }) (gPre G [.ref h0] [zo6q1 h0 0 0 0 0 0 0 0 0 0 0 0 0 0 0 0 0 0 0 0] sz) (q_X6_init_g G h0 (va_A [zo6q1 h0 0 0 0 0 0 0 0 0 0 0 0 0 0 0 0 0 0 0 0] sz)) 23 2439 (va_A [zo6q1 h0 0 0 0 0 0 0 0 0 0 0 0 0 0 0 0 0 0 0 0] sz) := by
  refine Met.ofW (cc := cX6_init) (maxL := 2) (ret := none) (by decide +kernel) rfl ?_
  intro p e s m args below meth c s₁ B hml hv
  obtain ⟨rfl, hsz, hP, hK, hD0⟩ := hv
  have hx := B.exec
  have hb := B.bytes
  have hr := B.returns
  have hts := atoms_spec (ws := wsX6_init) B.pre
  have hown : s.vm.findClass RX6 = some m.cls := findClass_of_methodNamed B.named
  have hlocks := B.notSynchronized
  have hin : meth.name = "<init>" := (name_of_methodNamed B.named B.method).1
  subst hsz
  have hD := hD0.self (sz := s.heap.size)
  generalize hAe : va_A [zo6q1 h0 0 0 0 0 0 0 0 0 0 0 0 0 0 0 0 0 0 0 0] s.heap.size = A at hD ⊢
  have hA : ∀ q : Nat, s.heap.size ≤ q → A q := fun q h => by rw [← hAe]; exact Or.inr h
  have hS : va_S A s.heap s.heap [] := va_S.rf
  have hz9 : gPD G A [zo6q1 h0 0 0 0 0 0 0 0 0 0 0 0 0 0 0 0 0 0 0 0] s.heap := ⟨hP, hD⟩
  have hP := hz9.1
  have hD := hz9.2
  have hl := lv_entry ([.ref h0]) (n := 2) (Nat.le_of_ble_eq_true rfl)
  rw [lg_entry_eq]
  generalize (lg_sl ([.ref h0]) ++ List.replicate (2 - (lg_sl ([.ref h0])).length) Slot.unset).toArray = ls at hl ⊢
  have hl : lv_has ls 2 [zR 0 h0] := hl
  have kf7 := hts (.fieldLink RX6 7 "PebbleInShoeModel" "kind" "[I") (by decide +kernel)
  have hiX6 := (by decide +kernel : ∀ w ∈ wsX60, w ∈ wsX6_init)
  have kf13 := hts (.fieldLink RX6 13 "PebbleInShoeModel" "moreOf" "[I") (by decide +kernel)
  have kf16 := hts (.fieldLink RX6 16 "PebbleInShoeModel" "stones" "[I") (by decide +kernel)
  have kf19 := hts (.fieldLink RX6 19 "PebbleInShoeModel" "rows" "[I") (by decide +kernel)
  have kf22 := hts (.fieldLink RX6 22 "PebbleInShoeModel" "tape" "[I") (by decide +kernel)
  have kf25 := hts (.fieldLink RX6 25 "PebbleInShoeModel" "codes" "[I") (by decide +kernel)
  have kf28 := hts (.fieldLink RX6 28 "PebbleInShoeModel" "starts" "[I") (by decide +kernel)
  have kf31 := hts (.fieldLink RX6 31 "PebbleInShoeModel" "imageRows" "[I") (by decide +kernel)
  have kf34 := hts (.fieldLink RX6 34 "PebbleInShoeModel" "imageHeld" "[I") (by decide +kernel)
  have kf37 := hts (.fieldLink RX6 37 "PebbleInShoeModel" "sheetSort" "[I") (by decide +kernel)
  have kf40 := hts (.fieldLink RX6 40 "PebbleInShoeModel" "sheetSize" "[I") (by decide +kernel)
  have kf43 := hts (.fieldLink RX6 43 "PebbleInShoeModel" "cells" "[I") (by decide +kernel)
  have kf46 := hts (.fieldLink RX6 46 "PebbleInShoeModel" "law" "[I") (by decide +kernel)
  have kf49 := hts (.fieldLink RX6 49 "PebbleInShoeModel" "words" "[I") (by decide +kernel)
  have kf52 := hts (.fieldLink RX6 52 "PebbleInShoeModel" "held" "[I") (by decide +kernel)
  have kf55 := hts (.fieldLink RX6 55 "PebbleInShoeModel" "stack" "[I") (by decide +kernel)
  have kf58 := hts (.fieldLink RX6 58 "PebbleInShoeModel" "named" "[I") (by decide +kernel)
  have kf61 := hts (.fieldLink RX6 61 "PebbleInShoeModel" "kept" "[I") (by decide +kernel)
  have kf64 := hts (.fieldLink RX6 64 "PebbleInShoeModel" "guiltyBy" "[Z") (by decide +kernel)
  have kf68 := hts (.fieldLink RX6 68 "PebbleInShoeModel" "guiltyOne" "[Z") (by decide +kernel)
  have kf71 := hts (.fieldLink RX6 71 "PebbleInShoeModel" "feltAs" "[I") (by decide +kernel)
  have kf74 := hts (.fieldLink RX6 74 "PebbleInShoeModel" "guiltyAs" "[I") (by decide +kernel)
  have kf77 := hts (.fieldLink RX6 77 "PebbleInShoeModel" "valueOf" "[I") (by decide +kernel)
  have kf80 := hts (.fieldLink RX6 80 "PebbleInShoeModel" "taped" "I") (by decide +kernel)
  have cut_885 : ∀ (q_1 q_2 q_3 q_4 q_5 q_6 q_7 q_8 q_9 q_10 q_11 q_12 q_13 q_14 : Nat) (H : Heap) (locs : List Loc), va_P G.1 vwCl [zo6q2 h0 0 q_1 q_2 q_3 0 q_4 q_5 0 q_6 q_7 0 0 0 q_8 q_9 q_10 q_11 q_12 q_13 0 0 0 0 0 0 0 0 0 0 0 0 0, zi G q_1 6 (fun _ => 0), zi G q_2 6 (fun _ => 0), zi G q_3 12 (fun _ => 0), zi G q_4 12 (fun _ => 0), zi G q_5 160 (fun _ => 0), zi G q_6 1200 (fun _ => 0), zi G q_7 24 (fun _ => 0), zi G q_8 24 (fun _ => 0), zi G q_9 3 (fun _ => 0), zi G q_10 4 (upd (upd (upd (upd (fun _ => 0) 0 (-1)) 1 (-1)) 2 (-1)) 3 (-1)), zi G q_11 4 (fun _ => 0), zi G q_12 160 (fun _ => 0), zi G q_13 40 (gPf tB 40), zi G q_14 96 (gPf tW 88)] H → va_D A [zo6q2 h0 0 q_1 q_2 q_3 0 q_4 q_5 0 q_6 q_7 0 0 0 q_8 q_9 q_10 q_11 q_12 q_13 0 0 0 0 0 0 0 0 0 0 0 0 0, zi G q_1 6 (fun _ => 0), zi G q_2 6 (fun _ => 0), zi G q_3 12 (fun _ => 0), zi G q_4 12 (fun _ => 0), zi G q_5 160 (fun _ => 0), zi G q_6 1200 (fun _ => 0), zi G q_7 24 (fun _ => 0), zi G q_8 24 (fun _ => 0), zi G q_9 3 (fun _ => 0), zi G q_10 4 (upd (upd (upd (upd (fun _ => 0) 0 (-1)) 1 (-1)) 2 (-1)) 3 (-1)), zi G q_11 4 (fun _ => 0), zi G q_12 160 (fun _ => 0), zi G q_13 40 (gPf tB 40), zi G q_14 96 (gPf tW 88)] → va_S A s.heap H locs → ∀ ls : Array Slot, lv_has ls 2 [zR 0 h0] → W p l e (headSpec wsX6_init ({ frames := 5, cells := 23, slots := 2439, locals := 109 })).room s m ([.ref h0] : List Value).toArray below meth c H locs 14 1751 (MQ below (q_X6_init_g G h0 A) ([.ref h0] : List Value).toArray s 23 2439 A) (F0 m 885 ls [.ref q_14, .ref h0]) := by
    as_aux_lemma =>
    intro q_1 q_2 q_3 q_4 q_5 q_6 q_7 q_8 q_9 q_10 q_11 q_12 q_13 q_14 H locs hP hD hS ls hl
    refine lv_dup hx hb dX6_init_885 rfl ?_
    refine lv_bipush (v := 88) hx hb dX6_init_886 (by decide +kernel) ?_
    refine lv_bipush (v := 110) hx hb dX6_init_888 (by decide +kernel) ?_
    refine g_iastP (D := G.1) hx hb hK hP hD hS 14 0 rfl rfl (i := 88) (x := 110) (k := 88) (t := tW) (by decide +kernel) (by decide +kernel) (gIn (by decide +kernel)) dX6_init_890 (fun H locs hP hD hS => ?_)
    have hz9 : gPD G A [zo6q2 h0 0 q_1 q_2 q_3 0 q_4 q_5 0 q_6 q_7 0 0 0 q_8 q_9 q_10 q_11 q_12 q_13 0 0 0 0 0 0 0 0 0 0 0 0 0, zi G q_1 6 (fun _ => 0), zi G q_2 6 (fun _ => 0), zi G q_3 12 (fun _ => 0), zi G q_4 12 (fun _ => 0), zi G q_5 160 (fun _ => 0), zi G q_6 1200 (fun _ => 0), zi G q_7 24 (fun _ => 0), zi G q_8 24 (fun _ => 0), zi G q_9 3 (fun _ => 0), zi G q_10 4 (upd (upd (upd (upd (fun _ => 0) 0 (-1)) 1 (-1)) 2 (-1)) 3 (-1)), zi G q_11 4 (fun _ => 0), zi G q_12 160 (fun _ => 0), zi G q_13 40 (gPf tB 40), zi G q_14 96 (gPf tW 89)] H := ⟨hP, hD⟩
    have hP := hz9.1
    have hD := hz9.2
    refine lv_dup hx hb dX6_init_891 rfl ?_
    refine lv_bipush (v := 89) hx hb dX6_init_892 (by decide +kernel) ?_
    refine lv_bipush (v := 111) hx hb dX6_init_894 (by decide +kernel) ?_
    refine g_iastP (D := G.1) hx hb hK hP hD hS 14 0 rfl rfl (i := 89) (x := 111) (k := 89) (t := tW) (by decide +kernel) (by decide +kernel) (gIn (by decide +kernel)) dX6_init_896 (fun H locs hP hD hS => ?_)
    have hz9 : gPD G A [zo6q2 h0 0 q_1 q_2 q_3 0 q_4 q_5 0 q_6 q_7 0 0 0 q_8 q_9 q_10 q_11 q_12 q_13 0 0 0 0 0 0 0 0 0 0 0 0 0, zi G q_1 6 (fun _ => 0), zi G q_2 6 (fun _ => 0), zi G q_3 12 (fun _ => 0), zi G q_4 12 (fun _ => 0), zi G q_5 160 (fun _ => 0), zi G q_6 1200 (fun _ => 0), zi G q_7 24 (fun _ => 0), zi G q_8 24 (fun _ => 0), zi G q_9 3 (fun _ => 0), zi G q_10 4 (upd (upd (upd (upd (fun _ => 0) 0 (-1)) 1 (-1)) 2 (-1)) 3 (-1)), zi G q_11 4 (fun _ => 0), zi G q_12 160 (fun _ => 0), zi G q_13 40 (gPf tB 40), zi G q_14 96 (gPf tW 90)] H := ⟨hP, hD⟩
    have hP := hz9.1
    have hD := hz9.2
    refine lv_dup hx hb dX6_init_897 rfl ?_
    refine lv_bipush (v := 90) hx hb dX6_init_898 (by decide +kernel) ?_
    refine lv_bipush (v := 116) hx hb dX6_init_900 (by decide +kernel) ?_
    refine g_iastP (D := G.1) hx hb hK hP hD hS 14 0 rfl rfl (i := 90) (x := 116) (k := 90) (t := tW) (by decide +kernel) (by decide +kernel) (gIn (by decide +kernel)) dX6_init_902 (fun H locs hP hD hS => ?_)
    have hz9 : gPD G A [zo6q2 h0 0 q_1 q_2 q_3 0 q_4 q_5 0 q_6 q_7 0 0 0 q_8 q_9 q_10 q_11 q_12 q_13 0 0 0 0 0 0 0 0 0 0 0 0 0, zi G q_1 6 (fun _ => 0), zi G q_2 6 (fun _ => 0), zi G q_3 12 (fun _ => 0), zi G q_4 12 (fun _ => 0), zi G q_5 160 (fun _ => 0), zi G q_6 1200 (fun _ => 0), zi G q_7 24 (fun _ => 0), zi G q_8 24 (fun _ => 0), zi G q_9 3 (fun _ => 0), zi G q_10 4 (upd (upd (upd (upd (fun _ => 0) 0 (-1)) 1 (-1)) 2 (-1)) 3 (-1)), zi G q_11 4 (fun _ => 0), zi G q_12 160 (fun _ => 0), zi G q_13 40 (gPf tB 40), zi G q_14 96 (gPf tW 91)] H := ⟨hP, hD⟩
    have hP := hz9.1
    have hD := hz9.2
    refine lv_dup hx hb dX6_init_903 rfl ?_
    refine lv_bipush (v := 91) hx hb dX6_init_904 (by decide +kernel) ?_
    refine lv_bipush (v := 32) hx hb dX6_init_906 (by decide +kernel) ?_
    refine g_iastP (D := G.1) hx hb hK hP hD hS 14 0 rfl rfl (i := 91) (x := 32) (k := 91) (t := tW) (by decide +kernel) (by decide +kernel) (gIn (by decide +kernel)) dX6_init_908 (fun H locs hP hD hS => ?_)
    have hz9 : gPD G A [zo6q2 h0 0 q_1 q_2 q_3 0 q_4 q_5 0 q_6 q_7 0 0 0 q_8 q_9 q_10 q_11 q_12 q_13 0 0 0 0 0 0 0 0 0 0 0 0 0, zi G q_1 6 (fun _ => 0), zi G q_2 6 (fun _ => 0), zi G q_3 12 (fun _ => 0), zi G q_4 12 (fun _ => 0), zi G q_5 160 (fun _ => 0), zi G q_6 1200 (fun _ => 0), zi G q_7 24 (fun _ => 0), zi G q_8 24 (fun _ => 0), zi G q_9 3 (fun _ => 0), zi G q_10 4 (upd (upd (upd (upd (fun _ => 0) 0 (-1)) 1 (-1)) 2 (-1)) 3 (-1)), zi G q_11 4 (fun _ => 0), zi G q_12 160 (fun _ => 0), zi G q_13 40 (gPf tB 40), zi G q_14 96 (gPf tW 92)] H := ⟨hP, hD⟩
    have hP := hz9.1
    have hD := hz9.2
    refine lv_dup hx hb dX6_init_909 rfl ?_
    refine lv_bipush (v := 92) hx hb dX6_init_910 (by decide +kernel) ?_
    refine lv_bipush (v := 32) hx hb dX6_init_912 (by decide +kernel) ?_
    refine g_iastP (D := G.1) hx hb hK hP hD hS 14 0 rfl rfl (i := 92) (x := 32) (k := 92) (t := tW) (by decide +kernel) (by decide +kernel) (gIn (by decide +kernel)) dX6_init_914 (fun H locs hP hD hS => ?_)
    have hz9 : gPD G A [zo6q2 h0 0 q_1 q_2 q_3 0 q_4 q_5 0 q_6 q_7 0 0 0 q_8 q_9 q_10 q_11 q_12 q_13 0 0 0 0 0 0 0 0 0 0 0 0 0, zi G q_1 6 (fun _ => 0), zi G q_2 6 (fun _ => 0), zi G q_3 12 (fun _ => 0), zi G q_4 12 (fun _ => 0), zi G q_5 160 (fun _ => 0), zi G q_6 1200 (fun _ => 0), zi G q_7 24 (fun _ => 0), zi G q_8 24 (fun _ => 0), zi G q_9 3 (fun _ => 0), zi G q_10 4 (upd (upd (upd (upd (fun _ => 0) 0 (-1)) 1 (-1)) 2 (-1)) 3 (-1)), zi G q_11 4 (fun _ => 0), zi G q_12 160 (fun _ => 0), zi G q_13 40 (gPf tB 40), zi G q_14 96 (gPf tW 93)] H := ⟨hP, hD⟩
    have hP := hz9.1
    have hD := hz9.2
    refine lv_dup hx hb dX6_init_915 rfl ?_
    refine lv_bipush (v := 93) hx hb dX6_init_916 (by decide +kernel) ?_
    refine lv_bipush (v := 32) hx hb dX6_init_918 (by decide +kernel) ?_
    refine g_iastP (D := G.1) hx hb hK hP hD hS 14 0 rfl rfl (i := 93) (x := 32) (k := 93) (t := tW) (by decide +kernel) (by decide +kernel) (gIn (by decide +kernel)) dX6_init_920 (fun H locs hP hD hS => ?_)
    have hz9 : gPD G A [zo6q2 h0 0 q_1 q_2 q_3 0 q_4 q_5 0 q_6 q_7 0 0 0 q_8 q_9 q_10 q_11 q_12 q_13 0 0 0 0 0 0 0 0 0 0 0 0 0, zi G q_1 6 (fun _ => 0), zi G q_2 6 (fun _ => 0), zi G q_3 12 (fun _ => 0), zi G q_4 12 (fun _ => 0), zi G q_5 160 (fun _ => 0), zi G q_6 1200 (fun _ => 0), zi G q_7 24 (fun _ => 0), zi G q_8 24 (fun _ => 0), zi G q_9 3 (fun _ => 0), zi G q_10 4 (upd (upd (upd (upd (fun _ => 0) 0 (-1)) 1 (-1)) 2 (-1)) 3 (-1)), zi G q_11 4 (fun _ => 0), zi G q_12 160 (fun _ => 0), zi G q_13 40 (gPf tB 40), zi G q_14 96 (gPf tW 94)] H := ⟨hP, hD⟩
    have hP := hz9.1
    have hD := hz9.2
    refine lv_dup hx hb dX6_init_921 rfl ?_
    refine lv_bipush (v := 94) hx hb dX6_init_922 (by decide +kernel) ?_
    refine lv_bipush (v := 32) hx hb dX6_init_924 (by decide +kernel) ?_
    refine g_iastP (D := G.1) hx hb hK hP hD hS 14 0 rfl rfl (i := 94) (x := 32) (k := 94) (t := tW) (by decide +kernel) (by decide +kernel) (gIn (by decide +kernel)) dX6_init_926 (fun H locs hP hD hS => ?_)
    have hz9 : gPD G A [zo6q2 h0 0 q_1 q_2 q_3 0 q_4 q_5 0 q_6 q_7 0 0 0 q_8 q_9 q_10 q_11 q_12 q_13 0 0 0 0 0 0 0 0 0 0 0 0 0, zi G q_1 6 (fun _ => 0), zi G q_2 6 (fun _ => 0), zi G q_3 12 (fun _ => 0), zi G q_4 12 (fun _ => 0), zi G q_5 160 (fun _ => 0), zi G q_6 1200 (fun _ => 0), zi G q_7 24 (fun _ => 0), zi G q_8 24 (fun _ => 0), zi G q_9 3 (fun _ => 0), zi G q_10 4 (upd (upd (upd (upd (fun _ => 0) 0 (-1)) 1 (-1)) 2 (-1)) 3 (-1)), zi G q_11 4 (fun _ => 0), zi G q_12 160 (fun _ => 0), zi G q_13 40 (gPf tB 40), zi G q_14 96 (gPf tW 95)] H := ⟨hP, hD⟩
    have hP := hz9.1
    have hD := hz9.2
    refine lv_dup hx hb dX6_init_927 rfl ?_
    refine lv_bipush (v := 95) hx hb dX6_init_928 (by decide +kernel) ?_
    refine lv_bipush (v := 32) hx hb dX6_init_930 (by decide +kernel) ?_
    refine g_iastP (D := G.1) hx hb hK hP hD hS 14 0 rfl rfl (i := 95) (x := 32) (k := 95) (t := tW) (by decide +kernel) (by decide +kernel) (gIn (by decide +kernel)) dX6_init_932 (fun H locs hP hD hS => ?_)
    have hz9 : gPD G A [zo6q2 h0 0 q_1 q_2 q_3 0 q_4 q_5 0 q_6 q_7 0 0 0 q_8 q_9 q_10 q_11 q_12 q_13 0 0 0 0 0 0 0 0 0 0 0 0 0, zi G q_1 6 (fun _ => 0), zi G q_2 6 (fun _ => 0), zi G q_3 12 (fun _ => 0), zi G q_4 12 (fun _ => 0), zi G q_5 160 (fun _ => 0), zi G q_6 1200 (fun _ => 0), zi G q_7 24 (fun _ => 0), zi G q_8 24 (fun _ => 0), zi G q_9 3 (fun _ => 0), zi G q_10 4 (upd (upd (upd (upd (fun _ => 0) 0 (-1)) 1 (-1)) 2 (-1)) 3 (-1)), zi G q_11 4 (fun _ => 0), zi G q_12 160 (fun _ => 0), zi G q_13 40 (gPf tB 40), zi G q_14 96 (gPf tW 96)] H := ⟨hP, hD⟩
    have hP := hz9.1
    have hD := hz9.2
    refine va_putF (D := G.1) (ci := 6) (v := .ref q_14) (ty := .array .int) (C := RX6) (T := TX6) (N := 42) hx hb hts hiX6 tyX6 tyX6_ok nmX6 hown hK hP hD hS 0 rfl rfl 23 (by decide +kernel) kf49 (fun _ h9 => h9) rfl hin rfl (by decide +kernel) rfl rfl (Nat.le_of_ble_eq_true rfl) dX6_init_933 (fun H locs hP hD hS => ?_)
    have hz9 : gPD G A [zo6q3 h0 0 q_1 q_2 q_3 0 q_4 q_5 0 q_6 q_7 0 0 0 q_8 q_9 q_10 q_11 q_12 q_13 0 0 0 0 q_14 0 0 0 0 0 0 0 0 0, zi G q_1 6 (fun _ => 0), zi G q_2 6 (fun _ => 0), zi G q_3 12 (fun _ => 0), zi G q_4 12 (fun _ => 0), zi G q_5 160 (fun _ => 0), zi G q_6 1200 (fun _ => 0), zi G q_7 24 (fun _ => 0), zi G q_8 24 (fun _ => 0), zi G q_9 3 (fun _ => 0), zi G q_10 4 (upd (upd (upd (upd (fun _ => 0) 0 (-1)) 1 (-1)) 2 (-1)) 3 (-1)), zi G q_11 4 (fun _ => 0), zi G q_12 160 (fun _ => 0), zi G q_13 40 (gPf tB 40), zi G q_14 96 (gPf tW 96)] H := ⟨hP, hD⟩
    have hP := hz9.1
    have hD := hz9.2
    refine lv_aload_n hx hb dX6_init_936 rfl (lv_at hl 0 rfl) ?_
    refine lv_sipush (v := 200) hx hb dX6_init_937 (by decide +kernel) ?_
    refine g_newI hx hb (hts (.arrayClass .int) (by decide +kernel)) hK hP hD hS hA (n := 200) (N' := 200) (by decide +kernel) (by decide +kernel) (Nat.le_of_ble_eq_true rfl) (Nat.le_of_ble_eq_true rfl) (Nat.le_of_ble_eq_true rfl) dX6_init_940 (fun q_15 H hP hD hS => ?_)
    have hz9 : gPD G A [zo6q3 h0 0 q_1 q_2 q_3 0 q_4 q_5 0 q_6 q_7 0 0 0 q_8 q_9 q_10 q_11 q_12 q_13 0 0 0 0 q_14 0 0 0 0 0 0 0 0 0, zi G q_1 6 (fun _ => 0), zi G q_2 6 (fun _ => 0), zi G q_3 12 (fun _ => 0), zi G q_4 12 (fun _ => 0), zi G q_5 160 (fun _ => 0), zi G q_6 1200 (fun _ => 0), zi G q_7 24 (fun _ => 0), zi G q_8 24 (fun _ => 0), zi G q_9 3 (fun _ => 0), zi G q_10 4 (upd (upd (upd (upd (fun _ => 0) 0 (-1)) 1 (-1)) 2 (-1)) 3 (-1)), zi G q_11 4 (fun _ => 0), zi G q_12 160 (fun _ => 0), zi G q_13 40 (gPf tB 40), zi G q_14 96 (gPf tW 96), zi G q_15 200 (fun _ => 0)] H := ⟨hP, hD⟩
    have hP := hz9.1
    have hD := hz9.2
    refine va_putF (D := G.1) (ci := 6) (v := .ref q_15) (ty := .array .int) (C := RX6) (T := TX6) (N := 42) hx hb hts hiX6 tyX6 tyX6_ok nmX6 hown hK hP hD hS 0 rfl rfl 24 (by decide +kernel) kf52 (fun _ h9 => h9) rfl hin rfl (by decide +kernel) rfl rfl (Nat.le_of_ble_eq_true rfl) dX6_init_942 (fun H locs hP hD hS => ?_)
    have hz9 : gPD G A [zo6q4 h0 0 q_1 q_2 q_3 0 q_4 q_5 0 q_6 q_7 0 0 0 q_8 q_9 q_10 q_11 q_12 q_13 0 0 0 0 q_14 q_15 0 0 0 0 0 0 0 0 0, zi G q_1 6 (fun _ => 0), zi G q_2 6 (fun _ => 0), zi G q_3 12 (fun _ => 0), zi G q_4 12 (fun _ => 0), zi G q_5 160 (fun _ => 0), zi G q_6 1200 (fun _ => 0), zi G q_7 24 (fun _ => 0), zi G q_8 24 (fun _ => 0), zi G q_9 3 (fun _ => 0), zi G q_10 4 (upd (upd (upd (upd (fun _ => 0) 0 (-1)) 1 (-1)) 2 (-1)) 3 (-1)), zi G q_11 4 (fun _ => 0), zi G q_12 160 (fun _ => 0), zi G q_13 40 (gPf tB 40), zi G q_14 96 (gPf tW 96), zi G q_15 200 (fun _ => 0)] H := ⟨hP, hD⟩
    have hP := hz9.1
    have hD := hz9.2
    refine lv_aload_n hx hb dX6_init_945 rfl (lv_at hl 0 rfl) ?_
    refine lv_sipush (v := 200) hx hb dX6_init_946 (by decide +kernel) ?_
    refine g_newI hx hb (hts (.arrayClass .int) (by decide +kernel)) hK hP hD hS hA (n := 200) (N' := 200) (by decide +kernel) (by decide +kernel) (Nat.le_of_ble_eq_true rfl) (Nat.le_of_ble_eq_true rfl) (Nat.le_of_ble_eq_true rfl) dX6_init_949 (fun q_16 H hP hD hS => ?_)
    have hz9 : gPD G A [zo6q4 h0 0 q_1 q_2 q_3 0 q_4 q_5 0 q_6 q_7 0 0 0 q_8 q_9 q_10 q_11 q_12 q_13 0 0 0 0 q_14 q_15 0 0 0 0 0 0 0 0 0, zi G q_1 6 (fun _ => 0), zi G q_2 6 (fun _ => 0), zi G q_3 12 (fun _ => 0), zi G q_4 12 (fun _ => 0), zi G q_5 160 (fun _ => 0), zi G q_6 1200 (fun _ => 0), zi G q_7 24 (fun _ => 0), zi G q_8 24 (fun _ => 0), zi G q_9 3 (fun _ => 0), zi G q_10 4 (upd (upd (upd (upd (fun _ => 0) 0 (-1)) 1 (-1)) 2 (-1)) 3 (-1)), zi G q_11 4 (fun _ => 0), zi G q_12 160 (fun _ => 0), zi G q_13 40 (gPf tB 40), zi G q_14 96 (gPf tW 96), zi G q_15 200 (fun _ => 0), zi G q_16 200 (fun _ => 0)] H := ⟨hP, hD⟩
    have hP := hz9.1
    have hD := hz9.2
    refine va_putF (D := G.1) (ci := 6) (v := .ref q_16) (ty := .array .int) (C := RX6) (T := TX6) (N := 42) hx hb hts hiX6 tyX6 tyX6_ok nmX6 hown hK hP hD hS 0 rfl rfl 28 (by decide +kernel) kf55 (fun _ h9 => h9) rfl hin rfl (by decide +kernel) rfl rfl (Nat.le_of_ble_eq_true rfl) dX6_init_951 (fun H locs hP hD hS => ?_)
    have hz9 : gPD G A [zo6q5 h0 0 q_1 q_2 q_3 0 q_4 q_5 0 q_6 q_7 0 0 0 q_8 q_9 q_10 q_11 q_12 q_13 0 0 0 0 q_14 q_15 0 0 0 q_16 0 0 0 0 0 0, zi G q_1 6 (fun _ => 0), zi G q_2 6 (fun _ => 0), zi G q_3 12 (fun _ => 0), zi G q_4 12 (fun _ => 0), zi G q_5 160 (fun _ => 0), zi G q_6 1200 (fun _ => 0), zi G q_7 24 (fun _ => 0), zi G q_8 24 (fun _ => 0), zi G q_9 3 (fun _ => 0), zi G q_10 4 (upd (upd (upd (upd (fun _ => 0) 0 (-1)) 1 (-1)) 2 (-1)) 3 (-1)), zi G q_11 4 (fun _ => 0), zi G q_12 160 (fun _ => 0), zi G q_13 40 (gPf tB 40), zi G q_14 96 (gPf tW 96), zi G q_15 200 (fun _ => 0), zi G q_16 200 (fun _ => 0)] H := ⟨hP, hD⟩
    have hP := hz9.1
    have hD := hz9.2
    refine lv_aload_n hx hb dX6_init_954 rfl (lv_at hl 0 rfl) ?_
    refine lv_bipush (v := 6) hx hb dX6_init_955 (by decide +kernel) ?_
    refine g_newI hx hb (hts (.arrayClass .int) (by decide +kernel)) hK hP hD hS hA (n := 6) (N' := 6) (by decide +kernel) (by decide +kernel) (Nat.le_of_ble_eq_true rfl) (Nat.le_of_ble_eq_true rfl) (Nat.le_of_ble_eq_true rfl) dX6_init_957 (fun q_17 H hP hD hS => ?_)
    have hz9 : gPD G A [zo6q5 h0 0 q_1 q_2 q_3 0 q_4 q_5 0 q_6 q_7 0 0 0 q_8 q_9 q_10 q_11 q_12 q_13 0 0 0 0 q_14 q_15 0 0 0 q_16 0 0 0 0 0 0, zi G q_1 6 (fun _ => 0), zi G q_2 6 (fun _ => 0), zi G q_3 12 (fun _ => 0), zi G q_4 12 (fun _ => 0), zi G q_5 160 (fun _ => 0), zi G q_6 1200 (fun _ => 0), zi G q_7 24 (fun _ => 0), zi G q_8 24 (fun _ => 0), zi G q_9 3 (fun _ => 0), zi G q_10 4 (upd (upd (upd (upd (fun _ => 0) 0 (-1)) 1 (-1)) 2 (-1)) 3 (-1)), zi G q_11 4 (fun _ => 0), zi G q_12 160 (fun _ => 0), zi G q_13 40 (gPf tB 40), zi G q_14 96 (gPf tW 96), zi G q_15 200 (fun _ => 0), zi G q_16 200 (fun _ => 0), zi G q_17 6 (fun _ => 0)] H := ⟨hP, hD⟩
    have hP := hz9.1
    have hD := hz9.2
    refine va_putF (D := G.1) (ci := 6) (v := .ref q_17) (ty := .array .int) (C := RX6) (T := TX6) (N := 42) hx hb hts hiX6 tyX6 tyX6_ok nmX6 hown hK hP hD hS 0 rfl rfl 29 (by decide +kernel) kf58 (fun _ h9 => h9) rfl hin rfl (by decide +kernel) rfl rfl (Nat.le_of_ble_eq_true rfl) dX6_init_959 (fun H locs hP hD hS => ?_)
    have hz9 : gPD G A [zo6q6 h0 0 q_1 q_2 q_3 0 q_4 q_5 0 q_6 q_7 0 0 0 q_8 q_9 q_10 q_11 q_12 q_13 0 0 0 0 q_14 q_15 0 0 0 q_16 q_17 0 0 0 0 0 0, zi G q_1 6 (fun _ => 0), zi G q_2 6 (fun _ => 0), zi G q_3 12 (fun _ => 0), zi G q_4 12 (fun _ => 0), zi G q_5 160 (fun _ => 0), zi G q_6 1200 (fun _ => 0), zi G q_7 24 (fun _ => 0), zi G q_8 24 (fun _ => 0), zi G q_9 3 (fun _ => 0), zi G q_10 4 (upd (upd (upd (upd (fun _ => 0) 0 (-1)) 1 (-1)) 2 (-1)) 3 (-1)), zi G q_11 4 (fun _ => 0), zi G q_12 160 (fun _ => 0), zi G q_13 40 (gPf tB 40), zi G q_14 96 (gPf tW 96), zi G q_15 200 (fun _ => 0), zi G q_16 200 (fun _ => 0), zi G q_17 6 (fun _ => 0)] H := ⟨hP, hD⟩
    have hP := hz9.1
    have hD := hz9.2
    refine lv_aload_n hx hb dX6_init_962 rfl (lv_at hl 0 rfl) ?_
    refine lv_bipush (v := 24) hx hb dX6_init_963 (by decide +kernel) ?_
    refine g_newI hx hb (hts (.arrayClass .int) (by decide +kernel)) hK hP hD hS hA (n := 24) (N' := 24) (by decide +kernel) (by decide +kernel) (Nat.le_of_ble_eq_true rfl) (Nat.le_of_ble_eq_true rfl) (Nat.le_of_ble_eq_true rfl) dX6_init_965 (fun q_18 H hP hD hS => ?_)
    have hz9 : gPD G A [zo6q6 h0 0 q_1 q_2 q_3 0 q_4 q_5 0 q_6 q_7 0 0 0 q_8 q_9 q_10 q_11 q_12 q_13 0 0 0 0 q_14 q_15 0 0 0 q_16 q_17 0 0 0 0 0 0, zi G q_1 6 (fun _ => 0), zi G q_2 6 (fun _ => 0), zi G q_3 12 (fun _ => 0), zi G q_4 12 (fun _ => 0), zi G q_5 160 (fun _ => 0), zi G q_6 1200 (fun _ => 0), zi G q_7 24 (fun _ => 0), zi G q_8 24 (fun _ => 0), zi G q_9 3 (fun _ => 0), zi G q_10 4 (upd (upd (upd (upd (fun _ => 0) 0 (-1)) 1 (-1)) 2 (-1)) 3 (-1)), zi G q_11 4 (fun _ => 0), zi G q_12 160 (fun _ => 0), zi G q_13 40 (gPf tB 40), zi G q_14 96 (gPf tW 96), zi G q_15 200 (fun _ => 0), zi G q_16 200 (fun _ => 0), zi G q_17 6 (fun _ => 0), zi G q_18 24 (fun _ => 0)] H := ⟨hP, hD⟩
    have hP := hz9.1
    have hD := hz9.2
    refine va_putF (D := G.1) (ci := 6) (v := .ref q_18) (ty := .array .int) (C := RX6) (T := TX6) (N := 42) hx hb hts hiX6 tyX6 tyX6_ok nmX6 hown hK hP hD hS 0 rfl rfl 30 (by decide +kernel) kf61 (fun _ h9 => h9) rfl hin rfl (by decide +kernel) rfl rfl (Nat.le_of_ble_eq_true rfl) dX6_init_967 (fun H locs hP hD hS => ?_)
    have hz9 : gPD G A [zo6q7 h0 0 q_1 q_2 q_3 0 q_4 q_5 0 q_6 q_7 0 0 0 q_8 q_9 q_10 q_11 q_12 q_13 0 0 0 0 q_14 q_15 0 0 0 q_16 q_17 q_18 0 0 0 0 0 0, zi G q_1 6 (fun _ => 0), zi G q_2 6 (fun _ => 0), zi G q_3 12 (fun _ => 0), zi G q_4 12 (fun _ => 0), zi G q_5 160 (fun _ => 0), zi G q_6 1200 (fun _ => 0), zi G q_7 24 (fun _ => 0), zi G q_8 24 (fun _ => 0), zi G q_9 3 (fun _ => 0), zi G q_10 4 (upd (upd (upd (upd (fun _ => 0) 0 (-1)) 1 (-1)) 2 (-1)) 3 (-1)), zi G q_11 4 (fun _ => 0), zi G q_12 160 (fun _ => 0), zi G q_13 40 (gPf tB 40), zi G q_14 96 (gPf tW 96), zi G q_15 200 (fun _ => 0), zi G q_16 200 (fun _ => 0), zi G q_17 6 (fun _ => 0), zi G q_18 24 (fun _ => 0)] H := ⟨hP, hD⟩
    have hP := hz9.1
    have hD := hz9.2
    refine lv_aload_n hx hb dX6_init_970 rfl (lv_at hl 0 rfl) ?_
    refine lv_bipush (v := 61) hx hb dX6_init_971 (by decide +kernel) ?_
    refine g_newZ hx hb (hts (.arrayClass .boolean) (by decide +kernel)) hK hP hD hS hA (n := 61) (N' := 61) (by decide +kernel) (by decide +kernel) (Nat.le_of_ble_eq_true rfl) (Nat.le_of_ble_eq_true rfl) (Nat.le_of_ble_eq_true rfl) dX6_init_973 (fun q_19 H hP hD hS => ?_)
    have hz9 : gPD G A [zo6q7 h0 0 q_1 q_2 q_3 0 q_4 q_5 0 q_6 q_7 0 0 0 q_8 q_9 q_10 q_11 q_12 q_13 0 0 0 0 q_14 q_15 0 0 0 q_16 q_17 q_18 0 0 0 0 0 0, zi G q_1 6 (fun _ => 0), zi G q_2 6 (fun _ => 0), zi G q_3 12 (fun _ => 0), zi G q_4 12 (fun _ => 0), zi G q_5 160 (fun _ => 0), zi G q_6 1200 (fun _ => 0), zi G q_7 24 (fun _ => 0), zi G q_8 24 (fun _ => 0), zi G q_9 3 (fun _ => 0), zi G q_10 4 (upd (upd (upd (upd (fun _ => 0) 0 (-1)) 1 (-1)) 2 (-1)) 3 (-1)), zi G q_11 4 (fun _ => 0), zi G q_12 160 (fun _ => 0), zi G q_13 40 (gPf tB 40), zi G q_14 96 (gPf tW 96), zi G q_15 200 (fun _ => 0), zi G q_16 200 (fun _ => 0), zi G q_17 6 (fun _ => 0), zi G q_18 24 (fun _ => 0), zb G q_19 61 (fun _ => 0)] H := ⟨hP, hD⟩
    have hP := hz9.1
    have hD := hz9.2
    refine va_putF (D := G.1) (ci := 6) (v := .ref q_19) (ty := .array .boolean) (C := RX6) (T := TX6) (N := 42) hx hb hts hiX6 tyX6 tyX6_ok nmX6 hown hK hP hD hS 0 rfl rfl 35 (by decide +kernel) kf64 (fun _ h9 => h9) rfl hin rfl (by decide +kernel) rfl rfl (Nat.le_of_ble_eq_true rfl) dX6_init_975 (fun H locs hP hD hS => ?_)
    have hz9 : gPD G A [zo6q8 h0 0 q_1 q_2 q_3 0 q_4 q_5 0 q_6 q_7 0 0 0 q_8 q_9 q_10 q_11 q_12 q_13 0 0 0 0 q_14 q_15 0 0 0 q_16 q_17 q_18 0 0 0 0 q_19 0 0, zi G q_1 6 (fun _ => 0), zi G q_2 6 (fun _ => 0), zi G q_3 12 (fun _ => 0), zi G q_4 12 (fun _ => 0), zi G q_5 160 (fun _ => 0), zi G q_6 1200 (fun _ => 0), zi G q_7 24 (fun _ => 0), zi G q_8 24 (fun _ => 0), zi G q_9 3 (fun _ => 0), zi G q_10 4 (upd (upd (upd (upd (fun _ => 0) 0 (-1)) 1 (-1)) 2 (-1)) 3 (-1)), zi G q_11 4 (fun _ => 0), zi G q_12 160 (fun _ => 0), zi G q_13 40 (gPf tB 40), zi G q_14 96 (gPf tW 96), zi G q_15 200 (fun _ => 0), zi G q_16 200 (fun _ => 0), zi G q_17 6 (fun _ => 0), zi G q_18 24 (fun _ => 0), zb G q_19 61 (fun _ => 0)] H := ⟨hP, hD⟩
    have hP := hz9.1
    have hD := hz9.2
    refine lv_aload_n hx hb dX6_init_978 rfl (lv_at hl 0 rfl) ?_
    refine lv_bipush (v := 61) hx hb dX6_init_979 (by decide +kernel) ?_
    refine g_newZ hx hb (hts (.arrayClass .boolean) (by decide +kernel)) hK hP hD hS hA (n := 61) (N' := 61) (by decide +kernel) (by decide +kernel) (Nat.le_of_ble_eq_true rfl) (Nat.le_of_ble_eq_true rfl) (Nat.le_of_ble_eq_true rfl) dX6_init_981 (fun q_20 H hP hD hS => ?_)
    have hz9 : gPD G A [zo6q8 h0 0 q_1 q_2 q_3 0 q_4 q_5 0 q_6 q_7 0 0 0 q_8 q_9 q_10 q_11 q_12 q_13 0 0 0 0 q_14 q_15 0 0 0 q_16 q_17 q_18 0 0 0 0 q_19 0 0, zi G q_1 6 (fun _ => 0), zi G q_2 6 (fun _ => 0), zi G q_3 12 (fun _ => 0), zi G q_4 12 (fun _ => 0), zi G q_5 160 (fun _ => 0), zi G q_6 1200 (fun _ => 0), zi G q_7 24 (fun _ => 0), zi G q_8 24 (fun _ => 0), zi G q_9 3 (fun _ => 0), zi G q_10 4 (upd (upd (upd (upd (fun _ => 0) 0 (-1)) 1 (-1)) 2 (-1)) 3 (-1)), zi G q_11 4 (fun _ => 0), zi G q_12 160 (fun _ => 0), zi G q_13 40 (gPf tB 40), zi G q_14 96 (gPf tW 96), zi G q_15 200 (fun _ => 0), zi G q_16 200 (fun _ => 0), zi G q_17 6 (fun _ => 0), zi G q_18 24 (fun _ => 0), zb G q_19 61 (fun _ => 0), zb G q_20 61 (fun _ => 0)] H := ⟨hP, hD⟩
    have hP := hz9.1
    have hD := hz9.2
    refine va_putF (D := G.1) (ci := 6) (v := .ref q_20) (ty := .array .boolean) (C := RX6) (T := TX6) (N := 42) hx hb hts hiX6 tyX6 tyX6_ok nmX6 hown hK hP hD hS 0 rfl rfl 36 (by decide +kernel) kf68 (fun _ h9 => h9) rfl hin rfl (by decide +kernel) rfl rfl (Nat.le_of_ble_eq_true rfl) dX6_init_983 (fun H locs hP hD hS => ?_)
    have hz9 : gPD G A [zo6q9 h0 0 q_1 q_2 q_3 0 q_4 q_5 0 q_6 q_7 0 0 0 q_8 q_9 q_10 q_11 q_12 q_13 0 0 0 0 q_14 q_15 0 0 0 q_16 q_17 q_18 0 0 0 0 q_19 q_20 0 0, zi G q_1 6 (fun _ => 0), zi G q_2 6 (fun _ => 0), zi G q_3 12 (fun _ => 0), zi G q_4 12 (fun _ => 0), zi G q_5 160 (fun _ => 0), zi G q_6 1200 (fun _ => 0), zi G q_7 24 (fun _ => 0), zi G q_8 24 (fun _ => 0), zi G q_9 3 (fun _ => 0), zi G q_10 4 (upd (upd (upd (upd (fun _ => 0) 0 (-1)) 1 (-1)) 2 (-1)) 3 (-1)), zi G q_11 4 (fun _ => 0), zi G q_12 160 (fun _ => 0), zi G q_13 40 (gPf tB 40), zi G q_14 96 (gPf tW 96), zi G q_15 200 (fun _ => 0), zi G q_16 200 (fun _ => 0), zi G q_17 6 (fun _ => 0), zi G q_18 24 (fun _ => 0), zb G q_19 61 (fun _ => 0), zb G q_20 61 (fun _ => 0)] H := ⟨hP, hD⟩
    have hP := hz9.1
    have hD := hz9.2
    refine lv_aload_n hx hb dX6_init_986 rfl (lv_at hl 0 rfl) ?_
    refine lv_bipush (v := 36) hx hb dX6_init_987 (by decide +kernel) ?_
    refine g_newI hx hb (hts (.arrayClass .int) (by decide +kernel)) hK hP hD hS hA (n := 36) (N' := 36) (by decide +kernel) (by decide +kernel) (Nat.le_of_ble_eq_true rfl) (Nat.le_of_ble_eq_true rfl) (Nat.le_of_ble_eq_true rfl) dX6_init_989 (fun q_21 H hP hD hS => ?_)
    have hz9 : gPD G A [zo6q9 h0 0 q_1 q_2 q_3 0 q_4 q_5 0 q_6 q_7 0 0 0 q_8 q_9 q_10 q_11 q_12 q_13 0 0 0 0 q_14 q_15 0 0 0 q_16 q_17 q_18 0 0 0 0 q_19 q_20 0 0, zi G q_1 6 (fun _ => 0), zi G q_2 6 (fun _ => 0), zi G q_3 12 (fun _ => 0), zi G q_4 12 (fun _ => 0), zi G q_5 160 (fun _ => 0), zi G q_6 1200 (fun _ => 0), zi G q_7 24 (fun _ => 0), zi G q_8 24 (fun _ => 0), zi G q_9 3 (fun _ => 0), zi G q_10 4 (upd (upd (upd (upd (fun _ => 0) 0 (-1)) 1 (-1)) 2 (-1)) 3 (-1)), zi G q_11 4 (fun _ => 0), zi G q_12 160 (fun _ => 0), zi G q_13 40 (gPf tB 40), zi G q_14 96 (gPf tW 96), zi G q_15 200 (fun _ => 0), zi G q_16 200 (fun _ => 0), zi G q_17 6 (fun _ => 0), zi G q_18 24 (fun _ => 0), zb G q_19 61 (fun _ => 0), zb G q_20 61 (fun _ => 0), zi G q_21 36 (fun _ => 0)] H := ⟨hP, hD⟩
    have hP := hz9.1
    have hD := hz9.2
    refine va_putF (D := G.1) (ci := 6) (v := .ref q_21) (ty := .array .int) (C := RX6) (T := TX6) (N := 42) hx hb hts hiX6 tyX6 tyX6_ok nmX6 hown hK hP hD hS 0 rfl rfl 37 (by decide +kernel) kf71 (fun _ h9 => h9) rfl hin rfl (by decide +kernel) rfl rfl (Nat.le_of_ble_eq_true rfl) dX6_init_991 (fun H locs hP hD hS => ?_)
    have hz9 : gPD G A [zo6q10 h0 0 q_1 q_2 q_3 0 q_4 q_5 0 q_6 q_7 0 0 0 q_8 q_9 q_10 q_11 q_12 q_13 0 0 0 0 q_14 q_15 0 0 0 q_16 q_17 q_18 0 0 0 0 q_19 q_20 q_21 0 0, zi G q_1 6 (fun _ => 0), zi G q_2 6 (fun _ => 0), zi G q_3 12 (fun _ => 0), zi G q_4 12 (fun _ => 0), zi G q_5 160 (fun _ => 0), zi G q_6 1200 (fun _ => 0), zi G q_7 24 (fun _ => 0), zi G q_8 24 (fun _ => 0), zi G q_9 3 (fun _ => 0), zi G q_10 4 (upd (upd (upd (upd (fun _ => 0) 0 (-1)) 1 (-1)) 2 (-1)) 3 (-1)), zi G q_11 4 (fun _ => 0), zi G q_12 160 (fun _ => 0), zi G q_13 40 (gPf tB 40), zi G q_14 96 (gPf tW 96), zi G q_15 200 (fun _ => 0), zi G q_16 200 (fun _ => 0), zi G q_17 6 (fun _ => 0), zi G q_18 24 (fun _ => 0), zb G q_19 61 (fun _ => 0), zb G q_20 61 (fun _ => 0), zi G q_21 36 (fun _ => 0)] H := ⟨hP, hD⟩
    have hP := hz9.1
    have hD := hz9.2
    refine lv_aload_n hx hb dX6_init_994 rfl (lv_at hl 0 rfl) ?_
    refine lv_bipush (v := 36) hx hb dX6_init_995 (by decide +kernel) ?_
    refine g_newI hx hb (hts (.arrayClass .int) (by decide +kernel)) hK hP hD hS hA (n := 36) (N' := 36) (by decide +kernel) (by decide +kernel) (Nat.le_of_ble_eq_true rfl) (Nat.le_of_ble_eq_true rfl) (Nat.le_of_ble_eq_true rfl) dX6_init_997 (fun q_22 H hP hD hS => ?_)
    have hz9 : gPD G A [zo6q10 h0 0 q_1 q_2 q_3 0 q_4 q_5 0 q_6 q_7 0 0 0 q_8 q_9 q_10 q_11 q_12 q_13 0 0 0 0 q_14 q_15 0 0 0 q_16 q_17 q_18 0 0 0 0 q_19 q_20 q_21 0 0, zi G q_1 6 (fun _ => 0), zi G q_2 6 (fun _ => 0), zi G q_3 12 (fun _ => 0), zi G q_4 12 (fun _ => 0), zi G q_5 160 (fun _ => 0), zi G q_6 1200 (fun _ => 0), zi G q_7 24 (fun _ => 0), zi G q_8 24 (fun _ => 0), zi G q_9 3 (fun _ => 0), zi G q_10 4 (upd (upd (upd (upd (fun _ => 0) 0 (-1)) 1 (-1)) 2 (-1)) 3 (-1)), zi G q_11 4 (fun _ => 0), zi G q_12 160 (fun _ => 0), zi G q_13 40 (gPf tB 40), zi G q_14 96 (gPf tW 96), zi G q_15 200 (fun _ => 0), zi G q_16 200 (fun _ => 0), zi G q_17 6 (fun _ => 0), zi G q_18 24 (fun _ => 0), zb G q_19 61 (fun _ => 0), zb G q_20 61 (fun _ => 0), zi G q_21 36 (fun _ => 0), zi G q_22 36 (fun _ => 0)] H := ⟨hP, hD⟩
    have hP := hz9.1
    have hD := hz9.2
    refine va_putF (D := G.1) (ci := 6) (v := .ref q_22) (ty := .array .int) (C := RX6) (T := TX6) (N := 42) hx hb hts hiX6 tyX6 tyX6_ok nmX6 hown hK hP hD hS 0 rfl rfl 38 (by decide +kernel) kf74 (fun _ h9 => h9) rfl hin rfl (by decide +kernel) rfl rfl (Nat.le_of_ble_eq_true rfl) dX6_init_999 (fun H locs hP hD hS => ?_)
    have hz9 : gPD G A [zo6q11 h0 0 q_1 q_2 q_3 0 q_4 q_5 0 q_6 q_7 0 0 0 q_8 q_9 q_10 q_11 q_12 q_13 0 0 0 0 q_14 q_15 0 0 0 q_16 q_17 q_18 0 0 0 0 q_19 q_20 q_21 q_22 0 0, zi G q_1 6 (fun _ => 0), zi G q_2 6 (fun _ => 0), zi G q_3 12 (fun _ => 0), zi G q_4 12 (fun _ => 0), zi G q_5 160 (fun _ => 0), zi G q_6 1200 (fun _ => 0), zi G q_7 24 (fun _ => 0), zi G q_8 24 (fun _ => 0), zi G q_9 3 (fun _ => 0), zi G q_10 4 (upd (upd (upd (upd (fun _ => 0) 0 (-1)) 1 (-1)) 2 (-1)) 3 (-1)), zi G q_11 4 (fun _ => 0), zi G q_12 160 (fun _ => 0), zi G q_13 40 (gPf tB 40), zi G q_14 96 (gPf tW 96), zi G q_15 200 (fun _ => 0), zi G q_16 200 (fun _ => 0), zi G q_17 6 (fun _ => 0), zi G q_18 24 (fun _ => 0), zb G q_19 61 (fun _ => 0), zb G q_20 61 (fun _ => 0), zi G q_21 36 (fun _ => 0), zi G q_22 36 (fun _ => 0)] H := ⟨hP, hD⟩
    have hP := hz9.1
    have hD := hz9.2
    refine lv_aload_n hx hb dX6_init_1002 rfl (lv_at hl 0 rfl) ?_
    refine lv_bipush (v := 64) hx hb dX6_init_1003 (by decide +kernel) ?_
    refine g_newI hx hb (hts (.arrayClass .int) (by decide +kernel)) hK hP hD hS hA (n := 64) (N' := 64) (by decide +kernel) (by decide +kernel) (Nat.le_of_ble_eq_true rfl) (Nat.le_of_ble_eq_true rfl) (Nat.le_of_ble_eq_true rfl) dX6_init_1005 (fun q_23 H hP hD hS => ?_)
    have hz9 : gPD G A [zo6q11 h0 0 q_1 q_2 q_3 0 q_4 q_5 0 q_6 q_7 0 0 0 q_8 q_9 q_10 q_11 q_12 q_13 0 0 0 0 q_14 q_15 0 0 0 q_16 q_17 q_18 0 0 0 0 q_19 q_20 q_21 q_22 0 0, zi G q_1 6 (fun _ => 0), zi G q_2 6 (fun _ => 0), zi G q_3 12 (fun _ => 0), zi G q_4 12 (fun _ => 0), zi G q_5 160 (fun _ => 0), zi G q_6 1200 (fun _ => 0), zi G q_7 24 (fun _ => 0), zi G q_8 24 (fun _ => 0), zi G q_9 3 (fun _ => 0), zi G q_10 4 (upd (upd (upd (upd (fun _ => 0) 0 (-1)) 1 (-1)) 2 (-1)) 3 (-1)), zi G q_11 4 (fun _ => 0), zi G q_12 160 (fun _ => 0), zi G q_13 40 (gPf tB 40), zi G q_14 96 (gPf tW 96), zi G q_15 200 (fun _ => 0), zi G q_16 200 (fun _ => 0), zi G q_17 6 (fun _ => 0), zi G q_18 24 (fun _ => 0), zb G q_19 61 (fun _ => 0), zb G q_20 61 (fun _ => 0), zi G q_21 36 (fun _ => 0), zi G q_22 36 (fun _ => 0), zi G q_23 64 (fun _ => 0)] H := ⟨hP, hD⟩
    have hP := hz9.1
    have hD := hz9.2
    refine va_putF (D := G.1) (ci := 6) (v := .ref q_23) (ty := .array .int) (C := RX6) (T := TX6) (N := 42) hx hb hts hiX6 tyX6 tyX6_ok nmX6 hown hK hP hD hS 0 rfl rfl 41 (by decide +kernel) kf77 (fun _ h9 => h9) rfl hin rfl (by decide +kernel) rfl rfl (Nat.le_of_ble_eq_true rfl) dX6_init_1007 (fun H locs hP hD hS => ?_)
    have hz9 : gPD G A [zo6 h0 0 q_1 q_2 q_3 0 q_4 q_5 0 q_6 q_7 0 0 0 q_8 q_9 q_10 q_11 q_12 q_13 0 0 0 0 q_14 q_15 0 0 0 q_16 q_17 q_18 0 0 0 0 q_19 q_20 q_21 q_22 0 0 q_23, zi G q_1 6 (fun _ => 0), zi G q_2 6 (fun _ => 0), zi G q_3 12 (fun _ => 0), zi G q_4 12 (fun _ => 0), zi G q_5 160 (fun _ => 0), zi G q_6 1200 (fun _ => 0), zi G q_7 24 (fun _ => 0), zi G q_8 24 (fun _ => 0), zi G q_9 3 (fun _ => 0), zi G q_10 4 (upd (upd (upd (upd (fun _ => 0) 0 (-1)) 1 (-1)) 2 (-1)) 3 (-1)), zi G q_11 4 (fun _ => 0), zi G q_12 160 (fun _ => 0), zi G q_13 40 (gPf tB 40), zi G q_14 96 (gPf tW 96), zi G q_15 200 (fun _ => 0), zi G q_16 200 (fun _ => 0), zi G q_17 6 (fun _ => 0), zi G q_18 24 (fun _ => 0), zb G q_19 61 (fun _ => 0), zb G q_20 61 (fun _ => 0), zi G q_21 36 (fun _ => 0), zi G q_22 36 (fun _ => 0), zi G q_23 64 (fun _ => 0)] H := ⟨hP, hD⟩
    have hP := hz9.1
    have hD := hz9.2
    refine lv_iconst (v := 0) hx hb dX6_init_1010 (by decide +kernel) ?_
    refine lv_istore_n (lv' := [zI 1 0, zR 0 h0]) hx hb dX6_init_1011 rfl hl (by decide +kernel) rfl (fun ls hl => ?_)
    have loop_1012 : ∀ (n9 : Nat) (i : Nat), (i ≤ 40) → (40 - i) < n9 → ∀ (H : Heap) (locs : List Loc), va_P G.1 vwCl [zo6 h0 0 q_1 q_2 q_3 0 q_4 q_5 0 q_6 q_7 0 0 0 q_8 q_9 q_10 q_11 q_12 q_13 0 0 0 0 q_14 q_15 0 0 0 q_16 q_17 q_18 0 0 0 0 q_19 q_20 q_21 q_22 0 0 q_23, zi G q_1 6 (fun _ => 0), zi G q_2 6 (fun _ => 0), zi G q_3 12 (fun _ => 0), zi G q_4 12 (fun _ => 0), zi G q_5 160 (gPf tB i), zi G q_6 1200 (fun _ => 0), zi G q_7 24 (fun _ => 0), zi G q_8 24 (fun _ => 0), zi G q_9 3 (fun _ => 0), zi G q_10 4 (upd (upd (upd (upd (fun _ => 0) 0 (-1)) 1 (-1)) 2 (-1)) 3 (-1)), zi G q_11 4 (fun _ => 0), zi G q_12 160 (fun _ => 0), zi G q_13 40 (gPf tB 40), zi G q_14 96 (gPf tW 96), zi G q_15 200 (fun _ => 0), zi G q_16 200 (fun _ => 0), zi G q_17 6 (fun _ => 0), zi G q_18 24 (fun _ => 0), zb G q_19 61 (fun _ => 0), zb G q_20 61 (fun _ => 0), zi G q_21 36 (fun _ => 0), zi G q_22 36 (fun _ => 0), zi G q_23 64 (fun _ => 0)] H → va_D A [zo6 h0 0 q_1 q_2 q_3 0 q_4 q_5 0 q_6 q_7 0 0 0 q_8 q_9 q_10 q_11 q_12 q_13 0 0 0 0 q_14 q_15 0 0 0 q_16 q_17 q_18 0 0 0 0 q_19 q_20 q_21 q_22 0 0 q_23, zi G q_1 6 (fun _ => 0), zi G q_2 6 (fun _ => 0), zi G q_3 12 (fun _ => 0), zi G q_4 12 (fun _ => 0), zi G q_5 160 (gPf tB i), zi G q_6 1200 (fun _ => 0), zi G q_7 24 (fun _ => 0), zi G q_8 24 (fun _ => 0), zi G q_9 3 (fun _ => 0), zi G q_10 4 (upd (upd (upd (upd (fun _ => 0) 0 (-1)) 1 (-1)) 2 (-1)) 3 (-1)), zi G q_11 4 (fun _ => 0), zi G q_12 160 (fun _ => 0), zi G q_13 40 (gPf tB 40), zi G q_14 96 (gPf tW 96), zi G q_15 200 (fun _ => 0), zi G q_16 200 (fun _ => 0), zi G q_17 6 (fun _ => 0), zi G q_18 24 (fun _ => 0), zb G q_19 61 (fun _ => 0), zb G q_20 61 (fun _ => 0), zi G q_21 36 (fun _ => 0), zi G q_22 36 (fun _ => 0), zi G q_23 64 (fun _ => 0)] → va_S A s.heap H locs → ∀ ls : Array Slot, lv_has ls 2 [zI 1 (nI i), zR 0 h0] → W p l e (headSpec wsX6_init ({ frames := 5, cells := 23, slots := 2439, locals := 109 })).room s m ([.ref h0] : List Value).toArray below meth c H locs 23 2439 (MQ below (q_X6_init_g G h0 A) ([.ref h0] : List Value).toArray s 23 2439 A) (F0 m 1012 ls []) := by
      intro n9
      induction n9 with
      | zero => intro i hi hm9; exact absurd hm9 (Nat.not_lt_zero _)
      | succ n9 ih9 =>
        intro i hi hm9 H locs hP hD hS ls hl
        refine lv_iload_n hx hb dX6_init_1012 rfl (lv_at hl 0 rfl) ?_
        refine lv_bipush (v := 40) hx hb dX6_init_1013 (by decide +kernel) ?_
        refine lv_icmp_ge (tgt := 1036) hx hb dX6_init_1015 (by decide +kernel) (fun c_24 => ?_) (fun c_24 => ?_)
        · skip
          have hie : i = 40 := by have := (nI_leI (a := 40) (by omega) (by omega)).mp c_24; omega
          rw [hie] at hP hD
          have hz9 : gPD G A [zo6 h0 0 q_1 q_2 q_3 0 q_4 q_5 0 q_6 q_7 0 0 0 q_8 q_9 q_10 q_11 q_12 q_13 0 0 0 0 q_14 q_15 0 0 0 q_16 q_17 q_18 0 0 0 0 q_19 q_20 q_21 q_22 0 0 q_23, zi G q_1 6 (fun _ => 0), zi G q_2 6 (fun _ => 0), zi G q_3 12 (fun _ => 0), zi G q_4 12 (fun _ => 0), zi G q_5 160 (gPf tB 40), zi G q_6 1200 (fun _ => 0), zi G q_7 24 (fun _ => 0), zi G q_8 24 (fun _ => 0), zi G q_9 3 (fun _ => 0), zi G q_10 4 (upd (upd (upd (upd (fun _ => 0) 0 (-1)) 1 (-1)) 2 (-1)) 3 (-1)), zi G q_11 4 (fun _ => 0), zi G q_12 160 (fun _ => 0), zi G q_13 40 (gPf tB 40), zi G q_14 96 (gPf tW 96), zi G q_15 200 (fun _ => 0), zi G q_16 200 (fun _ => 0), zi G q_17 6 (fun _ => 0), zi G q_18 24 (fun _ => 0), zb G q_19 61 (fun _ => 0), zb G q_20 61 (fun _ => 0), zi G q_21 36 (fun _ => 0), zi G q_22 36 (fun _ => 0), zi G q_23 64 (fun _ => 0)] H := ⟨hP, hD⟩
          have hP := hz9.1
          have hD := hz9.2
          refine lv_aload_n hx hb dX6_init_1036 rfl (lv_at hl 1 rfl) ?_
          refine lv_bipush (v := 40) hx hb dX6_init_1037 (by decide +kernel) ?_
          refine va_put (D := G.1) (ci := 6) (v := .int 40) (ty := .int) (C := RX6) (T := TX6) (N := 42) hx hb hts hiX6 tyX6 tyX6_ok nmX6 hown hK hP hD hS 0 rfl rfl 7 (by decide +kernel) kf80 (fun _ h9 => h9) rfl (by decide +kernel) rfl rfl (Nat.le_of_ble_eq_true rfl) dX6_init_1039 (fun H locs hP hD hS => ?_)
          have hz9 : gPD G A [zo6 h0 0 q_1 q_2 q_3 0 q_4 q_5 40 q_6 q_7 0 0 0 q_8 q_9 q_10 q_11 q_12 q_13 0 0 0 0 q_14 q_15 0 0 0 q_16 q_17 q_18 0 0 0 0 q_19 q_20 q_21 q_22 0 0 q_23, zi G q_1 6 (fun _ => 0), zi G q_2 6 (fun _ => 0), zi G q_3 12 (fun _ => 0), zi G q_4 12 (fun _ => 0), zi G q_5 160 (gPf tB 40), zi G q_6 1200 (fun _ => 0), zi G q_7 24 (fun _ => 0), zi G q_8 24 (fun _ => 0), zi G q_9 3 (fun _ => 0), zi G q_10 4 (upd (upd (upd (upd (fun _ => 0) 0 (-1)) 1 (-1)) 2 (-1)) 3 (-1)), zi G q_11 4 (fun _ => 0), zi G q_12 160 (fun _ => 0), zi G q_13 40 (gPf tB 40), zi G q_14 96 (gPf tW 96), zi G q_15 200 (fun _ => 0), zi G q_16 200 (fun _ => 0), zi G q_17 6 (fun _ => 0), zi G q_18 24 (fun _ => 0), zb G q_19 61 (fun _ => 0), zb G q_20 61 (fun _ => 0), zi G q_21 36 (fun _ => 0), zi G q_22 36 (fun _ => 0), zi G q_23 64 (fun _ => 0)] H := ⟨hP, hD⟩
          have hP := hz9.1
          have hD := hz9.2
          refine lv_aload_n hx hb dX6_init_1042 rfl (lv_at hl 1 rfl) ?_
          have hz9 : gPD G A [zo6 h0 0 q_1 q_2 q_3 0 q_4 q_5 40 q_6 q_7 0 0 0 q_8 q_9 q_10 q_11 q_12 q_13 0 0 0 0 q_14 q_15 0 0 0 q_16 q_17 q_18 0 0 0 0 q_19 q_20 q_21 q_22 0 0 q_23, zi G q_1 6 (fun _ => 0), zi G q_2 6 (fun _ => 0), zi G q_3 12 (fun _ => 0), zi G q_4 12 (fun _ => 0), zi G q_5 160 (gPf tB 40), zi G q_6 1200 (fun _ => 0), zi G q_7 24 (nF (fun _ => 0)), zi G q_8 24 (fun _ => 0), zi G q_9 3 (fun _ => 0), zi G q_10 4 (upd (upd (upd (upd (fun _ => 0) 0 (-1)) 1 (-1)) 2 (-1)) 3 (-1)), zi G q_11 4 (fun _ => 0), zi G q_12 160 (fun _ => 0), zi G q_13 40 (gPf tB 40), zi G q_14 96 (gPf tW 96), zi G q_15 200 (fun _ => 0), zi G q_16 200 (fun _ => 0), zi G q_17 6 (fun _ => 0), zi G q_18 24 (fun _ => 0), zb G q_19 61 (fun _ => 0), zb G q_20 61 (fun _ => 0), zi G q_21 36 (fun _ => 0), zi G q_22 36 (fun _ => 0), zi G q_23 64 (fun _ => 0)] H := ⟨g_ext hP 7 rfl (fun i h9 => nI_0.symm), g_extD hD 7 rfl⟩
          have hP := hz9.1
          have hD := hz9.2
          refine z_callp [0, 6, 7, 15, 5, 14] (va_runV (As := []) (rest := []) ⟨hx, hb, hml, hown, hts⟩ (c_X6_text_A l G h0 q_1 q_2 q_3 q_4 q_5 q_6 q_7 q_8 q_9 q_10 q_11 q_12 q_13 q_14 q_15 q_16 q_17 q_18 q_19 q_20 q_21 q_22 q_23 0 0 40 0 0 0 0 0 0 0 0 0 0 0 0 0 0 0 0 (fun _ => 0) (fun _ => 0) (fun _ => 0) (gPf tB 40) (gPf tW 96) H.size (by decide +kernel) (by decide +kernel)) (cwV 0 hts gX6_init_X6_text rfl rfl rfl (by decide +kernel) ⟨Nat.le_of_ble_eq_true rfl, Nat.le_of_ble_eq_true rfl⟩) ⟨gPre_blind, va_recv (q := (RX6, TX6, 42)) hK hP (ci := 6) (q0 := 0) rfl rfl, fun U hU hW => gPre_ofF [0, 6, 7, 15, 5, 14] hU hW hK hP hD (by decide +kernel) rfl⟩ rfl rfl hl.1 rfl (lv_room (Nat.le_of_ble_eq_true rfl)) dX6_init_1043 ⟨Nat.le_of_ble_eq_true rfl, Nat.le_of_ble_eq_true rfl⟩) hS hD hA rfl (fun r_25 u t H locs ht hvm w_26 hB hz1 hk1 hFq hAq hS => ?_)
          obtain ⟨zat_27, zbg_28, ztk_29, zvl_30, zhm_31, zop_32, zou_33, ztx_34, ycd_35, yhe_36, ysr_37, zok_38, zo1_39, zo2_40, zo3_41⟩ := u
          obtain ⟨hP1, hK1, hD1⟩ := hB
          have w_26 : (∀ i, i < 200 * 0 → ycd_35 i = (fun _ => 0) i) ∧ (∀ i, i < 4 * 0 → ysr_37 i = (fun _ => 0) i) ∧ rT 0 40 (gPf tB 40) (gPf tW 96) (fun _ => 0) (fun _ => 0) zok_38 zbg_28 ycd_35 zo1_39 zo2_40 zo3_41 ∧ ((zok_38 = true ∧ r_25 = nI 0 ∧ ztx_34 = 0 + 1 ∧ mWf ycd_35 ysr_37 0 ∧ ysr_37 (4 * 0) = 0 ∧ ysr_37 (4 * 0 + 1) = zo1_39 ∧ ysr_37 (4 * 0 + 2) = zo2_40 ∧ ysr_37 (4 * 0 + 3) = zo3_41) ∨ (zok_38 = false ∧ r_25 = -100 - zbg_28 ∧ ztx_34 = 0)) := w_26
          have hz9 : gPD G A [zo6 h0 0 q_1 q_2 q_3 0 q_4 q_5 0 q_6 q_7 (nI ztx_34) 0 0 q_8 q_9 q_10 q_11 q_12 q_13 zat_27 zbg_28 ztk_29 zvl_30 q_14 q_15 zhm_31 zop_32 zou_33 q_16 q_17 q_18 0 0 0 0 q_19 q_20 q_21 q_22 0 0 q_23, zi G q_1 6 (fun _ => 0), zi G q_2 6 (fun _ => 0), zi G q_3 12 (fun _ => 0), zi G q_4 12 (fun _ => 0), zi G q_5 160 (gPf tB 40), zi G q_6 1200 ycd_35, zi G q_7 24 (nF ysr_37), zi G q_8 24 (fun _ => 0), zi G q_9 3 (fun _ => 0), zi G q_10 4 (upd (upd (upd (upd (fun _ => 0) 0 (-1)) 1 (-1)) 2 (-1)) 3 (-1)), zi G q_11 4 (fun _ => 0), zi G q_12 160 (fun _ => 0), zi G q_13 40 (gPf tB 40), zi G q_14 96 (gPf tW 96), zi G q_15 200 yhe_36, zi G q_16 200 (fun _ => 0), zi G q_17 6 (fun _ => 0), zi G q_18 24 (fun _ => 0), zb G q_19 61 (fun _ => 0), zb G q_20 61 (fun _ => 0), zi G q_21 36 (fun _ => 0), zi G q_22 36 (fun _ => 0), zi G q_23 64 (fun _ => 0)] H := zFill hP hD [0, 6, 7, 15, 5, 14] [1, 0, 0, 0, 0, 5, 2, 3, 0, 0, 0, 0, 0, 0, 6, 4] hAq hk1 hFq ht hP1 hD1 rfl (by decide +kernel)
          have hP := hz9.1
          have hD := hz9.2
          obtain ⟨-, -, hT9, hV9⟩ := w_26
          refine lv_pop hx hb dX6_init_1046 rfl ?_
          refine W.widen (k := 23) (n := 2439) (by omega) (by omega) ?_
          have hpost : (fun (u : Nat × Nat × Nat × Nat × Nat × Nat × Nat × Nat × Nat × Nat × Nat × Nat × Nat × Nat × Nat × Nat × Nat × Nat × Nat × Nat × Nat × Nat × Nat × Int32 × Int32 × Int32 × Int32 × Int32 × Int32 × Int32 × Nat × (Nat → Int32) × (Nat → Int32) × (Nat → Nat) × Bool × Nat × Nat × Nat) => match u with | (kd, mo, st, ro, tp, cd, sr, ir, ih, ss, sq, ce, lw, wo, he, sk, na, kp, gb, go, fa, ga, vo, zat, zbg, ztk, zvl, zhm, zop, zou, ztx, ycd, yhe, ysr, zok, zo1, zo2, zo3) => rT 0 40 (gPf tB 40) (gPf tW 96) (fun _ => 0) (fun _ => 0) zok zbg ycd zo1 zo2 zo3 ∧ ((zok = true ∧ ztx = 1 ∧ mWf ycd ysr 0 ∧ ysr 0 = 0 ∧ ysr 1 = zo1 ∧ ysr 2 = zo2 ∧ ysr 3 = zo3) ∨ (zok = false ∧ ztx = 0))) (q_1, q_2, q_3, q_4, q_5, q_6, q_7, q_8, q_9, q_10, q_11, q_12, q_13, q_14, q_15, q_16, q_17, q_18, q_19, q_20, q_21, q_22, q_23, zat_27, zbg_28, ztk_29, zvl_30, zhm_31, zop_32, zou_33, ztx_34, ycd_35, yhe_36, ysr_37, zok_38, zo1_39, zo2_40, zo3_41) := by
            refine ⟨hT9, ?_⟩
            rcases hV9 with ⟨a1, -, a2, a3, a4⟩ | ⟨a1, -, a2⟩
            · exact Or.inl ⟨a1, a2, a3, a4⟩
            · exact Or.inr ⟨a1, a2⟩
          exact W.vret hx hb hr (fun t ht hW => ⟨⟨(q_1, q_2, q_3, q_4, q_5, q_6, q_7, q_8, q_9, q_10, q_11, q_12, q_13, q_14, q_15, q_16, q_17, q_18, q_19, q_20, q_21, q_22, q_23, zat_27, zbg_28, ztk_29, zvl_30, zhm_31, zop_32, zou_33, ztx_34, ycd_35, yhe_36, ysr_37, zok_38, zo1_39, zo2_40, zo3_41), rfl, hpost, by rw [ht]; exact hP, va_K.moved hW.alike hK, hD⟩, hS.F ht⟩) hS.2.2 dX6_init_1047
        · skip
          have hi2 : i < 40 := by
            rcases Nat.lt_or_ge i 40 with z | z
            · exact z
            · exact absurd (nI_le (a := 40) z (by omega)) c_24
          refine g_aget (D := G.1) (ci := 6) (v := .ref q_5) (C := RX6) (T := TX6) (N := 42) hx hb dX6_init_1018 rfl (lv_at hl 1 rfl) hts hiX6 hown hK hP 0 rfl rfl 6 (by decide +kernel) kf22 (fun _ h9 => h9) rfl dX6_init_1019 ?_
          refine lv_iload_n hx hb dX6_init_1022 rfl (lv_at hl 0 rfl) ?_
          refine g_aget (D := G.1) (ci := 6) (v := .ref q_13) (C := RX6) (T := TX6) (N := 42) hx hb dX6_init_1023 rfl (lv_at hl 1 rfl) hts hiX6 hown hK hP 0 rfl rfl 18 (by decide +kernel) kf46 (fun _ h9 => h9) rfl dX6_init_1024 ?_
          refine lv_iload_n hx hb dX6_init_1027 rfl (lv_at hl 0 rfl) ?_
          refine g_iald (D := G.1) hx hb hK hP 13 0 rfl rfl (k := i) (y := (gPf tB 40) i) (by omega) rfl rfl dX6_init_1028 ?_
          refine va_iast (D := G.1) hx hb hK hP hD hS 5 0 rfl rfl (i := (nI i)) (x := ((gPf tB 40) i)) (vpn (by omega) rfl) dX6_init_1029 (fun H locs hP hD hS => ?_)
          have hz9 : gPD G A [zo6 h0 0 q_1 q_2 q_3 0 q_4 q_5 0 q_6 q_7 0 0 0 q_8 q_9 q_10 q_11 q_12 q_13 0 0 0 0 q_14 q_15 0 0 0 q_16 q_17 q_18 0 0 0 0 q_19 q_20 q_21 q_22 0 0 q_23, zi G q_1 6 (fun _ => 0), zi G q_2 6 (fun _ => 0), zi G q_3 12 (fun _ => 0), zi G q_4 12 (fun _ => 0), zi G q_5 160 (gPf tB (i + 1)), zi G q_6 1200 (fun _ => 0), zi G q_7 24 (fun _ => 0), zi G q_8 24 (fun _ => 0), zi G q_9 3 (fun _ => 0), zi G q_10 4 (upd (upd (upd (upd (fun _ => 0) 0 (-1)) 1 (-1)) 2 (-1)) 3 (-1)), zi G q_11 4 (fun _ => 0), zi G q_12 160 (fun _ => 0), zi G q_13 40 (gPf tB 40), zi G q_14 96 (gPf tW 96), zi G q_15 200 (fun _ => 0), zi G q_16 200 (fun _ => 0), zi G q_17 6 (fun _ => 0), zi G q_18 24 (fun _ => 0), zb G q_19 61 (fun _ => 0), zb G q_20 61 (fun _ => 0), zi G q_21 36 (fun _ => 0), zi G q_22 36 (fun _ => 0), zi G q_23 64 (fun _ => 0)] H := ⟨by rw [nI_clamp (by omega), gPf_step (t := tB) (k := i) (x := gPf tB 40 i) (by show _ = if i < 40 then _ else _; rw [if_pos hi2])] at hP; exact hP, by rw [nI_clamp (by omega), gPf_step (t := tB) (k := i) (x := gPf tB 40 i) (by show _ = if i < 40 then _ else _; rw [if_pos hi2])] at hD; exact hD⟩
          have hP := hz9.1
          have hD := hz9.2
          refine lv_iinc (v := nI (i + 1)) (lv' := [zI 1 (nI (i + 1)), zR 0 h0]) hx hb dX6_init_1030 hl (k := 0) rfl (nI_1 i) (by decide +kernel) rfl (fun ls hl => ?_)
          refine lv_goto (tgt := 1012) hx hb dX6_init_1033 (by decide +kernel) ?_
          exact ih9 (i + 1) (hi2) (by omega) _ _ hP hD hS ls hl
    exact loop_1012 (41) 0 (Nat.zero_le _) (by omega) _ _ hP hD hS ls hl
  have cut_837 : ∀ (q_1 q_2 q_3 q_4 q_5 q_6 q_7 q_8 q_9 q_10 q_11 q_12 q_13 q_14 : Nat) (H : Heap) (locs : List Loc), va_P G.1 vwCl [zo6q2 h0 0 q_1 q_2 q_3 0 q_4 q_5 0 q_6 q_7 0 0 0 q_8 q_9 q_10 q_11 q_12 q_13 0 0 0 0 0 0 0 0 0 0 0 0 0, zi G q_1 6 (fun _ => 0), zi G q_2 6 (fun _ => 0), zi G q_3 12 (fun _ => 0), zi G q_4 12 (fun _ => 0), zi G q_5 160 (fun _ => 0), zi G q_6 1200 (fun _ => 0), zi G q_7 24 (fun _ => 0), zi G q_8 24 (fun _ => 0), zi G q_9 3 (fun _ => 0), zi G q_10 4 (upd (upd (upd (upd (fun _ => 0) 0 (-1)) 1 (-1)) 2 (-1)) 3 (-1)), zi G q_11 4 (fun _ => 0), zi G q_12 160 (fun _ => 0), zi G q_13 40 (gPf tB 40), zi G q_14 96 (gPf tW 80)] H → va_D A [zo6q2 h0 0 q_1 q_2 q_3 0 q_4 q_5 0 q_6 q_7 0 0 0 q_8 q_9 q_10 q_11 q_12 q_13 0 0 0 0 0 0 0 0 0 0 0 0 0, zi G q_1 6 (fun _ => 0), zi G q_2 6 (fun _ => 0), zi G q_3 12 (fun _ => 0), zi G q_4 12 (fun _ => 0), zi G q_5 160 (fun _ => 0), zi G q_6 1200 (fun _ => 0), zi G q_7 24 (fun _ => 0), zi G q_8 24 (fun _ => 0), zi G q_9 3 (fun _ => 0), zi G q_10 4 (upd (upd (upd (upd (fun _ => 0) 0 (-1)) 1 (-1)) 2 (-1)) 3 (-1)), zi G q_11 4 (fun _ => 0), zi G q_12 160 (fun _ => 0), zi G q_13 40 (gPf tB 40), zi G q_14 96 (gPf tW 80)] → va_S A s.heap H locs → ∀ ls : Array Slot, lv_has ls 2 [zR 0 h0] → W p l e (headSpec wsX6_init ({ frames := 5, cells := 23, slots := 2439, locals := 109 })).room s m ([.ref h0] : List Value).toArray below meth c H locs 14 1751 (MQ below (q_X6_init_g G h0 A) ([.ref h0] : List Value).toArray s 23 2439 A) (F0 m 837 ls [.ref q_14, .ref h0]) := by
    as_aux_lemma =>
    intro q_1 q_2 q_3 q_4 q_5 q_6 q_7 q_8 q_9 q_10 q_11 q_12 q_13 q_14 H locs hP hD hS ls hl
    refine lv_dup hx hb dX6_init_837 rfl ?_
    refine lv_bipush (v := 80) hx hb dX6_init_838 (by decide +kernel) ?_
    refine lv_bipush (v := 97) hx hb dX6_init_840 (by decide +kernel) ?_
    refine g_iastP (D := G.1) hx hb hK hP hD hS 14 0 rfl rfl (i := 80) (x := 97) (k := 80) (t := tW) (by decide +kernel) (by decide +kernel) (gIn (by decide +kernel)) dX6_init_842 (fun H locs hP hD hS => ?_)
    have hz9 : gPD G A [zo6q2 h0 0 q_1 q_2 q_3 0 q_4 q_5 0 q_6 q_7 0 0 0 q_8 q_9 q_10 q_11 q_12 q_13 0 0 0 0 0 0 0 0 0 0 0 0 0, zi G q_1 6 (fun _ => 0), zi G q_2 6 (fun _ => 0), zi G q_3 12 (fun _ => 0), zi G q_4 12 (fun _ => 0), zi G q_5 160 (fun _ => 0), zi G q_6 1200 (fun _ => 0), zi G q_7 24 (fun _ => 0), zi G q_8 24 (fun _ => 0), zi G q_9 3 (fun _ => 0), zi G q_10 4 (upd (upd (upd (upd (fun _ => 0) 0 (-1)) 1 (-1)) 2 (-1)) 3 (-1)), zi G q_11 4 (fun _ => 0), zi G q_12 160 (fun _ => 0), zi G q_13 40 (gPf tB 40), zi G q_14 96 (gPf tW 81)] H := ⟨hP, hD⟩
    have hP := hz9.1
    have hD := hz9.2
    refine lv_dup hx hb dX6_init_843 rfl ?_
    refine lv_bipush (v := 81) hx hb dX6_init_844 (by decide +kernel) ?_
    refine lv_bipush (v := 110) hx hb dX6_init_846 (by decide +kernel) ?_
    refine g_iastP (D := G.1) hx hb hK hP hD hS 14 0 rfl rfl (i := 81) (x := 110) (k := 81) (t := tW) (by decide +kernel) (by decide +kernel) (gIn (by decide +kernel)) dX6_init_848 (fun H locs hP hD hS => ?_)
    have hz9 : gPD G A [zo6q2 h0 0 q_1 q_2 q_3 0 q_4 q_5 0 q_6 q_7 0 0 0 q_8 q_9 q_10 q_11 q_12 q_13 0 0 0 0 0 0 0 0 0 0 0 0 0, zi G q_1 6 (fun _ => 0), zi G q_2 6 (fun _ => 0), zi G q_3 12 (fun _ => 0), zi G q_4 12 (fun _ => 0), zi G q_5 160 (fun _ => 0), zi G q_6 1200 (fun _ => 0), zi G q_7 24 (fun _ => 0), zi G q_8 24 (fun _ => 0), zi G q_9 3 (fun _ => 0), zi G q_10 4 (upd (upd (upd (upd (fun _ => 0) 0 (-1)) 1 (-1)) 2 (-1)) 3 (-1)), zi G q_11 4 (fun _ => 0), zi G q_12 160 (fun _ => 0), zi G q_13 40 (gPf tB 40), zi G q_14 96 (gPf tW 82)] H := ⟨hP, hD⟩
    have hP := hz9.1
    have hD := hz9.2
    refine lv_dup hx hb dX6_init_849 rfl ?_
    refine lv_bipush (v := 82) hx hb dX6_init_850 (by decide +kernel) ?_
    refine lv_bipush (v := 100) hx hb dX6_init_852 (by decide +kernel) ?_
    refine g_iastP (D := G.1) hx hb hK hP hD hS 14 0 rfl rfl (i := 82) (x := 100) (k := 82) (t := tW) (by decide +kernel) (by decide +kernel) (gIn (by decide +kernel)) dX6_init_854 (fun H locs hP hD hS => ?_)
    have hz9 : gPD G A [zo6q2 h0 0 q_1 q_2 q_3 0 q_4 q_5 0 q_6 q_7 0 0 0 q_8 q_9 q_10 q_11 q_12 q_13 0 0 0 0 0 0 0 0 0 0 0 0 0, zi G q_1 6 (fun _ => 0), zi G q_2 6 (fun _ => 0), zi G q_3 12 (fun _ => 0), zi G q_4 12 (fun _ => 0), zi G q_5 160 (fun _ => 0), zi G q_6 1200 (fun _ => 0), zi G q_7 24 (fun _ => 0), zi G q_8 24 (fun _ => 0), zi G q_9 3 (fun _ => 0), zi G q_10 4 (upd (upd (upd (upd (fun _ => 0) 0 (-1)) 1 (-1)) 2 (-1)) 3 (-1)), zi G q_11 4 (fun _ => 0), zi G q_12 160 (fun _ => 0), zi G q_13 40 (gPf tB 40), zi G q_14 96 (gPf tW 83)] H := ⟨hP, hD⟩
    have hP := hz9.1
    have hD := hz9.2
    refine lv_dup hx hb dX6_init_855 rfl ?_
    refine lv_bipush (v := 83) hx hb dX6_init_856 (by decide +kernel) ?_
    refine lv_bipush (v := 32) hx hb dX6_init_858 (by decide +kernel) ?_
    refine g_iastP (D := G.1) hx hb hK hP hD hS 14 0 rfl rfl (i := 83) (x := 32) (k := 83) (t := tW) (by decide +kernel) (by decide +kernel) (gIn (by decide +kernel)) dX6_init_860 (fun H locs hP hD hS => ?_)
    have hz9 : gPD G A [zo6q2 h0 0 q_1 q_2 q_3 0 q_4 q_5 0 q_6 q_7 0 0 0 q_8 q_9 q_10 q_11 q_12 q_13 0 0 0 0 0 0 0 0 0 0 0 0 0, zi G q_1 6 (fun _ => 0), zi G q_2 6 (fun _ => 0), zi G q_3 12 (fun _ => 0), zi G q_4 12 (fun _ => 0), zi G q_5 160 (fun _ => 0), zi G q_6 1200 (fun _ => 0), zi G q_7 24 (fun _ => 0), zi G q_8 24 (fun _ => 0), zi G q_9 3 (fun _ => 0), zi G q_10 4 (upd (upd (upd (upd (fun _ => 0) 0 (-1)) 1 (-1)) 2 (-1)) 3 (-1)), zi G q_11 4 (fun _ => 0), zi G q_12 160 (fun _ => 0), zi G q_13 40 (gPf tB 40), zi G q_14 96 (gPf tW 84)] H := ⟨hP, hD⟩
    have hP := hz9.1
    have hD := hz9.2
    refine lv_dup hx hb dX6_init_861 rfl ?_
    refine lv_bipush (v := 84) hx hb dX6_init_862 (by decide +kernel) ?_
    refine lv_bipush (v := 32) hx hb dX6_init_864 (by decide +kernel) ?_
    refine g_iastP (D := G.1) hx hb hK hP hD hS 14 0 rfl rfl (i := 84) (x := 32) (k := 84) (t := tW) (by decide +kernel) (by decide +kernel) (gIn (by decide +kernel)) dX6_init_866 (fun H locs hP hD hS => ?_)
    have hz9 : gPD G A [zo6q2 h0 0 q_1 q_2 q_3 0 q_4 q_5 0 q_6 q_7 0 0 0 q_8 q_9 q_10 q_11 q_12 q_13 0 0 0 0 0 0 0 0 0 0 0 0 0, zi G q_1 6 (fun _ => 0), zi G q_2 6 (fun _ => 0), zi G q_3 12 (fun _ => 0), zi G q_4 12 (fun _ => 0), zi G q_5 160 (fun _ => 0), zi G q_6 1200 (fun _ => 0), zi G q_7 24 (fun _ => 0), zi G q_8 24 (fun _ => 0), zi G q_9 3 (fun _ => 0), zi G q_10 4 (upd (upd (upd (upd (fun _ => 0) 0 (-1)) 1 (-1)) 2 (-1)) 3 (-1)), zi G q_11 4 (fun _ => 0), zi G q_12 160 (fun _ => 0), zi G q_13 40 (gPf tB 40), zi G q_14 96 (gPf tW 85)] H := ⟨hP, hD⟩
    have hP := hz9.1
    have hD := hz9.2
    refine lv_dup hx hb dX6_init_867 rfl ?_
    refine lv_bipush (v := 85) hx hb dX6_init_868 (by decide +kernel) ?_
    refine lv_bipush (v := 32) hx hb dX6_init_870 (by decide +kernel) ?_
    refine g_iastP (D := G.1) hx hb hK hP hD hS 14 0 rfl rfl (i := 85) (x := 32) (k := 85) (t := tW) (by decide +kernel) (by decide +kernel) (gIn (by decide +kernel)) dX6_init_872 (fun H locs hP hD hS => ?_)
    have hz9 : gPD G A [zo6q2 h0 0 q_1 q_2 q_3 0 q_4 q_5 0 q_6 q_7 0 0 0 q_8 q_9 q_10 q_11 q_12 q_13 0 0 0 0 0 0 0 0 0 0 0 0 0, zi G q_1 6 (fun _ => 0), zi G q_2 6 (fun _ => 0), zi G q_3 12 (fun _ => 0), zi G q_4 12 (fun _ => 0), zi G q_5 160 (fun _ => 0), zi G q_6 1200 (fun _ => 0), zi G q_7 24 (fun _ => 0), zi G q_8 24 (fun _ => 0), zi G q_9 3 (fun _ => 0), zi G q_10 4 (upd (upd (upd (upd (fun _ => 0) 0 (-1)) 1 (-1)) 2 (-1)) 3 (-1)), zi G q_11 4 (fun _ => 0), zi G q_12 160 (fun _ => 0), zi G q_13 40 (gPf tB 40), zi G q_14 96 (gPf tW 86)] H := ⟨hP, hD⟩
    have hP := hz9.1
    have hD := hz9.2
    refine lv_dup hx hb dX6_init_873 rfl ?_
    refine lv_bipush (v := 86) hx hb dX6_init_874 (by decide +kernel) ?_
    refine lv_bipush (v := 32) hx hb dX6_init_876 (by decide +kernel) ?_
    refine g_iastP (D := G.1) hx hb hK hP hD hS 14 0 rfl rfl (i := 86) (x := 32) (k := 86) (t := tW) (by decide +kernel) (by decide +kernel) (gIn (by decide +kernel)) dX6_init_878 (fun H locs hP hD hS => ?_)
    have hz9 : gPD G A [zo6q2 h0 0 q_1 q_2 q_3 0 q_4 q_5 0 q_6 q_7 0 0 0 q_8 q_9 q_10 q_11 q_12 q_13 0 0 0 0 0 0 0 0 0 0 0 0 0, zi G q_1 6 (fun _ => 0), zi G q_2 6 (fun _ => 0), zi G q_3 12 (fun _ => 0), zi G q_4 12 (fun _ => 0), zi G q_5 160 (fun _ => 0), zi G q_6 1200 (fun _ => 0), zi G q_7 24 (fun _ => 0), zi G q_8 24 (fun _ => 0), zi G q_9 3 (fun _ => 0), zi G q_10 4 (upd (upd (upd (upd (fun _ => 0) 0 (-1)) 1 (-1)) 2 (-1)) 3 (-1)), zi G q_11 4 (fun _ => 0), zi G q_12 160 (fun _ => 0), zi G q_13 40 (gPf tB 40), zi G q_14 96 (gPf tW 87)] H := ⟨hP, hD⟩
    have hP := hz9.1
    have hD := hz9.2
    refine lv_dup hx hb dX6_init_879 rfl ?_
    refine lv_bipush (v := 87) hx hb dX6_init_880 (by decide +kernel) ?_
    refine lv_bipush (v := 32) hx hb dX6_init_882 (by decide +kernel) ?_
    refine g_iastP (D := G.1) hx hb hK hP hD hS 14 0 rfl rfl (i := 87) (x := 32) (k := 87) (t := tW) (by decide +kernel) (by decide +kernel) (gIn (by decide +kernel)) dX6_init_884 (fun H locs hP hD hS => ?_)
    have hz9 : gPD G A [zo6q2 h0 0 q_1 q_2 q_3 0 q_4 q_5 0 q_6 q_7 0 0 0 q_8 q_9 q_10 q_11 q_12 q_13 0 0 0 0 0 0 0 0 0 0 0 0 0, zi G q_1 6 (fun _ => 0), zi G q_2 6 (fun _ => 0), zi G q_3 12 (fun _ => 0), zi G q_4 12 (fun _ => 0), zi G q_5 160 (fun _ => 0), zi G q_6 1200 (fun _ => 0), zi G q_7 24 (fun _ => 0), zi G q_8 24 (fun _ => 0), zi G q_9 3 (fun _ => 0), zi G q_10 4 (upd (upd (upd (upd (fun _ => 0) 0 (-1)) 1 (-1)) 2 (-1)) 3 (-1)), zi G q_11 4 (fun _ => 0), zi G q_12 160 (fun _ => 0), zi G q_13 40 (gPf tB 40), zi G q_14 96 (gPf tW 88)] H := ⟨hP, hD⟩
    have hP := hz9.1
    have hD := hz9.2
    exact cut_885 q_1 q_2 q_3 q_4 q_5 q_6 q_7 q_8 q_9 q_10 q_11 q_12 q_13 q_14 _ _ hP hD hS _ hl
  have cut_789 : ∀ (q_1 q_2 q_3 q_4 q_5 q_6 q_7 q_8 q_9 q_10 q_11 q_12 q_13 q_14 : Nat) (H : Heap) (locs : List Loc), va_P G.1 vwCl [zo6q2 h0 0 q_1 q_2 q_3 0 q_4 q_5 0 q_6 q_7 0 0 0 q_8 q_9 q_10 q_11 q_12 q_13 0 0 0 0 0 0 0 0 0 0 0 0 0, zi G q_1 6 (fun _ => 0), zi G q_2 6 (fun _ => 0), zi G q_3 12 (fun _ => 0), zi G q_4 12 (fun _ => 0), zi G q_5 160 (fun _ => 0), zi G q_6 1200 (fun _ => 0), zi G q_7 24 (fun _ => 0), zi G q_8 24 (fun _ => 0), zi G q_9 3 (fun _ => 0), zi G q_10 4 (upd (upd (upd (upd (fun _ => 0) 0 (-1)) 1 (-1)) 2 (-1)) 3 (-1)), zi G q_11 4 (fun _ => 0), zi G q_12 160 (fun _ => 0), zi G q_13 40 (gPf tB 40), zi G q_14 96 (gPf tW 72)] H → va_D A [zo6q2 h0 0 q_1 q_2 q_3 0 q_4 q_5 0 q_6 q_7 0 0 0 q_8 q_9 q_10 q_11 q_12 q_13 0 0 0 0 0 0 0 0 0 0 0 0 0, zi G q_1 6 (fun _ => 0), zi G q_2 6 (fun _ => 0), zi G q_3 12 (fun _ => 0), zi G q_4 12 (fun _ => 0), zi G q_5 160 (fun _ => 0), zi G q_6 1200 (fun _ => 0), zi G q_7 24 (fun _ => 0), zi G q_8 24 (fun _ => 0), zi G q_9 3 (fun _ => 0), zi G q_10 4 (upd (upd (upd (upd (fun _ => 0) 0 (-1)) 1 (-1)) 2 (-1)) 3 (-1)), zi G q_11 4 (fun _ => 0), zi G q_12 160 (fun _ => 0), zi G q_13 40 (gPf tB 40), zi G q_14 96 (gPf tW 72)] → va_S A s.heap H locs → ∀ ls : Array Slot, lv_has ls 2 [zR 0 h0] → W p l e (headSpec wsX6_init ({ frames := 5, cells := 23, slots := 2439, locals := 109 })).room s m ([.ref h0] : List Value).toArray below meth c H locs 14 1751 (MQ below (q_X6_init_g G h0 A) ([.ref h0] : List Value).toArray s 23 2439 A) (F0 m 789 ls [.ref q_14, .ref h0]) := by
    as_aux_lemma =>
    intro q_1 q_2 q_3 q_4 q_5 q_6 q_7 q_8 q_9 q_10 q_11 q_12 q_13 q_14 H locs hP hD hS ls hl
    refine lv_dup hx hb dX6_init_789 rfl ?_
    refine lv_bipush (v := 72) hx hb dX6_init_790 (by decide +kernel) ?_
    refine lv_bipush (v := 111) hx hb dX6_init_792 (by decide +kernel) ?_
    refine g_iastP (D := G.1) hx hb hK hP hD hS 14 0 rfl rfl (i := 72) (x := 111) (k := 72) (t := tW) (by decide +kernel) (by decide +kernel) (gIn (by decide +kernel)) dX6_init_794 (fun H locs hP hD hS => ?_)
    have hz9 : gPD G A [zo6q2 h0 0 q_1 q_2 q_3 0 q_4 q_5 0 q_6 q_7 0 0 0 q_8 q_9 q_10 q_11 q_12 q_13 0 0 0 0 0 0 0 0 0 0 0 0 0, zi G q_1 6 (fun _ => 0), zi G q_2 6 (fun _ => 0), zi G q_3 12 (fun _ => 0), zi G q_4 12 (fun _ => 0), zi G q_5 160 (fun _ => 0), zi G q_6 1200 (fun _ => 0), zi G q_7 24 (fun _ => 0), zi G q_8 24 (fun _ => 0), zi G q_9 3 (fun _ => 0), zi G q_10 4 (upd (upd (upd (upd (fun _ => 0) 0 (-1)) 1 (-1)) 2 (-1)) 3 (-1)), zi G q_11 4 (fun _ => 0), zi G q_12 160 (fun _ => 0), zi G q_13 40 (gPf tB 40), zi G q_14 96 (gPf tW 73)] H := ⟨hP, hD⟩
    have hP := hz9.1
    have hD := hz9.2
    refine lv_dup hx hb dX6_init_795 rfl ?_
    refine lv_bipush (v := 73) hx hb dX6_init_796 (by decide +kernel) ?_
    refine lv_bipush (v := 114) hx hb dX6_init_798 (by decide +kernel) ?_
    refine g_iastP (D := G.1) hx hb hK hP hD hS 14 0 rfl rfl (i := 73) (x := 114) (k := 73) (t := tW) (by decide +kernel) (by decide +kernel) (gIn (by decide +kernel)) dX6_init_800 (fun H locs hP hD hS => ?_)
    have hz9 : gPD G A [zo6q2 h0 0 q_1 q_2 q_3 0 q_4 q_5 0 q_6 q_7 0 0 0 q_8 q_9 q_10 q_11 q_12 q_13 0 0 0 0 0 0 0 0 0 0 0 0 0, zi G q_1 6 (fun _ => 0), zi G q_2 6 (fun _ => 0), zi G q_3 12 (fun _ => 0), zi G q_4 12 (fun _ => 0), zi G q_5 160 (fun _ => 0), zi G q_6 1200 (fun _ => 0), zi G q_7 24 (fun _ => 0), zi G q_8 24 (fun _ => 0), zi G q_9 3 (fun _ => 0), zi G q_10 4 (upd (upd (upd (upd (fun _ => 0) 0 (-1)) 1 (-1)) 2 (-1)) 3 (-1)), zi G q_11 4 (fun _ => 0), zi G q_12 160 (fun _ => 0), zi G q_13 40 (gPf tB 40), zi G q_14 96 (gPf tW 74)] H := ⟨hP, hD⟩
    have hP := hz9.1
    have hD := hz9.2
    refine lv_dup hx hb dX6_init_801 rfl ?_
    refine lv_bipush (v := 74) hx hb dX6_init_802 (by decide +kernel) ?_
    refine lv_bipush (v := 32) hx hb dX6_init_804 (by decide +kernel) ?_
    refine g_iastP (D := G.1) hx hb hK hP hD hS 14 0 rfl rfl (i := 74) (x := 32) (k := 74) (t := tW) (by decide +kernel) (by decide +kernel) (gIn (by decide +kernel)) dX6_init_806 (fun H locs hP hD hS => ?_)
    have hz9 : gPD G A [zo6q2 h0 0 q_1 q_2 q_3 0 q_4 q_5 0 q_6 q_7 0 0 0 q_8 q_9 q_10 q_11 q_12 q_13 0 0 0 0 0 0 0 0 0 0 0 0 0, zi G q_1 6 (fun _ => 0), zi G q_2 6 (fun _ => 0), zi G q_3 12 (fun _ => 0), zi G q_4 12 (fun _ => 0), zi G q_5 160 (fun _ => 0), zi G q_6 1200 (fun _ => 0), zi G q_7 24 (fun _ => 0), zi G q_8 24 (fun _ => 0), zi G q_9 3 (fun _ => 0), zi G q_10 4 (upd (upd (upd (upd (fun _ => 0) 0 (-1)) 1 (-1)) 2 (-1)) 3 (-1)), zi G q_11 4 (fun _ => 0), zi G q_12 160 (fun _ => 0), zi G q_13 40 (gPf tB 40), zi G q_14 96 (gPf tW 75)] H := ⟨hP, hD⟩
    have hP := hz9.1
    have hD := hz9.2
    refine lv_dup hx hb dX6_init_807 rfl ?_
    refine lv_bipush (v := 75) hx hb dX6_init_808 (by decide +kernel) ?_
    refine lv_bipush (v := 32) hx hb dX6_init_810 (by decide +kernel) ?_
    refine g_iastP (D := G.1) hx hb hK hP hD hS 14 0 rfl rfl (i := 75) (x := 32) (k := 75) (t := tW) (by decide +kernel) (by decide +kernel) (gIn (by decide +kernel)) dX6_init_812 (fun H locs hP hD hS => ?_)
    have hz9 : gPD G A [zo6q2 h0 0 q_1 q_2 q_3 0 q_4 q_5 0 q_6 q_7 0 0 0 q_8 q_9 q_10 q_11 q_12 q_13 0 0 0 0 0 0 0 0 0 0 0 0 0, zi G q_1 6 (fun _ => 0), zi G q_2 6 (fun _ => 0), zi G q_3 12 (fun _ => 0), zi G q_4 12 (fun _ => 0), zi G q_5 160 (fun _ => 0), zi G q_6 1200 (fun _ => 0), zi G q_7 24 (fun _ => 0), zi G q_8 24 (fun _ => 0), zi G q_9 3 (fun _ => 0), zi G q_10 4 (upd (upd (upd (upd (fun _ => 0) 0 (-1)) 1 (-1)) 2 (-1)) 3 (-1)), zi G q_11 4 (fun _ => 0), zi G q_12 160 (fun _ => 0), zi G q_13 40 (gPf tB 40), zi G q_14 96 (gPf tW 76)] H := ⟨hP, hD⟩
    have hP := hz9.1
    have hD := hz9.2
    refine lv_dup hx hb dX6_init_813 rfl ?_
    refine lv_bipush (v := 76) hx hb dX6_init_814 (by decide +kernel) ?_
    refine lv_bipush (v := 32) hx hb dX6_init_816 (by decide +kernel) ?_
    refine g_iastP (D := G.1) hx hb hK hP hD hS 14 0 rfl rfl (i := 76) (x := 32) (k := 76) (t := tW) (by decide +kernel) (by decide +kernel) (gIn (by decide +kernel)) dX6_init_818 (fun H locs hP hD hS => ?_)
    have hz9 : gPD G A [zo6q2 h0 0 q_1 q_2 q_3 0 q_4 q_5 0 q_6 q_7 0 0 0 q_8 q_9 q_10 q_11 q_12 q_13 0 0 0 0 0 0 0 0 0 0 0 0 0, zi G q_1 6 (fun _ => 0), zi G q_2 6 (fun _ => 0), zi G q_3 12 (fun _ => 0), zi G q_4 12 (fun _ => 0), zi G q_5 160 (fun _ => 0), zi G q_6 1200 (fun _ => 0), zi G q_7 24 (fun _ => 0), zi G q_8 24 (fun _ => 0), zi G q_9 3 (fun _ => 0), zi G q_10 4 (upd (upd (upd (upd (fun _ => 0) 0 (-1)) 1 (-1)) 2 (-1)) 3 (-1)), zi G q_11 4 (fun _ => 0), zi G q_12 160 (fun _ => 0), zi G q_13 40 (gPf tB 40), zi G q_14 96 (gPf tW 77)] H := ⟨hP, hD⟩
    have hP := hz9.1
    have hD := hz9.2
    refine lv_dup hx hb dX6_init_819 rfl ?_
    refine lv_bipush (v := 77) hx hb dX6_init_820 (by decide +kernel) ?_
    refine lv_bipush (v := 32) hx hb dX6_init_822 (by decide +kernel) ?_
    refine g_iastP (D := G.1) hx hb hK hP hD hS 14 0 rfl rfl (i := 77) (x := 32) (k := 77) (t := tW) (by decide +kernel) (by decide +kernel) (gIn (by decide +kernel)) dX6_init_824 (fun H locs hP hD hS => ?_)
    have hz9 : gPD G A [zo6q2 h0 0 q_1 q_2 q_3 0 q_4 q_5 0 q_6 q_7 0 0 0 q_8 q_9 q_10 q_11 q_12 q_13 0 0 0 0 0 0 0 0 0 0 0 0 0, zi G q_1 6 (fun _ => 0), zi G q_2 6 (fun _ => 0), zi G q_3 12 (fun _ => 0), zi G q_4 12 (fun _ => 0), zi G q_5 160 (fun _ => 0), zi G q_6 1200 (fun _ => 0), zi G q_7 24 (fun _ => 0), zi G q_8 24 (fun _ => 0), zi G q_9 3 (fun _ => 0), zi G q_10 4 (upd (upd (upd (upd (fun _ => 0) 0 (-1)) 1 (-1)) 2 (-1)) 3 (-1)), zi G q_11 4 (fun _ => 0), zi G q_12 160 (fun _ => 0), zi G q_13 40 (gPf tB 40), zi G q_14 96 (gPf tW 78)] H := ⟨hP, hD⟩
    have hP := hz9.1
    have hD := hz9.2
    refine lv_dup hx hb dX6_init_825 rfl ?_
    refine lv_bipush (v := 78) hx hb dX6_init_826 (by decide +kernel) ?_
    refine lv_bipush (v := 32) hx hb dX6_init_828 (by decide +kernel) ?_
    refine g_iastP (D := G.1) hx hb hK hP hD hS 14 0 rfl rfl (i := 78) (x := 32) (k := 78) (t := tW) (by decide +kernel) (by decide +kernel) (gIn (by decide +kernel)) dX6_init_830 (fun H locs hP hD hS => ?_)
    have hz9 : gPD G A [zo6q2 h0 0 q_1 q_2 q_3 0 q_4 q_5 0 q_6 q_7 0 0 0 q_8 q_9 q_10 q_11 q_12 q_13 0 0 0 0 0 0 0 0 0 0 0 0 0, zi G q_1 6 (fun _ => 0), zi G q_2 6 (fun _ => 0), zi G q_3 12 (fun _ => 0), zi G q_4 12 (fun _ => 0), zi G q_5 160 (fun _ => 0), zi G q_6 1200 (fun _ => 0), zi G q_7 24 (fun _ => 0), zi G q_8 24 (fun _ => 0), zi G q_9 3 (fun _ => 0), zi G q_10 4 (upd (upd (upd (upd (fun _ => 0) 0 (-1)) 1 (-1)) 2 (-1)) 3 (-1)), zi G q_11 4 (fun _ => 0), zi G q_12 160 (fun _ => 0), zi G q_13 40 (gPf tB 40), zi G q_14 96 (gPf tW 79)] H := ⟨hP, hD⟩
    have hP := hz9.1
    have hD := hz9.2
    refine lv_dup hx hb dX6_init_831 rfl ?_
    refine lv_bipush (v := 79) hx hb dX6_init_832 (by decide +kernel) ?_
    refine lv_bipush (v := 32) hx hb dX6_init_834 (by decide +kernel) ?_
    refine g_iastP (D := G.1) hx hb hK hP hD hS 14 0 rfl rfl (i := 79) (x := 32) (k := 79) (t := tW) (by decide +kernel) (by decide +kernel) (gIn (by decide +kernel)) dX6_init_836 (fun H locs hP hD hS => ?_)
    have hz9 : gPD G A [zo6q2 h0 0 q_1 q_2 q_3 0 q_4 q_5 0 q_6 q_7 0 0 0 q_8 q_9 q_10 q_11 q_12 q_13 0 0 0 0 0 0 0 0 0 0 0 0 0, zi G q_1 6 (fun _ => 0), zi G q_2 6 (fun _ => 0), zi G q_3 12 (fun _ => 0), zi G q_4 12 (fun _ => 0), zi G q_5 160 (fun _ => 0), zi G q_6 1200 (fun _ => 0), zi G q_7 24 (fun _ => 0), zi G q_8 24 (fun _ => 0), zi G q_9 3 (fun _ => 0), zi G q_10 4 (upd (upd (upd (upd (fun _ => 0) 0 (-1)) 1 (-1)) 2 (-1)) 3 (-1)), zi G q_11 4 (fun _ => 0), zi G q_12 160 (fun _ => 0), zi G q_13 40 (gPf tB 40), zi G q_14 96 (gPf tW 80)] H := ⟨hP, hD⟩
    have hP := hz9.1
    have hD := hz9.2
    exact cut_837 q_1 q_2 q_3 q_4 q_5 q_6 q_7 q_8 q_9 q_10 q_11 q_12 q_13 q_14 _ _ hP hD hS _ hl
  have cut_741 : ∀ (q_1 q_2 q_3 q_4 q_5 q_6 q_7 q_8 q_9 q_10 q_11 q_12 q_13 q_14 : Nat) (H : Heap) (locs : List Loc), va_P G.1 vwCl [zo6q2 h0 0 q_1 q_2 q_3 0 q_4 q_5 0 q_6 q_7 0 0 0 q_8 q_9 q_10 q_11 q_12 q_13 0 0 0 0 0 0 0 0 0 0 0 0 0, zi G q_1 6 (fun _ => 0), zi G q_2 6 (fun _ => 0), zi G q_3 12 (fun _ => 0), zi G q_4 12 (fun _ => 0), zi G q_5 160 (fun _ => 0), zi G q_6 1200 (fun _ => 0), zi G q_7 24 (fun _ => 0), zi G q_8 24 (fun _ => 0), zi G q_9 3 (fun _ => 0), zi G q_10 4 (upd (upd (upd (upd (fun _ => 0) 0 (-1)) 1 (-1)) 2 (-1)) 3 (-1)), zi G q_11 4 (fun _ => 0), zi G q_12 160 (fun _ => 0), zi G q_13 40 (gPf tB 40), zi G q_14 96 (gPf tW 64)] H → va_D A [zo6q2 h0 0 q_1 q_2 q_3 0 q_4 q_5 0 q_6 q_7 0 0 0 q_8 q_9 q_10 q_11 q_12 q_13 0 0 0 0 0 0 0 0 0 0 0 0 0, zi G q_1 6 (fun _ => 0), zi G q_2 6 (fun _ => 0), zi G q_3 12 (fun _ => 0), zi G q_4 12 (fun _ => 0), zi G q_5 160 (fun _ => 0), zi G q_6 1200 (fun _ => 0), zi G q_7 24 (fun _ => 0), zi G q_8 24 (fun _ => 0), zi G q_9 3 (fun _ => 0), zi G q_10 4 (upd (upd (upd (upd (fun _ => 0) 0 (-1)) 1 (-1)) 2 (-1)) 3 (-1)), zi G q_11 4 (fun _ => 0), zi G q_12 160 (fun _ => 0), zi G q_13 40 (gPf tB 40), zi G q_14 96 (gPf tW 64)] → va_S A s.heap H locs → ∀ ls : Array Slot, lv_has ls 2 [zR 0 h0] → W p l e (headSpec wsX6_init ({ frames := 5, cells := 23, slots := 2439, locals := 109 })).room s m ([.ref h0] : List Value).toArray below meth c H locs 14 1751 (MQ below (q_X6_init_g G h0 A) ([.ref h0] : List Value).toArray s 23 2439 A) (F0 m 741 ls [.ref q_14, .ref h0]) := by
    as_aux_lemma =>
    intro q_1 q_2 q_3 q_4 q_5 q_6 q_7 q_8 q_9 q_10 q_11 q_12 q_13 q_14 H locs hP hD hS ls hl
    refine lv_dup hx hb dX6_init_741 rfl ?_
    refine lv_bipush (v := 64) hx hb dX6_init_742 (by decide +kernel) ?_
    refine lv_bipush (v := 106) hx hb dX6_init_744 (by decide +kernel) ?_
    refine g_iastP (D := G.1) hx hb hK hP hD hS 14 0 rfl rfl (i := 64) (x := 106) (k := 64) (t := tW) (by decide +kernel) (by decide +kernel) (gIn (by decide +kernel)) dX6_init_746 (fun H locs hP hD hS => ?_)
    have hz9 : gPD G A [zo6q2 h0 0 q_1 q_2 q_3 0 q_4 q_5 0 q_6 q_7 0 0 0 q_8 q_9 q_10 q_11 q_12 q_13 0 0 0 0 0 0 0 0 0 0 0 0 0, zi G q_1 6 (fun _ => 0), zi G q_2 6 (fun _ => 0), zi G q_3 12 (fun _ => 0), zi G q_4 12 (fun _ => 0), zi G q_5 160 (fun _ => 0), zi G q_6 1200 (fun _ => 0), zi G q_7 24 (fun _ => 0), zi G q_8 24 (fun _ => 0), zi G q_9 3 (fun _ => 0), zi G q_10 4 (upd (upd (upd (upd (fun _ => 0) 0 (-1)) 1 (-1)) 2 (-1)) 3 (-1)), zi G q_11 4 (fun _ => 0), zi G q_12 160 (fun _ => 0), zi G q_13 40 (gPf tB 40), zi G q_14 96 (gPf tW 65)] H := ⟨hP, hD⟩
    have hP := hz9.1
    have hD := hz9.2
    refine lv_dup hx hb dX6_init_747 rfl ?_
    refine lv_bipush (v := 65) hx hb dX6_init_748 (by decide +kernel) ?_
    refine lv_bipush (v := 117) hx hb dX6_init_750 (by decide +kernel) ?_
    refine g_iastP (D := G.1) hx hb hK hP hD hS 14 0 rfl rfl (i := 65) (x := 117) (k := 65) (t := tW) (by decide +kernel) (by decide +kernel) (gIn (by decide +kernel)) dX6_init_752 (fun H locs hP hD hS => ?_)
    have hz9 : gPD G A [zo6q2 h0 0 q_1 q_2 q_3 0 q_4 q_5 0 q_6 q_7 0 0 0 q_8 q_9 q_10 q_11 q_12 q_13 0 0 0 0 0 0 0 0 0 0 0 0 0, zi G q_1 6 (fun _ => 0), zi G q_2 6 (fun _ => 0), zi G q_3 12 (fun _ => 0), zi G q_4 12 (fun _ => 0), zi G q_5 160 (fun _ => 0), zi G q_6 1200 (fun _ => 0), zi G q_7 24 (fun _ => 0), zi G q_8 24 (fun _ => 0), zi G q_9 3 (fun _ => 0), zi G q_10 4 (upd (upd (upd (upd (fun _ => 0) 0 (-1)) 1 (-1)) 2 (-1)) 3 (-1)), zi G q_11 4 (fun _ => 0), zi G q_12 160 (fun _ => 0), zi G q_13 40 (gPf tB 40), zi G q_14 96 (gPf tW 66)] H := ⟨hP, hD⟩
    have hP := hz9.1
    have hD := hz9.2
    refine lv_dup hx hb dX6_init_753 rfl ?_
    refine lv_bipush (v := 66) hx hb dX6_init_754 (by decide +kernel) ?_
    refine lv_bipush (v := 100) hx hb dX6_init_756 (by decide +kernel) ?_
    refine g_iastP (D := G.1) hx hb hK hP hD hS 14 0 rfl rfl (i := 66) (x := 100) (k := 66) (t := tW) (by decide +kernel) (by decide +kernel) (gIn (by decide +kernel)) dX6_init_758 (fun H locs hP hD hS => ?_)
    have hz9 : gPD G A [zo6q2 h0 0 q_1 q_2 q_3 0 q_4 q_5 0 q_6 q_7 0 0 0 q_8 q_9 q_10 q_11 q_12 q_13 0 0 0 0 0 0 0 0 0 0 0 0 0, zi G q_1 6 (fun _ => 0), zi G q_2 6 (fun _ => 0), zi G q_3 12 (fun _ => 0), zi G q_4 12 (fun _ => 0), zi G q_5 160 (fun _ => 0), zi G q_6 1200 (fun _ => 0), zi G q_7 24 (fun _ => 0), zi G q_8 24 (fun _ => 0), zi G q_9 3 (fun _ => 0), zi G q_10 4 (upd (upd (upd (upd (fun _ => 0) 0 (-1)) 1 (-1)) 2 (-1)) 3 (-1)), zi G q_11 4 (fun _ => 0), zi G q_12 160 (fun _ => 0), zi G q_13 40 (gPf tB 40), zi G q_14 96 (gPf tW 67)] H := ⟨hP, hD⟩
    have hP := hz9.1
    have hD := hz9.2
    refine lv_dup hx hb dX6_init_759 rfl ?_
    refine lv_bipush (v := 67) hx hb dX6_init_760 (by decide +kernel) ?_
    refine lv_bipush (v := 103) hx hb dX6_init_762 (by decide +kernel) ?_
    refine g_iastP (D := G.1) hx hb hK hP hD hS 14 0 rfl rfl (i := 67) (x := 103) (k := 67) (t := tW) (by decide +kernel) (by decide +kernel) (gIn (by decide +kernel)) dX6_init_764 (fun H locs hP hD hS => ?_)
    have hz9 : gPD G A [zo6q2 h0 0 q_1 q_2 q_3 0 q_4 q_5 0 q_6 q_7 0 0 0 q_8 q_9 q_10 q_11 q_12 q_13 0 0 0 0 0 0 0 0 0 0 0 0 0, zi G q_1 6 (fun _ => 0), zi G q_2 6 (fun _ => 0), zi G q_3 12 (fun _ => 0), zi G q_4 12 (fun _ => 0), zi G q_5 160 (fun _ => 0), zi G q_6 1200 (fun _ => 0), zi G q_7 24 (fun _ => 0), zi G q_8 24 (fun _ => 0), zi G q_9 3 (fun _ => 0), zi G q_10 4 (upd (upd (upd (upd (fun _ => 0) 0 (-1)) 1 (-1)) 2 (-1)) 3 (-1)), zi G q_11 4 (fun _ => 0), zi G q_12 160 (fun _ => 0), zi G q_13 40 (gPf tB 40), zi G q_14 96 (gPf tW 68)] H := ⟨hP, hD⟩
    have hP := hz9.1
    have hD := hz9.2
    refine lv_dup hx hb dX6_init_765 rfl ?_
    refine lv_bipush (v := 68) hx hb dX6_init_766 (by decide +kernel) ?_
    refine lv_bipush (v := 101) hx hb dX6_init_768 (by decide +kernel) ?_
    refine g_iastP (D := G.1) hx hb hK hP hD hS 14 0 rfl rfl (i := 68) (x := 101) (k := 68) (t := tW) (by decide +kernel) (by decide +kernel) (gIn (by decide +kernel)) dX6_init_770 (fun H locs hP hD hS => ?_)
    have hz9 : gPD G A [zo6q2 h0 0 q_1 q_2 q_3 0 q_4 q_5 0 q_6 q_7 0 0 0 q_8 q_9 q_10 q_11 q_12 q_13 0 0 0 0 0 0 0 0 0 0 0 0 0, zi G q_1 6 (fun _ => 0), zi G q_2 6 (fun _ => 0), zi G q_3 12 (fun _ => 0), zi G q_4 12 (fun _ => 0), zi G q_5 160 (fun _ => 0), zi G q_6 1200 (fun _ => 0), zi G q_7 24 (fun _ => 0), zi G q_8 24 (fun _ => 0), zi G q_9 3 (fun _ => 0), zi G q_10 4 (upd (upd (upd (upd (fun _ => 0) 0 (-1)) 1 (-1)) 2 (-1)) 3 (-1)), zi G q_11 4 (fun _ => 0), zi G q_12 160 (fun _ => 0), zi G q_13 40 (gPf tB 40), zi G q_14 96 (gPf tW 69)] H := ⟨hP, hD⟩
    have hP := hz9.1
    have hD := hz9.2
    refine lv_dup hx hb dX6_init_771 rfl ?_
    refine lv_bipush (v := 69) hx hb dX6_init_772 (by decide +kernel) ?_
    refine lv_bipush (v := 32) hx hb dX6_init_774 (by decide +kernel) ?_
    refine g_iastP (D := G.1) hx hb hK hP hD hS 14 0 rfl rfl (i := 69) (x := 32) (k := 69) (t := tW) (by decide +kernel) (by decide +kernel) (gIn (by decide +kernel)) dX6_init_776 (fun H locs hP hD hS => ?_)
    have hz9 : gPD G A [zo6q2 h0 0 q_1 q_2 q_3 0 q_4 q_5 0 q_6 q_7 0 0 0 q_8 q_9 q_10 q_11 q_12 q_13 0 0 0 0 0 0 0 0 0 0 0 0 0, zi G q_1 6 (fun _ => 0), zi G q_2 6 (fun _ => 0), zi G q_3 12 (fun _ => 0), zi G q_4 12 (fun _ => 0), zi G q_5 160 (fun _ => 0), zi G q_6 1200 (fun _ => 0), zi G q_7 24 (fun _ => 0), zi G q_8 24 (fun _ => 0), zi G q_9 3 (fun _ => 0), zi G q_10 4 (upd (upd (upd (upd (fun _ => 0) 0 (-1)) 1 (-1)) 2 (-1)) 3 (-1)), zi G q_11 4 (fun _ => 0), zi G q_12 160 (fun _ => 0), zi G q_13 40 (gPf tB 40), zi G q_14 96 (gPf tW 70)] H := ⟨hP, hD⟩
    have hP := hz9.1
    have hD := hz9.2
    refine lv_dup hx hb dX6_init_777 rfl ?_
    refine lv_bipush (v := 70) hx hb dX6_init_778 (by decide +kernel) ?_
    refine lv_bipush (v := 32) hx hb dX6_init_780 (by decide +kernel) ?_
    refine g_iastP (D := G.1) hx hb hK hP hD hS 14 0 rfl rfl (i := 70) (x := 32) (k := 70) (t := tW) (by decide +kernel) (by decide +kernel) (gIn (by decide +kernel)) dX6_init_782 (fun H locs hP hD hS => ?_)
    have hz9 : gPD G A [zo6q2 h0 0 q_1 q_2 q_3 0 q_4 q_5 0 q_6 q_7 0 0 0 q_8 q_9 q_10 q_11 q_12 q_13 0 0 0 0 0 0 0 0 0 0 0 0 0, zi G q_1 6 (fun _ => 0), zi G q_2 6 (fun _ => 0), zi G q_3 12 (fun _ => 0), zi G q_4 12 (fun _ => 0), zi G q_5 160 (fun _ => 0), zi G q_6 1200 (fun _ => 0), zi G q_7 24 (fun _ => 0), zi G q_8 24 (fun _ => 0), zi G q_9 3 (fun _ => 0), zi G q_10 4 (upd (upd (upd (upd (fun _ => 0) 0 (-1)) 1 (-1)) 2 (-1)) 3 (-1)), zi G q_11 4 (fun _ => 0), zi G q_12 160 (fun _ => 0), zi G q_13 40 (gPf tB 40), zi G q_14 96 (gPf tW 71)] H := ⟨hP, hD⟩
    have hP := hz9.1
    have hD := hz9.2
    refine lv_dup hx hb dX6_init_783 rfl ?_
    refine lv_bipush (v := 71) hx hb dX6_init_784 (by decide +kernel) ?_
    refine lv_bipush (v := 32) hx hb dX6_init_786 (by decide +kernel) ?_
    refine g_iastP (D := G.1) hx hb hK hP hD hS 14 0 rfl rfl (i := 71) (x := 32) (k := 71) (t := tW) (by decide +kernel) (by decide +kernel) (gIn (by decide +kernel)) dX6_init_788 (fun H locs hP hD hS => ?_)
    have hz9 : gPD G A [zo6q2 h0 0 q_1 q_2 q_3 0 q_4 q_5 0 q_6 q_7 0 0 0 q_8 q_9 q_10 q_11 q_12 q_13 0 0 0 0 0 0 0 0 0 0 0 0 0, zi G q_1 6 (fun _ => 0), zi G q_2 6 (fun _ => 0), zi G q_3 12 (fun _ => 0), zi G q_4 12 (fun _ => 0), zi G q_5 160 (fun _ => 0), zi G q_6 1200 (fun _ => 0), zi G q_7 24 (fun _ => 0), zi G q_8 24 (fun _ => 0), zi G q_9 3 (fun _ => 0), zi G q_10 4 (upd (upd (upd (upd (fun _ => 0) 0 (-1)) 1 (-1)) 2 (-1)) 3 (-1)), zi G q_11 4 (fun _ => 0), zi G q_12 160 (fun _ => 0), zi G q_13 40 (gPf tB 40), zi G q_14 96 (gPf tW 72)] H := ⟨hP, hD⟩
    have hP := hz9.1
    have hD := hz9.2
    exact cut_789 q_1 q_2 q_3 q_4 q_5 q_6 q_7 q_8 q_9 q_10 q_11 q_12 q_13 q_14 _ _ hP hD hS _ hl
  have cut_693 : ∀ (q_1 q_2 q_3 q_4 q_5 q_6 q_7 q_8 q_9 q_10 q_11 q_12 q_13 q_14 : Nat) (H : Heap) (locs : List Loc), va_P G.1 vwCl [zo6q2 h0 0 q_1 q_2 q_3 0 q_4 q_5 0 q_6 q_7 0 0 0 q_8 q_9 q_10 q_11 q_12 q_13 0 0 0 0 0 0 0 0 0 0 0 0 0, zi G q_1 6 (fun _ => 0), zi G q_2 6 (fun _ => 0), zi G q_3 12 (fun _ => 0), zi G q_4 12 (fun _ => 0), zi G q_5 160 (fun _ => 0), zi G q_6 1200 (fun _ => 0), zi G q_7 24 (fun _ => 0), zi G q_8 24 (fun _ => 0), zi G q_9 3 (fun _ => 0), zi G q_10 4 (upd (upd (upd (upd (fun _ => 0) 0 (-1)) 1 (-1)) 2 (-1)) 3 (-1)), zi G q_11 4 (fun _ => 0), zi G q_12 160 (fun _ => 0), zi G q_13 40 (gPf tB 40), zi G q_14 96 (gPf tW 56)] H → va_D A [zo6q2 h0 0 q_1 q_2 q_3 0 q_4 q_5 0 q_6 q_7 0 0 0 q_8 q_9 q_10 q_11 q_12 q_13 0 0 0 0 0 0 0 0 0 0 0 0 0, zi G q_1 6 (fun _ => 0), zi G q_2 6 (fun _ => 0), zi G q_3 12 (fun _ => 0), zi G q_4 12 (fun _ => 0), zi G q_5 160 (fun _ => 0), zi G q_6 1200 (fun _ => 0), zi G q_7 24 (fun _ => 0), zi G q_8 24 (fun _ => 0), zi G q_9 3 (fun _ => 0), zi G q_10 4 (upd (upd (upd (upd (fun _ => 0) 0 (-1)) 1 (-1)) 2 (-1)) 3 (-1)), zi G q_11 4 (fun _ => 0), zi G q_12 160 (fun _ => 0), zi G q_13 40 (gPf tB 40), zi G q_14 96 (gPf tW 56)] → va_S A s.heap H locs → ∀ ls : Array Slot, lv_has ls 2 [zR 0 h0] → W p l e (headSpec wsX6_init ({ frames := 5, cells := 23, slots := 2439, locals := 109 })).room s m ([.ref h0] : List Value).toArray below meth c H locs 14 1751 (MQ below (q_X6_init_g G h0 A) ([.ref h0] : List Value).toArray s 23 2439 A) (F0 m 693 ls [.ref q_14, .ref h0]) := by
    as_aux_lemma =>
    intro q_1 q_2 q_3 q_4 q_5 q_6 q_7 q_8 q_9 q_10 q_11 q_12 q_13 q_14 H locs hP hD hS ls hl
    refine lv_dup hx hb dX6_init_693 rfl ?_
    refine lv_bipush (v := 56) hx hb dX6_init_694 (by decide +kernel) ?_
    refine lv_bipush (v := 109) hx hb dX6_init_696 (by decide +kernel) ?_
    refine g_iastP (D := G.1) hx hb hK hP hD hS 14 0 rfl rfl (i := 56) (x := 109) (k := 56) (t := tW) (by decide +kernel) (by decide +kernel) (gIn (by decide +kernel)) dX6_init_698 (fun H locs hP hD hS => ?_)
    have hz9 : gPD G A [zo6q2 h0 0 q_1 q_2 q_3 0 q_4 q_5 0 q_6 q_7 0 0 0 q_8 q_9 q_10 q_11 q_12 q_13 0 0 0 0 0 0 0 0 0 0 0 0 0, zi G q_1 6 (fun _ => 0), zi G q_2 6 (fun _ => 0), zi G q_3 12 (fun _ => 0), zi G q_4 12 (fun _ => 0), zi G q_5 160 (fun _ => 0), zi G q_6 1200 (fun _ => 0), zi G q_7 24 (fun _ => 0), zi G q_8 24 (fun _ => 0), zi G q_9 3 (fun _ => 0), zi G q_10 4 (upd (upd (upd (upd (fun _ => 0) 0 (-1)) 1 (-1)) 2 (-1)) 3 (-1)), zi G q_11 4 (fun _ => 0), zi G q_12 160 (fun _ => 0), zi G q_13 40 (gPf tB 40), zi G q_14 96 (gPf tW 57)] H := ⟨hP, hD⟩
    have hP := hz9.1
    have hD := hz9.2
    refine lv_dup hx hb dX6_init_699 rfl ?_
    refine lv_bipush (v := 57) hx hb dX6_init_700 (by decide +kernel) ?_
    refine lv_bipush (v := 111) hx hb dX6_init_702 (by decide +kernel) ?_
    refine g_iastP (D := G.1) hx hb hK hP hD hS 14 0 rfl rfl (i := 57) (x := 111) (k := 57) (t := tW) (by decide +kernel) (by decide +kernel) (gIn (by decide +kernel)) dX6_init_704 (fun H locs hP hD hS => ?_)
    have hz9 : gPD G A [zo6q2 h0 0 q_1 q_2 q_3 0 q_4 q_5 0 q_6 q_7 0 0 0 q_8 q_9 q_10 q_11 q_12 q_13 0 0 0 0 0 0 0 0 0 0 0 0 0, zi G q_1 6 (fun _ => 0), zi G q_2 6 (fun _ => 0), zi G q_3 12 (fun _ => 0), zi G q_4 12 (fun _ => 0), zi G q_5 160 (fun _ => 0), zi G q_6 1200 (fun _ => 0), zi G q_7 24 (fun _ => 0), zi G q_8 24 (fun _ => 0), zi G q_9 3 (fun _ => 0), zi G q_10 4 (upd (upd (upd (upd (fun _ => 0) 0 (-1)) 1 (-1)) 2 (-1)) 3 (-1)), zi G q_11 4 (fun _ => 0), zi G q_12 160 (fun _ => 0), zi G q_13 40 (gPf tB 40), zi G q_14 96 (gPf tW 58)] H := ⟨hP, hD⟩
    have hP := hz9.1
    have hD := hz9.2
    refine lv_dup hx hb dX6_init_705 rfl ?_
    refine lv_bipush (v := 58) hx hb dX6_init_706 (by decide +kernel) ?_
    refine lv_bipush (v := 114) hx hb dX6_init_708 (by decide +kernel) ?_
    refine g_iastP (D := G.1) hx hb hK hP hD hS 14 0 rfl rfl (i := 58) (x := 114) (k := 58) (t := tW) (by decide +kernel) (by decide +kernel) (gIn (by decide +kernel)) dX6_init_710 (fun H locs hP hD hS => ?_)
    have hz9 : gPD G A [zo6q2 h0 0 q_1 q_2 q_3 0 q_4 q_5 0 q_6 q_7 0 0 0 q_8 q_9 q_10 q_11 q_12 q_13 0 0 0 0 0 0 0 0 0 0 0 0 0, zi G q_1 6 (fun _ => 0), zi G q_2 6 (fun _ => 0), zi G q_3 12 (fun _ => 0), zi G q_4 12 (fun _ => 0), zi G q_5 160 (fun _ => 0), zi G q_6 1200 (fun _ => 0), zi G q_7 24 (fun _ => 0), zi G q_8 24 (fun _ => 0), zi G q_9 3 (fun _ => 0), zi G q_10 4 (upd (upd (upd (upd (fun _ => 0) 0 (-1)) 1 (-1)) 2 (-1)) 3 (-1)), zi G q_11 4 (fun _ => 0), zi G q_12 160 (fun _ => 0), zi G q_13 40 (gPf tB 40), zi G q_14 96 (gPf tW 59)] H := ⟨hP, hD⟩
    have hP := hz9.1
    have hD := hz9.2
    refine lv_dup hx hb dX6_init_711 rfl ?_
    refine lv_bipush (v := 59) hx hb dX6_init_712 (by decide +kernel) ?_
    refine lv_bipush (v := 101) hx hb dX6_init_714 (by decide +kernel) ?_
    refine g_iastP (D := G.1) hx hb hK hP hD hS 14 0 rfl rfl (i := 59) (x := 101) (k := 59) (t := tW) (by decide +kernel) (by decide +kernel) (gIn (by decide +kernel)) dX6_init_716 (fun H locs hP hD hS => ?_)
    have hz9 : gPD G A [zo6q2 h0 0 q_1 q_2 q_3 0 q_4 q_5 0 q_6 q_7 0 0 0 q_8 q_9 q_10 q_11 q_12 q_13 0 0 0 0 0 0 0 0 0 0 0 0 0, zi G q_1 6 (fun _ => 0), zi G q_2 6 (fun _ => 0), zi G q_3 12 (fun _ => 0), zi G q_4 12 (fun _ => 0), zi G q_5 160 (fun _ => 0), zi G q_6 1200 (fun _ => 0), zi G q_7 24 (fun _ => 0), zi G q_8 24 (fun _ => 0), zi G q_9 3 (fun _ => 0), zi G q_10 4 (upd (upd (upd (upd (fun _ => 0) 0 (-1)) 1 (-1)) 2 (-1)) 3 (-1)), zi G q_11 4 (fun _ => 0), zi G q_12 160 (fun _ => 0), zi G q_13 40 (gPf tB 40), zi G q_14 96 (gPf tW 60)] H := ⟨hP, hD⟩
    have hP := hz9.1
    have hD := hz9.2
    refine lv_dup hx hb dX6_init_717 rfl ?_
    refine lv_bipush (v := 60) hx hb dX6_init_718 (by decide +kernel) ?_
    refine lv_bipush (v := 32) hx hb dX6_init_720 (by decide +kernel) ?_
    refine g_iastP (D := G.1) hx hb hK hP hD hS 14 0 rfl rfl (i := 60) (x := 32) (k := 60) (t := tW) (by decide +kernel) (by decide +kernel) (gIn (by decide +kernel)) dX6_init_722 (fun H locs hP hD hS => ?_)
    have hz9 : gPD G A [zo6q2 h0 0 q_1 q_2 q_3 0 q_4 q_5 0 q_6 q_7 0 0 0 q_8 q_9 q_10 q_11 q_12 q_13 0 0 0 0 0 0 0 0 0 0 0 0 0, zi G q_1 6 (fun _ => 0), zi G q_2 6 (fun _ => 0), zi G q_3 12 (fun _ => 0), zi G q_4 12 (fun _ => 0), zi G q_5 160 (fun _ => 0), zi G q_6 1200 (fun _ => 0), zi G q_7 24 (fun _ => 0), zi G q_8 24 (fun _ => 0), zi G q_9 3 (fun _ => 0), zi G q_10 4 (upd (upd (upd (upd (fun _ => 0) 0 (-1)) 1 (-1)) 2 (-1)) 3 (-1)), zi G q_11 4 (fun _ => 0), zi G q_12 160 (fun _ => 0), zi G q_13 40 (gPf tB 40), zi G q_14 96 (gPf tW 61)] H := ⟨hP, hD⟩
    have hP := hz9.1
    have hD := hz9.2
    refine lv_dup hx hb dX6_init_723 rfl ?_
    refine lv_bipush (v := 61) hx hb dX6_init_724 (by decide +kernel) ?_
    refine lv_bipush (v := 32) hx hb dX6_init_726 (by decide +kernel) ?_
    refine g_iastP (D := G.1) hx hb hK hP hD hS 14 0 rfl rfl (i := 61) (x := 32) (k := 61) (t := tW) (by decide +kernel) (by decide +kernel) (gIn (by decide +kernel)) dX6_init_728 (fun H locs hP hD hS => ?_)
    have hz9 : gPD G A [zo6q2 h0 0 q_1 q_2 q_3 0 q_4 q_5 0 q_6 q_7 0 0 0 q_8 q_9 q_10 q_11 q_12 q_13 0 0 0 0 0 0 0 0 0 0 0 0 0, zi G q_1 6 (fun _ => 0), zi G q_2 6 (fun _ => 0), zi G q_3 12 (fun _ => 0), zi G q_4 12 (fun _ => 0), zi G q_5 160 (fun _ => 0), zi G q_6 1200 (fun _ => 0), zi G q_7 24 (fun _ => 0), zi G q_8 24 (fun _ => 0), zi G q_9 3 (fun _ => 0), zi G q_10 4 (upd (upd (upd (upd (fun _ => 0) 0 (-1)) 1 (-1)) 2 (-1)) 3 (-1)), zi G q_11 4 (fun _ => 0), zi G q_12 160 (fun _ => 0), zi G q_13 40 (gPf tB 40), zi G q_14 96 (gPf tW 62)] H := ⟨hP, hD⟩
    have hP := hz9.1
    have hD := hz9.2
    refine lv_dup hx hb dX6_init_729 rfl ?_
    refine lv_bipush (v := 62) hx hb dX6_init_730 (by decide +kernel) ?_
    refine lv_bipush (v := 32) hx hb dX6_init_732 (by decide +kernel) ?_
    refine g_iastP (D := G.1) hx hb hK hP hD hS 14 0 rfl rfl (i := 62) (x := 32) (k := 62) (t := tW) (by decide +kernel) (by decide +kernel) (gIn (by decide +kernel)) dX6_init_734 (fun H locs hP hD hS => ?_)
    have hz9 : gPD G A [zo6q2 h0 0 q_1 q_2 q_3 0 q_4 q_5 0 q_6 q_7 0 0 0 q_8 q_9 q_10 q_11 q_12 q_13 0 0 0 0 0 0 0 0 0 0 0 0 0, zi G q_1 6 (fun _ => 0), zi G q_2 6 (fun _ => 0), zi G q_3 12 (fun _ => 0), zi G q_4 12 (fun _ => 0), zi G q_5 160 (fun _ => 0), zi G q_6 1200 (fun _ => 0), zi G q_7 24 (fun _ => 0), zi G q_8 24 (fun _ => 0), zi G q_9 3 (fun _ => 0), zi G q_10 4 (upd (upd (upd (upd (fun _ => 0) 0 (-1)) 1 (-1)) 2 (-1)) 3 (-1)), zi G q_11 4 (fun _ => 0), zi G q_12 160 (fun _ => 0), zi G q_13 40 (gPf tB 40), zi G q_14 96 (gPf tW 63)] H := ⟨hP, hD⟩
    have hP := hz9.1
    have hD := hz9.2
    refine lv_dup hx hb dX6_init_735 rfl ?_
    refine lv_bipush (v := 63) hx hb dX6_init_736 (by decide +kernel) ?_
    refine lv_bipush (v := 32) hx hb dX6_init_738 (by decide +kernel) ?_
    refine g_iastP (D := G.1) hx hb hK hP hD hS 14 0 rfl rfl (i := 63) (x := 32) (k := 63) (t := tW) (by decide +kernel) (by decide +kernel) (gIn (by decide +kernel)) dX6_init_740 (fun H locs hP hD hS => ?_)
    have hz9 : gPD G A [zo6q2 h0 0 q_1 q_2 q_3 0 q_4 q_5 0 q_6 q_7 0 0 0 q_8 q_9 q_10 q_11 q_12 q_13 0 0 0 0 0 0 0 0 0 0 0 0 0, zi G q_1 6 (fun _ => 0), zi G q_2 6 (fun _ => 0), zi G q_3 12 (fun _ => 0), zi G q_4 12 (fun _ => 0), zi G q_5 160 (fun _ => 0), zi G q_6 1200 (fun _ => 0), zi G q_7 24 (fun _ => 0), zi G q_8 24 (fun _ => 0), zi G q_9 3 (fun _ => 0), zi G q_10 4 (upd (upd (upd (upd (fun _ => 0) 0 (-1)) 1 (-1)) 2 (-1)) 3 (-1)), zi G q_11 4 (fun _ => 0), zi G q_12 160 (fun _ => 0), zi G q_13 40 (gPf tB 40), zi G q_14 96 (gPf tW 64)] H := ⟨hP, hD⟩
    have hP := hz9.1
    have hD := hz9.2
    exact cut_741 q_1 q_2 q_3 q_4 q_5 q_6 q_7 q_8 q_9 q_10 q_11 q_12 q_13 q_14 _ _ hP hD hS _ hl
  have cut_645 : ∀ (q_1 q_2 q_3 q_4 q_5 q_6 q_7 q_8 q_9 q_10 q_11 q_12 q_13 q_14 : Nat) (H : Heap) (locs : List Loc), va_P G.1 vwCl [zo6q2 h0 0 q_1 q_2 q_3 0 q_4 q_5 0 q_6 q_7 0 0 0 q_8 q_9 q_10 q_11 q_12 q_13 0 0 0 0 0 0 0 0 0 0 0 0 0, zi G q_1 6 (fun _ => 0), zi G q_2 6 (fun _ => 0), zi G q_3 12 (fun _ => 0), zi G q_4 12 (fun _ => 0), zi G q_5 160 (fun _ => 0), zi G q_6 1200 (fun _ => 0), zi G q_7 24 (fun _ => 0), zi G q_8 24 (fun _ => 0), zi G q_9 3 (fun _ => 0), zi G q_10 4 (upd (upd (upd (upd (fun _ => 0) 0 (-1)) 1 (-1)) 2 (-1)) 3 (-1)), zi G q_11 4 (fun _ => 0), zi G q_12 160 (fun _ => 0), zi G q_13 40 (gPf tB 40), zi G q_14 96 (gPf tW 48)] H → va_D A [zo6q2 h0 0 q_1 q_2 q_3 0 q_4 q_5 0 q_6 q_7 0 0 0 q_8 q_9 q_10 q_11 q_12 q_13 0 0 0 0 0 0 0 0 0 0 0 0 0, zi G q_1 6 (fun _ => 0), zi G q_2 6 (fun _ => 0), zi G q_3 12 (fun _ => 0), zi G q_4 12 (fun _ => 0), zi G q_5 160 (fun _ => 0), zi G q_6 1200 (fun _ => 0), zi G q_7 24 (fun _ => 0), zi G q_8 24 (fun _ => 0), zi G q_9 3 (fun _ => 0), zi G q_10 4 (upd (upd (upd (upd (fun _ => 0) 0 (-1)) 1 (-1)) 2 (-1)) 3 (-1)), zi G q_11 4 (fun _ => 0), zi G q_12 160 (fun _ => 0), zi G q_13 40 (gPf tB 40), zi G q_14 96 (gPf tW 48)] → va_S A s.heap H locs → ∀ ls : Array Slot, lv_has ls 2 [zR 0 h0] → W p l e (headSpec wsX6_init ({ frames := 5, cells := 23, slots := 2439, locals := 109 })).room s m ([.ref h0] : List Value).toArray below meth c H locs 14 1751 (MQ below (q_X6_init_g G h0 A) ([.ref h0] : List Value).toArray s 23 2439 A) (F0 m 645 ls [.ref q_14, .ref h0]) := by
    as_aux_lemma =>
    intro q_1 q_2 q_3 q_4 q_5 q_6 q_7 q_8 q_9 q_10 q_11 q_12 q_13 q_14 H locs hP hD hS ls hl
    refine lv_dup hx hb dX6_init_645 rfl ?_
    refine lv_bipush (v := 48) hx hb dX6_init_646 (by decide +kernel) ?_
    refine lv_bipush (v := 109) hx hb dX6_init_648 (by decide +kernel) ?_
    refine g_iastP (D := G.1) hx hb hK hP hD hS 14 0 rfl rfl (i := 48) (x := 109) (k := 48) (t := tW) (by decide +kernel) (by decide +kernel) (gIn (by decide +kernel)) dX6_init_650 (fun H locs hP hD hS => ?_)
    have hz9 : gPD G A [zo6q2 h0 0 q_1 q_2 q_3 0 q_4 q_5 0 q_6 q_7 0 0 0 q_8 q_9 q_10 q_11 q_12 q_13 0 0 0 0 0 0 0 0 0 0 0 0 0, zi G q_1 6 (fun _ => 0), zi G q_2 6 (fun _ => 0), zi G q_3 12 (fun _ => 0), zi G q_4 12 (fun _ => 0), zi G q_5 160 (fun _ => 0), zi G q_6 1200 (fun _ => 0), zi G q_7 24 (fun _ => 0), zi G q_8 24 (fun _ => 0), zi G q_9 3 (fun _ => 0), zi G q_10 4 (upd (upd (upd (upd (fun _ => 0) 0 (-1)) 1 (-1)) 2 (-1)) 3 (-1)), zi G q_11 4 (fun _ => 0), zi G q_12 160 (fun _ => 0), zi G q_13 40 (gPf tB 40), zi G q_14 96 (gPf tW 49)] H := ⟨hP, hD⟩
    have hP := hz9.1
    have hD := hz9.2
    refine lv_dup hx hb dX6_init_651 rfl ?_
    refine lv_bipush (v := 49) hx hb dX6_init_652 (by decide +kernel) ?_
    refine lv_bipush (v := 105) hx hb dX6_init_654 (by decide +kernel) ?_
    refine g_iastP (D := G.1) hx hb hK hP hD hS 14 0 rfl rfl (i := 49) (x := 105) (k := 49) (t := tW) (by decide +kernel) (by decide +kernel) (gIn (by decide +kernel)) dX6_init_656 (fun H locs hP hD hS => ?_)
    have hz9 : gPD G A [zo6q2 h0 0 q_1 q_2 q_3 0 q_4 q_5 0 q_6 q_7 0 0 0 q_8 q_9 q_10 q_11 q_12 q_13 0 0 0 0 0 0 0 0 0 0 0 0 0, zi G q_1 6 (fun _ => 0), zi G q_2 6 (fun _ => 0), zi G q_3 12 (fun _ => 0), zi G q_4 12 (fun _ => 0), zi G q_5 160 (fun _ => 0), zi G q_6 1200 (fun _ => 0), zi G q_7 24 (fun _ => 0), zi G q_8 24 (fun _ => 0), zi G q_9 3 (fun _ => 0), zi G q_10 4 (upd (upd (upd (upd (fun _ => 0) 0 (-1)) 1 (-1)) 2 (-1)) 3 (-1)), zi G q_11 4 (fun _ => 0), zi G q_12 160 (fun _ => 0), zi G q_13 40 (gPf tB 40), zi G q_14 96 (gPf tW 50)] H := ⟨hP, hD⟩
    have hP := hz9.1
    have hD := hz9.2
    refine lv_dup hx hb dX6_init_657 rfl ?_
    refine lv_bipush (v := 50) hx hb dX6_init_658 (by decide +kernel) ?_
    refine lv_bipush (v := 108) hx hb dX6_init_660 (by decide +kernel) ?_
    refine g_iastP (D := G.1) hx hb hK hP hD hS 14 0 rfl rfl (i := 50) (x := 108) (k := 50) (t := tW) (by decide +kernel) (by decide +kernel) (gIn (by decide +kernel)) dX6_init_662 (fun H locs hP hD hS => ?_)
    have hz9 : gPD G A [zo6q2 h0 0 q_1 q_2 q_3 0 q_4 q_5 0 q_6 q_7 0 0 0 q_8 q_9 q_10 q_11 q_12 q_13 0 0 0 0 0 0 0 0 0 0 0 0 0, zi G q_1 6 (fun _ => 0), zi G q_2 6 (fun _ => 0), zi G q_3 12 (fun _ => 0), zi G q_4 12 (fun _ => 0), zi G q_5 160 (fun _ => 0), zi G q_6 1200 (fun _ => 0), zi G q_7 24 (fun _ => 0), zi G q_8 24 (fun _ => 0), zi G q_9 3 (fun _ => 0), zi G q_10 4 (upd (upd (upd (upd (fun _ => 0) 0 (-1)) 1 (-1)) 2 (-1)) 3 (-1)), zi G q_11 4 (fun _ => 0), zi G q_12 160 (fun _ => 0), zi G q_13 40 (gPf tB 40), zi G q_14 96 (gPf tW 51)] H := ⟨hP, hD⟩
    have hP := hz9.1
    have hD := hz9.2
    refine lv_dup hx hb dX6_init_663 rfl ?_
    refine lv_bipush (v := 51) hx hb dX6_init_664 (by decide +kernel) ?_
    refine lv_bipush (v := 101) hx hb dX6_init_666 (by decide +kernel) ?_
    refine g_iastP (D := G.1) hx hb hK hP hD hS 14 0 rfl rfl (i := 51) (x := 101) (k := 51) (t := tW) (by decide +kernel) (by decide +kernel) (gIn (by decide +kernel)) dX6_init_668 (fun H locs hP hD hS => ?_)
    have hz9 : gPD G A [zo6q2 h0 0 q_1 q_2 q_3 0 q_4 q_5 0 q_6 q_7 0 0 0 q_8 q_9 q_10 q_11 q_12 q_13 0 0 0 0 0 0 0 0 0 0 0 0 0, zi G q_1 6 (fun _ => 0), zi G q_2 6 (fun _ => 0), zi G q_3 12 (fun _ => 0), zi G q_4 12 (fun _ => 0), zi G q_5 160 (fun _ => 0), zi G q_6 1200 (fun _ => 0), zi G q_7 24 (fun _ => 0), zi G q_8 24 (fun _ => 0), zi G q_9 3 (fun _ => 0), zi G q_10 4 (upd (upd (upd (upd (fun _ => 0) 0 (-1)) 1 (-1)) 2 (-1)) 3 (-1)), zi G q_11 4 (fun _ => 0), zi G q_12 160 (fun _ => 0), zi G q_13 40 (gPf tB 40), zi G q_14 96 (gPf tW 52)] H := ⟨hP, hD⟩
    have hP := hz9.1
    have hD := hz9.2
    refine lv_dup hx hb dX6_init_669 rfl ?_
    refine lv_bipush (v := 52) hx hb dX6_init_670 (by decide +kernel) ?_
    refine lv_bipush (v := 115) hx hb dX6_init_672 (by decide +kernel) ?_
    refine g_iastP (D := G.1) hx hb hK hP hD hS 14 0 rfl rfl (i := 52) (x := 115) (k := 52) (t := tW) (by decide +kernel) (by decide +kernel) (gIn (by decide +kernel)) dX6_init_674 (fun H locs hP hD hS => ?_)
    have hz9 : gPD G A [zo6q2 h0 0 q_1 q_2 q_3 0 q_4 q_5 0 q_6 q_7 0 0 0 q_8 q_9 q_10 q_11 q_12 q_13 0 0 0 0 0 0 0 0 0 0 0 0 0, zi G q_1 6 (fun _ => 0), zi G q_2 6 (fun _ => 0), zi G q_3 12 (fun _ => 0), zi G q_4 12 (fun _ => 0), zi G q_5 160 (fun _ => 0), zi G q_6 1200 (fun _ => 0), zi G q_7 24 (fun _ => 0), zi G q_8 24 (fun _ => 0), zi G q_9 3 (fun _ => 0), zi G q_10 4 (upd (upd (upd (upd (fun _ => 0) 0 (-1)) 1 (-1)) 2 (-1)) 3 (-1)), zi G q_11 4 (fun _ => 0), zi G q_12 160 (fun _ => 0), zi G q_13 40 (gPf tB 40), zi G q_14 96 (gPf tW 53)] H := ⟨hP, hD⟩
    have hP := hz9.1
    have hD := hz9.2
    refine lv_dup hx hb dX6_init_675 rfl ?_
    refine lv_bipush (v := 53) hx hb dX6_init_676 (by decide +kernel) ?_
    refine lv_bipush (v := 32) hx hb dX6_init_678 (by decide +kernel) ?_
    refine g_iastP (D := G.1) hx hb hK hP hD hS 14 0 rfl rfl (i := 53) (x := 32) (k := 53) (t := tW) (by decide +kernel) (by decide +kernel) (gIn (by decide +kernel)) dX6_init_680 (fun H locs hP hD hS => ?_)
    have hz9 : gPD G A [zo6q2 h0 0 q_1 q_2 q_3 0 q_4 q_5 0 q_6 q_7 0 0 0 q_8 q_9 q_10 q_11 q_12 q_13 0 0 0 0 0 0 0 0 0 0 0 0 0, zi G q_1 6 (fun _ => 0), zi G q_2 6 (fun _ => 0), zi G q_3 12 (fun _ => 0), zi G q_4 12 (fun _ => 0), zi G q_5 160 (fun _ => 0), zi G q_6 1200 (fun _ => 0), zi G q_7 24 (fun _ => 0), zi G q_8 24 (fun _ => 0), zi G q_9 3 (fun _ => 0), zi G q_10 4 (upd (upd (upd (upd (fun _ => 0) 0 (-1)) 1 (-1)) 2 (-1)) 3 (-1)), zi G q_11 4 (fun _ => 0), zi G q_12 160 (fun _ => 0), zi G q_13 40 (gPf tB 40), zi G q_14 96 (gPf tW 54)] H := ⟨hP, hD⟩
    have hP := hz9.1
    have hD := hz9.2
    refine lv_dup hx hb dX6_init_681 rfl ?_
    refine lv_bipush (v := 54) hx hb dX6_init_682 (by decide +kernel) ?_
    refine lv_bipush (v := 32) hx hb dX6_init_684 (by decide +kernel) ?_
    refine g_iastP (D := G.1) hx hb hK hP hD hS 14 0 rfl rfl (i := 54) (x := 32) (k := 54) (t := tW) (by decide +kernel) (by decide +kernel) (gIn (by decide +kernel)) dX6_init_686 (fun H locs hP hD hS => ?_)
    have hz9 : gPD G A [zo6q2 h0 0 q_1 q_2 q_3 0 q_4 q_5 0 q_6 q_7 0 0 0 q_8 q_9 q_10 q_11 q_12 q_13 0 0 0 0 0 0 0 0 0 0 0 0 0, zi G q_1 6 (fun _ => 0), zi G q_2 6 (fun _ => 0), zi G q_3 12 (fun _ => 0), zi G q_4 12 (fun _ => 0), zi G q_5 160 (fun _ => 0), zi G q_6 1200 (fun _ => 0), zi G q_7 24 (fun _ => 0), zi G q_8 24 (fun _ => 0), zi G q_9 3 (fun _ => 0), zi G q_10 4 (upd (upd (upd (upd (fun _ => 0) 0 (-1)) 1 (-1)) 2 (-1)) 3 (-1)), zi G q_11 4 (fun _ => 0), zi G q_12 160 (fun _ => 0), zi G q_13 40 (gPf tB 40), zi G q_14 96 (gPf tW 55)] H := ⟨hP, hD⟩
    have hP := hz9.1
    have hD := hz9.2
    refine lv_dup hx hb dX6_init_687 rfl ?_
    refine lv_bipush (v := 55) hx hb dX6_init_688 (by decide +kernel) ?_
    refine lv_bipush (v := 32) hx hb dX6_init_690 (by decide +kernel) ?_
    refine g_iastP (D := G.1) hx hb hK hP hD hS 14 0 rfl rfl (i := 55) (x := 32) (k := 55) (t := tW) (by decide +kernel) (by decide +kernel) (gIn (by decide +kernel)) dX6_init_692 (fun H locs hP hD hS => ?_)
    have hz9 : gPD G A [zo6q2 h0 0 q_1 q_2 q_3 0 q_4 q_5 0 q_6 q_7 0 0 0 q_8 q_9 q_10 q_11 q_12 q_13 0 0 0 0 0 0 0 0 0 0 0 0 0, zi G q_1 6 (fun _ => 0), zi G q_2 6 (fun _ => 0), zi G q_3 12 (fun _ => 0), zi G q_4 12 (fun _ => 0), zi G q_5 160 (fun _ => 0), zi G q_6 1200 (fun _ => 0), zi G q_7 24 (fun _ => 0), zi G q_8 24 (fun _ => 0), zi G q_9 3 (fun _ => 0), zi G q_10 4 (upd (upd (upd (upd (fun _ => 0) 0 (-1)) 1 (-1)) 2 (-1)) 3 (-1)), zi G q_11 4 (fun _ => 0), zi G q_12 160 (fun _ => 0), zi G q_13 40 (gPf tB 40), zi G q_14 96 (gPf tW 56)] H := ⟨hP, hD⟩
    have hP := hz9.1
    have hD := hz9.2
    exact cut_693 q_1 q_2 q_3 q_4 q_5 q_6 q_7 q_8 q_9 q_10 q_11 q_12 q_13 q_14 _ _ hP hD hS _ hl
  have cut_597 : ∀ (q_1 q_2 q_3 q_4 q_5 q_6 q_7 q_8 q_9 q_10 q_11 q_12 q_13 q_14 : Nat) (H : Heap) (locs : List Loc), va_P G.1 vwCl [zo6q2 h0 0 q_1 q_2 q_3 0 q_4 q_5 0 q_6 q_7 0 0 0 q_8 q_9 q_10 q_11 q_12 q_13 0 0 0 0 0 0 0 0 0 0 0 0 0, zi G q_1 6 (fun _ => 0), zi G q_2 6 (fun _ => 0), zi G q_3 12 (fun _ => 0), zi G q_4 12 (fun _ => 0), zi G q_5 160 (fun _ => 0), zi G q_6 1200 (fun _ => 0), zi G q_7 24 (fun _ => 0), zi G q_8 24 (fun _ => 0), zi G q_9 3 (fun _ => 0), zi G q_10 4 (upd (upd (upd (upd (fun _ => 0) 0 (-1)) 1 (-1)) 2 (-1)) 3 (-1)), zi G q_11 4 (fun _ => 0), zi G q_12 160 (fun _ => 0), zi G q_13 40 (gPf tB 40), zi G q_14 96 (gPf tW 40)] H → va_D A [zo6q2 h0 0 q_1 q_2 q_3 0 q_4 q_5 0 q_6 q_7 0 0 0 q_8 q_9 q_10 q_11 q_12 q_13 0 0 0 0 0 0 0 0 0 0 0 0 0, zi G q_1 6 (fun _ => 0), zi G q_2 6 (fun _ => 0), zi G q_3 12 (fun _ => 0), zi G q_4 12 (fun _ => 0), zi G q_5 160 (fun _ => 0), zi G q_6 1200 (fun _ => 0), zi G q_7 24 (fun _ => 0), zi G q_8 24 (fun _ => 0), zi G q_9 3 (fun _ => 0), zi G q_10 4 (upd (upd (upd (upd (fun _ => 0) 0 (-1)) 1 (-1)) 2 (-1)) 3 (-1)), zi G q_11 4 (fun _ => 0), zi G q_12 160 (fun _ => 0), zi G q_13 40 (gPf tB 40), zi G q_14 96 (gPf tW 40)] → va_S A s.heap H locs → ∀ ls : Array Slot, lv_has ls 2 [zR 0 h0] → W p l e (headSpec wsX6_init ({ frames := 5, cells := 23, slots := 2439, locals := 109 })).room s m ([.ref h0] : List Value).toArray below meth c H locs 14 1751 (MQ below (q_X6_init_g G h0 A) ([.ref h0] : List Value).toArray s 23 2439 A) (F0 m 597 ls [.ref q_14, .ref h0]) := by
    as_aux_lemma =>
    intro q_1 q_2 q_3 q_4 q_5 q_6 q_7 q_8 q_9 q_10 q_11 q_12 q_13 q_14 H locs hP hD hS ls hl
    refine lv_dup hx hb dX6_init_597 rfl ?_
    refine lv_bipush (v := 40) hx hb dX6_init_598 (by decide +kernel) ?_
    refine lv_bipush (v := 115) hx hb dX6_init_600 (by decide +kernel) ?_
    refine g_iastP (D := G.1) hx hb hK hP hD hS 14 0 rfl rfl (i := 40) (x := 115) (k := 40) (t := tW) (by decide +kernel) (by decide +kernel) (gIn (by decide +kernel)) dX6_init_602 (fun H locs hP hD hS => ?_)
    have hz9 : gPD G A [zo6q2 h0 0 q_1 q_2 q_3 0 q_4 q_5 0 q_6 q_7 0 0 0 q_8 q_9 q_10 q_11 q_12 q_13 0 0 0 0 0 0 0 0 0 0 0 0 0, zi G q_1 6 (fun _ => 0), zi G q_2 6 (fun _ => 0), zi G q_3 12 (fun _ => 0), zi G q_4 12 (fun _ => 0), zi G q_5 160 (fun _ => 0), zi G q_6 1200 (fun _ => 0), zi G q_7 24 (fun _ => 0), zi G q_8 24 (fun _ => 0), zi G q_9 3 (fun _ => 0), zi G q_10 4 (upd (upd (upd (upd (fun _ => 0) 0 (-1)) 1 (-1)) 2 (-1)) 3 (-1)), zi G q_11 4 (fun _ => 0), zi G q_12 160 (fun _ => 0), zi G q_13 40 (gPf tB 40), zi G q_14 96 (gPf tW 41)] H := ⟨hP, hD⟩
    have hP := hz9.1
    have hD := hz9.2
    refine lv_dup hx hb dX6_init_603 rfl ?_
    refine lv_bipush (v := 41) hx hb dX6_init_604 (by decide +kernel) ?_
    refine lv_bipush (v := 111) hx hb dX6_init_606 (by decide +kernel) ?_
    refine g_iastP (D := G.1) hx hb hK hP hD hS 14 0 rfl rfl (i := 41) (x := 111) (k := 41) (t := tW) (by decide +kernel) (by decide +kernel) (gIn (by decide +kernel)) dX6_init_608 (fun H locs hP hD hS => ?_)
    have hz9 : gPD G A [zo6q2 h0 0 q_1 q_2 q_3 0 q_4 q_5 0 q_6 q_7 0 0 0 q_8 q_9 q_10 q_11 q_12 q_13 0 0 0 0 0 0 0 0 0 0 0 0 0, zi G q_1 6 (fun _ => 0), zi G q_2 6 (fun _ => 0), zi G q_3 12 (fun _ => 0), zi G q_4 12 (fun _ => 0), zi G q_5 160 (fun _ => 0), zi G q_6 1200 (fun _ => 0), zi G q_7 24 (fun _ => 0), zi G q_8 24 (fun _ => 0), zi G q_9 3 (fun _ => 0), zi G q_10 4 (upd (upd (upd (upd (fun _ => 0) 0 (-1)) 1 (-1)) 2 (-1)) 3 (-1)), zi G q_11 4 (fun _ => 0), zi G q_12 160 (fun _ => 0), zi G q_13 40 (gPf tB 40), zi G q_14 96 (gPf tW 42)] H := ⟨hP, hD⟩
    have hP := hz9.1
    have hD := hz9.2
    refine lv_dup hx hb dX6_init_609 rfl ?_
    refine lv_bipush (v := 42) hx hb dX6_init_610 (by decide +kernel) ?_
    refine lv_bipush (v := 108) hx hb dX6_init_612 (by decide +kernel) ?_
    refine g_iastP (D := G.1) hx hb hK hP hD hS 14 0 rfl rfl (i := 42) (x := 108) (k := 42) (t := tW) (by decide +kernel) (by decide +kernel) (gIn (by decide +kernel)) dX6_init_614 (fun H locs hP hD hS => ?_)
    have hz9 : gPD G A [zo6q2 h0 0 q_1 q_2 q_3 0 q_4 q_5 0 q_6 q_7 0 0 0 q_8 q_9 q_10 q_11 q_12 q_13 0 0 0 0 0 0 0 0 0 0 0 0 0, zi G q_1 6 (fun _ => 0), zi G q_2 6 (fun _ => 0), zi G q_3 12 (fun _ => 0), zi G q_4 12 (fun _ => 0), zi G q_5 160 (fun _ => 0), zi G q_6 1200 (fun _ => 0), zi G q_7 24 (fun _ => 0), zi G q_8 24 (fun _ => 0), zi G q_9 3 (fun _ => 0), zi G q_10 4 (upd (upd (upd (upd (fun _ => 0) 0 (-1)) 1 (-1)) 2 (-1)) 3 (-1)), zi G q_11 4 (fun _ => 0), zi G q_12 160 (fun _ => 0), zi G q_13 40 (gPf tB 40), zi G q_14 96 (gPf tW 43)] H := ⟨hP, hD⟩
    have hP := hz9.1
    have hD := hz9.2
    refine lv_dup hx hb dX6_init_615 rfl ?_
    refine lv_bipush (v := 43) hx hb dX6_init_616 (by decide +kernel) ?_
    refine lv_bipush (v := 101) hx hb dX6_init_618 (by decide +kernel) ?_
    refine g_iastP (D := G.1) hx hb hK hP hD hS 14 0 rfl rfl (i := 43) (x := 101) (k := 43) (t := tW) (by decide +kernel) (by decide +kernel) (gIn (by decide +kernel)) dX6_init_620 (fun H locs hP hD hS => ?_)
    have hz9 : gPD G A [zo6q2 h0 0 q_1 q_2 q_3 0 q_4 q_5 0 q_6 q_7 0 0 0 q_8 q_9 q_10 q_11 q_12 q_13 0 0 0 0 0 0 0 0 0 0 0 0 0, zi G q_1 6 (fun _ => 0), zi G q_2 6 (fun _ => 0), zi G q_3 12 (fun _ => 0), zi G q_4 12 (fun _ => 0), zi G q_5 160 (fun _ => 0), zi G q_6 1200 (fun _ => 0), zi G q_7 24 (fun _ => 0), zi G q_8 24 (fun _ => 0), zi G q_9 3 (fun _ => 0), zi G q_10 4 (upd (upd (upd (upd (fun _ => 0) 0 (-1)) 1 (-1)) 2 (-1)) 3 (-1)), zi G q_11 4 (fun _ => 0), zi G q_12 160 (fun _ => 0), zi G q_13 40 (gPf tB 40), zi G q_14 96 (gPf tW 44)] H := ⟨hP, hD⟩
    have hP := hz9.1
    have hD := hz9.2
    refine lv_dup hx hb dX6_init_621 rfl ?_
    refine lv_bipush (v := 44) hx hb dX6_init_622 (by decide +kernel) ?_
    refine lv_bipush (v := 115) hx hb dX6_init_624 (by decide +kernel) ?_
    refine g_iastP (D := G.1) hx hb hK hP hD hS 14 0 rfl rfl (i := 44) (x := 115) (k := 44) (t := tW) (by decide +kernel) (by decide +kernel) (gIn (by decide +kernel)) dX6_init_626 (fun H locs hP hD hS => ?_)
    have hz9 : gPD G A [zo6q2 h0 0 q_1 q_2 q_3 0 q_4 q_5 0 q_6 q_7 0 0 0 q_8 q_9 q_10 q_11 q_12 q_13 0 0 0 0 0 0 0 0 0 0 0 0 0, zi G q_1 6 (fun _ => 0), zi G q_2 6 (fun _ => 0), zi G q_3 12 (fun _ => 0), zi G q_4 12 (fun _ => 0), zi G q_5 160 (fun _ => 0), zi G q_6 1200 (fun _ => 0), zi G q_7 24 (fun _ => 0), zi G q_8 24 (fun _ => 0), zi G q_9 3 (fun _ => 0), zi G q_10 4 (upd (upd (upd (upd (fun _ => 0) 0 (-1)) 1 (-1)) 2 (-1)) 3 (-1)), zi G q_11 4 (fun _ => 0), zi G q_12 160 (fun _ => 0), zi G q_13 40 (gPf tB 40), zi G q_14 96 (gPf tW 45)] H := ⟨hP, hD⟩
    have hP := hz9.1
    have hD := hz9.2
    refine lv_dup hx hb dX6_init_627 rfl ?_
    refine lv_bipush (v := 45) hx hb dX6_init_628 (by decide +kernel) ?_
    refine lv_bipush (v := 32) hx hb dX6_init_630 (by decide +kernel) ?_
    refine g_iastP (D := G.1) hx hb hK hP hD hS 14 0 rfl rfl (i := 45) (x := 32) (k := 45) (t := tW) (by decide +kernel) (by decide +kernel) (gIn (by decide +kernel)) dX6_init_632 (fun H locs hP hD hS => ?_)
    have hz9 : gPD G A [zo6q2 h0 0 q_1 q_2 q_3 0 q_4 q_5 0 q_6 q_7 0 0 0 q_8 q_9 q_10 q_11 q_12 q_13 0 0 0 0 0 0 0 0 0 0 0 0 0, zi G q_1 6 (fun _ => 0), zi G q_2 6 (fun _ => 0), zi G q_3 12 (fun _ => 0), zi G q_4 12 (fun _ => 0), zi G q_5 160 (fun _ => 0), zi G q_6 1200 (fun _ => 0), zi G q_7 24 (fun _ => 0), zi G q_8 24 (fun _ => 0), zi G q_9 3 (fun _ => 0), zi G q_10 4 (upd (upd (upd (upd (fun _ => 0) 0 (-1)) 1 (-1)) 2 (-1)) 3 (-1)), zi G q_11 4 (fun _ => 0), zi G q_12 160 (fun _ => 0), zi G q_13 40 (gPf tB 40), zi G q_14 96 (gPf tW 46)] H := ⟨hP, hD⟩
    have hP := hz9.1
    have hD := hz9.2
    refine lv_dup hx hb dX6_init_633 rfl ?_
    refine lv_bipush (v := 46) hx hb dX6_init_634 (by decide +kernel) ?_
    refine lv_bipush (v := 32) hx hb dX6_init_636 (by decide +kernel) ?_
    refine g_iastP (D := G.1) hx hb hK hP hD hS 14 0 rfl rfl (i := 46) (x := 32) (k := 46) (t := tW) (by decide +kernel) (by decide +kernel) (gIn (by decide +kernel)) dX6_init_638 (fun H locs hP hD hS => ?_)
    have hz9 : gPD G A [zo6q2 h0 0 q_1 q_2 q_3 0 q_4 q_5 0 q_6 q_7 0 0 0 q_8 q_9 q_10 q_11 q_12 q_13 0 0 0 0 0 0 0 0 0 0 0 0 0, zi G q_1 6 (fun _ => 0), zi G q_2 6 (fun _ => 0), zi G q_3 12 (fun _ => 0), zi G q_4 12 (fun _ => 0), zi G q_5 160 (fun _ => 0), zi G q_6 1200 (fun _ => 0), zi G q_7 24 (fun _ => 0), zi G q_8 24 (fun _ => 0), zi G q_9 3 (fun _ => 0), zi G q_10 4 (upd (upd (upd (upd (fun _ => 0) 0 (-1)) 1 (-1)) 2 (-1)) 3 (-1)), zi G q_11 4 (fun _ => 0), zi G q_12 160 (fun _ => 0), zi G q_13 40 (gPf tB 40), zi G q_14 96 (gPf tW 47)] H := ⟨hP, hD⟩
    have hP := hz9.1
    have hD := hz9.2
    refine lv_dup hx hb dX6_init_639 rfl ?_
    refine lv_bipush (v := 47) hx hb dX6_init_640 (by decide +kernel) ?_
    refine lv_bipush (v := 32) hx hb dX6_init_642 (by decide +kernel) ?_
    refine g_iastP (D := G.1) hx hb hK hP hD hS 14 0 rfl rfl (i := 47) (x := 32) (k := 47) (t := tW) (by decide +kernel) (by decide +kernel) (gIn (by decide +kernel)) dX6_init_644 (fun H locs hP hD hS => ?_)
    have hz9 : gPD G A [zo6q2 h0 0 q_1 q_2 q_3 0 q_4 q_5 0 q_6 q_7 0 0 0 q_8 q_9 q_10 q_11 q_12 q_13 0 0 0 0 0 0 0 0 0 0 0 0 0, zi G q_1 6 (fun _ => 0), zi G q_2 6 (fun _ => 0), zi G q_3 12 (fun _ => 0), zi G q_4 12 (fun _ => 0), zi G q_5 160 (fun _ => 0), zi G q_6 1200 (fun _ => 0), zi G q_7 24 (fun _ => 0), zi G q_8 24 (fun _ => 0), zi G q_9 3 (fun _ => 0), zi G q_10 4 (upd (upd (upd (upd (fun _ => 0) 0 (-1)) 1 (-1)) 2 (-1)) 3 (-1)), zi G q_11 4 (fun _ => 0), zi G q_12 160 (fun _ => 0), zi G q_13 40 (gPf tB 40), zi G q_14 96 (gPf tW 48)] H := ⟨hP, hD⟩
    have hP := hz9.1
    have hD := hz9.2
    exact cut_645 q_1 q_2 q_3 q_4 q_5 q_6 q_7 q_8 q_9 q_10 q_11 q_12 q_13 q_14 _ _ hP hD hS _ hl
  have cut_549 : ∀ (q_1 q_2 q_3 q_4 q_5 q_6 q_7 q_8 q_9 q_10 q_11 q_12 q_13 q_14 : Nat) (H : Heap) (locs : List Loc), va_P G.1 vwCl [zo6q2 h0 0 q_1 q_2 q_3 0 q_4 q_5 0 q_6 q_7 0 0 0 q_8 q_9 q_10 q_11 q_12 q_13 0 0 0 0 0 0 0 0 0 0 0 0 0, zi G q_1 6 (fun _ => 0), zi G q_2 6 (fun _ => 0), zi G q_3 12 (fun _ => 0), zi G q_4 12 (fun _ => 0), zi G q_5 160 (fun _ => 0), zi G q_6 1200 (fun _ => 0), zi G q_7 24 (fun _ => 0), zi G q_8 24 (fun _ => 0), zi G q_9 3 (fun _ => 0), zi G q_10 4 (upd (upd (upd (upd (fun _ => 0) 0 (-1)) 1 (-1)) 2 (-1)) 3 (-1)), zi G q_11 4 (fun _ => 0), zi G q_12 160 (fun _ => 0), zi G q_13 40 (gPf tB 40), zi G q_14 96 (gPf tW 32)] H → va_D A [zo6q2 h0 0 q_1 q_2 q_3 0 q_4 q_5 0 q_6 q_7 0 0 0 q_8 q_9 q_10 q_11 q_12 q_13 0 0 0 0 0 0 0 0 0 0 0 0 0, zi G q_1 6 (fun _ => 0), zi G q_2 6 (fun _ => 0), zi G q_3 12 (fun _ => 0), zi G q_4 12 (fun _ => 0), zi G q_5 160 (fun _ => 0), zi G q_6 1200 (fun _ => 0), zi G q_7 24 (fun _ => 0), zi G q_8 24 (fun _ => 0), zi G q_9 3 (fun _ => 0), zi G q_10 4 (upd (upd (upd (upd (fun _ => 0) 0 (-1)) 1 (-1)) 2 (-1)) 3 (-1)), zi G q_11 4 (fun _ => 0), zi G q_12 160 (fun _ => 0), zi G q_13 40 (gPf tB 40), zi G q_14 96 (gPf tW 32)] → va_S A s.heap H locs → ∀ ls : Array Slot, lv_has ls 2 [zR 0 h0] → W p l e (headSpec wsX6_init ({ frames := 5, cells := 23, slots := 2439, locals := 109 })).room s m ([.ref h0] : List Value).toArray below meth c H locs 14 1751 (MQ below (q_X6_init_g G h0 A) ([.ref h0] : List Value).toArray s 23 2439 A) (F0 m 549 ls [.ref q_14, .ref h0]) := by
    as_aux_lemma =>
    intro q_1 q_2 q_3 q_4 q_5 q_6 q_7 q_8 q_9 q_10 q_11 q_12 q_13 q_14 H locs hP hD hS ls hl
    refine lv_dup hx hb dX6_init_549 rfl ?_
    refine lv_bipush (v := 32) hx hb dX6_init_550 (by decide +kernel) ?_
    refine lv_bipush (v := 114) hx hb dX6_init_552 (by decide +kernel) ?_
    refine g_iastP (D := G.1) hx hb hK hP hD hS 14 0 rfl rfl (i := 32) (x := 114) (k := 32) (t := tW) (by decide +kernel) (by decide +kernel) (gIn (by decide +kernel)) dX6_init_554 (fun H locs hP hD hS => ?_)
    have hz9 : gPD G A [zo6q2 h0 0 q_1 q_2 q_3 0 q_4 q_5 0 q_6 q_7 0 0 0 q_8 q_9 q_10 q_11 q_12 q_13 0 0 0 0 0 0 0 0 0 0 0 0 0, zi G q_1 6 (fun _ => 0), zi G q_2 6 (fun _ => 0), zi G q_3 12 (fun _ => 0), zi G q_4 12 (fun _ => 0), zi G q_5 160 (fun _ => 0), zi G q_6 1200 (fun _ => 0), zi G q_7 24 (fun _ => 0), zi G q_8 24 (fun _ => 0), zi G q_9 3 (fun _ => 0), zi G q_10 4 (upd (upd (upd (upd (fun _ => 0) 0 (-1)) 1 (-1)) 2 (-1)) 3 (-1)), zi G q_11 4 (fun _ => 0), zi G q_12 160 (fun _ => 0), zi G q_13 40 (gPf tB 40), zi G q_14 96 (gPf tW 33)] H := ⟨hP, hD⟩
    have hP := hz9.1
    have hD := hz9.2
    refine lv_dup hx hb dX6_init_555 rfl ?_
    refine lv_bipush (v := 33) hx hb dX6_init_556 (by decide +kernel) ?_
    refine lv_bipush (v := 111) hx hb dX6_init_558 (by decide +kernel) ?_
    refine g_iastP (D := G.1) hx hb hK hP hD hS 14 0 rfl rfl (i := 33) (x := 111) (k := 33) (t := tW) (by decide +kernel) (by decide +kernel) (gIn (by decide +kernel)) dX6_init_560 (fun H locs hP hD hS => ?_)
    have hz9 : gPD G A [zo6q2 h0 0 q_1 q_2 q_3 0 q_4 q_5 0 q_6 q_7 0 0 0 q_8 q_9 q_10 q_11 q_12 q_13 0 0 0 0 0 0 0 0 0 0 0 0 0, zi G q_1 6 (fun _ => 0), zi G q_2 6 (fun _ => 0), zi G q_3 12 (fun _ => 0), zi G q_4 12 (fun _ => 0), zi G q_5 160 (fun _ => 0), zi G q_6 1200 (fun _ => 0), zi G q_7 24 (fun _ => 0), zi G q_8 24 (fun _ => 0), zi G q_9 3 (fun _ => 0), zi G q_10 4 (upd (upd (upd (upd (fun _ => 0) 0 (-1)) 1 (-1)) 2 (-1)) 3 (-1)), zi G q_11 4 (fun _ => 0), zi G q_12 160 (fun _ => 0), zi G q_13 40 (gPf tB 40), zi G q_14 96 (gPf tW 34)] H := ⟨hP, hD⟩
    have hP := hz9.1
    have hD := hz9.2
    refine lv_dup hx hb dX6_init_561 rfl ?_
    refine lv_bipush (v := 34) hx hb dX6_init_562 (by decide +kernel) ?_
    refine lv_bipush (v := 117) hx hb dX6_init_564 (by decide +kernel) ?_
    refine g_iastP (D := G.1) hx hb hK hP hD hS 14 0 rfl rfl (i := 34) (x := 117) (k := 34) (t := tW) (by decide +kernel) (by decide +kernel) (gIn (by decide +kernel)) dX6_init_566 (fun H locs hP hD hS => ?_)
    have hz9 : gPD G A [zo6q2 h0 0 q_1 q_2 q_3 0 q_4 q_5 0 q_6 q_7 0 0 0 q_8 q_9 q_10 q_11 q_12 q_13 0 0 0 0 0 0 0 0 0 0 0 0 0, zi G q_1 6 (fun _ => 0), zi G q_2 6 (fun _ => 0), zi G q_3 12 (fun _ => 0), zi G q_4 12 (fun _ => 0), zi G q_5 160 (fun _ => 0), zi G q_6 1200 (fun _ => 0), zi G q_7 24 (fun _ => 0), zi G q_8 24 (fun _ => 0), zi G q_9 3 (fun _ => 0), zi G q_10 4 (upd (upd (upd (upd (fun _ => 0) 0 (-1)) 1 (-1)) 2 (-1)) 3 (-1)), zi G q_11 4 (fun _ => 0), zi G q_12 160 (fun _ => 0), zi G q_13 40 (gPf tB 40), zi G q_14 96 (gPf tW 35)] H := ⟨hP, hD⟩
    have hP := hz9.1
    have hD := hz9.2
    refine lv_dup hx hb dX6_init_567 rfl ?_
    refine lv_bipush (v := 35) hx hb dX6_init_568 (by decide +kernel) ?_
    refine lv_bipush (v := 110) hx hb dX6_init_570 (by decide +kernel) ?_
    refine g_iastP (D := G.1) hx hb hK hP hD hS 14 0 rfl rfl (i := 35) (x := 110) (k := 35) (t := tW) (by decide +kernel) (by decide +kernel) (gIn (by decide +kernel)) dX6_init_572 (fun H locs hP hD hS => ?_)
    have hz9 : gPD G A [zo6q2 h0 0 q_1 q_2 q_3 0 q_4 q_5 0 q_6 q_7 0 0 0 q_8 q_9 q_10 q_11 q_12 q_13 0 0 0 0 0 0 0 0 0 0 0 0 0, zi G q_1 6 (fun _ => 0), zi G q_2 6 (fun _ => 0), zi G q_3 12 (fun _ => 0), zi G q_4 12 (fun _ => 0), zi G q_5 160 (fun _ => 0), zi G q_6 1200 (fun _ => 0), zi G q_7 24 (fun _ => 0), zi G q_8 24 (fun _ => 0), zi G q_9 3 (fun _ => 0), zi G q_10 4 (upd (upd (upd (upd (fun _ => 0) 0 (-1)) 1 (-1)) 2 (-1)) 3 (-1)), zi G q_11 4 (fun _ => 0), zi G q_12 160 (fun _ => 0), zi G q_13 40 (gPf tB 40), zi G q_14 96 (gPf tW 36)] H := ⟨hP, hD⟩
    have hP := hz9.1
    have hD := hz9.2
    refine lv_dup hx hb dX6_init_573 rfl ?_
    refine lv_bipush (v := 36) hx hb dX6_init_574 (by decide +kernel) ?_
    refine lv_bipush (v := 100) hx hb dX6_init_576 (by decide +kernel) ?_
    refine g_iastP (D := G.1) hx hb hK hP hD hS 14 0 rfl rfl (i := 36) (x := 100) (k := 36) (t := tW) (by decide +kernel) (by decide +kernel) (gIn (by decide +kernel)) dX6_init_578 (fun H locs hP hD hS => ?_)
    have hz9 : gPD G A [zo6q2 h0 0 q_1 q_2 q_3 0 q_4 q_5 0 q_6 q_7 0 0 0 q_8 q_9 q_10 q_11 q_12 q_13 0 0 0 0 0 0 0 0 0 0 0 0 0, zi G q_1 6 (fun _ => 0), zi G q_2 6 (fun _ => 0), zi G q_3 12 (fun _ => 0), zi G q_4 12 (fun _ => 0), zi G q_5 160 (fun _ => 0), zi G q_6 1200 (fun _ => 0), zi G q_7 24 (fun _ => 0), zi G q_8 24 (fun _ => 0), zi G q_9 3 (fun _ => 0), zi G q_10 4 (upd (upd (upd (upd (fun _ => 0) 0 (-1)) 1 (-1)) 2 (-1)) 3 (-1)), zi G q_11 4 (fun _ => 0), zi G q_12 160 (fun _ => 0), zi G q_13 40 (gPf tB 40), zi G q_14 96 (gPf tW 37)] H := ⟨hP, hD⟩
    have hP := hz9.1
    have hD := hz9.2
    refine lv_dup hx hb dX6_init_579 rfl ?_
    refine lv_bipush (v := 37) hx hb dX6_init_580 (by decide +kernel) ?_
    refine lv_bipush (v := 32) hx hb dX6_init_582 (by decide +kernel) ?_
    refine g_iastP (D := G.1) hx hb hK hP hD hS 14 0 rfl rfl (i := 37) (x := 32) (k := 37) (t := tW) (by decide +kernel) (by decide +kernel) (gIn (by decide +kernel)) dX6_init_584 (fun H locs hP hD hS => ?_)
    have hz9 : gPD G A [zo6q2 h0 0 q_1 q_2 q_3 0 q_4 q_5 0 q_6 q_7 0 0 0 q_8 q_9 q_10 q_11 q_12 q_13 0 0 0 0 0 0 0 0 0 0 0 0 0, zi G q_1 6 (fun _ => 0), zi G q_2 6 (fun _ => 0), zi G q_3 12 (fun _ => 0), zi G q_4 12 (fun _ => 0), zi G q_5 160 (fun _ => 0), zi G q_6 1200 (fun _ => 0), zi G q_7 24 (fun _ => 0), zi G q_8 24 (fun _ => 0), zi G q_9 3 (fun _ => 0), zi G q_10 4 (upd (upd (upd (upd (fun _ => 0) 0 (-1)) 1 (-1)) 2 (-1)) 3 (-1)), zi G q_11 4 (fun _ => 0), zi G q_12 160 (fun _ => 0), zi G q_13 40 (gPf tB 40), zi G q_14 96 (gPf tW 38)] H := ⟨hP, hD⟩
    have hP := hz9.1
    have hD := hz9.2
    refine lv_dup hx hb dX6_init_585 rfl ?_
    refine lv_bipush (v := 38) hx hb dX6_init_586 (by decide +kernel) ?_
    refine lv_bipush (v := 32) hx hb dX6_init_588 (by decide +kernel) ?_
    refine g_iastP (D := G.1) hx hb hK hP hD hS 14 0 rfl rfl (i := 38) (x := 32) (k := 38) (t := tW) (by decide +kernel) (by decide +kernel) (gIn (by decide +kernel)) dX6_init_590 (fun H locs hP hD hS => ?_)
    have hz9 : gPD G A [zo6q2 h0 0 q_1 q_2 q_3 0 q_4 q_5 0 q_6 q_7 0 0 0 q_8 q_9 q_10 q_11 q_12 q_13 0 0 0 0 0 0 0 0 0 0 0 0 0, zi G q_1 6 (fun _ => 0), zi G q_2 6 (fun _ => 0), zi G q_3 12 (fun _ => 0), zi G q_4 12 (fun _ => 0), zi G q_5 160 (fun _ => 0), zi G q_6 1200 (fun _ => 0), zi G q_7 24 (fun _ => 0), zi G q_8 24 (fun _ => 0), zi G q_9 3 (fun _ => 0), zi G q_10 4 (upd (upd (upd (upd (fun _ => 0) 0 (-1)) 1 (-1)) 2 (-1)) 3 (-1)), zi G q_11 4 (fun _ => 0), zi G q_12 160 (fun _ => 0), zi G q_13 40 (gPf tB 40), zi G q_14 96 (gPf tW 39)] H := ⟨hP, hD⟩
    have hP := hz9.1
    have hD := hz9.2
    refine lv_dup hx hb dX6_init_591 rfl ?_
    refine lv_bipush (v := 39) hx hb dX6_init_592 (by decide +kernel) ?_
    refine lv_bipush (v := 32) hx hb dX6_init_594 (by decide +kernel) ?_
    refine g_iastP (D := G.1) hx hb hK hP hD hS 14 0 rfl rfl (i := 39) (x := 32) (k := 39) (t := tW) (by decide +kernel) (by decide +kernel) (gIn (by decide +kernel)) dX6_init_596 (fun H locs hP hD hS => ?_)
    have hz9 : gPD G A [zo6q2 h0 0 q_1 q_2 q_3 0 q_4 q_5 0 q_6 q_7 0 0 0 q_8 q_9 q_10 q_11 q_12 q_13 0 0 0 0 0 0 0 0 0 0 0 0 0, zi G q_1 6 (fun _ => 0), zi G q_2 6 (fun _ => 0), zi G q_3 12 (fun _ => 0), zi G q_4 12 (fun _ => 0), zi G q_5 160 (fun _ => 0), zi G q_6 1200 (fun _ => 0), zi G q_7 24 (fun _ => 0), zi G q_8 24 (fun _ => 0), zi G q_9 3 (fun _ => 0), zi G q_10 4 (upd (upd (upd (upd (fun _ => 0) 0 (-1)) 1 (-1)) 2 (-1)) 3 (-1)), zi G q_11 4 (fun _ => 0), zi G q_12 160 (fun _ => 0), zi G q_13 40 (gPf tB 40), zi G q_14 96 (gPf tW 40)] H := ⟨hP, hD⟩
    have hP := hz9.1
    have hD := hz9.2
    exact cut_597 q_1 q_2 q_3 q_4 q_5 q_6 q_7 q_8 q_9 q_10 q_11 q_12 q_13 q_14 _ _ hP hD hS _ hl
  have cut_501 : ∀ (q_1 q_2 q_3 q_4 q_5 q_6 q_7 q_8 q_9 q_10 q_11 q_12 q_13 q_14 : Nat) (H : Heap) (locs : List Loc), va_P G.1 vwCl [zo6q2 h0 0 q_1 q_2 q_3 0 q_4 q_5 0 q_6 q_7 0 0 0 q_8 q_9 q_10 q_11 q_12 q_13 0 0 0 0 0 0 0 0 0 0 0 0 0, zi G q_1 6 (fun _ => 0), zi G q_2 6 (fun _ => 0), zi G q_3 12 (fun _ => 0), zi G q_4 12 (fun _ => 0), zi G q_5 160 (fun _ => 0), zi G q_6 1200 (fun _ => 0), zi G q_7 24 (fun _ => 0), zi G q_8 24 (fun _ => 0), zi G q_9 3 (fun _ => 0), zi G q_10 4 (upd (upd (upd (upd (fun _ => 0) 0 (-1)) 1 (-1)) 2 (-1)) 3 (-1)), zi G q_11 4 (fun _ => 0), zi G q_12 160 (fun _ => 0), zi G q_13 40 (gPf tB 40), zi G q_14 96 (gPf tW 24)] H → va_D A [zo6q2 h0 0 q_1 q_2 q_3 0 q_4 q_5 0 q_6 q_7 0 0 0 q_8 q_9 q_10 q_11 q_12 q_13 0 0 0 0 0 0 0 0 0 0 0 0 0, zi G q_1 6 (fun _ => 0), zi G q_2 6 (fun _ => 0), zi G q_3 12 (fun _ => 0), zi G q_4 12 (fun _ => 0), zi G q_5 160 (fun _ => 0), zi G q_6 1200 (fun _ => 0), zi G q_7 24 (fun _ => 0), zi G q_8 24 (fun _ => 0), zi G q_9 3 (fun _ => 0), zi G q_10 4 (upd (upd (upd (upd (fun _ => 0) 0 (-1)) 1 (-1)) 2 (-1)) 3 (-1)), zi G q_11 4 (fun _ => 0), zi G q_12 160 (fun _ => 0), zi G q_13 40 (gPf tB 40), zi G q_14 96 (gPf tW 24)] → va_S A s.heap H locs → ∀ ls : Array Slot, lv_has ls 2 [zR 0 h0] → W p l e (headSpec wsX6_init ({ frames := 5, cells := 23, slots := 2439, locals := 109 })).room s m ([.ref h0] : List Value).toArray below meth c H locs 14 1751 (MQ below (q_X6_init_g G h0 A) ([.ref h0] : List Value).toArray s 23 2439 A) (F0 m 501 ls [.ref q_14, .ref h0]) := by
    as_aux_lemma =>
    intro q_1 q_2 q_3 q_4 q_5 q_6 q_7 q_8 q_9 q_10 q_11 q_12 q_13 q_14 H locs hP hD hS ls hl
    refine lv_dup hx hb dX6_init_501 rfl ?_
    refine lv_bipush (v := 24) hx hb dX6_init_502 (by decide +kernel) ?_
    refine lv_bipush (v := 115) hx hb dX6_init_504 (by decide +kernel) ?_
    refine g_iastP (D := G.1) hx hb hK hP hD hS 14 0 rfl rfl (i := 24) (x := 115) (k := 24) (t := tW) (by decide +kernel) (by decide +kernel) (gIn (by decide +kernel)) dX6_init_506 (fun H locs hP hD hS => ?_)
    have hz9 : gPD G A [zo6q2 h0 0 q_1 q_2 q_3 0 q_4 q_5 0 q_6 q_7 0 0 0 q_8 q_9 q_10 q_11 q_12 q_13 0 0 0 0 0 0 0 0 0 0 0 0 0, zi G q_1 6 (fun _ => 0), zi G q_2 6 (fun _ => 0), zi G q_3 12 (fun _ => 0), zi G q_4 12 (fun _ => 0), zi G q_5 160 (fun _ => 0), zi G q_6 1200 (fun _ => 0), zi G q_7 24 (fun _ => 0), zi G q_8 24 (fun _ => 0), zi G q_9 3 (fun _ => 0), zi G q_10 4 (upd (upd (upd (upd (fun _ => 0) 0 (-1)) 1 (-1)) 2 (-1)) 3 (-1)), zi G q_11 4 (fun _ => 0), zi G q_12 160 (fun _ => 0), zi G q_13 40 (gPf tB 40), zi G q_14 96 (gPf tW 25)] H := ⟨hP, hD⟩
    have hP := hz9.1
    have hD := hz9.2
    refine lv_dup hx hb dX6_init_507 rfl ?_
    refine lv_bipush (v := 25) hx hb dX6_init_508 (by decide +kernel) ?_
    refine lv_bipush (v := 105) hx hb dX6_init_510 (by decide +kernel) ?_
    refine g_iastP (D := G.1) hx hb hK hP hD hS 14 0 rfl rfl (i := 25) (x := 105) (k := 25) (t := tW) (by decide +kernel) (by decide +kernel) (gIn (by decide +kernel)) dX6_init_512 (fun H locs hP hD hS => ?_)
    have hz9 : gPD G A [zo6q2 h0 0 q_1 q_2 q_3 0 q_4 q_5 0 q_6 q_7 0 0 0 q_8 q_9 q_10 q_11 q_12 q_13 0 0 0 0 0 0 0 0 0 0 0 0 0, zi G q_1 6 (fun _ => 0), zi G q_2 6 (fun _ => 0), zi G q_3 12 (fun _ => 0), zi G q_4 12 (fun _ => 0), zi G q_5 160 (fun _ => 0), zi G q_6 1200 (fun _ => 0), zi G q_7 24 (fun _ => 0), zi G q_8 24 (fun _ => 0), zi G q_9 3 (fun _ => 0), zi G q_10 4 (upd (upd (upd (upd (fun _ => 0) 0 (-1)) 1 (-1)) 2 (-1)) 3 (-1)), zi G q_11 4 (fun _ => 0), zi G q_12 160 (fun _ => 0), zi G q_13 40 (gPf tB 40), zi G q_14 96 (gPf tW 26)] H := ⟨hP, hD⟩
    have hP := hz9.1
    have hD := hz9.2
    refine lv_dup hx hb dX6_init_513 rfl ?_
    refine lv_bipush (v := 26) hx hb dX6_init_514 (by decide +kernel) ?_
    refine lv_bipush (v := 122) hx hb dX6_init_516 (by decide +kernel) ?_
    refine g_iastP (D := G.1) hx hb hK hP hD hS 14 0 rfl rfl (i := 26) (x := 122) (k := 26) (t := tW) (by decide +kernel) (by decide +kernel) (gIn (by decide +kernel)) dX6_init_518 (fun H locs hP hD hS => ?_)
    have hz9 : gPD G A [zo6q2 h0 0 q_1 q_2 q_3 0 q_4 q_5 0 q_6 q_7 0 0 0 q_8 q_9 q_10 q_11 q_12 q_13 0 0 0 0 0 0 0 0 0 0 0 0 0, zi G q_1 6 (fun _ => 0), zi G q_2 6 (fun _ => 0), zi G q_3 12 (fun _ => 0), zi G q_4 12 (fun _ => 0), zi G q_5 160 (fun _ => 0), zi G q_6 1200 (fun _ => 0), zi G q_7 24 (fun _ => 0), zi G q_8 24 (fun _ => 0), zi G q_9 3 (fun _ => 0), zi G q_10 4 (upd (upd (upd (upd (fun _ => 0) 0 (-1)) 1 (-1)) 2 (-1)) 3 (-1)), zi G q_11 4 (fun _ => 0), zi G q_12 160 (fun _ => 0), zi G q_13 40 (gPf tB 40), zi G q_14 96 (gPf tW 27)] H := ⟨hP, hD⟩
    have hP := hz9.1
    have hD := hz9.2
    refine lv_dup hx hb dX6_init_519 rfl ?_
    refine lv_bipush (v := 27) hx hb dX6_init_520 (by decide +kernel) ?_
    refine lv_bipush (v := 101) hx hb dX6_init_522 (by decide +kernel) ?_
    refine g_iastP (D := G.1) hx hb hK hP hD hS 14 0 rfl rfl (i := 27) (x := 101) (k := 27) (t := tW) (by decide +kernel) (by decide +kernel) (gIn (by decide +kernel)) dX6_init_524 (fun H locs hP hD hS => ?_)
    have hz9 : gPD G A [zo6q2 h0 0 q_1 q_2 q_3 0 q_4 q_5 0 q_6 q_7 0 0 0 q_8 q_9 q_10 q_11 q_12 q_13 0 0 0 0 0 0 0 0 0 0 0 0 0, zi G q_1 6 (fun _ => 0), zi G q_2 6 (fun _ => 0), zi G q_3 12 (fun _ => 0), zi G q_4 12 (fun _ => 0), zi G q_5 160 (fun _ => 0), zi G q_6 1200 (fun _ => 0), zi G q_7 24 (fun _ => 0), zi G q_8 24 (fun _ => 0), zi G q_9 3 (fun _ => 0), zi G q_10 4 (upd (upd (upd (upd (fun _ => 0) 0 (-1)) 1 (-1)) 2 (-1)) 3 (-1)), zi G q_11 4 (fun _ => 0), zi G q_12 160 (fun _ => 0), zi G q_13 40 (gPf tB 40), zi G q_14 96 (gPf tW 28)] H := ⟨hP, hD⟩
    have hP := hz9.1
    have hD := hz9.2
    refine lv_dup hx hb dX6_init_525 rfl ?_
    refine lv_bipush (v := 28) hx hb dX6_init_526 (by decide +kernel) ?_
    refine lv_bipush (v := 32) hx hb dX6_init_528 (by decide +kernel) ?_
    refine g_iastP (D := G.1) hx hb hK hP hD hS 14 0 rfl rfl (i := 28) (x := 32) (k := 28) (t := tW) (by decide +kernel) (by decide +kernel) (gIn (by decide +kernel)) dX6_init_530 (fun H locs hP hD hS => ?_)
    have hz9 : gPD G A [zo6q2 h0 0 q_1 q_2 q_3 0 q_4 q_5 0 q_6 q_7 0 0 0 q_8 q_9 q_10 q_11 q_12 q_13 0 0 0 0 0 0 0 0 0 0 0 0 0, zi G q_1 6 (fun _ => 0), zi G q_2 6 (fun _ => 0), zi G q_3 12 (fun _ => 0), zi G q_4 12 (fun _ => 0), zi G q_5 160 (fun _ => 0), zi G q_6 1200 (fun _ => 0), zi G q_7 24 (fun _ => 0), zi G q_8 24 (fun _ => 0), zi G q_9 3 (fun _ => 0), zi G q_10 4 (upd (upd (upd (upd (fun _ => 0) 0 (-1)) 1 (-1)) 2 (-1)) 3 (-1)), zi G q_11 4 (fun _ => 0), zi G q_12 160 (fun _ => 0), zi G q_13 40 (gPf tB 40), zi G q_14 96 (gPf tW 29)] H := ⟨hP, hD⟩
    have hP := hz9.1
    have hD := hz9.2
    refine lv_dup hx hb dX6_init_531 rfl ?_
    refine lv_bipush (v := 29) hx hb dX6_init_532 (by decide +kernel) ?_
    refine lv_bipush (v := 32) hx hb dX6_init_534 (by decide +kernel) ?_
    refine g_iastP (D := G.1) hx hb hK hP hD hS 14 0 rfl rfl (i := 29) (x := 32) (k := 29) (t := tW) (by decide +kernel) (by decide +kernel) (gIn (by decide +kernel)) dX6_init_536 (fun H locs hP hD hS => ?_)
    have hz9 : gPD G A [zo6q2 h0 0 q_1 q_2 q_3 0 q_4 q_5 0 q_6 q_7 0 0 0 q_8 q_9 q_10 q_11 q_12 q_13 0 0 0 0 0 0 0 0 0 0 0 0 0, zi G q_1 6 (fun _ => 0), zi G q_2 6 (fun _ => 0), zi G q_3 12 (fun _ => 0), zi G q_4 12 (fun _ => 0), zi G q_5 160 (fun _ => 0), zi G q_6 1200 (fun _ => 0), zi G q_7 24 (fun _ => 0), zi G q_8 24 (fun _ => 0), zi G q_9 3 (fun _ => 0), zi G q_10 4 (upd (upd (upd (upd (fun _ => 0) 0 (-1)) 1 (-1)) 2 (-1)) 3 (-1)), zi G q_11 4 (fun _ => 0), zi G q_12 160 (fun _ => 0), zi G q_13 40 (gPf tB 40), zi G q_14 96 (gPf tW 30)] H := ⟨hP, hD⟩
    have hP := hz9.1
    have hD := hz9.2
    refine lv_dup hx hb dX6_init_537 rfl ?_
    refine lv_bipush (v := 30) hx hb dX6_init_538 (by decide +kernel) ?_
    refine lv_bipush (v := 32) hx hb dX6_init_540 (by decide +kernel) ?_
    refine g_iastP (D := G.1) hx hb hK hP hD hS 14 0 rfl rfl (i := 30) (x := 32) (k := 30) (t := tW) (by decide +kernel) (by decide +kernel) (gIn (by decide +kernel)) dX6_init_542 (fun H locs hP hD hS => ?_)
    have hz9 : gPD G A [zo6q2 h0 0 q_1 q_2 q_3 0 q_4 q_5 0 q_6 q_7 0 0 0 q_8 q_9 q_10 q_11 q_12 q_13 0 0 0 0 0 0 0 0 0 0 0 0 0, zi G q_1 6 (fun _ => 0), zi G q_2 6 (fun _ => 0), zi G q_3 12 (fun _ => 0), zi G q_4 12 (fun _ => 0), zi G q_5 160 (fun _ => 0), zi G q_6 1200 (fun _ => 0), zi G q_7 24 (fun _ => 0), zi G q_8 24 (fun _ => 0), zi G q_9 3 (fun _ => 0), zi G q_10 4 (upd (upd (upd (upd (fun _ => 0) 0 (-1)) 1 (-1)) 2 (-1)) 3 (-1)), zi G q_11 4 (fun _ => 0), zi G q_12 160 (fun _ => 0), zi G q_13 40 (gPf tB 40), zi G q_14 96 (gPf tW 31)] H := ⟨hP, hD⟩
    have hP := hz9.1
    have hD := hz9.2
    refine lv_dup hx hb dX6_init_543 rfl ?_
    refine lv_bipush (v := 31) hx hb dX6_init_544 (by decide +kernel) ?_
    refine lv_bipush (v := 32) hx hb dX6_init_546 (by decide +kernel) ?_
    refine g_iastP (D := G.1) hx hb hK hP hD hS 14 0 rfl rfl (i := 31) (x := 32) (k := 31) (t := tW) (by decide +kernel) (by decide +kernel) (gIn (by decide +kernel)) dX6_init_548 (fun H locs hP hD hS => ?_)
    have hz9 : gPD G A [zo6q2 h0 0 q_1 q_2 q_3 0 q_4 q_5 0 q_6 q_7 0 0 0 q_8 q_9 q_10 q_11 q_12 q_13 0 0 0 0 0 0 0 0 0 0 0 0 0, zi G q_1 6 (fun _ => 0), zi G q_2 6 (fun _ => 0), zi G q_3 12 (fun _ => 0), zi G q_4 12 (fun _ => 0), zi G q_5 160 (fun _ => 0), zi G q_6 1200 (fun _ => 0), zi G q_7 24 (fun _ => 0), zi G q_8 24 (fun _ => 0), zi G q_9 3 (fun _ => 0), zi G q_10 4 (upd (upd (upd (upd (fun _ => 0) 0 (-1)) 1 (-1)) 2 (-1)) 3 (-1)), zi G q_11 4 (fun _ => 0), zi G q_12 160 (fun _ => 0), zi G q_13 40 (gPf tB 40), zi G q_14 96 (gPf tW 32)] H := ⟨hP, hD⟩
    have hP := hz9.1
    have hD := hz9.2
    exact cut_549 q_1 q_2 q_3 q_4 q_5 q_6 q_7 q_8 q_9 q_10 q_11 q_12 q_13 q_14 _ _ hP hD hS _ hl
  have cut_453 : ∀ (q_1 q_2 q_3 q_4 q_5 q_6 q_7 q_8 q_9 q_10 q_11 q_12 q_13 q_14 : Nat) (H : Heap) (locs : List Loc), va_P G.1 vwCl [zo6q2 h0 0 q_1 q_2 q_3 0 q_4 q_5 0 q_6 q_7 0 0 0 q_8 q_9 q_10 q_11 q_12 q_13 0 0 0 0 0 0 0 0 0 0 0 0 0, zi G q_1 6 (fun _ => 0), zi G q_2 6 (fun _ => 0), zi G q_3 12 (fun _ => 0), zi G q_4 12 (fun _ => 0), zi G q_5 160 (fun _ => 0), zi G q_6 1200 (fun _ => 0), zi G q_7 24 (fun _ => 0), zi G q_8 24 (fun _ => 0), zi G q_9 3 (fun _ => 0), zi G q_10 4 (upd (upd (upd (upd (fun _ => 0) 0 (-1)) 1 (-1)) 2 (-1)) 3 (-1)), zi G q_11 4 (fun _ => 0), zi G q_12 160 (fun _ => 0), zi G q_13 40 (gPf tB 40), zi G q_14 96 (gPf tW 16)] H → va_D A [zo6q2 h0 0 q_1 q_2 q_3 0 q_4 q_5 0 q_6 q_7 0 0 0 q_8 q_9 q_10 q_11 q_12 q_13 0 0 0 0 0 0 0 0 0 0 0 0 0, zi G q_1 6 (fun _ => 0), zi G q_2 6 (fun _ => 0), zi G q_3 12 (fun _ => 0), zi G q_4 12 (fun _ => 0), zi G q_5 160 (fun _ => 0), zi G q_6 1200 (fun _ => 0), zi G q_7 24 (fun _ => 0), zi G q_8 24 (fun _ => 0), zi G q_9 3 (fun _ => 0), zi G q_10 4 (upd (upd (upd (upd (fun _ => 0) 0 (-1)) 1 (-1)) 2 (-1)) 3 (-1)), zi G q_11 4 (fun _ => 0), zi G q_12 160 (fun _ => 0), zi G q_13 40 (gPf tB 40), zi G q_14 96 (gPf tW 16)] → va_S A s.heap H locs → ∀ ls : Array Slot, lv_has ls 2 [zR 0 h0] → W p l e (headSpec wsX6_init ({ frames := 5, cells := 23, slots := 2439, locals := 109 })).room s m ([.ref h0] : List Value).toArray below meth c H locs 14 1751 (MQ below (q_X6_init_g G h0 A) ([.ref h0] : List Value).toArray s 23 2439 A) (F0 m 453 ls [.ref q_14, .ref h0]) := by
    as_aux_lemma =>
    intro q_1 q_2 q_3 q_4 q_5 q_6 q_7 q_8 q_9 q_10 q_11 q_12 q_13 q_14 H locs hP hD hS ls hl
    refine lv_dup hx hb dX6_init_453 rfl ?_
    refine lv_bipush (v := 16) hx hb dX6_init_454 (by decide +kernel) ?_
    refine lv_bipush (v := 98) hx hb dX6_init_456 (by decide +kernel) ?_
    refine g_iastP (D := G.1) hx hb hK hP hD hS 14 0 rfl rfl (i := 16) (x := 98) (k := 16) (t := tW) (by decide +kernel) (by decide +kernel) (gIn (by decide +kernel)) dX6_init_458 (fun H locs hP hD hS => ?_)
    have hz9 : gPD G A [zo6q2 h0 0 q_1 q_2 q_3 0 q_4 q_5 0 q_6 q_7 0 0 0 q_8 q_9 q_10 q_11 q_12 q_13 0 0 0 0 0 0 0 0 0 0 0 0 0, zi G q_1 6 (fun _ => 0), zi G q_2 6 (fun _ => 0), zi G q_3 12 (fun _ => 0), zi G q_4 12 (fun _ => 0), zi G q_5 160 (fun _ => 0), zi G q_6 1200 (fun _ => 0), zi G q_7 24 (fun _ => 0), zi G q_8 24 (fun _ => 0), zi G q_9 3 (fun _ => 0), zi G q_10 4 (upd (upd (upd (upd (fun _ => 0) 0 (-1)) 1 (-1)) 2 (-1)) 3 (-1)), zi G q_11 4 (fun _ => 0), zi G q_12 160 (fun _ => 0), zi G q_13 40 (gPf tB 40), zi G q_14 96 (gPf tW 17)] H := ⟨hP, hD⟩
    have hP := hz9.1
    have hD := hz9.2
    refine lv_dup hx hb dX6_init_459 rfl ?_
    refine lv_bipush (v := 17) hx hb dX6_init_460 (by decide +kernel) ?_
    refine lv_bipush (v := 97) hx hb dX6_init_462 (by decide +kernel) ?_
    refine g_iastP (D := G.1) hx hb hK hP hD hS 14 0 rfl rfl (i := 17) (x := 97) (k := 17) (t := tW) (by decide +kernel) (by decide +kernel) (gIn (by decide +kernel)) dX6_init_464 (fun H locs hP hD hS => ?_)
    have hz9 : gPD G A [zo6q2 h0 0 q_1 q_2 q_3 0 q_4 q_5 0 q_6 q_7 0 0 0 q_8 q_9 q_10 q_11 q_12 q_13 0 0 0 0 0 0 0 0 0 0 0 0 0, zi G q_1 6 (fun _ => 0), zi G q_2 6 (fun _ => 0), zi G q_3 12 (fun _ => 0), zi G q_4 12 (fun _ => 0), zi G q_5 160 (fun _ => 0), zi G q_6 1200 (fun _ => 0), zi G q_7 24 (fun _ => 0), zi G q_8 24 (fun _ => 0), zi G q_9 3 (fun _ => 0), zi G q_10 4 (upd (upd (upd (upd (fun _ => 0) 0 (-1)) 1 (-1)) 2 (-1)) 3 (-1)), zi G q_11 4 (fun _ => 0), zi G q_12 160 (fun _ => 0), zi G q_13 40 (gPf tB 40), zi G q_14 96 (gPf tW 18)] H := ⟨hP, hD⟩
    have hP := hz9.1
    have hD := hz9.2
    refine lv_dup hx hb dX6_init_465 rfl ?_
    refine lv_bipush (v := 18) hx hb dX6_init_466 (by decide +kernel) ?_
    refine lv_bipush (v := 114) hx hb dX6_init_468 (by decide +kernel) ?_
    refine g_iastP (D := G.1) hx hb hK hP hD hS 14 0 rfl rfl (i := 18) (x := 114) (k := 18) (t := tW) (by decide +kernel) (by decide +kernel) (gIn (by decide +kernel)) dX6_init_470 (fun H locs hP hD hS => ?_)
    have hz9 : gPD G A [zo6q2 h0 0 q_1 q_2 q_3 0 q_4 q_5 0 q_6 q_7 0 0 0 q_8 q_9 q_10 q_11 q_12 q_13 0 0 0 0 0 0 0 0 0 0 0 0 0, zi G q_1 6 (fun _ => 0), zi G q_2 6 (fun _ => 0), zi G q_3 12 (fun _ => 0), zi G q_4 12 (fun _ => 0), zi G q_5 160 (fun _ => 0), zi G q_6 1200 (fun _ => 0), zi G q_7 24 (fun _ => 0), zi G q_8 24 (fun _ => 0), zi G q_9 3 (fun _ => 0), zi G q_10 4 (upd (upd (upd (upd (fun _ => 0) 0 (-1)) 1 (-1)) 2 (-1)) 3 (-1)), zi G q_11 4 (fun _ => 0), zi G q_12 160 (fun _ => 0), zi G q_13 40 (gPf tB 40), zi G q_14 96 (gPf tW 19)] H := ⟨hP, hD⟩
    have hP := hz9.1
    have hD := hz9.2
    refine lv_dup hx hb dX6_init_471 rfl ?_
    refine lv_bipush (v := 19) hx hb dX6_init_472 (by decide +kernel) ?_
    refine lv_bipush (v := 115) hx hb dX6_init_474 (by decide +kernel) ?_
    refine g_iastP (D := G.1) hx hb hK hP hD hS 14 0 rfl rfl (i := 19) (x := 115) (k := 19) (t := tW) (by decide +kernel) (by decide +kernel) (gIn (by decide +kernel)) dX6_init_476 (fun H locs hP hD hS => ?_)
    have hz9 : gPD G A [zo6q2 h0 0 q_1 q_2 q_3 0 q_4 q_5 0 q_6 q_7 0 0 0 q_8 q_9 q_10 q_11 q_12 q_13 0 0 0 0 0 0 0 0 0 0 0 0 0, zi G q_1 6 (fun _ => 0), zi G q_2 6 (fun _ => 0), zi G q_3 12 (fun _ => 0), zi G q_4 12 (fun _ => 0), zi G q_5 160 (fun _ => 0), zi G q_6 1200 (fun _ => 0), zi G q_7 24 (fun _ => 0), zi G q_8 24 (fun _ => 0), zi G q_9 3 (fun _ => 0), zi G q_10 4 (upd (upd (upd (upd (fun _ => 0) 0 (-1)) 1 (-1)) 2 (-1)) 3 (-1)), zi G q_11 4 (fun _ => 0), zi G q_12 160 (fun _ => 0), zi G q_13 40 (gPf tB 40), zi G q_14 96 (gPf tW 20)] H := ⟨hP, hD⟩
    have hP := hz9.1
    have hD := hz9.2
    refine lv_dup hx hb dX6_init_477 rfl ?_
    refine lv_bipush (v := 20) hx hb dX6_init_478 (by decide +kernel) ?_
    refine lv_bipush (v := 32) hx hb dX6_init_480 (by decide +kernel) ?_
    refine g_iastP (D := G.1) hx hb hK hP hD hS 14 0 rfl rfl (i := 20) (x := 32) (k := 20) (t := tW) (by decide +kernel) (by decide +kernel) (gIn (by decide +kernel)) dX6_init_482 (fun H locs hP hD hS => ?_)
    have hz9 : gPD G A [zo6q2 h0 0 q_1 q_2 q_3 0 q_4 q_5 0 q_6 q_7 0 0 0 q_8 q_9 q_10 q_11 q_12 q_13 0 0 0 0 0 0 0 0 0 0 0 0 0, zi G q_1 6 (fun _ => 0), zi G q_2 6 (fun _ => 0), zi G q_3 12 (fun _ => 0), zi G q_4 12 (fun _ => 0), zi G q_5 160 (fun _ => 0), zi G q_6 1200 (fun _ => 0), zi G q_7 24 (fun _ => 0), zi G q_8 24 (fun _ => 0), zi G q_9 3 (fun _ => 0), zi G q_10 4 (upd (upd (upd (upd (fun _ => 0) 0 (-1)) 1 (-1)) 2 (-1)) 3 (-1)), zi G q_11 4 (fun _ => 0), zi G q_12 160 (fun _ => 0), zi G q_13 40 (gPf tB 40), zi G q_14 96 (gPf tW 21)] H := ⟨hP, hD⟩
    have hP := hz9.1
    have hD := hz9.2
    refine lv_dup hx hb dX6_init_483 rfl ?_
    refine lv_bipush (v := 21) hx hb dX6_init_484 (by decide +kernel) ?_
    refine lv_bipush (v := 32) hx hb dX6_init_486 (by decide +kernel) ?_
    refine g_iastP (D := G.1) hx hb hK hP hD hS 14 0 rfl rfl (i := 21) (x := 32) (k := 21) (t := tW) (by decide +kernel) (by decide +kernel) (gIn (by decide +kernel)) dX6_init_488 (fun H locs hP hD hS => ?_)
    have hz9 : gPD G A [zo6q2 h0 0 q_1 q_2 q_3 0 q_4 q_5 0 q_6 q_7 0 0 0 q_8 q_9 q_10 q_11 q_12 q_13 0 0 0 0 0 0 0 0 0 0 0 0 0, zi G q_1 6 (fun _ => 0), zi G q_2 6 (fun _ => 0), zi G q_3 12 (fun _ => 0), zi G q_4 12 (fun _ => 0), zi G q_5 160 (fun _ => 0), zi G q_6 1200 (fun _ => 0), zi G q_7 24 (fun _ => 0), zi G q_8 24 (fun _ => 0), zi G q_9 3 (fun _ => 0), zi G q_10 4 (upd (upd (upd (upd (fun _ => 0) 0 (-1)) 1 (-1)) 2 (-1)) 3 (-1)), zi G q_11 4 (fun _ => 0), zi G q_12 160 (fun _ => 0), zi G q_13 40 (gPf tB 40), zi G q_14 96 (gPf tW 22)] H := ⟨hP, hD⟩
    have hP := hz9.1
    have hD := hz9.2
    refine lv_dup hx hb dX6_init_489 rfl ?_
    refine lv_bipush (v := 22) hx hb dX6_init_490 (by decide +kernel) ?_
    refine lv_bipush (v := 32) hx hb dX6_init_492 (by decide +kernel) ?_
    refine g_iastP (D := G.1) hx hb hK hP hD hS 14 0 rfl rfl (i := 22) (x := 32) (k := 22) (t := tW) (by decide +kernel) (by decide +kernel) (gIn (by decide +kernel)) dX6_init_494 (fun H locs hP hD hS => ?_)
    have hz9 : gPD G A [zo6q2 h0 0 q_1 q_2 q_3 0 q_4 q_5 0 q_6 q_7 0 0 0 q_8 q_9 q_10 q_11 q_12 q_13 0 0 0 0 0 0 0 0 0 0 0 0 0, zi G q_1 6 (fun _ => 0), zi G q_2 6 (fun _ => 0), zi G q_3 12 (fun _ => 0), zi G q_4 12 (fun _ => 0), zi G q_5 160 (fun _ => 0), zi G q_6 1200 (fun _ => 0), zi G q_7 24 (fun _ => 0), zi G q_8 24 (fun _ => 0), zi G q_9 3 (fun _ => 0), zi G q_10 4 (upd (upd (upd (upd (fun _ => 0) 0 (-1)) 1 (-1)) 2 (-1)) 3 (-1)), zi G q_11 4 (fun _ => 0), zi G q_12 160 (fun _ => 0), zi G q_13 40 (gPf tB 40), zi G q_14 96 (gPf tW 23)] H := ⟨hP, hD⟩
    have hP := hz9.1
    have hD := hz9.2
    refine lv_dup hx hb dX6_init_495 rfl ?_
    refine lv_bipush (v := 23) hx hb dX6_init_496 (by decide +kernel) ?_
    refine lv_bipush (v := 32) hx hb dX6_init_498 (by decide +kernel) ?_
    refine g_iastP (D := G.1) hx hb hK hP hD hS 14 0 rfl rfl (i := 23) (x := 32) (k := 23) (t := tW) (by decide +kernel) (by decide +kernel) (gIn (by decide +kernel)) dX6_init_500 (fun H locs hP hD hS => ?_)
    have hz9 : gPD G A [zo6q2 h0 0 q_1 q_2 q_3 0 q_4 q_5 0 q_6 q_7 0 0 0 q_8 q_9 q_10 q_11 q_12 q_13 0 0 0 0 0 0 0 0 0 0 0 0 0, zi G q_1 6 (fun _ => 0), zi G q_2 6 (fun _ => 0), zi G q_3 12 (fun _ => 0), zi G q_4 12 (fun _ => 0), zi G q_5 160 (fun _ => 0), zi G q_6 1200 (fun _ => 0), zi G q_7 24 (fun _ => 0), zi G q_8 24 (fun _ => 0), zi G q_9 3 (fun _ => 0), zi G q_10 4 (upd (upd (upd (upd (fun _ => 0) 0 (-1)) 1 (-1)) 2 (-1)) 3 (-1)), zi G q_11 4 (fun _ => 0), zi G q_12 160 (fun _ => 0), zi G q_13 40 (gPf tB 40), zi G q_14 96 (gPf tW 24)] H := ⟨hP, hD⟩
    have hP := hz9.1
    have hD := hz9.2
    exact cut_501 q_1 q_2 q_3 q_4 q_5 q_6 q_7 q_8 q_9 q_10 q_11 q_12 q_13 q_14 _ _ hP hD hS _ hl
  have cut_405 : ∀ (q_1 q_2 q_3 q_4 q_5 q_6 q_7 q_8 q_9 q_10 q_11 q_12 q_13 q_14 : Nat) (H : Heap) (locs : List Loc), va_P G.1 vwCl [zo6q2 h0 0 q_1 q_2 q_3 0 q_4 q_5 0 q_6 q_7 0 0 0 q_8 q_9 q_10 q_11 q_12 q_13 0 0 0 0 0 0 0 0 0 0 0 0 0, zi G q_1 6 (fun _ => 0), zi G q_2 6 (fun _ => 0), zi G q_3 12 (fun _ => 0), zi G q_4 12 (fun _ => 0), zi G q_5 160 (fun _ => 0), zi G q_6 1200 (fun _ => 0), zi G q_7 24 (fun _ => 0), zi G q_8 24 (fun _ => 0), zi G q_9 3 (fun _ => 0), zi G q_10 4 (upd (upd (upd (upd (fun _ => 0) 0 (-1)) 1 (-1)) 2 (-1)) 3 (-1)), zi G q_11 4 (fun _ => 0), zi G q_12 160 (fun _ => 0), zi G q_13 40 (gPf tB 40), zi G q_14 96 (gPf tW 8)] H → va_D A [zo6q2 h0 0 q_1 q_2 q_3 0 q_4 q_5 0 q_6 q_7 0 0 0 q_8 q_9 q_10 q_11 q_12 q_13 0 0 0 0 0 0 0 0 0 0 0 0 0, zi G q_1 6 (fun _ => 0), zi G q_2 6 (fun _ => 0), zi G q_3 12 (fun _ => 0), zi G q_4 12 (fun _ => 0), zi G q_5 160 (fun _ => 0), zi G q_6 1200 (fun _ => 0), zi G q_7 24 (fun _ => 0), zi G q_8 24 (fun _ => 0), zi G q_9 3 (fun _ => 0), zi G q_10 4 (upd (upd (upd (upd (fun _ => 0) 0 (-1)) 1 (-1)) 2 (-1)) 3 (-1)), zi G q_11 4 (fun _ => 0), zi G q_12 160 (fun _ => 0), zi G q_13 40 (gPf tB 40), zi G q_14 96 (gPf tW 8)] → va_S A s.heap H locs → ∀ ls : Array Slot, lv_has ls 2 [zR 0 h0] → W p l e (headSpec wsX6_init ({ frames := 5, cells := 23, slots := 2439, locals := 109 })).room s m ([.ref h0] : List Value).toArray below meth c H locs 14 1751 (MQ below (q_X6_init_g G h0 A) ([.ref h0] : List Value).toArray s 23 2439 A) (F0 m 405 ls [.ref q_14, .ref h0]) := by
    as_aux_lemma =>
    intro q_1 q_2 q_3 q_4 q_5 q_6 q_7 q_8 q_9 q_10 q_11 q_12 q_13 q_14 H locs hP hD hS ls hl
    refine lv_dup hx hb dX6_init_405 rfl ?_
    refine lv_bipush (v := 8) hx hb dX6_init_406 (by decide +kernel) ?_
    refine lv_bipush (v := 119) hx hb dX6_init_408 (by decide +kernel) ?_
    refine g_iastP (D := G.1) hx hb hK hP hD hS 14 0 rfl rfl (i := 8) (x := 119) (k := 8) (t := tW) (by decide +kernel) (by decide +kernel) (gIn (by decide +kernel)) dX6_init_410 (fun H locs hP hD hS => ?_)
    have hz9 : gPD G A [zo6q2 h0 0 q_1 q_2 q_3 0 q_4 q_5 0 q_6 q_7 0 0 0 q_8 q_9 q_10 q_11 q_12 q_13 0 0 0 0 0 0 0 0 0 0 0 0 0, zi G q_1 6 (fun _ => 0), zi G q_2 6 (fun _ => 0), zi G q_3 12 (fun _ => 0), zi G q_4 12 (fun _ => 0), zi G q_5 160 (fun _ => 0), zi G q_6 1200 (fun _ => 0), zi G q_7 24 (fun _ => 0), zi G q_8 24 (fun _ => 0), zi G q_9 3 (fun _ => 0), zi G q_10 4 (upd (upd (upd (upd (fun _ => 0) 0 (-1)) 1 (-1)) 2 (-1)) 3 (-1)), zi G q_11 4 (fun _ => 0), zi G q_12 160 (fun _ => 0), zi G q_13 40 (gPf tB 40), zi G q_14 96 (gPf tW 9)] H := ⟨hP, hD⟩
    have hP := hz9.1
    have hD := hz9.2
    refine lv_dup hx hb dX6_init_411 rfl ?_
    refine lv_bipush (v := 9) hx hb dX6_init_412 (by decide +kernel) ?_
    refine lv_bipush (v := 101) hx hb dX6_init_414 (by decide +kernel) ?_
    refine g_iastP (D := G.1) hx hb hK hP hD hS 14 0 rfl rfl (i := 9) (x := 101) (k := 9) (t := tW) (by decide +kernel) (by decide +kernel) (gIn (by decide +kernel)) dX6_init_416 (fun H locs hP hD hS => ?_)
    have hz9 : gPD G A [zo6q2 h0 0 q_1 q_2 q_3 0 q_4 q_5 0 q_6 q_7 0 0 0 q_8 q_9 q_10 q_11 q_12 q_13 0 0 0 0 0 0 0 0 0 0 0 0 0, zi G q_1 6 (fun _ => 0), zi G q_2 6 (fun _ => 0), zi G q_3 12 (fun _ => 0), zi G q_4 12 (fun _ => 0), zi G q_5 160 (fun _ => 0), zi G q_6 1200 (fun _ => 0), zi G q_7 24 (fun _ => 0), zi G q_8 24 (fun _ => 0), zi G q_9 3 (fun _ => 0), zi G q_10 4 (upd (upd (upd (upd (fun _ => 0) 0 (-1)) 1 (-1)) 2 (-1)) 3 (-1)), zi G q_11 4 (fun _ => 0), zi G q_12 160 (fun _ => 0), zi G q_13 40 (gPf tB 40), zi G q_14 96 (gPf tW 10)] H := ⟨hP, hD⟩
    have hP := hz9.1
    have hD := hz9.2
    refine lv_dup hx hb dX6_init_417 rfl ?_
    refine lv_bipush (v := 10) hx hb dX6_init_418 (by decide +kernel) ?_
    refine lv_bipush (v := 97) hx hb dX6_init_420 (by decide +kernel) ?_
    refine g_iastP (D := G.1) hx hb hK hP hD hS 14 0 rfl rfl (i := 10) (x := 97) (k := 10) (t := tW) (by decide +kernel) (by decide +kernel) (gIn (by decide +kernel)) dX6_init_422 (fun H locs hP hD hS => ?_)
    have hz9 : gPD G A [zo6q2 h0 0 q_1 q_2 q_3 0 q_4 q_5 0 q_6 q_7 0 0 0 q_8 q_9 q_10 q_11 q_12 q_13 0 0 0 0 0 0 0 0 0 0 0 0 0, zi G q_1 6 (fun _ => 0), zi G q_2 6 (fun _ => 0), zi G q_3 12 (fun _ => 0), zi G q_4 12 (fun _ => 0), zi G q_5 160 (fun _ => 0), zi G q_6 1200 (fun _ => 0), zi G q_7 24 (fun _ => 0), zi G q_8 24 (fun _ => 0), zi G q_9 3 (fun _ => 0), zi G q_10 4 (upd (upd (upd (upd (fun _ => 0) 0 (-1)) 1 (-1)) 2 (-1)) 3 (-1)), zi G q_11 4 (fun _ => 0), zi G q_12 160 (fun _ => 0), zi G q_13 40 (gPf tB 40), zi G q_14 96 (gPf tW 11)] H := ⟨hP, hD⟩
    have hP := hz9.1
    have hD := hz9.2
    refine lv_dup hx hb dX6_init_423 rfl ?_
    refine lv_bipush (v := 11) hx hb dX6_init_424 (by decide +kernel) ?_
    refine lv_bipush (v := 114) hx hb dX6_init_426 (by decide +kernel) ?_
    refine g_iastP (D := G.1) hx hb hK hP hD hS 14 0 rfl rfl (i := 11) (x := 114) (k := 11) (t := tW) (by decide +kernel) (by decide +kernel) (gIn (by decide +kernel)) dX6_init_428 (fun H locs hP hD hS => ?_)
    have hz9 : gPD G A [zo6q2 h0 0 q_1 q_2 q_3 0 q_4 q_5 0 q_6 q_7 0 0 0 q_8 q_9 q_10 q_11 q_12 q_13 0 0 0 0 0 0 0 0 0 0 0 0 0, zi G q_1 6 (fun _ => 0), zi G q_2 6 (fun _ => 0), zi G q_3 12 (fun _ => 0), zi G q_4 12 (fun _ => 0), zi G q_5 160 (fun _ => 0), zi G q_6 1200 (fun _ => 0), zi G q_7 24 (fun _ => 0), zi G q_8 24 (fun _ => 0), zi G q_9 3 (fun _ => 0), zi G q_10 4 (upd (upd (upd (upd (fun _ => 0) 0 (-1)) 1 (-1)) 2 (-1)) 3 (-1)), zi G q_11 4 (fun _ => 0), zi G q_12 160 (fun _ => 0), zi G q_13 40 (gPf tB 40), zi G q_14 96 (gPf tW 12)] H := ⟨hP, hD⟩
    have hP := hz9.1
    have hD := hz9.2
    refine lv_dup hx hb dX6_init_429 rfl ?_
    refine lv_bipush (v := 12) hx hb dX6_init_430 (by decide +kernel) ?_
    refine lv_bipush (v := 115) hx hb dX6_init_432 (by decide +kernel) ?_
    refine g_iastP (D := G.1) hx hb hK hP hD hS 14 0 rfl rfl (i := 12) (x := 115) (k := 12) (t := tW) (by decide +kernel) (by decide +kernel) (gIn (by decide +kernel)) dX6_init_434 (fun H locs hP hD hS => ?_)
    have hz9 : gPD G A [zo6q2 h0 0 q_1 q_2 q_3 0 q_4 q_5 0 q_6 q_7 0 0 0 q_8 q_9 q_10 q_11 q_12 q_13 0 0 0 0 0 0 0 0 0 0 0 0 0, zi G q_1 6 (fun _ => 0), zi G q_2 6 (fun _ => 0), zi G q_3 12 (fun _ => 0), zi G q_4 12 (fun _ => 0), zi G q_5 160 (fun _ => 0), zi G q_6 1200 (fun _ => 0), zi G q_7 24 (fun _ => 0), zi G q_8 24 (fun _ => 0), zi G q_9 3 (fun _ => 0), zi G q_10 4 (upd (upd (upd (upd (fun _ => 0) 0 (-1)) 1 (-1)) 2 (-1)) 3 (-1)), zi G q_11 4 (fun _ => 0), zi G q_12 160 (fun _ => 0), zi G q_13 40 (gPf tB 40), zi G q_14 96 (gPf tW 13)] H := ⟨hP, hD⟩
    have hP := hz9.1
    have hD := hz9.2
    refine lv_dup hx hb dX6_init_435 rfl ?_
    refine lv_bipush (v := 13) hx hb dX6_init_436 (by decide +kernel) ?_
    refine lv_bipush (v := 32) hx hb dX6_init_438 (by decide +kernel) ?_
    refine g_iastP (D := G.1) hx hb hK hP hD hS 14 0 rfl rfl (i := 13) (x := 32) (k := 13) (t := tW) (by decide +kernel) (by decide +kernel) (gIn (by decide +kernel)) dX6_init_440 (fun H locs hP hD hS => ?_)
    have hz9 : gPD G A [zo6q2 h0 0 q_1 q_2 q_3 0 q_4 q_5 0 q_6 q_7 0 0 0 q_8 q_9 q_10 q_11 q_12 q_13 0 0 0 0 0 0 0 0 0 0 0 0 0, zi G q_1 6 (fun _ => 0), zi G q_2 6 (fun _ => 0), zi G q_3 12 (fun _ => 0), zi G q_4 12 (fun _ => 0), zi G q_5 160 (fun _ => 0), zi G q_6 1200 (fun _ => 0), zi G q_7 24 (fun _ => 0), zi G q_8 24 (fun _ => 0), zi G q_9 3 (fun _ => 0), zi G q_10 4 (upd (upd (upd (upd (fun _ => 0) 0 (-1)) 1 (-1)) 2 (-1)) 3 (-1)), zi G q_11 4 (fun _ => 0), zi G q_12 160 (fun _ => 0), zi G q_13 40 (gPf tB 40), zi G q_14 96 (gPf tW 14)] H := ⟨hP, hD⟩
    have hP := hz9.1
    have hD := hz9.2
    refine lv_dup hx hb dX6_init_441 rfl ?_
    refine lv_bipush (v := 14) hx hb dX6_init_442 (by decide +kernel) ?_
    refine lv_bipush (v := 32) hx hb dX6_init_444 (by decide +kernel) ?_
    refine g_iastP (D := G.1) hx hb hK hP hD hS 14 0 rfl rfl (i := 14) (x := 32) (k := 14) (t := tW) (by decide +kernel) (by decide +kernel) (gIn (by decide +kernel)) dX6_init_446 (fun H locs hP hD hS => ?_)
    have hz9 : gPD G A [zo6q2 h0 0 q_1 q_2 q_3 0 q_4 q_5 0 q_6 q_7 0 0 0 q_8 q_9 q_10 q_11 q_12 q_13 0 0 0 0 0 0 0 0 0 0 0 0 0, zi G q_1 6 (fun _ => 0), zi G q_2 6 (fun _ => 0), zi G q_3 12 (fun _ => 0), zi G q_4 12 (fun _ => 0), zi G q_5 160 (fun _ => 0), zi G q_6 1200 (fun _ => 0), zi G q_7 24 (fun _ => 0), zi G q_8 24 (fun _ => 0), zi G q_9 3 (fun _ => 0), zi G q_10 4 (upd (upd (upd (upd (fun _ => 0) 0 (-1)) 1 (-1)) 2 (-1)) 3 (-1)), zi G q_11 4 (fun _ => 0), zi G q_12 160 (fun _ => 0), zi G q_13 40 (gPf tB 40), zi G q_14 96 (gPf tW 15)] H := ⟨hP, hD⟩
    have hP := hz9.1
    have hD := hz9.2
    refine lv_dup hx hb dX6_init_447 rfl ?_
    refine lv_bipush (v := 15) hx hb dX6_init_448 (by decide +kernel) ?_
    refine lv_bipush (v := 32) hx hb dX6_init_450 (by decide +kernel) ?_
    refine g_iastP (D := G.1) hx hb hK hP hD hS 14 0 rfl rfl (i := 15) (x := 32) (k := 15) (t := tW) (by decide +kernel) (by decide +kernel) (gIn (by decide +kernel)) dX6_init_452 (fun H locs hP hD hS => ?_)
    have hz9 : gPD G A [zo6q2 h0 0 q_1 q_2 q_3 0 q_4 q_5 0 q_6 q_7 0 0 0 q_8 q_9 q_10 q_11 q_12 q_13 0 0 0 0 0 0 0 0 0 0 0 0 0, zi G q_1 6 (fun _ => 0), zi G q_2 6 (fun _ => 0), zi G q_3 12 (fun _ => 0), zi G q_4 12 (fun _ => 0), zi G q_5 160 (fun _ => 0), zi G q_6 1200 (fun _ => 0), zi G q_7 24 (fun _ => 0), zi G q_8 24 (fun _ => 0), zi G q_9 3 (fun _ => 0), zi G q_10 4 (upd (upd (upd (upd (fun _ => 0) 0 (-1)) 1 (-1)) 2 (-1)) 3 (-1)), zi G q_11 4 (fun _ => 0), zi G q_12 160 (fun _ => 0), zi G q_13 40 (gPf tB 40), zi G q_14 96 (gPf tW 16)] H := ⟨hP, hD⟩
    have hP := hz9.1
    have hD := hz9.2
    exact cut_453 q_1 q_2 q_3 q_4 q_5 q_6 q_7 q_8 q_9 q_10 q_11 q_12 q_13 q_14 _ _ hP hD hS _ hl
  have cut_363 : ∀ (q_1 q_2 q_3 q_4 q_5 q_6 q_7 q_8 q_9 q_10 q_11 q_12 q_13 q_14 : Nat) (H : Heap) (locs : List Loc), va_P G.1 vwCl [zo6q2 h0 0 q_1 q_2 q_3 0 q_4 q_5 0 q_6 q_7 0 0 0 q_8 q_9 q_10 q_11 q_12 q_13 0 0 0 0 0 0 0 0 0 0 0 0 0, zi G q_1 6 (fun _ => 0), zi G q_2 6 (fun _ => 0), zi G q_3 12 (fun _ => 0), zi G q_4 12 (fun _ => 0), zi G q_5 160 (fun _ => 0), zi G q_6 1200 (fun _ => 0), zi G q_7 24 (fun _ => 0), zi G q_8 24 (fun _ => 0), zi G q_9 3 (fun _ => 0), zi G q_10 4 (upd (upd (upd (upd (fun _ => 0) 0 (-1)) 1 (-1)) 2 (-1)) 3 (-1)), zi G q_11 4 (fun _ => 0), zi G q_12 160 (fun _ => 0), zi G q_13 40 (gPf tB 40), zi G q_14 96 (fun _ => 0)] H → va_D A [zo6q2 h0 0 q_1 q_2 q_3 0 q_4 q_5 0 q_6 q_7 0 0 0 q_8 q_9 q_10 q_11 q_12 q_13 0 0 0 0 0 0 0 0 0 0 0 0 0, zi G q_1 6 (fun _ => 0), zi G q_2 6 (fun _ => 0), zi G q_3 12 (fun _ => 0), zi G q_4 12 (fun _ => 0), zi G q_5 160 (fun _ => 0), zi G q_6 1200 (fun _ => 0), zi G q_7 24 (fun _ => 0), zi G q_8 24 (fun _ => 0), zi G q_9 3 (fun _ => 0), zi G q_10 4 (upd (upd (upd (upd (fun _ => 0) 0 (-1)) 1 (-1)) 2 (-1)) 3 (-1)), zi G q_11 4 (fun _ => 0), zi G q_12 160 (fun _ => 0), zi G q_13 40 (gPf tB 40), zi G q_14 96 (fun _ => 0)] → va_S A s.heap H locs → ∀ ls : Array Slot, lv_has ls 2 [zR 0 h0] → W p l e (headSpec wsX6_init ({ frames := 5, cells := 23, slots := 2439, locals := 109 })).room s m ([.ref h0] : List Value).toArray below meth c H locs 14 1751 (MQ below (q_X6_init_g G h0 A) ([.ref h0] : List Value).toArray s 23 2439 A) (F0 m 363 ls [.ref q_14, .ref h0]) := by
    as_aux_lemma =>
    intro q_1 q_2 q_3 q_4 q_5 q_6 q_7 q_8 q_9 q_10 q_11 q_12 q_13 q_14 H locs hP hD hS ls hl
    refine lv_dup hx hb dX6_init_363 rfl ?_
    refine lv_iconst (v := 0) hx hb dX6_init_364 (by decide +kernel) ?_
    refine lv_bipush (v := 102) hx hb dX6_init_365 (by decide +kernel) ?_
    refine va_iast (D := G.1) hx hb hK hP hD hS 14 0 rfl rfl (i := 0) (x := 102) (gIn (by decide +kernel)) dX6_init_367 (fun H locs hP hD hS => ?_)
    have hz9 : gPD G A [zo6q2 h0 0 q_1 q_2 q_3 0 q_4 q_5 0 q_6 q_7 0 0 0 q_8 q_9 q_10 q_11 q_12 q_13 0 0 0 0 0 0 0 0 0 0 0 0 0, zi G q_1 6 (fun _ => 0), zi G q_2 6 (fun _ => 0), zi G q_3 12 (fun _ => 0), zi G q_4 12 (fun _ => 0), zi G q_5 160 (fun _ => 0), zi G q_6 1200 (fun _ => 0), zi G q_7 24 (fun _ => 0), zi G q_8 24 (fun _ => 0), zi G q_9 3 (fun _ => 0), zi G q_10 4 (upd (upd (upd (upd (fun _ => 0) 0 (-1)) 1 (-1)) 2 (-1)) 3 (-1)), zi G q_11 4 (fun _ => 0), zi G q_12 160 (fun _ => 0), zi G q_13 40 (gPf tB 40), zi G q_14 96 (gPf tW 1)] H := ⟨by rw [← gPf_s0 (t := tW) (x := 102) (by decide +kernel)]; exact hP, by rw [← gPf_s0 (t := tW) (x := 102) (by decide +kernel)]; exact hD⟩
    have hP := hz9.1
    have hD := hz9.2
    refine lv_dup hx hb dX6_init_368 rfl ?_
    refine lv_iconst (v := 1) hx hb dX6_init_369 (by decide +kernel) ?_
    refine lv_bipush (v := 101) hx hb dX6_init_370 (by decide +kernel) ?_
    refine g_iastP (D := G.1) hx hb hK hP hD hS 14 0 rfl rfl (i := 1) (x := 101) (k := 1) (t := tW) (by decide +kernel) (by decide +kernel) (gIn (by decide +kernel)) dX6_init_372 (fun H locs hP hD hS => ?_)
    have hz9 : gPD G A [zo6q2 h0 0 q_1 q_2 q_3 0 q_4 q_5 0 q_6 q_7 0 0 0 q_8 q_9 q_10 q_11 q_12 q_13 0 0 0 0 0 0 0 0 0 0 0 0 0, zi G q_1 6 (fun _ => 0), zi G q_2 6 (fun _ => 0), zi G q_3 12 (fun _ => 0), zi G q_4 12 (fun _ => 0), zi G q_5 160 (fun _ => 0), zi G q_6 1200 (fun _ => 0), zi G q_7 24 (fun _ => 0), zi G q_8 24 (fun _ => 0), zi G q_9 3 (fun _ => 0), zi G q_10 4 (upd (upd (upd (upd (fun _ => 0) 0 (-1)) 1 (-1)) 2 (-1)) 3 (-1)), zi G q_11 4 (fun _ => 0), zi G q_12 160 (fun _ => 0), zi G q_13 40 (gPf tB 40), zi G q_14 96 (gPf tW 2)] H := ⟨hP, hD⟩
    have hP := hz9.1
    have hD := hz9.2
    refine lv_dup hx hb dX6_init_373 rfl ?_
    refine lv_iconst (v := 2) hx hb dX6_init_374 (by decide +kernel) ?_
    refine lv_bipush (v := 101) hx hb dX6_init_375 (by decide +kernel) ?_
    refine g_iastP (D := G.1) hx hb hK hP hD hS 14 0 rfl rfl (i := 2) (x := 101) (k := 2) (t := tW) (by decide +kernel) (by decide +kernel) (gIn (by decide +kernel)) dX6_init_377 (fun H locs hP hD hS => ?_)
    have hz9 : gPD G A [zo6q2 h0 0 q_1 q_2 q_3 0 q_4 q_5 0 q_6 q_7 0 0 0 q_8 q_9 q_10 q_11 q_12 q_13 0 0 0 0 0 0 0 0 0 0 0 0 0, zi G q_1 6 (fun _ => 0), zi G q_2 6 (fun _ => 0), zi G q_3 12 (fun _ => 0), zi G q_4 12 (fun _ => 0), zi G q_5 160 (fun _ => 0), zi G q_6 1200 (fun _ => 0), zi G q_7 24 (fun _ => 0), zi G q_8 24 (fun _ => 0), zi G q_9 3 (fun _ => 0), zi G q_10 4 (upd (upd (upd (upd (fun _ => 0) 0 (-1)) 1 (-1)) 2 (-1)) 3 (-1)), zi G q_11 4 (fun _ => 0), zi G q_12 160 (fun _ => 0), zi G q_13 40 (gPf tB 40), zi G q_14 96 (gPf tW 3)] H := ⟨hP, hD⟩
    have hP := hz9.1
    have hD := hz9.2
    refine lv_dup hx hb dX6_init_378 rfl ?_
    refine lv_iconst (v := 3) hx hb dX6_init_379 (by decide +kernel) ?_
    refine lv_bipush (v := 108) hx hb dX6_init_380 (by decide +kernel) ?_
    refine g_iastP (D := G.1) hx hb hK hP hD hS 14 0 rfl rfl (i := 3) (x := 108) (k := 3) (t := tW) (by decide +kernel) (by decide +kernel) (gIn (by decide +kernel)) dX6_init_382 (fun H locs hP hD hS => ?_)
    have hz9 : gPD G A [zo6q2 h0 0 q_1 q_2 q_3 0 q_4 q_5 0 q_6 q_7 0 0 0 q_8 q_9 q_10 q_11 q_12 q_13 0 0 0 0 0 0 0 0 0 0 0 0 0, zi G q_1 6 (fun _ => 0), zi G q_2 6 (fun _ => 0), zi G q_3 12 (fun _ => 0), zi G q_4 12 (fun _ => 0), zi G q_5 160 (fun _ => 0), zi G q_6 1200 (fun _ => 0), zi G q_7 24 (fun _ => 0), zi G q_8 24 (fun _ => 0), zi G q_9 3 (fun _ => 0), zi G q_10 4 (upd (upd (upd (upd (fun _ => 0) 0 (-1)) 1 (-1)) 2 (-1)) 3 (-1)), zi G q_11 4 (fun _ => 0), zi G q_12 160 (fun _ => 0), zi G q_13 40 (gPf tB 40), zi G q_14 96 (gPf tW 4)] H := ⟨hP, hD⟩
    have hP := hz9.1
    have hD := hz9.2
    refine lv_dup hx hb dX6_init_383 rfl ?_
    refine lv_iconst (v := 4) hx hb dX6_init_384 (by decide +kernel) ?_
    refine lv_bipush (v := 115) hx hb dX6_init_385 (by decide +kernel) ?_
    refine g_iastP (D := G.1) hx hb hK hP hD hS 14 0 rfl rfl (i := 4) (x := 115) (k := 4) (t := tW) (by decide +kernel) (by decide +kernel) (gIn (by decide +kernel)) dX6_init_387 (fun H locs hP hD hS => ?_)
    have hz9 : gPD G A [zo6q2 h0 0 q_1 q_2 q_3 0 q_4 q_5 0 q_6 q_7 0 0 0 q_8 q_9 q_10 q_11 q_12 q_13 0 0 0 0 0 0 0 0 0 0 0 0 0, zi G q_1 6 (fun _ => 0), zi G q_2 6 (fun _ => 0), zi G q_3 12 (fun _ => 0), zi G q_4 12 (fun _ => 0), zi G q_5 160 (fun _ => 0), zi G q_6 1200 (fun _ => 0), zi G q_7 24 (fun _ => 0), zi G q_8 24 (fun _ => 0), zi G q_9 3 (fun _ => 0), zi G q_10 4 (upd (upd (upd (upd (fun _ => 0) 0 (-1)) 1 (-1)) 2 (-1)) 3 (-1)), zi G q_11 4 (fun _ => 0), zi G q_12 160 (fun _ => 0), zi G q_13 40 (gPf tB 40), zi G q_14 96 (gPf tW 5)] H := ⟨hP, hD⟩
    have hP := hz9.1
    have hD := hz9.2
    refine lv_dup hx hb dX6_init_388 rfl ?_
    refine lv_iconst (v := 5) hx hb dX6_init_389 (by decide +kernel) ?_
    refine lv_bipush (v := 32) hx hb dX6_init_390 (by decide +kernel) ?_
    refine g_iastP (D := G.1) hx hb hK hP hD hS 14 0 rfl rfl (i := 5) (x := 32) (k := 5) (t := tW) (by decide +kernel) (by decide +kernel) (gIn (by decide +kernel)) dX6_init_392 (fun H locs hP hD hS => ?_)
    have hz9 : gPD G A [zo6q2 h0 0 q_1 q_2 q_3 0 q_4 q_5 0 q_6 q_7 0 0 0 q_8 q_9 q_10 q_11 q_12 q_13 0 0 0 0 0 0 0 0 0 0 0 0 0, zi G q_1 6 (fun _ => 0), zi G q_2 6 (fun _ => 0), zi G q_3 12 (fun _ => 0), zi G q_4 12 (fun _ => 0), zi G q_5 160 (fun _ => 0), zi G q_6 1200 (fun _ => 0), zi G q_7 24 (fun _ => 0), zi G q_8 24 (fun _ => 0), zi G q_9 3 (fun _ => 0), zi G q_10 4 (upd (upd (upd (upd (fun _ => 0) 0 (-1)) 1 (-1)) 2 (-1)) 3 (-1)), zi G q_11 4 (fun _ => 0), zi G q_12 160 (fun _ => 0), zi G q_13 40 (gPf tB 40), zi G q_14 96 (gPf tW 6)] H := ⟨hP, hD⟩
    have hP := hz9.1
    have hD := hz9.2
    refine lv_dup hx hb dX6_init_393 rfl ?_
    refine lv_bipush (v := 6) hx hb dX6_init_394 (by decide +kernel) ?_
    refine lv_bipush (v := 32) hx hb dX6_init_396 (by decide +kernel) ?_
    refine g_iastP (D := G.1) hx hb hK hP hD hS 14 0 rfl rfl (i := 6) (x := 32) (k := 6) (t := tW) (by decide +kernel) (by decide +kernel) (gIn (by decide +kernel)) dX6_init_398 (fun H locs hP hD hS => ?_)
    have hz9 : gPD G A [zo6q2 h0 0 q_1 q_2 q_3 0 q_4 q_5 0 q_6 q_7 0 0 0 q_8 q_9 q_10 q_11 q_12 q_13 0 0 0 0 0 0 0 0 0 0 0 0 0, zi G q_1 6 (fun _ => 0), zi G q_2 6 (fun _ => 0), zi G q_3 12 (fun _ => 0), zi G q_4 12 (fun _ => 0), zi G q_5 160 (fun _ => 0), zi G q_6 1200 (fun _ => 0), zi G q_7 24 (fun _ => 0), zi G q_8 24 (fun _ => 0), zi G q_9 3 (fun _ => 0), zi G q_10 4 (upd (upd (upd (upd (fun _ => 0) 0 (-1)) 1 (-1)) 2 (-1)) 3 (-1)), zi G q_11 4 (fun _ => 0), zi G q_12 160 (fun _ => 0), zi G q_13 40 (gPf tB 40), zi G q_14 96 (gPf tW 7)] H := ⟨hP, hD⟩
    have hP := hz9.1
    have hD := hz9.2
    refine lv_dup hx hb dX6_init_399 rfl ?_
    refine lv_bipush (v := 7) hx hb dX6_init_400 (by decide +kernel) ?_
    refine lv_bipush (v := 32) hx hb dX6_init_402 (by decide +kernel) ?_
    refine g_iastP (D := G.1) hx hb hK hP hD hS 14 0 rfl rfl (i := 7) (x := 32) (k := 7) (t := tW) (by decide +kernel) (by decide +kernel) (gIn (by decide +kernel)) dX6_init_404 (fun H locs hP hD hS => ?_)
    have hz9 : gPD G A [zo6q2 h0 0 q_1 q_2 q_3 0 q_4 q_5 0 q_6 q_7 0 0 0 q_8 q_9 q_10 q_11 q_12 q_13 0 0 0 0 0 0 0 0 0 0 0 0 0, zi G q_1 6 (fun _ => 0), zi G q_2 6 (fun _ => 0), zi G q_3 12 (fun _ => 0), zi G q_4 12 (fun _ => 0), zi G q_5 160 (fun _ => 0), zi G q_6 1200 (fun _ => 0), zi G q_7 24 (fun _ => 0), zi G q_8 24 (fun _ => 0), zi G q_9 3 (fun _ => 0), zi G q_10 4 (upd (upd (upd (upd (fun _ => 0) 0 (-1)) 1 (-1)) 2 (-1)) 3 (-1)), zi G q_11 4 (fun _ => 0), zi G q_12 160 (fun _ => 0), zi G q_13 40 (gPf tB 40), zi G q_14 96 (gPf tW 8)] H := ⟨hP, hD⟩
    have hP := hz9.1
    have hD := hz9.2
    exact cut_405 q_1 q_2 q_3 q_4 q_5 q_6 q_7 q_8 q_9 q_10 q_11 q_12 q_13 q_14 _ _ hP hD hS _ hl
  have cut_307 : ∀ (q_1 q_2 q_3 q_4 q_5 q_6 q_7 q_8 q_9 q_10 q_11 q_12 q_13 : Nat) (H : Heap) (locs : List Loc), va_P G.1 vwCl [zo6q12 h0 0 q_1 q_2 q_3 0 q_4 q_5 0 q_6 q_7 0 0 0 q_8 q_9 q_10 q_11 q_12 0 0 0 0 0 0 0 0 0 0 0 0 0, zi G q_1 6 (fun _ => 0), zi G q_2 6 (fun _ => 0), zi G q_3 12 (fun _ => 0), zi G q_4 12 (fun _ => 0), zi G q_5 160 (fun _ => 0), zi G q_6 1200 (fun _ => 0), zi G q_7 24 (fun _ => 0), zi G q_8 24 (fun _ => 0), zi G q_9 3 (fun _ => 0), zi G q_10 4 (upd (upd (upd (upd (fun _ => 0) 0 (-1)) 1 (-1)) 2 (-1)) 3 (-1)), zi G q_11 4 (fun _ => 0), zi G q_12 160 (fun _ => 0), zi G q_13 40 (gPf tB 32)] H → va_D A [zo6q12 h0 0 q_1 q_2 q_3 0 q_4 q_5 0 q_6 q_7 0 0 0 q_8 q_9 q_10 q_11 q_12 0 0 0 0 0 0 0 0 0 0 0 0 0, zi G q_1 6 (fun _ => 0), zi G q_2 6 (fun _ => 0), zi G q_3 12 (fun _ => 0), zi G q_4 12 (fun _ => 0), zi G q_5 160 (fun _ => 0), zi G q_6 1200 (fun _ => 0), zi G q_7 24 (fun _ => 0), zi G q_8 24 (fun _ => 0), zi G q_9 3 (fun _ => 0), zi G q_10 4 (upd (upd (upd (upd (fun _ => 0) 0 (-1)) 1 (-1)) 2 (-1)) 3 (-1)), zi G q_11 4 (fun _ => 0), zi G q_12 160 (fun _ => 0), zi G q_13 40 (gPf tB 32)] → va_S A s.heap H locs → ∀ ls : Array Slot, lv_has ls 2 [zR 0 h0] → W p l e (headSpec wsX6_init ({ frames := 5, cells := 23, slots := 2439, locals := 109 })).room s m ([.ref h0] : List Value).toArray below meth c H locs 13 1655 (MQ below (q_X6_init_g G h0 A) ([.ref h0] : List Value).toArray s 23 2439 A) (F0 m 307 ls [.ref q_13, .ref h0]) := by
    as_aux_lemma =>
    intro q_1 q_2 q_3 q_4 q_5 q_6 q_7 q_8 q_9 q_10 q_11 q_12 q_13 H locs hP hD hS ls hl
    refine lv_dup hx hb dX6_init_307 rfl ?_
    refine lv_bipush (v := 32) hx hb dX6_init_308 (by decide +kernel) ?_
    refine lv_bipush (v := 97) hx hb dX6_init_310 (by decide +kernel) ?_
    refine g_iastP (D := G.1) hx hb hK hP hD hS 13 0 rfl rfl (i := 32) (x := 97) (k := 32) (t := tB) (by decide +kernel) (by decide +kernel) (gIn (by decide +kernel)) dX6_init_312 (fun H locs hP hD hS => ?_)
    have hz9 : gPD G A [zo6q12 h0 0 q_1 q_2 q_3 0 q_4 q_5 0 q_6 q_7 0 0 0 q_8 q_9 q_10 q_11 q_12 0 0 0 0 0 0 0 0 0 0 0 0 0, zi G q_1 6 (fun _ => 0), zi G q_2 6 (fun _ => 0), zi G q_3 12 (fun _ => 0), zi G q_4 12 (fun _ => 0), zi G q_5 160 (fun _ => 0), zi G q_6 1200 (fun _ => 0), zi G q_7 24 (fun _ => 0), zi G q_8 24 (fun _ => 0), zi G q_9 3 (fun _ => 0), zi G q_10 4 (upd (upd (upd (upd (fun _ => 0) 0 (-1)) 1 (-1)) 2 (-1)) 3 (-1)), zi G q_11 4 (fun _ => 0), zi G q_12 160 (fun _ => 0), zi G q_13 40 (gPf tB 33)] H := ⟨hP, hD⟩
    have hP := hz9.1
    have hD := hz9.2
    refine lv_dup hx hb dX6_init_313 rfl ?_
    refine lv_bipush (v := 33) hx hb dX6_init_314 (by decide +kernel) ?_
    refine lv_bipush (v := 114) hx hb dX6_init_316 (by decide +kernel) ?_
    refine g_iastP (D := G.1) hx hb hK hP hD hS 13 0 rfl rfl (i := 33) (x := 114) (k := 33) (t := tB) (by decide +kernel) (by decide +kernel) (gIn (by decide +kernel)) dX6_init_318 (fun H locs hP hD hS => ?_)
    have hz9 : gPD G A [zo6q12 h0 0 q_1 q_2 q_3 0 q_4 q_5 0 q_6 q_7 0 0 0 q_8 q_9 q_10 q_11 q_12 0 0 0 0 0 0 0 0 0 0 0 0 0, zi G q_1 6 (fun _ => 0), zi G q_2 6 (fun _ => 0), zi G q_3 12 (fun _ => 0), zi G q_4 12 (fun _ => 0), zi G q_5 160 (fun _ => 0), zi G q_6 1200 (fun _ => 0), zi G q_7 24 (fun _ => 0), zi G q_8 24 (fun _ => 0), zi G q_9 3 (fun _ => 0), zi G q_10 4 (upd (upd (upd (upd (fun _ => 0) 0 (-1)) 1 (-1)) 2 (-1)) 3 (-1)), zi G q_11 4 (fun _ => 0), zi G q_12 160 (fun _ => 0), zi G q_13 40 (gPf tB 34)] H := ⟨hP, hD⟩
    have hP := hz9.1
    have hD := hz9.2
    refine lv_dup hx hb dX6_init_319 rfl ?_
    refine lv_bipush (v := 34) hx hb dX6_init_320 (by decide +kernel) ?_
    refine lv_bipush (v := 115) hx hb dX6_init_322 (by decide +kernel) ?_
    refine g_iastP (D := G.1) hx hb hK hP hD hS 13 0 rfl rfl (i := 34) (x := 115) (k := 34) (t := tB) (by decide +kernel) (by decide +kernel) (gIn (by decide +kernel)) dX6_init_324 (fun H locs hP hD hS => ?_)
    have hz9 : gPD G A [zo6q12 h0 0 q_1 q_2 q_3 0 q_4 q_5 0 q_6 q_7 0 0 0 q_8 q_9 q_10 q_11 q_12 0 0 0 0 0 0 0 0 0 0 0 0 0, zi G q_1 6 (fun _ => 0), zi G q_2 6 (fun _ => 0), zi G q_3 12 (fun _ => 0), zi G q_4 12 (fun _ => 0), zi G q_5 160 (fun _ => 0), zi G q_6 1200 (fun _ => 0), zi G q_7 24 (fun _ => 0), zi G q_8 24 (fun _ => 0), zi G q_9 3 (fun _ => 0), zi G q_10 4 (upd (upd (upd (upd (fun _ => 0) 0 (-1)) 1 (-1)) 2 (-1)) 3 (-1)), zi G q_11 4 (fun _ => 0), zi G q_12 160 (fun _ => 0), zi G q_13 40 (gPf tB 35)] H := ⟨hP, hD⟩
    have hP := hz9.1
    have hD := hz9.2
    refine lv_dup hx hb dX6_init_325 rfl ?_
    refine lv_bipush (v := 35) hx hb dX6_init_326 (by decide +kernel) ?_
    refine lv_bipush (v := 32) hx hb dX6_init_328 (by decide +kernel) ?_
    refine g_iastP (D := G.1) hx hb hK hP hD hS 13 0 rfl rfl (i := 35) (x := 32) (k := 35) (t := tB) (by decide +kernel) (by decide +kernel) (gIn (by decide +kernel)) dX6_init_330 (fun H locs hP hD hS => ?_)
    have hz9 : gPD G A [zo6q12 h0 0 q_1 q_2 q_3 0 q_4 q_5 0 q_6 q_7 0 0 0 q_8 q_9 q_10 q_11 q_12 0 0 0 0 0 0 0 0 0 0 0 0 0, zi G q_1 6 (fun _ => 0), zi G q_2 6 (fun _ => 0), zi G q_3 12 (fun _ => 0), zi G q_4 12 (fun _ => 0), zi G q_5 160 (fun _ => 0), zi G q_6 1200 (fun _ => 0), zi G q_7 24 (fun _ => 0), zi G q_8 24 (fun _ => 0), zi G q_9 3 (fun _ => 0), zi G q_10 4 (upd (upd (upd (upd (fun _ => 0) 0 (-1)) 1 (-1)) 2 (-1)) 3 (-1)), zi G q_11 4 (fun _ => 0), zi G q_12 160 (fun _ => 0), zi G q_13 40 (gPf tB 36)] H := ⟨hP, hD⟩
    have hP := hz9.1
    have hD := hz9.2
    refine lv_dup hx hb dX6_init_331 rfl ?_
    refine lv_bipush (v := 36) hx hb dX6_init_332 (by decide +kernel) ?_
    refine lv_bipush (v := 51) hx hb dX6_init_334 (by decide +kernel) ?_
    refine g_iastP (D := G.1) hx hb hK hP hD hS 13 0 rfl rfl (i := 36) (x := 51) (k := 36) (t := tB) (by decide +kernel) (by decide +kernel) (gIn (by decide +kernel)) dX6_init_336 (fun H locs hP hD hS => ?_)
    have hz9 : gPD G A [zo6q12 h0 0 q_1 q_2 q_3 0 q_4 q_5 0 q_6 q_7 0 0 0 q_8 q_9 q_10 q_11 q_12 0 0 0 0 0 0 0 0 0 0 0 0 0, zi G q_1 6 (fun _ => 0), zi G q_2 6 (fun _ => 0), zi G q_3 12 (fun _ => 0), zi G q_4 12 (fun _ => 0), zi G q_5 160 (fun _ => 0), zi G q_6 1200 (fun _ => 0), zi G q_7 24 (fun _ => 0), zi G q_8 24 (fun _ => 0), zi G q_9 3 (fun _ => 0), zi G q_10 4 (upd (upd (upd (upd (fun _ => 0) 0 (-1)) 1 (-1)) 2 (-1)) 3 (-1)), zi G q_11 4 (fun _ => 0), zi G q_12 160 (fun _ => 0), zi G q_13 40 (gPf tB 37)] H := ⟨hP, hD⟩
    have hP := hz9.1
    have hD := hz9.2
    refine lv_dup hx hb dX6_init_337 rfl ?_
    refine lv_bipush (v := 37) hx hb dX6_init_338 (by decide +kernel) ?_
    refine lv_bipush (v := 48) hx hb dX6_init_340 (by decide +kernel) ?_
    refine g_iastP (D := G.1) hx hb hK hP hD hS 13 0 rfl rfl (i := 37) (x := 48) (k := 37) (t := tB) (by decide +kernel) (by decide +kernel) (gIn (by decide +kernel)) dX6_init_342 (fun H locs hP hD hS => ?_)
    have hz9 : gPD G A [zo6q12 h0 0 q_1 q_2 q_3 0 q_4 q_5 0 q_6 q_7 0 0 0 q_8 q_9 q_10 q_11 q_12 0 0 0 0 0 0 0 0 0 0 0 0 0, zi G q_1 6 (fun _ => 0), zi G q_2 6 (fun _ => 0), zi G q_3 12 (fun _ => 0), zi G q_4 12 (fun _ => 0), zi G q_5 160 (fun _ => 0), zi G q_6 1200 (fun _ => 0), zi G q_7 24 (fun _ => 0), zi G q_8 24 (fun _ => 0), zi G q_9 3 (fun _ => 0), zi G q_10 4 (upd (upd (upd (upd (fun _ => 0) 0 (-1)) 1 (-1)) 2 (-1)) 3 (-1)), zi G q_11 4 (fun _ => 0), zi G q_12 160 (fun _ => 0), zi G q_13 40 (gPf tB 38)] H := ⟨hP, hD⟩
    have hP := hz9.1
    have hD := hz9.2
    refine lv_dup hx hb dX6_init_343 rfl ?_
    refine lv_bipush (v := 38) hx hb dX6_init_344 (by decide +kernel) ?_
    refine lv_bipush (v := 32) hx hb dX6_init_346 (by decide +kernel) ?_
    refine g_iastP (D := G.1) hx hb hK hP hD hS 13 0 rfl rfl (i := 38) (x := 32) (k := 38) (t := tB) (by decide +kernel) (by decide +kernel) (gIn (by decide +kernel)) dX6_init_348 (fun H locs hP hD hS => ?_)
    have hz9 : gPD G A [zo6q12 h0 0 q_1 q_2 q_3 0 q_4 q_5 0 q_6 q_7 0 0 0 q_8 q_9 q_10 q_11 q_12 0 0 0 0 0 0 0 0 0 0 0 0 0, zi G q_1 6 (fun _ => 0), zi G q_2 6 (fun _ => 0), zi G q_3 12 (fun _ => 0), zi G q_4 12 (fun _ => 0), zi G q_5 160 (fun _ => 0), zi G q_6 1200 (fun _ => 0), zi G q_7 24 (fun _ => 0), zi G q_8 24 (fun _ => 0), zi G q_9 3 (fun _ => 0), zi G q_10 4 (upd (upd (upd (upd (fun _ => 0) 0 (-1)) 1 (-1)) 2 (-1)) 3 (-1)), zi G q_11 4 (fun _ => 0), zi G q_12 160 (fun _ => 0), zi G q_13 40 (gPf tB 39)] H := ⟨hP, hD⟩
    have hP := hz9.1
    have hD := hz9.2
    refine lv_dup hx hb dX6_init_349 rfl ?_
    refine lv_bipush (v := 39) hx hb dX6_init_350 (by decide +kernel) ?_
    refine lv_bipush (v := 59) hx hb dX6_init_352 (by decide +kernel) ?_
    refine g_iastP (D := G.1) hx hb hK hP hD hS 13 0 rfl rfl (i := 39) (x := 59) (k := 39) (t := tB) (by decide +kernel) (by decide +kernel) (gIn (by decide +kernel)) dX6_init_354 (fun H locs hP hD hS => ?_)
    have hz9 : gPD G A [zo6q12 h0 0 q_1 q_2 q_3 0 q_4 q_5 0 q_6 q_7 0 0 0 q_8 q_9 q_10 q_11 q_12 0 0 0 0 0 0 0 0 0 0 0 0 0, zi G q_1 6 (fun _ => 0), zi G q_2 6 (fun _ => 0), zi G q_3 12 (fun _ => 0), zi G q_4 12 (fun _ => 0), zi G q_5 160 (fun _ => 0), zi G q_6 1200 (fun _ => 0), zi G q_7 24 (fun _ => 0), zi G q_8 24 (fun _ => 0), zi G q_9 3 (fun _ => 0), zi G q_10 4 (upd (upd (upd (upd (fun _ => 0) 0 (-1)) 1 (-1)) 2 (-1)) 3 (-1)), zi G q_11 4 (fun _ => 0), zi G q_12 160 (fun _ => 0), zi G q_13 40 (gPf tB 40)] H := ⟨hP, hD⟩
    have hP := hz9.1
    have hD := hz9.2
    refine va_putF (D := G.1) (ci := 6) (v := .ref q_13) (ty := .array .int) (C := RX6) (T := TX6) (N := 42) hx hb hts hiX6 tyX6 tyX6_ok nmX6 hown hK hP hD hS 0 rfl rfl 18 (by decide +kernel) kf46 (fun _ h9 => h9) rfl hin rfl (by decide +kernel) rfl rfl (Nat.le_of_ble_eq_true rfl) dX6_init_355 (fun H locs hP hD hS => ?_)
    have hz9 : gPD G A [zo6q2 h0 0 q_1 q_2 q_3 0 q_4 q_5 0 q_6 q_7 0 0 0 q_8 q_9 q_10 q_11 q_12 q_13 0 0 0 0 0 0 0 0 0 0 0 0 0, zi G q_1 6 (fun _ => 0), zi G q_2 6 (fun _ => 0), zi G q_3 12 (fun _ => 0), zi G q_4 12 (fun _ => 0), zi G q_5 160 (fun _ => 0), zi G q_6 1200 (fun _ => 0), zi G q_7 24 (fun _ => 0), zi G q_8 24 (fun _ => 0), zi G q_9 3 (fun _ => 0), zi G q_10 4 (upd (upd (upd (upd (fun _ => 0) 0 (-1)) 1 (-1)) 2 (-1)) 3 (-1)), zi G q_11 4 (fun _ => 0), zi G q_12 160 (fun _ => 0), zi G q_13 40 (gPf tB 40)] H := ⟨hP, hD⟩
    have hP := hz9.1
    have hD := hz9.2
    refine lv_aload_n hx hb dX6_init_358 rfl (lv_at hl 0 rfl) ?_
    refine lv_bipush (v := 96) hx hb dX6_init_359 (by decide +kernel) ?_
    refine g_newI hx hb (hts (.arrayClass .int) (by decide +kernel)) hK hP hD hS hA (n := 96) (N' := 96) (by decide +kernel) (by decide +kernel) (Nat.le_of_ble_eq_true rfl) (Nat.le_of_ble_eq_true rfl) (Nat.le_of_ble_eq_true rfl) dX6_init_361 (fun q_14 H hP hD hS => ?_)
    have hz9 : gPD G A [zo6q2 h0 0 q_1 q_2 q_3 0 q_4 q_5 0 q_6 q_7 0 0 0 q_8 q_9 q_10 q_11 q_12 q_13 0 0 0 0 0 0 0 0 0 0 0 0 0, zi G q_1 6 (fun _ => 0), zi G q_2 6 (fun _ => 0), zi G q_3 12 (fun _ => 0), zi G q_4 12 (fun _ => 0), zi G q_5 160 (fun _ => 0), zi G q_6 1200 (fun _ => 0), zi G q_7 24 (fun _ => 0), zi G q_8 24 (fun _ => 0), zi G q_9 3 (fun _ => 0), zi G q_10 4 (upd (upd (upd (upd (fun _ => 0) 0 (-1)) 1 (-1)) 2 (-1)) 3 (-1)), zi G q_11 4 (fun _ => 0), zi G q_12 160 (fun _ => 0), zi G q_13 40 (gPf tB 40), zi G q_14 96 (fun _ => 0)] H := ⟨hP, hD⟩
    have hP := hz9.1
    have hD := hz9.2
    exact cut_363 q_1 q_2 q_3 q_4 q_5 q_6 q_7 q_8 q_9 q_10 q_11 q_12 q_13 q_14 _ _ hP hD hS _ hl
  have cut_259 : ∀ (q_1 q_2 q_3 q_4 q_5 q_6 q_7 q_8 q_9 q_10 q_11 q_12 q_13 : Nat) (H : Heap) (locs : List Loc), va_P G.1 vwCl [zo6q12 h0 0 q_1 q_2 q_3 0 q_4 q_5 0 q_6 q_7 0 0 0 q_8 q_9 q_10 q_11 q_12 0 0 0 0 0 0 0 0 0 0 0 0 0, zi G q_1 6 (fun _ => 0), zi G q_2 6 (fun _ => 0), zi G q_3 12 (fun _ => 0), zi G q_4 12 (fun _ => 0), zi G q_5 160 (fun _ => 0), zi G q_6 1200 (fun _ => 0), zi G q_7 24 (fun _ => 0), zi G q_8 24 (fun _ => 0), zi G q_9 3 (fun _ => 0), zi G q_10 4 (upd (upd (upd (upd (fun _ => 0) 0 (-1)) 1 (-1)) 2 (-1)) 3 (-1)), zi G q_11 4 (fun _ => 0), zi G q_12 160 (fun _ => 0), zi G q_13 40 (gPf tB 24)] H → va_D A [zo6q12 h0 0 q_1 q_2 q_3 0 q_4 q_5 0 q_6 q_7 0 0 0 q_8 q_9 q_10 q_11 q_12 0 0 0 0 0 0 0 0 0 0 0 0 0, zi G q_1 6 (fun _ => 0), zi G q_2 6 (fun _ => 0), zi G q_3 12 (fun _ => 0), zi G q_4 12 (fun _ => 0), zi G q_5 160 (fun _ => 0), zi G q_6 1200 (fun _ => 0), zi G q_7 24 (fun _ => 0), zi G q_8 24 (fun _ => 0), zi G q_9 3 (fun _ => 0), zi G q_10 4 (upd (upd (upd (upd (fun _ => 0) 0 (-1)) 1 (-1)) 2 (-1)) 3 (-1)), zi G q_11 4 (fun _ => 0), zi G q_12 160 (fun _ => 0), zi G q_13 40 (gPf tB 24)] → va_S A s.heap H locs → ∀ ls : Array Slot, lv_has ls 2 [zR 0 h0] → W p l e (headSpec wsX6_init ({ frames := 5, cells := 23, slots := 2439, locals := 109 })).room s m ([.ref h0] : List Value).toArray below meth c H locs 13 1655 (MQ below (q_X6_init_g G h0 A) ([.ref h0] : List Value).toArray s 23 2439 A) (F0 m 259 ls [.ref q_13, .ref h0]) := by
    as_aux_lemma =>
    intro q_1 q_2 q_3 q_4 q_5 q_6 q_7 q_8 q_9 q_10 q_11 q_12 q_13 H locs hP hD hS ls hl
    refine lv_dup hx hb dX6_init_259 rfl ?_
    refine lv_bipush (v := 24) hx hb dX6_init_260 (by decide +kernel) ?_
    refine lv_bipush (v := 114) hx hb dX6_init_262 (by decide +kernel) ?_
    refine g_iastP (D := G.1) hx hb hK hP hD hS 13 0 rfl rfl (i := 24) (x := 114) (k := 24) (t := tB) (by decide +kernel) (by decide +kernel) (gIn (by decide +kernel)) dX6_init_264 (fun H locs hP hD hS => ?_)
    have hz9 : gPD G A [zo6q12 h0 0 q_1 q_2 q_3 0 q_4 q_5 0 q_6 q_7 0 0 0 q_8 q_9 q_10 q_11 q_12 0 0 0 0 0 0 0 0 0 0 0 0 0, zi G q_1 6 (fun _ => 0), zi G q_2 6 (fun _ => 0), zi G q_3 12 (fun _ => 0), zi G q_4 12 (fun _ => 0), zi G q_5 160 (fun _ => 0), zi G q_6 1200 (fun _ => 0), zi G q_7 24 (fun _ => 0), zi G q_8 24 (fun _ => 0), zi G q_9 3 (fun _ => 0), zi G q_10 4 (upd (upd (upd (upd (fun _ => 0) 0 (-1)) 1 (-1)) 2 (-1)) 3 (-1)), zi G q_11 4 (fun _ => 0), zi G q_12 160 (fun _ => 0), zi G q_13 40 (gPf tB 25)] H := ⟨hP, hD⟩
    have hP := hz9.1
    have hD := hz9.2
    refine lv_dup hx hb dX6_init_265 rfl ?_
    refine lv_bipush (v := 25) hx hb dX6_init_266 (by decide +kernel) ?_
    refine lv_bipush (v := 115) hx hb dX6_init_268 (by decide +kernel) ?_
    refine g_iastP (D := G.1) hx hb hK hP hD hS 13 0 rfl rfl (i := 25) (x := 115) (k := 25) (t := tB) (by decide +kernel) (by decide +kernel) (gIn (by decide +kernel)) dX6_init_270 (fun H locs hP hD hS => ?_)
    have hz9 : gPD G A [zo6q12 h0 0 q_1 q_2 q_3 0 q_4 q_5 0 q_6 q_7 0 0 0 q_8 q_9 q_10 q_11 q_12 0 0 0 0 0 0 0 0 0 0 0 0 0, zi G q_1 6 (fun _ => 0), zi G q_2 6 (fun _ => 0), zi G q_3 12 (fun _ => 0), zi G q_4 12 (fun _ => 0), zi G q_5 160 (fun _ => 0), zi G q_6 1200 (fun _ => 0), zi G q_7 24 (fun _ => 0), zi G q_8 24 (fun _ => 0), zi G q_9 3 (fun _ => 0), zi G q_10 4 (upd (upd (upd (upd (fun _ => 0) 0 (-1)) 1 (-1)) 2 (-1)) 3 (-1)), zi G q_11 4 (fun _ => 0), zi G q_12 160 (fun _ => 0), zi G q_13 40 (gPf tB 26)] H := ⟨hP, hD⟩
    have hP := hz9.1
    have hD := hz9.2
    refine lv_dup hx hb dX6_init_271 rfl ?_
    refine lv_bipush (v := 26) hx hb dX6_init_272 (by decide +kernel) ?_
    refine lv_bipush (v := 32) hx hb dX6_init_274 (by decide +kernel) ?_
    refine g_iastP (D := G.1) hx hb hK hP hD hS 13 0 rfl rfl (i := 26) (x := 32) (k := 26) (t := tB) (by decide +kernel) (by decide +kernel) (gIn (by decide +kernel)) dX6_init_276 (fun H locs hP hD hS => ?_)
    have hz9 : gPD G A [zo6q12 h0 0 q_1 q_2 q_3 0 q_4 q_5 0 q_6 q_7 0 0 0 q_8 q_9 q_10 q_11 q_12 0 0 0 0 0 0 0 0 0 0 0 0 0, zi G q_1 6 (fun _ => 0), zi G q_2 6 (fun _ => 0), zi G q_3 12 (fun _ => 0), zi G q_4 12 (fun _ => 0), zi G q_5 160 (fun _ => 0), zi G q_6 1200 (fun _ => 0), zi G q_7 24 (fun _ => 0), zi G q_8 24 (fun _ => 0), zi G q_9 3 (fun _ => 0), zi G q_10 4 (upd (upd (upd (upd (fun _ => 0) 0 (-1)) 1 (-1)) 2 (-1)) 3 (-1)), zi G q_11 4 (fun _ => 0), zi G q_12 160 (fun _ => 0), zi G q_13 40 (gPf tB 27)] H := ⟨hP, hD⟩
    have hP := hz9.1
    have hD := hz9.2
    refine lv_dup hx hb dX6_init_277 rfl ?_
    refine lv_bipush (v := 27) hx hb dX6_init_278 (by decide +kernel) ?_
    refine lv_bipush (v := 49) hx hb dX6_init_280 (by decide +kernel) ?_
    refine g_iastP (D := G.1) hx hb hK hP hD hS 13 0 rfl rfl (i := 27) (x := 49) (k := 27) (t := tB) (by decide +kernel) (by decide +kernel) (gIn (by decide +kernel)) dX6_init_282 (fun H locs hP hD hS => ?_)
    have hz9 : gPD G A [zo6q12 h0 0 q_1 q_2 q_3 0 q_4 q_5 0 q_6 q_7 0 0 0 q_8 q_9 q_10 q_11 q_12 0 0 0 0 0 0 0 0 0 0 0 0 0, zi G q_1 6 (fun _ => 0), zi G q_2 6 (fun _ => 0), zi G q_3 12 (fun _ => 0), zi G q_4 12 (fun _ => 0), zi G q_5 160 (fun _ => 0), zi G q_6 1200 (fun _ => 0), zi G q_7 24 (fun _ => 0), zi G q_8 24 (fun _ => 0), zi G q_9 3 (fun _ => 0), zi G q_10 4 (upd (upd (upd (upd (fun _ => 0) 0 (-1)) 1 (-1)) 2 (-1)) 3 (-1)), zi G q_11 4 (fun _ => 0), zi G q_12 160 (fun _ => 0), zi G q_13 40 (gPf tB 28)] H := ⟨hP, hD⟩
    have hP := hz9.1
    have hD := hz9.2
    refine lv_dup hx hb dX6_init_283 rfl ?_
    refine lv_bipush (v := 28) hx hb dX6_init_284 (by decide +kernel) ?_
    refine lv_bipush (v := 32) hx hb dX6_init_286 (by decide +kernel) ?_
    refine g_iastP (D := G.1) hx hb hK hP hD hS 13 0 rfl rfl (i := 28) (x := 32) (k := 28) (t := tB) (by decide +kernel) (by decide +kernel) (gIn (by decide +kernel)) dX6_init_288 (fun H locs hP hD hS => ?_)
    have hz9 : gPD G A [zo6q12 h0 0 q_1 q_2 q_3 0 q_4 q_5 0 q_6 q_7 0 0 0 q_8 q_9 q_10 q_11 q_12 0 0 0 0 0 0 0 0 0 0 0 0 0, zi G q_1 6 (fun _ => 0), zi G q_2 6 (fun _ => 0), zi G q_3 12 (fun _ => 0), zi G q_4 12 (fun _ => 0), zi G q_5 160 (fun _ => 0), zi G q_6 1200 (fun _ => 0), zi G q_7 24 (fun _ => 0), zi G q_8 24 (fun _ => 0), zi G q_9 3 (fun _ => 0), zi G q_10 4 (upd (upd (upd (upd (fun _ => 0) 0 (-1)) 1 (-1)) 2 (-1)) 3 (-1)), zi G q_11 4 (fun _ => 0), zi G q_12 160 (fun _ => 0), zi G q_13 40 (gPf tB 29)] H := ⟨hP, hD⟩
    have hP := hz9.1
    have hD := hz9.2
    refine lv_dup hx hb dX6_init_289 rfl ?_
    refine lv_bipush (v := 29) hx hb dX6_init_290 (by decide +kernel) ?_
    refine lv_bipush (v := 59) hx hb dX6_init_292 (by decide +kernel) ?_
    refine g_iastP (D := G.1) hx hb hK hP hD hS 13 0 rfl rfl (i := 29) (x := 59) (k := 29) (t := tB) (by decide +kernel) (by decide +kernel) (gIn (by decide +kernel)) dX6_init_294 (fun H locs hP hD hS => ?_)
    have hz9 : gPD G A [zo6q12 h0 0 q_1 q_2 q_3 0 q_4 q_5 0 q_6 q_7 0 0 0 q_8 q_9 q_10 q_11 q_12 0 0 0 0 0 0 0 0 0 0 0 0 0, zi G q_1 6 (fun _ => 0), zi G q_2 6 (fun _ => 0), zi G q_3 12 (fun _ => 0), zi G q_4 12 (fun _ => 0), zi G q_5 160 (fun _ => 0), zi G q_6 1200 (fun _ => 0), zi G q_7 24 (fun _ => 0), zi G q_8 24 (fun _ => 0), zi G q_9 3 (fun _ => 0), zi G q_10 4 (upd (upd (upd (upd (fun _ => 0) 0 (-1)) 1 (-1)) 2 (-1)) 3 (-1)), zi G q_11 4 (fun _ => 0), zi G q_12 160 (fun _ => 0), zi G q_13 40 (gPf tB 30)] H := ⟨hP, hD⟩
    have hP := hz9.1
    have hD := hz9.2
    refine lv_dup hx hb dX6_init_295 rfl ?_
    refine lv_bipush (v := 30) hx hb dX6_init_296 (by decide +kernel) ?_
    refine lv_bipush (v := 32) hx hb dX6_init_298 (by decide +kernel) ?_
    refine g_iastP (D := G.1) hx hb hK hP hD hS 13 0 rfl rfl (i := 30) (x := 32) (k := 30) (t := tB) (by decide +kernel) (by decide +kernel) (gIn (by decide +kernel)) dX6_init_300 (fun H locs hP hD hS => ?_)
    have hz9 : gPD G A [zo6q12 h0 0 q_1 q_2 q_3 0 q_4 q_5 0 q_6 q_7 0 0 0 q_8 q_9 q_10 q_11 q_12 0 0 0 0 0 0 0 0 0 0 0 0 0, zi G q_1 6 (fun _ => 0), zi G q_2 6 (fun _ => 0), zi G q_3 12 (fun _ => 0), zi G q_4 12 (fun _ => 0), zi G q_5 160 (fun _ => 0), zi G q_6 1200 (fun _ => 0), zi G q_7 24 (fun _ => 0), zi G q_8 24 (fun _ => 0), zi G q_9 3 (fun _ => 0), zi G q_10 4 (upd (upd (upd (upd (fun _ => 0) 0 (-1)) 1 (-1)) 2 (-1)) 3 (-1)), zi G q_11 4 (fun _ => 0), zi G q_12 160 (fun _ => 0), zi G q_13 40 (gPf tB 31)] H := ⟨hP, hD⟩
    have hP := hz9.1
    have hD := hz9.2
    refine lv_dup hx hb dX6_init_301 rfl ?_
    refine lv_bipush (v := 31) hx hb dX6_init_302 (by decide +kernel) ?_
    refine lv_bipush (v := 98) hx hb dX6_init_304 (by decide +kernel) ?_
    refine g_iastP (D := G.1) hx hb hK hP hD hS 13 0 rfl rfl (i := 31) (x := 98) (k := 31) (t := tB) (by decide +kernel) (by decide +kernel) (gIn (by decide +kernel)) dX6_init_306 (fun H locs hP hD hS => ?_)
    have hz9 : gPD G A [zo6q12 h0 0 q_1 q_2 q_3 0 q_4 q_5 0 q_6 q_7 0 0 0 q_8 q_9 q_10 q_11 q_12 0 0 0 0 0 0 0 0 0 0 0 0 0, zi G q_1 6 (fun _ => 0), zi G q_2 6 (fun _ => 0), zi G q_3 12 (fun _ => 0), zi G q_4 12 (fun _ => 0), zi G q_5 160 (fun _ => 0), zi G q_6 1200 (fun _ => 0), zi G q_7 24 (fun _ => 0), zi G q_8 24 (fun _ => 0), zi G q_9 3 (fun _ => 0), zi G q_10 4 (upd (upd (upd (upd (fun _ => 0) 0 (-1)) 1 (-1)) 2 (-1)) 3 (-1)), zi G q_11 4 (fun _ => 0), zi G q_12 160 (fun _ => 0), zi G q_13 40 (gPf tB 32)] H := ⟨hP, hD⟩
    have hP := hz9.1
    have hD := hz9.2
    exact cut_307 q_1 q_2 q_3 q_4 q_5 q_6 q_7 q_8 q_9 q_10 q_11 q_12 q_13 _ _ hP hD hS _ hl
  have cut_211 : ∀ (q_1 q_2 q_3 q_4 q_5 q_6 q_7 q_8 q_9 q_10 q_11 q_12 q_13 : Nat) (H : Heap) (locs : List Loc), va_P G.1 vwCl [zo6q12 h0 0 q_1 q_2 q_3 0 q_4 q_5 0 q_6 q_7 0 0 0 q_8 q_9 q_10 q_11 q_12 0 0 0 0 0 0 0 0 0 0 0 0 0, zi G q_1 6 (fun _ => 0), zi G q_2 6 (fun _ => 0), zi G q_3 12 (fun _ => 0), zi G q_4 12 (fun _ => 0), zi G q_5 160 (fun _ => 0), zi G q_6 1200 (fun _ => 0), zi G q_7 24 (fun _ => 0), zi G q_8 24 (fun _ => 0), zi G q_9 3 (fun _ => 0), zi G q_10 4 (upd (upd (upd (upd (fun _ => 0) 0 (-1)) 1 (-1)) 2 (-1)) 3 (-1)), zi G q_11 4 (fun _ => 0), zi G q_12 160 (fun _ => 0), zi G q_13 40 (gPf tB 16)] H → va_D A [zo6q12 h0 0 q_1 q_2 q_3 0 q_4 q_5 0 q_6 q_7 0 0 0 q_8 q_9 q_10 q_11 q_12 0 0 0 0 0 0 0 0 0 0 0 0 0, zi G q_1 6 (fun _ => 0), zi G q_2 6 (fun _ => 0), zi G q_3 12 (fun _ => 0), zi G q_4 12 (fun _ => 0), zi G q_5 160 (fun _ => 0), zi G q_6 1200 (fun _ => 0), zi G q_7 24 (fun _ => 0), zi G q_8 24 (fun _ => 0), zi G q_9 3 (fun _ => 0), zi G q_10 4 (upd (upd (upd (upd (fun _ => 0) 0 (-1)) 1 (-1)) 2 (-1)) 3 (-1)), zi G q_11 4 (fun _ => 0), zi G q_12 160 (fun _ => 0), zi G q_13 40 (gPf tB 16)] → va_S A s.heap H locs → ∀ ls : Array Slot, lv_has ls 2 [zR 0 h0] → W p l e (headSpec wsX6_init ({ frames := 5, cells := 23, slots := 2439, locals := 109 })).room s m ([.ref h0] : List Value).toArray below meth c H locs 13 1655 (MQ below (q_X6_init_g G h0 A) ([.ref h0] : List Value).toArray s 23 2439 A) (F0 m 211 ls [.ref q_13, .ref h0]) := by
    as_aux_lemma =>
    intro q_1 q_2 q_3 q_4 q_5 q_6 q_7 q_8 q_9 q_10 q_11 q_12 q_13 H locs hP hD hS ls hl
    refine lv_dup hx hb dX6_init_211 rfl ?_
    refine lv_bipush (v := 16) hx hb dX6_init_212 (by decide +kernel) ?_
    refine lv_bipush (v := 110) hx hb dX6_init_214 (by decide +kernel) ?_
    refine g_iastP (D := G.1) hx hb hK hP hD hS 13 0 rfl rfl (i := 16) (x := 110) (k := 16) (t := tB) (by decide +kernel) (by decide +kernel) (gIn (by decide +kernel)) dX6_init_216 (fun H locs hP hD hS => ?_)
    have hz9 : gPD G A [zo6q12 h0 0 q_1 q_2 q_3 0 q_4 q_5 0 q_6 q_7 0 0 0 q_8 q_9 q_10 q_11 q_12 0 0 0 0 0 0 0 0 0 0 0 0 0, zi G q_1 6 (fun _ => 0), zi G q_2 6 (fun _ => 0), zi G q_3 12 (fun _ => 0), zi G q_4 12 (fun _ => 0), zi G q_5 160 (fun _ => 0), zi G q_6 1200 (fun _ => 0), zi G q_7 24 (fun _ => 0), zi G q_8 24 (fun _ => 0), zi G q_9 3 (fun _ => 0), zi G q_10 4 (upd (upd (upd (upd (fun _ => 0) 0 (-1)) 1 (-1)) 2 (-1)) 3 (-1)), zi G q_11 4 (fun _ => 0), zi G q_12 160 (fun _ => 0), zi G q_13 40 (gPf tB 17)] H := ⟨hP, hD⟩
    have hP := hz9.1
    have hD := hz9.2
    refine lv_dup hx hb dX6_init_217 rfl ?_
    refine lv_bipush (v := 17) hx hb dX6_init_218 (by decide +kernel) ?_
    refine lv_bipush (v := 100) hx hb dX6_init_220 (by decide +kernel) ?_
    refine g_iastP (D := G.1) hx hb hK hP hD hS 13 0 rfl rfl (i := 17) (x := 100) (k := 17) (t := tB) (by decide +kernel) (by decide +kernel) (gIn (by decide +kernel)) dX6_init_222 (fun H locs hP hD hS => ?_)
    have hz9 : gPD G A [zo6q12 h0 0 q_1 q_2 q_3 0 q_4 q_5 0 q_6 q_7 0 0 0 q_8 q_9 q_10 q_11 q_12 0 0 0 0 0 0 0 0 0 0 0 0 0, zi G q_1 6 (fun _ => 0), zi G q_2 6 (fun _ => 0), zi G q_3 12 (fun _ => 0), zi G q_4 12 (fun _ => 0), zi G q_5 160 (fun _ => 0), zi G q_6 1200 (fun _ => 0), zi G q_7 24 (fun _ => 0), zi G q_8 24 (fun _ => 0), zi G q_9 3 (fun _ => 0), zi G q_10 4 (upd (upd (upd (upd (fun _ => 0) 0 (-1)) 1 (-1)) 2 (-1)) 3 (-1)), zi G q_11 4 (fun _ => 0), zi G q_12 160 (fun _ => 0), zi G q_13 40 (gPf tB 18)] H := ⟨hP, hD⟩
    have hP := hz9.1
    have hD := hz9.2
    refine lv_dup hx hb dX6_init_223 rfl ?_
    refine lv_bipush (v := 18) hx hb dX6_init_224 (by decide +kernel) ?_
    refine lv_bipush (v := 32) hx hb dX6_init_226 (by decide +kernel) ?_
    refine g_iastP (D := G.1) hx hb hK hP hD hS 13 0 rfl rfl (i := 18) (x := 32) (k := 18) (t := tB) (by decide +kernel) (by decide +kernel) (gIn (by decide +kernel)) dX6_init_228 (fun H locs hP hD hS => ?_)
    have hz9 : gPD G A [zo6q12 h0 0 q_1 q_2 q_3 0 q_4 q_5 0 q_6 q_7 0 0 0 q_8 q_9 q_10 q_11 q_12 0 0 0 0 0 0 0 0 0 0 0 0 0, zi G q_1 6 (fun _ => 0), zi G q_2 6 (fun _ => 0), zi G q_3 12 (fun _ => 0), zi G q_4 12 (fun _ => 0), zi G q_5 160 (fun _ => 0), zi G q_6 1200 (fun _ => 0), zi G q_7 24 (fun _ => 0), zi G q_8 24 (fun _ => 0), zi G q_9 3 (fun _ => 0), zi G q_10 4 (upd (upd (upd (upd (fun _ => 0) 0 (-1)) 1 (-1)) 2 (-1)) 3 (-1)), zi G q_11 4 (fun _ => 0), zi G q_12 160 (fun _ => 0), zi G q_13 40 (gPf tB 19)] H := ⟨hP, hD⟩
    have hP := hz9.1
    have hD := hz9.2
    refine lv_dup hx hb dX6_init_229 rfl ?_
    refine lv_bipush (v := 19) hx hb dX6_init_230 (by decide +kernel) ?_
    refine lv_bipush (v := 59) hx hb dX6_init_232 (by decide +kernel) ?_
    refine g_iastP (D := G.1) hx hb hK hP hD hS 13 0 rfl rfl (i := 19) (x := 59) (k := 19) (t := tB) (by decide +kernel) (by decide +kernel) (gIn (by decide +kernel)) dX6_init_234 (fun H locs hP hD hS => ?_)
    have hz9 : gPD G A [zo6q12 h0 0 q_1 q_2 q_3 0 q_4 q_5 0 q_6 q_7 0 0 0 q_8 q_9 q_10 q_11 q_12 0 0 0 0 0 0 0 0 0 0 0 0 0, zi G q_1 6 (fun _ => 0), zi G q_2 6 (fun _ => 0), zi G q_3 12 (fun _ => 0), zi G q_4 12 (fun _ => 0), zi G q_5 160 (fun _ => 0), zi G q_6 1200 (fun _ => 0), zi G q_7 24 (fun _ => 0), zi G q_8 24 (fun _ => 0), zi G q_9 3 (fun _ => 0), zi G q_10 4 (upd (upd (upd (upd (fun _ => 0) 0 (-1)) 1 (-1)) 2 (-1)) 3 (-1)), zi G q_11 4 (fun _ => 0), zi G q_12 160 (fun _ => 0), zi G q_13 40 (gPf tB 20)] H := ⟨hP, hD⟩
    have hP := hz9.1
    have hD := hz9.2
    refine lv_dup hx hb dX6_init_235 rfl ?_
    refine lv_bipush (v := 20) hx hb dX6_init_236 (by decide +kernel) ?_
    refine lv_bipush (v := 32) hx hb dX6_init_238 (by decide +kernel) ?_
    refine g_iastP (D := G.1) hx hb hK hP hD hS 13 0 rfl rfl (i := 20) (x := 32) (k := 20) (t := tB) (by decide +kernel) (by decide +kernel) (gIn (by decide +kernel)) dX6_init_240 (fun H locs hP hD hS => ?_)
    have hz9 : gPD G A [zo6q12 h0 0 q_1 q_2 q_3 0 q_4 q_5 0 q_6 q_7 0 0 0 q_8 q_9 q_10 q_11 q_12 0 0 0 0 0 0 0 0 0 0 0 0 0, zi G q_1 6 (fun _ => 0), zi G q_2 6 (fun _ => 0), zi G q_3 12 (fun _ => 0), zi G q_4 12 (fun _ => 0), zi G q_5 160 (fun _ => 0), zi G q_6 1200 (fun _ => 0), zi G q_7 24 (fun _ => 0), zi G q_8 24 (fun _ => 0), zi G q_9 3 (fun _ => 0), zi G q_10 4 (upd (upd (upd (upd (fun _ => 0) 0 (-1)) 1 (-1)) 2 (-1)) 3 (-1)), zi G q_11 4 (fun _ => 0), zi G q_12 160 (fun _ => 0), zi G q_13 40 (gPf tB 21)] H := ⟨hP, hD⟩
    have hP := hz9.1
    have hD := hz9.2
    refine lv_dup hx hb dX6_init_241 rfl ?_
    refine lv_bipush (v := 21) hx hb dX6_init_242 (by decide +kernel) ?_
    refine lv_bipush (v := 119) hx hb dX6_init_244 (by decide +kernel) ?_
    refine g_iastP (D := G.1) hx hb hK hP hD hS 13 0 rfl rfl (i := 21) (x := 119) (k := 21) (t := tB) (by decide +kernel) (by decide +kernel) (gIn (by decide +kernel)) dX6_init_246 (fun H locs hP hD hS => ?_)
    have hz9 : gPD G A [zo6q12 h0 0 q_1 q_2 q_3 0 q_4 q_5 0 q_6 q_7 0 0 0 q_8 q_9 q_10 q_11 q_12 0 0 0 0 0 0 0 0 0 0 0 0 0, zi G q_1 6 (fun _ => 0), zi G q_2 6 (fun _ => 0), zi G q_3 12 (fun _ => 0), zi G q_4 12 (fun _ => 0), zi G q_5 160 (fun _ => 0), zi G q_6 1200 (fun _ => 0), zi G q_7 24 (fun _ => 0), zi G q_8 24 (fun _ => 0), zi G q_9 3 (fun _ => 0), zi G q_10 4 (upd (upd (upd (upd (fun _ => 0) 0 (-1)) 1 (-1)) 2 (-1)) 3 (-1)), zi G q_11 4 (fun _ => 0), zi G q_12 160 (fun _ => 0), zi G q_13 40 (gPf tB 22)] H := ⟨hP, hD⟩
    have hP := hz9.1
    have hD := hz9.2
    refine lv_dup hx hb dX6_init_247 rfl ?_
    refine lv_bipush (v := 22) hx hb dX6_init_248 (by decide +kernel) ?_
    refine lv_bipush (v := 101) hx hb dX6_init_250 (by decide +kernel) ?_
    refine g_iastP (D := G.1) hx hb hK hP hD hS 13 0 rfl rfl (i := 22) (x := 101) (k := 22) (t := tB) (by decide +kernel) (by decide +kernel) (gIn (by decide +kernel)) dX6_init_252 (fun H locs hP hD hS => ?_)
    have hz9 : gPD G A [zo6q12 h0 0 q_1 q_2 q_3 0 q_4 q_5 0 q_6 q_7 0 0 0 q_8 q_9 q_10 q_11 q_12 0 0 0 0 0 0 0 0 0 0 0 0 0, zi G q_1 6 (fun _ => 0), zi G q_2 6 (fun _ => 0), zi G q_3 12 (fun _ => 0), zi G q_4 12 (fun _ => 0), zi G q_5 160 (fun _ => 0), zi G q_6 1200 (fun _ => 0), zi G q_7 24 (fun _ => 0), zi G q_8 24 (fun _ => 0), zi G q_9 3 (fun _ => 0), zi G q_10 4 (upd (upd (upd (upd (fun _ => 0) 0 (-1)) 1 (-1)) 2 (-1)) 3 (-1)), zi G q_11 4 (fun _ => 0), zi G q_12 160 (fun _ => 0), zi G q_13 40 (gPf tB 23)] H := ⟨hP, hD⟩
    have hP := hz9.1
    have hD := hz9.2
    refine lv_dup hx hb dX6_init_253 rfl ?_
    refine lv_bipush (v := 23) hx hb dX6_init_254 (by decide +kernel) ?_
    refine lv_bipush (v := 97) hx hb dX6_init_256 (by decide +kernel) ?_
    refine g_iastP (D := G.1) hx hb hK hP hD hS 13 0 rfl rfl (i := 23) (x := 97) (k := 23) (t := tB) (by decide +kernel) (by decide +kernel) (gIn (by decide +kernel)) dX6_init_258 (fun H locs hP hD hS => ?_)
    have hz9 : gPD G A [zo6q12 h0 0 q_1 q_2 q_3 0 q_4 q_5 0 q_6 q_7 0 0 0 q_8 q_9 q_10 q_11 q_12 0 0 0 0 0 0 0 0 0 0 0 0 0, zi G q_1 6 (fun _ => 0), zi G q_2 6 (fun _ => 0), zi G q_3 12 (fun _ => 0), zi G q_4 12 (fun _ => 0), zi G q_5 160 (fun _ => 0), zi G q_6 1200 (fun _ => 0), zi G q_7 24 (fun _ => 0), zi G q_8 24 (fun _ => 0), zi G q_9 3 (fun _ => 0), zi G q_10 4 (upd (upd (upd (upd (fun _ => 0) 0 (-1)) 1 (-1)) 2 (-1)) 3 (-1)), zi G q_11 4 (fun _ => 0), zi G q_12 160 (fun _ => 0), zi G q_13 40 (gPf tB 24)] H := ⟨hP, hD⟩
    have hP := hz9.1
    have hD := hz9.2
    exact cut_259 q_1 q_2 q_3 q_4 q_5 q_6 q_7 q_8 q_9 q_10 q_11 q_12 q_13 _ _ hP hD hS _ hl
  have cut_163 : ∀ (q_1 q_2 q_3 q_4 q_5 q_6 q_7 q_8 q_9 q_10 q_11 q_12 q_13 : Nat) (H : Heap) (locs : List Loc), va_P G.1 vwCl [zo6q12 h0 0 q_1 q_2 q_3 0 q_4 q_5 0 q_6 q_7 0 0 0 q_8 q_9 q_10 q_11 q_12 0 0 0 0 0 0 0 0 0 0 0 0 0, zi G q_1 6 (fun _ => 0), zi G q_2 6 (fun _ => 0), zi G q_3 12 (fun _ => 0), zi G q_4 12 (fun _ => 0), zi G q_5 160 (fun _ => 0), zi G q_6 1200 (fun _ => 0), zi G q_7 24 (fun _ => 0), zi G q_8 24 (fun _ => 0), zi G q_9 3 (fun _ => 0), zi G q_10 4 (upd (upd (upd (upd (fun _ => 0) 0 (-1)) 1 (-1)) 2 (-1)) 3 (-1)), zi G q_11 4 (fun _ => 0), zi G q_12 160 (fun _ => 0), zi G q_13 40 (gPf tB 8)] H → va_D A [zo6q12 h0 0 q_1 q_2 q_3 0 q_4 q_5 0 q_6 q_7 0 0 0 q_8 q_9 q_10 q_11 q_12 0 0 0 0 0 0 0 0 0 0 0 0 0, zi G q_1 6 (fun _ => 0), zi G q_2 6 (fun _ => 0), zi G q_3 12 (fun _ => 0), zi G q_4 12 (fun _ => 0), zi G q_5 160 (fun _ => 0), zi G q_6 1200 (fun _ => 0), zi G q_7 24 (fun _ => 0), zi G q_8 24 (fun _ => 0), zi G q_9 3 (fun _ => 0), zi G q_10 4 (upd (upd (upd (upd (fun _ => 0) 0 (-1)) 1 (-1)) 2 (-1)) 3 (-1)), zi G q_11 4 (fun _ => 0), zi G q_12 160 (fun _ => 0), zi G q_13 40 (gPf tB 8)] → va_S A s.heap H locs → ∀ ls : Array Slot, lv_has ls 2 [zR 0 h0] → W p l e (headSpec wsX6_init ({ frames := 5, cells := 23, slots := 2439, locals := 109 })).room s m ([.ref h0] : List Value).toArray below meth c H locs 13 1655 (MQ below (q_X6_init_g G h0 A) ([.ref h0] : List Value).toArray s 23 2439 A) (F0 m 163 ls [.ref q_13, .ref h0]) := by
    as_aux_lemma =>
    intro q_1 q_2 q_3 q_4 q_5 q_6 q_7 q_8 q_9 q_10 q_11 q_12 q_13 H locs hP hD hS ls hl
    refine lv_dup hx hb dX6_init_163 rfl ?_
    refine lv_bipush (v := 8) hx hb dX6_init_164 (by decide +kernel) ?_
    refine lv_bipush (v := 122) hx hb dX6_init_166 (by decide +kernel) ?_
    refine g_iastP (D := G.1) hx hb hK hP hD hS 13 0 rfl rfl (i := 8) (x := 122) (k := 8) (t := tB) (by decide +kernel) (by decide +kernel) (gIn (by decide +kernel)) dX6_init_168 (fun H locs hP hD hS => ?_)
    have hz9 : gPD G A [zo6q12 h0 0 q_1 q_2 q_3 0 q_4 q_5 0 q_6 q_7 0 0 0 q_8 q_9 q_10 q_11 q_12 0 0 0 0 0 0 0 0 0 0 0 0 0, zi G q_1 6 (fun _ => 0), zi G q_2 6 (fun _ => 0), zi G q_3 12 (fun _ => 0), zi G q_4 12 (fun _ => 0), zi G q_5 160 (fun _ => 0), zi G q_6 1200 (fun _ => 0), zi G q_7 24 (fun _ => 0), zi G q_8 24 (fun _ => 0), zi G q_9 3 (fun _ => 0), zi G q_10 4 (upd (upd (upd (upd (fun _ => 0) 0 (-1)) 1 (-1)) 2 (-1)) 3 (-1)), zi G q_11 4 (fun _ => 0), zi G q_12 160 (fun _ => 0), zi G q_13 40 (gPf tB 9)] H := ⟨hP, hD⟩
    have hP := hz9.1
    have hD := hz9.2
    refine lv_dup hx hb dX6_init_169 rfl ?_
    refine lv_bipush (v := 9) hx hb dX6_init_170 (by decide +kernel) ?_
    refine lv_bipush (v := 101) hx hb dX6_init_172 (by decide +kernel) ?_
    refine g_iastP (D := G.1) hx hb hK hP hD hS 13 0 rfl rfl (i := 9) (x := 101) (k := 9) (t := tB) (by decide +kernel) (by decide +kernel) (gIn (by decide +kernel)) dX6_init_174 (fun H locs hP hD hS => ?_)
    have hz9 : gPD G A [zo6q12 h0 0 q_1 q_2 q_3 0 q_4 q_5 0 q_6 q_7 0 0 0 q_8 q_9 q_10 q_11 q_12 0 0 0 0 0 0 0 0 0 0 0 0 0, zi G q_1 6 (fun _ => 0), zi G q_2 6 (fun _ => 0), zi G q_3 12 (fun _ => 0), zi G q_4 12 (fun _ => 0), zi G q_5 160 (fun _ => 0), zi G q_6 1200 (fun _ => 0), zi G q_7 24 (fun _ => 0), zi G q_8 24 (fun _ => 0), zi G q_9 3 (fun _ => 0), zi G q_10 4 (upd (upd (upd (upd (fun _ => 0) 0 (-1)) 1 (-1)) 2 (-1)) 3 (-1)), zi G q_11 4 (fun _ => 0), zi G q_12 160 (fun _ => 0), zi G q_13 40 (gPf tB 10)] H := ⟨hP, hD⟩
    have hP := hz9.1
    have hD := hz9.2
    refine lv_dup hx hb dX6_init_175 rfl ?_
    refine lv_bipush (v := 10) hx hb dX6_init_176 (by decide +kernel) ?_
    refine lv_bipush (v := 32) hx hb dX6_init_178 (by decide +kernel) ?_
    refine g_iastP (D := G.1) hx hb hK hP hD hS 13 0 rfl rfl (i := 10) (x := 32) (k := 10) (t := tB) (by decide +kernel) (by decide +kernel) (gIn (by decide +kernel)) dX6_init_180 (fun H locs hP hD hS => ?_)
    have hz9 : gPD G A [zo6q12 h0 0 q_1 q_2 q_3 0 q_4 q_5 0 q_6 q_7 0 0 0 q_8 q_9 q_10 q_11 q_12 0 0 0 0 0 0 0 0 0 0 0 0 0, zi G q_1 6 (fun _ => 0), zi G q_2 6 (fun _ => 0), zi G q_3 12 (fun _ => 0), zi G q_4 12 (fun _ => 0), zi G q_5 160 (fun _ => 0), zi G q_6 1200 (fun _ => 0), zi G q_7 24 (fun _ => 0), zi G q_8 24 (fun _ => 0), zi G q_9 3 (fun _ => 0), zi G q_10 4 (upd (upd (upd (upd (fun _ => 0) 0 (-1)) 1 (-1)) 2 (-1)) 3 (-1)), zi G q_11 4 (fun _ => 0), zi G q_12 160 (fun _ => 0), zi G q_13 40 (gPf tB 11)] H := ⟨hP, hD⟩
    have hP := hz9.1
    have hD := hz9.2
    refine lv_dup hx hb dX6_init_181 rfl ?_
    refine lv_bipush (v := 11) hx hb dX6_init_182 (by decide +kernel) ?_
    refine lv_bipush (v := 45) hx hb dX6_init_184 (by decide +kernel) ?_
    refine g_iastP (D := G.1) hx hb hK hP hD hS 13 0 rfl rfl (i := 11) (x := 45) (k := 11) (t := tB) (by decide +kernel) (by decide +kernel) (gIn (by decide +kernel)) dX6_init_186 (fun H locs hP hD hS => ?_)
    have hz9 : gPD G A [zo6q12 h0 0 q_1 q_2 q_3 0 q_4 q_5 0 q_6 q_7 0 0 0 q_8 q_9 q_10 q_11 q_12 0 0 0 0 0 0 0 0 0 0 0 0 0, zi G q_1 6 (fun _ => 0), zi G q_2 6 (fun _ => 0), zi G q_3 12 (fun _ => 0), zi G q_4 12 (fun _ => 0), zi G q_5 160 (fun _ => 0), zi G q_6 1200 (fun _ => 0), zi G q_7 24 (fun _ => 0), zi G q_8 24 (fun _ => 0), zi G q_9 3 (fun _ => 0), zi G q_10 4 (upd (upd (upd (upd (fun _ => 0) 0 (-1)) 1 (-1)) 2 (-1)) 3 (-1)), zi G q_11 4 (fun _ => 0), zi G q_12 160 (fun _ => 0), zi G q_13 40 (gPf tB 12)] H := ⟨hP, hD⟩
    have hP := hz9.1
    have hD := hz9.2
    refine lv_dup hx hb dX6_init_187 rfl ?_
    refine lv_bipush (v := 12) hx hb dX6_init_188 (by decide +kernel) ?_
    refine lv_bipush (v := 32) hx hb dX6_init_190 (by decide +kernel) ?_
    refine g_iastP (D := G.1) hx hb hK hP hD hS 13 0 rfl rfl (i := 12) (x := 32) (k := 12) (t := tB) (by decide +kernel) (by decide +kernel) (gIn (by decide +kernel)) dX6_init_192 (fun H locs hP hD hS => ?_)
    have hz9 : gPD G A [zo6q12 h0 0 q_1 q_2 q_3 0 q_4 q_5 0 q_6 q_7 0 0 0 q_8 q_9 q_10 q_11 q_12 0 0 0 0 0 0 0 0 0 0 0 0 0, zi G q_1 6 (fun _ => 0), zi G q_2 6 (fun _ => 0), zi G q_3 12 (fun _ => 0), zi G q_4 12 (fun _ => 0), zi G q_5 160 (fun _ => 0), zi G q_6 1200 (fun _ => 0), zi G q_7 24 (fun _ => 0), zi G q_8 24 (fun _ => 0), zi G q_9 3 (fun _ => 0), zi G q_10 4 (upd (upd (upd (upd (fun _ => 0) 0 (-1)) 1 (-1)) 2 (-1)) 3 (-1)), zi G q_11 4 (fun _ => 0), zi G q_12 160 (fun _ => 0), zi G q_13 40 (gPf tB 13)] H := ⟨hP, hD⟩
    have hP := hz9.1
    have hD := hz9.2
    refine lv_dup hx hb dX6_init_193 rfl ?_
    refine lv_bipush (v := 13) hx hb dX6_init_194 (by decide +kernel) ?_
    refine lv_bipush (v := 114) hx hb dX6_init_196 (by decide +kernel) ?_
    refine g_iastP (D := G.1) hx hb hK hP hD hS 13 0 rfl rfl (i := 13) (x := 114) (k := 13) (t := tB) (by decide +kernel) (by decide +kernel) (gIn (by decide +kernel)) dX6_init_198 (fun H locs hP hD hS => ?_)
    have hz9 : gPD G A [zo6q12 h0 0 q_1 q_2 q_3 0 q_4 q_5 0 q_6 q_7 0 0 0 q_8 q_9 q_10 q_11 q_12 0 0 0 0 0 0 0 0 0 0 0 0 0, zi G q_1 6 (fun _ => 0), zi G q_2 6 (fun _ => 0), zi G q_3 12 (fun _ => 0), zi G q_4 12 (fun _ => 0), zi G q_5 160 (fun _ => 0), zi G q_6 1200 (fun _ => 0), zi G q_7 24 (fun _ => 0), zi G q_8 24 (fun _ => 0), zi G q_9 3 (fun _ => 0), zi G q_10 4 (upd (upd (upd (upd (fun _ => 0) 0 (-1)) 1 (-1)) 2 (-1)) 3 (-1)), zi G q_11 4 (fun _ => 0), zi G q_12 160 (fun _ => 0), zi G q_13 40 (gPf tB 14)] H := ⟨hP, hD⟩
    have hP := hz9.1
    have hD := hz9.2
    refine lv_dup hx hb dX6_init_199 rfl ?_
    refine lv_bipush (v := 14) hx hb dX6_init_200 (by decide +kernel) ?_
    refine lv_bipush (v := 111) hx hb dX6_init_202 (by decide +kernel) ?_
    refine g_iastP (D := G.1) hx hb hK hP hD hS 13 0 rfl rfl (i := 14) (x := 111) (k := 14) (t := tB) (by decide +kernel) (by decide +kernel) (gIn (by decide +kernel)) dX6_init_204 (fun H locs hP hD hS => ?_)
    have hz9 : gPD G A [zo6q12 h0 0 q_1 q_2 q_3 0 q_4 q_5 0 q_6 q_7 0 0 0 q_8 q_9 q_10 q_11 q_12 0 0 0 0 0 0 0 0 0 0 0 0 0, zi G q_1 6 (fun _ => 0), zi G q_2 6 (fun _ => 0), zi G q_3 12 (fun _ => 0), zi G q_4 12 (fun _ => 0), zi G q_5 160 (fun _ => 0), zi G q_6 1200 (fun _ => 0), zi G q_7 24 (fun _ => 0), zi G q_8 24 (fun _ => 0), zi G q_9 3 (fun _ => 0), zi G q_10 4 (upd (upd (upd (upd (fun _ => 0) 0 (-1)) 1 (-1)) 2 (-1)) 3 (-1)), zi G q_11 4 (fun _ => 0), zi G q_12 160 (fun _ => 0), zi G q_13 40 (gPf tB 15)] H := ⟨hP, hD⟩
    have hP := hz9.1
    have hD := hz9.2
    refine lv_dup hx hb dX6_init_205 rfl ?_
    refine lv_bipush (v := 15) hx hb dX6_init_206 (by decide +kernel) ?_
    refine lv_bipush (v := 117) hx hb dX6_init_208 (by decide +kernel) ?_
    refine g_iastP (D := G.1) hx hb hK hP hD hS 13 0 rfl rfl (i := 15) (x := 117) (k := 15) (t := tB) (by decide +kernel) (by decide +kernel) (gIn (by decide +kernel)) dX6_init_210 (fun H locs hP hD hS => ?_)
    have hz9 : gPD G A [zo6q12 h0 0 q_1 q_2 q_3 0 q_4 q_5 0 q_6 q_7 0 0 0 q_8 q_9 q_10 q_11 q_12 0 0 0 0 0 0 0 0 0 0 0 0 0, zi G q_1 6 (fun _ => 0), zi G q_2 6 (fun _ => 0), zi G q_3 12 (fun _ => 0), zi G q_4 12 (fun _ => 0), zi G q_5 160 (fun _ => 0), zi G q_6 1200 (fun _ => 0), zi G q_7 24 (fun _ => 0), zi G q_8 24 (fun _ => 0), zi G q_9 3 (fun _ => 0), zi G q_10 4 (upd (upd (upd (upd (fun _ => 0) 0 (-1)) 1 (-1)) 2 (-1)) 3 (-1)), zi G q_11 4 (fun _ => 0), zi G q_12 160 (fun _ => 0), zi G q_13 40 (gPf tB 16)] H := ⟨hP, hD⟩
    have hP := hz9.1
    have hD := hz9.2
    exact cut_211 q_1 q_2 q_3 q_4 q_5 q_6 q_7 q_8 q_9 q_10 q_11 q_12 q_13 _ _ hP hD hS _ hl
  have cut_121 : ∀ (q_1 q_2 q_3 q_4 q_5 q_6 q_7 q_8 q_9 q_10 q_11 q_12 q_13 : Nat) (H : Heap) (locs : List Loc), va_P G.1 vwCl [zo6q12 h0 0 q_1 q_2 q_3 0 q_4 q_5 0 q_6 q_7 0 0 0 q_8 q_9 q_10 q_11 q_12 0 0 0 0 0 0 0 0 0 0 0 0 0, zi G q_1 6 (fun _ => 0), zi G q_2 6 (fun _ => 0), zi G q_3 12 (fun _ => 0), zi G q_4 12 (fun _ => 0), zi G q_5 160 (fun _ => 0), zi G q_6 1200 (fun _ => 0), zi G q_7 24 (fun _ => 0), zi G q_8 24 (fun _ => 0), zi G q_9 3 (fun _ => 0), zi G q_10 4 (upd (upd (upd (upd (fun _ => 0) 0 (-1)) 1 (-1)) 2 (-1)) 3 (-1)), zi G q_11 4 (fun _ => 0), zi G q_12 160 (fun _ => 0), zi G q_13 40 (fun _ => 0)] H → va_D A [zo6q12 h0 0 q_1 q_2 q_3 0 q_4 q_5 0 q_6 q_7 0 0 0 q_8 q_9 q_10 q_11 q_12 0 0 0 0 0 0 0 0 0 0 0 0 0, zi G q_1 6 (fun _ => 0), zi G q_2 6 (fun _ => 0), zi G q_3 12 (fun _ => 0), zi G q_4 12 (fun _ => 0), zi G q_5 160 (fun _ => 0), zi G q_6 1200 (fun _ => 0), zi G q_7 24 (fun _ => 0), zi G q_8 24 (fun _ => 0), zi G q_9 3 (fun _ => 0), zi G q_10 4 (upd (upd (upd (upd (fun _ => 0) 0 (-1)) 1 (-1)) 2 (-1)) 3 (-1)), zi G q_11 4 (fun _ => 0), zi G q_12 160 (fun _ => 0), zi G q_13 40 (fun _ => 0)] → va_S A s.heap H locs → ∀ ls : Array Slot, lv_has ls 2 [zR 0 h0] → W p l e (headSpec wsX6_init ({ frames := 5, cells := 23, slots := 2439, locals := 109 })).room s m ([.ref h0] : List Value).toArray below meth c H locs 13 1655 (MQ below (q_X6_init_g G h0 A) ([.ref h0] : List Value).toArray s 23 2439 A) (F0 m 121 ls [.ref q_13, .ref h0]) := by
    as_aux_lemma =>
    intro q_1 q_2 q_3 q_4 q_5 q_6 q_7 q_8 q_9 q_10 q_11 q_12 q_13 H locs hP hD hS ls hl
    refine lv_dup hx hb dX6_init_121 rfl ?_
    refine lv_iconst (v := 0) hx hb dX6_init_122 (by decide +kernel) ?_
    refine lv_bipush (v := 102) hx hb dX6_init_123 (by decide +kernel) ?_
    refine va_iast (D := G.1) hx hb hK hP hD hS 13 0 rfl rfl (i := 0) (x := 102) (gIn (by decide +kernel)) dX6_init_125 (fun H locs hP hD hS => ?_)
    have hz9 : gPD G A [zo6q12 h0 0 q_1 q_2 q_3 0 q_4 q_5 0 q_6 q_7 0 0 0 q_8 q_9 q_10 q_11 q_12 0 0 0 0 0 0 0 0 0 0 0 0 0, zi G q_1 6 (fun _ => 0), zi G q_2 6 (fun _ => 0), zi G q_3 12 (fun _ => 0), zi G q_4 12 (fun _ => 0), zi G q_5 160 (fun _ => 0), zi G q_6 1200 (fun _ => 0), zi G q_7 24 (fun _ => 0), zi G q_8 24 (fun _ => 0), zi G q_9 3 (fun _ => 0), zi G q_10 4 (upd (upd (upd (upd (fun _ => 0) 0 (-1)) 1 (-1)) 2 (-1)) 3 (-1)), zi G q_11 4 (fun _ => 0), zi G q_12 160 (fun _ => 0), zi G q_13 40 (gPf tB 1)] H := ⟨by rw [← gPf_s0 (t := tB) (x := 102) (by decide +kernel)]; exact hP, by rw [← gPf_s0 (t := tB) (x := 102) (by decide +kernel)]; exact hD⟩
    have hP := hz9.1
    have hD := hz9.2
    refine lv_dup hx hb dX6_init_126 rfl ?_
    refine lv_iconst (v := 1) hx hb dX6_init_127 (by decide +kernel) ?_
    refine lv_bipush (v := 101) hx hb dX6_init_128 (by decide +kernel) ?_
    refine g_iastP (D := G.1) hx hb hK hP hD hS 13 0 rfl rfl (i := 1) (x := 101) (k := 1) (t := tB) (by decide +kernel) (by decide +kernel) (gIn (by decide +kernel)) dX6_init_130 (fun H locs hP hD hS => ?_)
    have hz9 : gPD G A [zo6q12 h0 0 q_1 q_2 q_3 0 q_4 q_5 0 q_6 q_7 0 0 0 q_8 q_9 q_10 q_11 q_12 0 0 0 0 0 0 0 0 0 0 0 0 0, zi G q_1 6 (fun _ => 0), zi G q_2 6 (fun _ => 0), zi G q_3 12 (fun _ => 0), zi G q_4 12 (fun _ => 0), zi G q_5 160 (fun _ => 0), zi G q_6 1200 (fun _ => 0), zi G q_7 24 (fun _ => 0), zi G q_8 24 (fun _ => 0), zi G q_9 3 (fun _ => 0), zi G q_10 4 (upd (upd (upd (upd (fun _ => 0) 0 (-1)) 1 (-1)) 2 (-1)) 3 (-1)), zi G q_11 4 (fun _ => 0), zi G q_12 160 (fun _ => 0), zi G q_13 40 (gPf tB 2)] H := ⟨hP, hD⟩
    have hP := hz9.1
    have hD := hz9.2
    refine lv_dup hx hb dX6_init_131 rfl ?_
    refine lv_iconst (v := 2) hx hb dX6_init_132 (by decide +kernel) ?_
    refine lv_bipush (v := 101) hx hb dX6_init_133 (by decide +kernel) ?_
    refine g_iastP (D := G.1) hx hb hK hP hD hS 13 0 rfl rfl (i := 2) (x := 101) (k := 2) (t := tB) (by decide +kernel) (by decide +kernel) (gIn (by decide +kernel)) dX6_init_135 (fun H locs hP hD hS => ?_)
    have hz9 : gPD G A [zo6q12 h0 0 q_1 q_2 q_3 0 q_4 q_5 0 q_6 q_7 0 0 0 q_8 q_9 q_10 q_11 q_12 0 0 0 0 0 0 0 0 0 0 0 0 0, zi G q_1 6 (fun _ => 0), zi G q_2 6 (fun _ => 0), zi G q_3 12 (fun _ => 0), zi G q_4 12 (fun _ => 0), zi G q_5 160 (fun _ => 0), zi G q_6 1200 (fun _ => 0), zi G q_7 24 (fun _ => 0), zi G q_8 24 (fun _ => 0), zi G q_9 3 (fun _ => 0), zi G q_10 4 (upd (upd (upd (upd (fun _ => 0) 0 (-1)) 1 (-1)) 2 (-1)) 3 (-1)), zi G q_11 4 (fun _ => 0), zi G q_12 160 (fun _ => 0), zi G q_13 40 (gPf tB 3)] H := ⟨hP, hD⟩
    have hP := hz9.1
    have hD := hz9.2
    refine lv_dup hx hb dX6_init_136 rfl ?_
    refine lv_iconst (v := 3) hx hb dX6_init_137 (by decide +kernel) ?_
    refine lv_bipush (v := 108) hx hb dX6_init_138 (by decide +kernel) ?_
    refine g_iastP (D := G.1) hx hb hK hP hD hS 13 0 rfl rfl (i := 3) (x := 108) (k := 3) (t := tB) (by decide +kernel) (by decide +kernel) (gIn (by decide +kernel)) dX6_init_140 (fun H locs hP hD hS => ?_)
    have hz9 : gPD G A [zo6q12 h0 0 q_1 q_2 q_3 0 q_4 q_5 0 q_6 q_7 0 0 0 q_8 q_9 q_10 q_11 q_12 0 0 0 0 0 0 0 0 0 0 0 0 0, zi G q_1 6 (fun _ => 0), zi G q_2 6 (fun _ => 0), zi G q_3 12 (fun _ => 0), zi G q_4 12 (fun _ => 0), zi G q_5 160 (fun _ => 0), zi G q_6 1200 (fun _ => 0), zi G q_7 24 (fun _ => 0), zi G q_8 24 (fun _ => 0), zi G q_9 3 (fun _ => 0), zi G q_10 4 (upd (upd (upd (upd (fun _ => 0) 0 (-1)) 1 (-1)) 2 (-1)) 3 (-1)), zi G q_11 4 (fun _ => 0), zi G q_12 160 (fun _ => 0), zi G q_13 40 (gPf tB 4)] H := ⟨hP, hD⟩
    have hP := hz9.1
    have hD := hz9.2
    refine lv_dup hx hb dX6_init_141 rfl ?_
    refine lv_iconst (v := 4) hx hb dX6_init_142 (by decide +kernel) ?_
    refine lv_bipush (v := 115) hx hb dX6_init_143 (by decide +kernel) ?_
    refine g_iastP (D := G.1) hx hb hK hP hD hS 13 0 rfl rfl (i := 4) (x := 115) (k := 4) (t := tB) (by decide +kernel) (by decide +kernel) (gIn (by decide +kernel)) dX6_init_145 (fun H locs hP hD hS => ?_)
    have hz9 : gPD G A [zo6q12 h0 0 q_1 q_2 q_3 0 q_4 q_5 0 q_6 q_7 0 0 0 q_8 q_9 q_10 q_11 q_12 0 0 0 0 0 0 0 0 0 0 0 0 0, zi G q_1 6 (fun _ => 0), zi G q_2 6 (fun _ => 0), zi G q_3 12 (fun _ => 0), zi G q_4 12 (fun _ => 0), zi G q_5 160 (fun _ => 0), zi G q_6 1200 (fun _ => 0), zi G q_7 24 (fun _ => 0), zi G q_8 24 (fun _ => 0), zi G q_9 3 (fun _ => 0), zi G q_10 4 (upd (upd (upd (upd (fun _ => 0) 0 (-1)) 1 (-1)) 2 (-1)) 3 (-1)), zi G q_11 4 (fun _ => 0), zi G q_12 160 (fun _ => 0), zi G q_13 40 (gPf tB 5)] H := ⟨hP, hD⟩
    have hP := hz9.1
    have hD := hz9.2
    refine lv_dup hx hb dX6_init_146 rfl ?_
    refine lv_iconst (v := 5) hx hb dX6_init_147 (by decide +kernel) ?_
    refine lv_bipush (v := 32) hx hb dX6_init_148 (by decide +kernel) ?_
    refine g_iastP (D := G.1) hx hb hK hP hD hS 13 0 rfl rfl (i := 5) (x := 32) (k := 5) (t := tB) (by decide +kernel) (by decide +kernel) (gIn (by decide +kernel)) dX6_init_150 (fun H locs hP hD hS => ?_)
    have hz9 : gPD G A [zo6q12 h0 0 q_1 q_2 q_3 0 q_4 q_5 0 q_6 q_7 0 0 0 q_8 q_9 q_10 q_11 q_12 0 0 0 0 0 0 0 0 0 0 0 0 0, zi G q_1 6 (fun _ => 0), zi G q_2 6 (fun _ => 0), zi G q_3 12 (fun _ => 0), zi G q_4 12 (fun _ => 0), zi G q_5 160 (fun _ => 0), zi G q_6 1200 (fun _ => 0), zi G q_7 24 (fun _ => 0), zi G q_8 24 (fun _ => 0), zi G q_9 3 (fun _ => 0), zi G q_10 4 (upd (upd (upd (upd (fun _ => 0) 0 (-1)) 1 (-1)) 2 (-1)) 3 (-1)), zi G q_11 4 (fun _ => 0), zi G q_12 160 (fun _ => 0), zi G q_13 40 (gPf tB 6)] H := ⟨hP, hD⟩
    have hP := hz9.1
    have hD := hz9.2
    refine lv_dup hx hb dX6_init_151 rfl ?_
    refine lv_bipush (v := 6) hx hb dX6_init_152 (by decide +kernel) ?_
    refine lv_bipush (v := 115) hx hb dX6_init_154 (by decide +kernel) ?_
    refine g_iastP (D := G.1) hx hb hK hP hD hS 13 0 rfl rfl (i := 6) (x := 115) (k := 6) (t := tB) (by decide +kernel) (by decide +kernel) (gIn (by decide +kernel)) dX6_init_156 (fun H locs hP hD hS => ?_)
    have hz9 : gPD G A [zo6q12 h0 0 q_1 q_2 q_3 0 q_4 q_5 0 q_6 q_7 0 0 0 q_8 q_9 q_10 q_11 q_12 0 0 0 0 0 0 0 0 0 0 0 0 0, zi G q_1 6 (fun _ => 0), zi G q_2 6 (fun _ => 0), zi G q_3 12 (fun _ => 0), zi G q_4 12 (fun _ => 0), zi G q_5 160 (fun _ => 0), zi G q_6 1200 (fun _ => 0), zi G q_7 24 (fun _ => 0), zi G q_8 24 (fun _ => 0), zi G q_9 3 (fun _ => 0), zi G q_10 4 (upd (upd (upd (upd (fun _ => 0) 0 (-1)) 1 (-1)) 2 (-1)) 3 (-1)), zi G q_11 4 (fun _ => 0), zi G q_12 160 (fun _ => 0), zi G q_13 40 (gPf tB 7)] H := ⟨hP, hD⟩
    have hP := hz9.1
    have hD := hz9.2
    refine lv_dup hx hb dX6_init_157 rfl ?_
    refine lv_bipush (v := 7) hx hb dX6_init_158 (by decide +kernel) ?_
    refine lv_bipush (v := 105) hx hb dX6_init_160 (by decide +kernel) ?_
    refine g_iastP (D := G.1) hx hb hK hP hD hS 13 0 rfl rfl (i := 7) (x := 105) (k := 7) (t := tB) (by decide +kernel) (by decide +kernel) (gIn (by decide +kernel)) dX6_init_162 (fun H locs hP hD hS => ?_)
    have hz9 : gPD G A [zo6q12 h0 0 q_1 q_2 q_3 0 q_4 q_5 0 q_6 q_7 0 0 0 q_8 q_9 q_10 q_11 q_12 0 0 0 0 0 0 0 0 0 0 0 0 0, zi G q_1 6 (fun _ => 0), zi G q_2 6 (fun _ => 0), zi G q_3 12 (fun _ => 0), zi G q_4 12 (fun _ => 0), zi G q_5 160 (fun _ => 0), zi G q_6 1200 (fun _ => 0), zi G q_7 24 (fun _ => 0), zi G q_8 24 (fun _ => 0), zi G q_9 3 (fun _ => 0), zi G q_10 4 (upd (upd (upd (upd (fun _ => 0) 0 (-1)) 1 (-1)) 2 (-1)) 3 (-1)), zi G q_11 4 (fun _ => 0), zi G q_12 160 (fun _ => 0), zi G q_13 40 (gPf tB 8)] H := ⟨hP, hD⟩
    have hP := hz9.1
    have hD := hz9.2
    exact cut_163 q_1 q_2 q_3 q_4 q_5 q_6 q_7 q_8 q_9 q_10 q_11 q_12 q_13 _ _ hP hD hS _ hl
  refine lv_aload_n hx hb dX6_init_0 rfl (lv_at hl 0 rfl) ?_
  refine W.objInit hx hb hown (hts (.methodLink RX6 1 objectInit) (by decide +kernel)) (hts (.instanceMethod objectInit) (by decide +kernel)) (hts (.code objectInit ⟨#[0xb1]⟩ 1 none) (by decide +kernel)) rfl (by rw [hml]; exact hl.1) rfl dX6_init_1 (Nat.le_of_ble_eq_true rfl) (Nat.le_of_ble_eq_true rfl) ?_
  refine W.eq (g2 := F0 m 4 ls []) rfl ?_
  refine lv_aload_n hx hb dX6_init_4 rfl (lv_at hl 0 rfl) ?_
  refine lv_bipush (v := 6) hx hb dX6_init_5 (by decide +kernel) ?_
  refine g_newI hx hb (hts (.arrayClass .int) (by decide +kernel)) hK hP hD hS hA (n := 6) (N' := 6) (by decide +kernel) (by decide +kernel) (Nat.le_of_ble_eq_true rfl) (Nat.le_of_ble_eq_true rfl) (Nat.le_of_ble_eq_true rfl) dX6_init_7 (fun q_1 H hP hD hS => ?_)
  have hz9 : gPD G A [zo6q1 h0 0 0 0 0 0 0 0 0 0 0 0 0 0 0 0 0 0 0 0, zi G q_1 6 (fun _ => 0)] H := ⟨hP, hD⟩
  have hP := hz9.1
  have hD := hz9.2
  refine va_putF (D := G.1) (ci := 6) (v := .ref q_1) (ty := .array .int) (C := RX6) (T := TX6) (N := 42) hx hb hts hiX6 tyX6 tyX6_ok nmX6 hown hK hP hD hS 0 rfl rfl 1 (by decide +kernel) kf7 (fun _ h9 => h9) rfl hin rfl (by decide +kernel) rfl rfl (Nat.le_of_ble_eq_true rfl) dX6_init_9 (fun H locs hP hD hS => ?_)
  have hz9 : gPD G A [zo6q13 h0 0 q_1 0 0 0 0 0 0 0 0 0 0 0 0 0 0 0 0 0 0, zi G q_1 6 (fun _ => 0)] H := ⟨hP, hD⟩
  have hP := hz9.1
  have hD := hz9.2
  refine lv_aload_n hx hb dX6_init_12 rfl (lv_at hl 0 rfl) ?_
  refine lv_bipush (v := 6) hx hb dX6_init_13 (by decide +kernel) ?_
  refine g_newI hx hb (hts (.arrayClass .int) (by decide +kernel)) hK hP hD hS hA (n := 6) (N' := 6) (by decide +kernel) (by decide +kernel) (Nat.le_of_ble_eq_true rfl) (Nat.le_of_ble_eq_true rfl) (Nat.le_of_ble_eq_true rfl) dX6_init_15 (fun q_2 H hP hD hS => ?_)
  have hz9 : gPD G A [zo6q13 h0 0 q_1 0 0 0 0 0 0 0 0 0 0 0 0 0 0 0 0 0 0, zi G q_1 6 (fun _ => 0), zi G q_2 6 (fun _ => 0)] H := ⟨hP, hD⟩
  have hP := hz9.1
  have hD := hz9.2
  refine va_putF (D := G.1) (ci := 6) (v := .ref q_2) (ty := .array .int) (C := RX6) (T := TX6) (N := 42) hx hb hts hiX6 tyX6 tyX6_ok nmX6 hown hK hP hD hS 0 rfl rfl 2 (by decide +kernel) kf13 (fun _ h9 => h9) rfl hin rfl (by decide +kernel) rfl rfl (Nat.le_of_ble_eq_true rfl) dX6_init_17 (fun H locs hP hD hS => ?_)
  have hz9 : gPD G A [zo6q14 h0 0 q_1 q_2 0 0 0 0 0 0 0 0 0 0 0 0 0 0 0 0 0 0, zi G q_1 6 (fun _ => 0), zi G q_2 6 (fun _ => 0)] H := ⟨hP, hD⟩
  have hP := hz9.1
  have hD := hz9.2
  refine lv_aload_n hx hb dX6_init_20 rfl (lv_at hl 0 rfl) ?_
  refine lv_bipush (v := 12) hx hb dX6_init_21 (by decide +kernel) ?_
  refine g_newI hx hb (hts (.arrayClass .int) (by decide +kernel)) hK hP hD hS hA (n := 12) (N' := 12) (by decide +kernel) (by decide +kernel) (Nat.le_of_ble_eq_true rfl) (Nat.le_of_ble_eq_true rfl) (Nat.le_of_ble_eq_true rfl) dX6_init_23 (fun q_3 H hP hD hS => ?_)
  have hz9 : gPD G A [zo6q14 h0 0 q_1 q_2 0 0 0 0 0 0 0 0 0 0 0 0 0 0 0 0 0 0, zi G q_1 6 (fun _ => 0), zi G q_2 6 (fun _ => 0), zi G q_3 12 (fun _ => 0)] H := ⟨hP, hD⟩
  have hP := hz9.1
  have hD := hz9.2
  refine va_putF (D := G.1) (ci := 6) (v := .ref q_3) (ty := .array .int) (C := RX6) (T := TX6) (N := 42) hx hb hts hiX6 tyX6 tyX6_ok nmX6 hown hK hP hD hS 0 rfl rfl 3 (by decide +kernel) kf16 (fun _ h9 => h9) rfl hin rfl (by decide +kernel) rfl rfl (Nat.le_of_ble_eq_true rfl) dX6_init_25 (fun H locs hP hD hS => ?_)
  have hz9 : gPD G A [zo6q15 h0 0 q_1 q_2 q_3 0 0 0 0 0 0 0 0 0 0 0 0 0 0 0 0 0 0, zi G q_1 6 (fun _ => 0), zi G q_2 6 (fun _ => 0), zi G q_3 12 (fun _ => 0)] H := ⟨hP, hD⟩
  have hP := hz9.1
  have hD := hz9.2
  refine lv_aload_n hx hb dX6_init_28 rfl (lv_at hl 0 rfl) ?_
  refine lv_bipush (v := 12) hx hb dX6_init_29 (by decide +kernel) ?_
  refine g_newI hx hb (hts (.arrayClass .int) (by decide +kernel)) hK hP hD hS hA (n := 12) (N' := 12) (by decide +kernel) (by decide +kernel) (Nat.le_of_ble_eq_true rfl) (Nat.le_of_ble_eq_true rfl) (Nat.le_of_ble_eq_true rfl) dX6_init_31 (fun q_4 H hP hD hS => ?_)
  have hz9 : gPD G A [zo6q15 h0 0 q_1 q_2 q_3 0 0 0 0 0 0 0 0 0 0 0 0 0 0 0 0 0 0, zi G q_1 6 (fun _ => 0), zi G q_2 6 (fun _ => 0), zi G q_3 12 (fun _ => 0), zi G q_4 12 (fun _ => 0)] H := ⟨hP, hD⟩
  have hP := hz9.1
  have hD := hz9.2
  refine va_putF (D := G.1) (ci := 6) (v := .ref q_4) (ty := .array .int) (C := RX6) (T := TX6) (N := 42) hx hb hts hiX6 tyX6 tyX6_ok nmX6 hown hK hP hD hS 0 rfl rfl 5 (by decide +kernel) kf19 (fun _ h9 => h9) rfl hin rfl (by decide +kernel) rfl rfl (Nat.le_of_ble_eq_true rfl) dX6_init_33 (fun H locs hP hD hS => ?_)
  have hz9 : gPD G A [zo6q16 h0 0 q_1 q_2 q_3 0 q_4 0 0 0 0 0 0 0 0 0 0 0 0 0 0 0 0 0, zi G q_1 6 (fun _ => 0), zi G q_2 6 (fun _ => 0), zi G q_3 12 (fun _ => 0), zi G q_4 12 (fun _ => 0)] H := ⟨hP, hD⟩
  have hP := hz9.1
  have hD := hz9.2
  refine lv_aload_n hx hb dX6_init_36 rfl (lv_at hl 0 rfl) ?_
  refine lv_sipush (v := 160) hx hb dX6_init_37 (by decide +kernel) ?_
  refine g_newI hx hb (hts (.arrayClass .int) (by decide +kernel)) hK hP hD hS hA (n := 160) (N' := 160) (by decide +kernel) (by decide +kernel) (Nat.le_of_ble_eq_true rfl) (Nat.le_of_ble_eq_true rfl) (Nat.le_of_ble_eq_true rfl) dX6_init_40 (fun q_5 H hP hD hS => ?_)
  have hz9 : gPD G A [zo6q16 h0 0 q_1 q_2 q_3 0 q_4 0 0 0 0 0 0 0 0 0 0 0 0 0 0 0 0 0, zi G q_1 6 (fun _ => 0), zi G q_2 6 (fun _ => 0), zi G q_3 12 (fun _ => 0), zi G q_4 12 (fun _ => 0), zi G q_5 160 (fun _ => 0)] H := ⟨hP, hD⟩
  have hP := hz9.1
  have hD := hz9.2
  refine va_putF (D := G.1) (ci := 6) (v := .ref q_5) (ty := .array .int) (C := RX6) (T := TX6) (N := 42) hx hb hts hiX6 tyX6 tyX6_ok nmX6 hown hK hP hD hS 0 rfl rfl 6 (by decide +kernel) kf22 (fun _ h9 => h9) rfl hin rfl (by decide +kernel) rfl rfl (Nat.le_of_ble_eq_true rfl) dX6_init_42 (fun H locs hP hD hS => ?_)
  have hz9 : gPD G A [zo6q17 h0 0 q_1 q_2 q_3 0 q_4 q_5 0 0 0 0 0 0 0 0 0 0 0 0 0 0 0 0 0, zi G q_1 6 (fun _ => 0), zi G q_2 6 (fun _ => 0), zi G q_3 12 (fun _ => 0), zi G q_4 12 (fun _ => 0), zi G q_5 160 (fun _ => 0)] H := ⟨hP, hD⟩
  have hP := hz9.1
  have hD := hz9.2
  refine lv_aload_n hx hb dX6_init_45 rfl (lv_at hl 0 rfl) ?_
  refine lv_sipush (v := 1200) hx hb dX6_init_46 (by decide +kernel) ?_
  refine g_newI hx hb (hts (.arrayClass .int) (by decide +kernel)) hK hP hD hS hA (n := 1200) (N' := 1200) (by decide +kernel) (by decide +kernel) (Nat.le_of_ble_eq_true rfl) (Nat.le_of_ble_eq_true rfl) (Nat.le_of_ble_eq_true rfl) dX6_init_49 (fun q_6 H hP hD hS => ?_)
  have hz9 : gPD G A [zo6q17 h0 0 q_1 q_2 q_3 0 q_4 q_5 0 0 0 0 0 0 0 0 0 0 0 0 0 0 0 0 0, zi G q_1 6 (fun _ => 0), zi G q_2 6 (fun _ => 0), zi G q_3 12 (fun _ => 0), zi G q_4 12 (fun _ => 0), zi G q_5 160 (fun _ => 0), zi G q_6 1200 (fun _ => 0)] H := ⟨hP, hD⟩
  have hP := hz9.1
  have hD := hz9.2
  refine va_putF (D := G.1) (ci := 6) (v := .ref q_6) (ty := .array .int) (C := RX6) (T := TX6) (N := 42) hx hb hts hiX6 tyX6 tyX6_ok nmX6 hown hK hP hD hS 0 rfl rfl 8 (by decide +kernel) kf25 (fun _ h9 => h9) rfl hin rfl (by decide +kernel) rfl rfl (Nat.le_of_ble_eq_true rfl) dX6_init_51 (fun H locs hP hD hS => ?_)
  have hz9 : gPD G A [zo6q18 h0 0 q_1 q_2 q_3 0 q_4 q_5 0 q_6 0 0 0 0 0 0 0 0 0 0 0 0 0 0 0 0, zi G q_1 6 (fun _ => 0), zi G q_2 6 (fun _ => 0), zi G q_3 12 (fun _ => 0), zi G q_4 12 (fun _ => 0), zi G q_5 160 (fun _ => 0), zi G q_6 1200 (fun _ => 0)] H := ⟨hP, hD⟩
  have hP := hz9.1
  have hD := hz9.2
  refine lv_aload_n hx hb dX6_init_54 rfl (lv_at hl 0 rfl) ?_
  refine lv_bipush (v := 24) hx hb dX6_init_55 (by decide +kernel) ?_
  refine g_newI hx hb (hts (.arrayClass .int) (by decide +kernel)) hK hP hD hS hA (n := 24) (N' := 24) (by decide +kernel) (by decide +kernel) (Nat.le_of_ble_eq_true rfl) (Nat.le_of_ble_eq_true rfl) (Nat.le_of_ble_eq_true rfl) dX6_init_57 (fun q_7 H hP hD hS => ?_)
  have hz9 : gPD G A [zo6q18 h0 0 q_1 q_2 q_3 0 q_4 q_5 0 q_6 0 0 0 0 0 0 0 0 0 0 0 0 0 0 0 0, zi G q_1 6 (fun _ => 0), zi G q_2 6 (fun _ => 0), zi G q_3 12 (fun _ => 0), zi G q_4 12 (fun _ => 0), zi G q_5 160 (fun _ => 0), zi G q_6 1200 (fun _ => 0), zi G q_7 24 (fun _ => 0)] H := ⟨hP, hD⟩
  have hP := hz9.1
  have hD := hz9.2
  refine va_putF (D := G.1) (ci := 6) (v := .ref q_7) (ty := .array .int) (C := RX6) (T := TX6) (N := 42) hx hb hts hiX6 tyX6 tyX6_ok nmX6 hown hK hP hD hS 0 rfl rfl 9 (by decide +kernel) kf28 (fun _ h9 => h9) rfl hin rfl (by decide +kernel) rfl rfl (Nat.le_of_ble_eq_true rfl) dX6_init_59 (fun H locs hP hD hS => ?_)
  have hz9 : gPD G A [zo6q19 h0 0 q_1 q_2 q_3 0 q_4 q_5 0 q_6 q_7 0 0 0 0 0 0 0 0 0 0 0 0 0 0 0 0, zi G q_1 6 (fun _ => 0), zi G q_2 6 (fun _ => 0), zi G q_3 12 (fun _ => 0), zi G q_4 12 (fun _ => 0), zi G q_5 160 (fun _ => 0), zi G q_6 1200 (fun _ => 0), zi G q_7 24 (fun _ => 0)] H := ⟨hP, hD⟩
  have hP := hz9.1
  have hD := hz9.2
  refine lv_aload_n hx hb dX6_init_62 rfl (lv_at hl 0 rfl) ?_
  refine lv_bipush (v := 24) hx hb dX6_init_63 (by decide +kernel) ?_
  refine g_newI hx hb (hts (.arrayClass .int) (by decide +kernel)) hK hP hD hS hA (n := 24) (N' := 24) (by decide +kernel) (by decide +kernel) (Nat.le_of_ble_eq_true rfl) (Nat.le_of_ble_eq_true rfl) (Nat.le_of_ble_eq_true rfl) dX6_init_65 (fun q_8 H hP hD hS => ?_)
  have hz9 : gPD G A [zo6q19 h0 0 q_1 q_2 q_3 0 q_4 q_5 0 q_6 q_7 0 0 0 0 0 0 0 0 0 0 0 0 0 0 0 0, zi G q_1 6 (fun _ => 0), zi G q_2 6 (fun _ => 0), zi G q_3 12 (fun _ => 0), zi G q_4 12 (fun _ => 0), zi G q_5 160 (fun _ => 0), zi G q_6 1200 (fun _ => 0), zi G q_7 24 (fun _ => 0), zi G q_8 24 (fun _ => 0)] H := ⟨hP, hD⟩
  have hP := hz9.1
  have hD := hz9.2
  refine va_putF (D := G.1) (ci := 6) (v := .ref q_8) (ty := .array .int) (C := RX6) (T := TX6) (N := 42) hx hb hts hiX6 tyX6 tyX6_ok nmX6 hown hK hP hD hS 0 rfl rfl 13 (by decide +kernel) kf31 (fun _ h9 => h9) rfl hin rfl (by decide +kernel) rfl rfl (Nat.le_of_ble_eq_true rfl) dX6_init_67 (fun H locs hP hD hS => ?_)
  have hz9 : gPD G A [zo6q20 h0 0 q_1 q_2 q_3 0 q_4 q_5 0 q_6 q_7 0 0 0 q_8 0 0 0 0 0 0 0 0 0 0 0 0 0, zi G q_1 6 (fun _ => 0), zi G q_2 6 (fun _ => 0), zi G q_3 12 (fun _ => 0), zi G q_4 12 (fun _ => 0), zi G q_5 160 (fun _ => 0), zi G q_6 1200 (fun _ => 0), zi G q_7 24 (fun _ => 0), zi G q_8 24 (fun _ => 0)] H := ⟨hP, hD⟩
  have hP := hz9.1
  have hD := hz9.2
  refine lv_aload_n hx hb dX6_init_70 rfl (lv_at hl 0 rfl) ?_
  refine lv_iconst (v := 3) hx hb dX6_init_71 (by decide +kernel) ?_
  refine g_newI hx hb (hts (.arrayClass .int) (by decide +kernel)) hK hP hD hS hA (n := 3) (N' := 3) (by decide +kernel) (by decide +kernel) (Nat.le_of_ble_eq_true rfl) (Nat.le_of_ble_eq_true rfl) (Nat.le_of_ble_eq_true rfl) dX6_init_72 (fun q_9 H hP hD hS => ?_)
  have hz9 : gPD G A [zo6q20 h0 0 q_1 q_2 q_3 0 q_4 q_5 0 q_6 q_7 0 0 0 q_8 0 0 0 0 0 0 0 0 0 0 0 0 0, zi G q_1 6 (fun _ => 0), zi G q_2 6 (fun _ => 0), zi G q_3 12 (fun _ => 0), zi G q_4 12 (fun _ => 0), zi G q_5 160 (fun _ => 0), zi G q_6 1200 (fun _ => 0), zi G q_7 24 (fun _ => 0), zi G q_8 24 (fun _ => 0), zi G q_9 3 (fun _ => 0)] H := ⟨hP, hD⟩
  have hP := hz9.1
  have hD := hz9.2
  refine va_putF (D := G.1) (ci := 6) (v := .ref q_9) (ty := .array .int) (C := RX6) (T := TX6) (N := 42) hx hb hts hiX6 tyX6 tyX6_ok nmX6 hown hK hP hD hS 0 rfl rfl 14 (by decide +kernel) kf34 (fun _ h9 => h9) rfl hin rfl (by decide +kernel) rfl rfl (Nat.le_of_ble_eq_true rfl) dX6_init_74 (fun H locs hP hD hS => ?_)
  have hz9 : gPD G A [zo6q21 h0 0 q_1 q_2 q_3 0 q_4 q_5 0 q_6 q_7 0 0 0 q_8 q_9 0 0 0 0 0 0 0 0 0 0 0 0 0, zi G q_1 6 (fun _ => 0), zi G q_2 6 (fun _ => 0), zi G q_3 12 (fun _ => 0), zi G q_4 12 (fun _ => 0), zi G q_5 160 (fun _ => 0), zi G q_6 1200 (fun _ => 0), zi G q_7 24 (fun _ => 0), zi G q_8 24 (fun _ => 0), zi G q_9 3 (fun _ => 0)] H := ⟨hP, hD⟩
  have hP := hz9.1
  have hD := hz9.2
  refine lv_aload_n hx hb dX6_init_77 rfl (lv_at hl 0 rfl) ?_
  refine lv_iconst (v := 4) hx hb dX6_init_78 (by decide +kernel) ?_
  refine g_newI hx hb (hts (.arrayClass .int) (by decide +kernel)) hK hP hD hS hA (n := 4) (N' := 4) (by decide +kernel) (by decide +kernel) (Nat.le_of_ble_eq_true rfl) (Nat.le_of_ble_eq_true rfl) (Nat.le_of_ble_eq_true rfl) dX6_init_79 (fun q_10 H hP hD hS => ?_)
  have hz9 : gPD G A [zo6q21 h0 0 q_1 q_2 q_3 0 q_4 q_5 0 q_6 q_7 0 0 0 q_8 q_9 0 0 0 0 0 0 0 0 0 0 0 0 0, zi G q_1 6 (fun _ => 0), zi G q_2 6 (fun _ => 0), zi G q_3 12 (fun _ => 0), zi G q_4 12 (fun _ => 0), zi G q_5 160 (fun _ => 0), zi G q_6 1200 (fun _ => 0), zi G q_7 24 (fun _ => 0), zi G q_8 24 (fun _ => 0), zi G q_9 3 (fun _ => 0), zi G q_10 4 (fun _ => 0)] H := ⟨hP, hD⟩
  have hP := hz9.1
  have hD := hz9.2
  refine lv_dup hx hb dX6_init_81 rfl ?_
  refine lv_iconst (v := 0) hx hb dX6_init_82 (by decide +kernel) ?_
  refine lv_iconst (v := -1) hx hb dX6_init_83 (by decide +kernel) ?_
  refine va_iast (D := G.1) hx hb hK hP hD hS 10 0 rfl rfl (i := 0) (x := (-1)) (gIn (by decide +kernel)) dX6_init_84 (fun H locs hP hD hS => ?_)
  have hz9 : gPD G A [zo6q21 h0 0 q_1 q_2 q_3 0 q_4 q_5 0 q_6 q_7 0 0 0 q_8 q_9 0 0 0 0 0 0 0 0 0 0 0 0 0, zi G q_1 6 (fun _ => 0), zi G q_2 6 (fun _ => 0), zi G q_3 12 (fun _ => 0), zi G q_4 12 (fun _ => 0), zi G q_5 160 (fun _ => 0), zi G q_6 1200 (fun _ => 0), zi G q_7 24 (fun _ => 0), zi G q_8 24 (fun _ => 0), zi G q_9 3 (fun _ => 0), zi G q_10 4 (upd (fun _ => 0) 0 (-1))] H := ⟨hP, hD⟩
  have hP := hz9.1
  have hD := hz9.2
  refine lv_dup hx hb dX6_init_85 rfl ?_
  refine lv_iconst (v := 1) hx hb dX6_init_86 (by decide +kernel) ?_
  refine lv_iconst (v := -1) hx hb dX6_init_87 (by decide +kernel) ?_
  refine va_iast (D := G.1) hx hb hK hP hD hS 10 0 rfl rfl (i := 1) (x := (-1)) (gIn (by decide +kernel)) dX6_init_88 (fun H locs hP hD hS => ?_)
  have hz9 : gPD G A [zo6q21 h0 0 q_1 q_2 q_3 0 q_4 q_5 0 q_6 q_7 0 0 0 q_8 q_9 0 0 0 0 0 0 0 0 0 0 0 0 0, zi G q_1 6 (fun _ => 0), zi G q_2 6 (fun _ => 0), zi G q_3 12 (fun _ => 0), zi G q_4 12 (fun _ => 0), zi G q_5 160 (fun _ => 0), zi G q_6 1200 (fun _ => 0), zi G q_7 24 (fun _ => 0), zi G q_8 24 (fun _ => 0), zi G q_9 3 (fun _ => 0), zi G q_10 4 (upd (upd (fun _ => 0) 0 (-1)) 1 (-1))] H := ⟨hP, hD⟩
  have hP := hz9.1
  have hD := hz9.2
  refine lv_dup hx hb dX6_init_89 rfl ?_
  refine lv_iconst (v := 2) hx hb dX6_init_90 (by decide +kernel) ?_
  refine lv_iconst (v := -1) hx hb dX6_init_91 (by decide +kernel) ?_
  refine va_iast (D := G.1) hx hb hK hP hD hS 10 0 rfl rfl (i := 2) (x := (-1)) (gIn (by decide +kernel)) dX6_init_92 (fun H locs hP hD hS => ?_)
  have hz9 : gPD G A [zo6q21 h0 0 q_1 q_2 q_3 0 q_4 q_5 0 q_6 q_7 0 0 0 q_8 q_9 0 0 0 0 0 0 0 0 0 0 0 0 0, zi G q_1 6 (fun _ => 0), zi G q_2 6 (fun _ => 0), zi G q_3 12 (fun _ => 0), zi G q_4 12 (fun _ => 0), zi G q_5 160 (fun _ => 0), zi G q_6 1200 (fun _ => 0), zi G q_7 24 (fun _ => 0), zi G q_8 24 (fun _ => 0), zi G q_9 3 (fun _ => 0), zi G q_10 4 (upd (upd (upd (fun _ => 0) 0 (-1)) 1 (-1)) 2 (-1))] H := ⟨hP, hD⟩
  have hP := hz9.1
  have hD := hz9.2
  refine lv_dup hx hb dX6_init_93 rfl ?_
  refine lv_iconst (v := 3) hx hb dX6_init_94 (by decide +kernel) ?_
  refine lv_iconst (v := -1) hx hb dX6_init_95 (by decide +kernel) ?_
  refine va_iast (D := G.1) hx hb hK hP hD hS 10 0 rfl rfl (i := 3) (x := (-1)) (gIn (by decide +kernel)) dX6_init_96 (fun H locs hP hD hS => ?_)
  have hz9 : gPD G A [zo6q21 h0 0 q_1 q_2 q_3 0 q_4 q_5 0 q_6 q_7 0 0 0 q_8 q_9 0 0 0 0 0 0 0 0 0 0 0 0 0, zi G q_1 6 (fun _ => 0), zi G q_2 6 (fun _ => 0), zi G q_3 12 (fun _ => 0), zi G q_4 12 (fun _ => 0), zi G q_5 160 (fun _ => 0), zi G q_6 1200 (fun _ => 0), zi G q_7 24 (fun _ => 0), zi G q_8 24 (fun _ => 0), zi G q_9 3 (fun _ => 0), zi G q_10 4 (upd (upd (upd (upd (fun _ => 0) 0 (-1)) 1 (-1)) 2 (-1)) 3 (-1))] H := ⟨hP, hD⟩
  have hP := hz9.1
  have hD := hz9.2
  refine va_putF (D := G.1) (ci := 6) (v := .ref q_10) (ty := .array .int) (C := RX6) (T := TX6) (N := 42) hx hb hts hiX6 tyX6 tyX6_ok nmX6 hown hK hP hD hS 0 rfl rfl 15 (by decide +kernel) kf37 (fun _ h9 => h9) rfl hin rfl (by decide +kernel) rfl rfl (Nat.le_of_ble_eq_true rfl) dX6_init_97 (fun H locs hP hD hS => ?_)
  have hz9 : gPD G A [zo6q22 h0 0 q_1 q_2 q_3 0 q_4 q_5 0 q_6 q_7 0 0 0 q_8 q_9 q_10 0 0 0 0 0 0 0 0 0 0 0 0 0, zi G q_1 6 (fun _ => 0), zi G q_2 6 (fun _ => 0), zi G q_3 12 (fun _ => 0), zi G q_4 12 (fun _ => 0), zi G q_5 160 (fun _ => 0), zi G q_6 1200 (fun _ => 0), zi G q_7 24 (fun _ => 0), zi G q_8 24 (fun _ => 0), zi G q_9 3 (fun _ => 0), zi G q_10 4 (upd (upd (upd (upd (fun _ => 0) 0 (-1)) 1 (-1)) 2 (-1)) 3 (-1))] H := ⟨hP, hD⟩
  have hP := hz9.1
  have hD := hz9.2
  refine lv_aload_n hx hb dX6_init_100 rfl (lv_at hl 0 rfl) ?_
  refine lv_iconst (v := 4) hx hb dX6_init_101 (by decide +kernel) ?_
  refine g_newI hx hb (hts (.arrayClass .int) (by decide +kernel)) hK hP hD hS hA (n := 4) (N' := 4) (by decide +kernel) (by decide +kernel) (Nat.le_of_ble_eq_true rfl) (Nat.le_of_ble_eq_true rfl) (Nat.le_of_ble_eq_true rfl) dX6_init_102 (fun q_11 H hP hD hS => ?_)
  have hz9 : gPD G A [zo6q22 h0 0 q_1 q_2 q_3 0 q_4 q_5 0 q_6 q_7 0 0 0 q_8 q_9 q_10 0 0 0 0 0 0 0 0 0 0 0 0 0, zi G q_1 6 (fun _ => 0), zi G q_2 6 (fun _ => 0), zi G q_3 12 (fun _ => 0), zi G q_4 12 (fun _ => 0), zi G q_5 160 (fun _ => 0), zi G q_6 1200 (fun _ => 0), zi G q_7 24 (fun _ => 0), zi G q_8 24 (fun _ => 0), zi G q_9 3 (fun _ => 0), zi G q_10 4 (upd (upd (upd (upd (fun _ => 0) 0 (-1)) 1 (-1)) 2 (-1)) 3 (-1)), zi G q_11 4 (fun _ => 0)] H := ⟨hP, hD⟩
  have hP := hz9.1
  have hD := hz9.2
  refine va_putF (D := G.1) (ci := 6) (v := .ref q_11) (ty := .array .int) (C := RX6) (T := TX6) (N := 42) hx hb hts hiX6 tyX6 tyX6_ok nmX6 hown hK hP hD hS 0 rfl rfl 16 (by decide +kernel) kf40 (fun _ h9 => h9) rfl hin rfl (by decide +kernel) rfl rfl (Nat.le_of_ble_eq_true rfl) dX6_init_104 (fun H locs hP hD hS => ?_)
  have hz9 : gPD G A [zo6q23 h0 0 q_1 q_2 q_3 0 q_4 q_5 0 q_6 q_7 0 0 0 q_8 q_9 q_10 q_11 0 0 0 0 0 0 0 0 0 0 0 0 0, zi G q_1 6 (fun _ => 0), zi G q_2 6 (fun _ => 0), zi G q_3 12 (fun _ => 0), zi G q_4 12 (fun _ => 0), zi G q_5 160 (fun _ => 0), zi G q_6 1200 (fun _ => 0), zi G q_7 24 (fun _ => 0), zi G q_8 24 (fun _ => 0), zi G q_9 3 (fun _ => 0), zi G q_10 4 (upd (upd (upd (upd (fun _ => 0) 0 (-1)) 1 (-1)) 2 (-1)) 3 (-1)), zi G q_11 4 (fun _ => 0)] H := ⟨hP, hD⟩
  have hP := hz9.1
  have hD := hz9.2
  refine lv_aload_n hx hb dX6_init_107 rfl (lv_at hl 0 rfl) ?_
  refine lv_sipush (v := 160) hx hb dX6_init_108 (by decide +kernel) ?_
  refine g_newI hx hb (hts (.arrayClass .int) (by decide +kernel)) hK hP hD hS hA (n := 160) (N' := 160) (by decide +kernel) (by decide +kernel) (Nat.le_of_ble_eq_true rfl) (Nat.le_of_ble_eq_true rfl) (Nat.le_of_ble_eq_true rfl) dX6_init_111 (fun q_12 H hP hD hS => ?_)
  have hz9 : gPD G A [zo6q23 h0 0 q_1 q_2 q_3 0 q_4 q_5 0 q_6 q_7 0 0 0 q_8 q_9 q_10 q_11 0 0 0 0 0 0 0 0 0 0 0 0 0, zi G q_1 6 (fun _ => 0), zi G q_2 6 (fun _ => 0), zi G q_3 12 (fun _ => 0), zi G q_4 12 (fun _ => 0), zi G q_5 160 (fun _ => 0), zi G q_6 1200 (fun _ => 0), zi G q_7 24 (fun _ => 0), zi G q_8 24 (fun _ => 0), zi G q_9 3 (fun _ => 0), zi G q_10 4 (upd (upd (upd (upd (fun _ => 0) 0 (-1)) 1 (-1)) 2 (-1)) 3 (-1)), zi G q_11 4 (fun _ => 0), zi G q_12 160 (fun _ => 0)] H := ⟨hP, hD⟩
  have hP := hz9.1
  have hD := hz9.2
  refine va_putF (D := G.1) (ci := 6) (v := .ref q_12) (ty := .array .int) (C := RX6) (T := TX6) (N := 42) hx hb hts hiX6 tyX6 tyX6_ok nmX6 hown hK hP hD hS 0 rfl rfl 17 (by decide +kernel) kf43 (fun _ h9 => h9) rfl hin rfl (by decide +kernel) rfl rfl (Nat.le_of_ble_eq_true rfl) dX6_init_113 (fun H locs hP hD hS => ?_)
  have hz9 : gPD G A [zo6q12 h0 0 q_1 q_2 q_3 0 q_4 q_5 0 q_6 q_7 0 0 0 q_8 q_9 q_10 q_11 q_12 0 0 0 0 0 0 0 0 0 0 0 0 0, zi G q_1 6 (fun _ => 0), zi G q_2 6 (fun _ => 0), zi G q_3 12 (fun _ => 0), zi G q_4 12 (fun _ => 0), zi G q_5 160 (fun _ => 0), zi G q_6 1200 (fun _ => 0), zi G q_7 24 (fun _ => 0), zi G q_8 24 (fun _ => 0), zi G q_9 3 (fun _ => 0), zi G q_10 4 (upd (upd (upd (upd (fun _ => 0) 0 (-1)) 1 (-1)) 2 (-1)) 3 (-1)), zi G q_11 4 (fun _ => 0), zi G q_12 160 (fun _ => 0)] H := ⟨hP, hD⟩
  have hP := hz9.1
  have hD := hz9.2
  refine lv_aload_n hx hb dX6_init_116 rfl (lv_at hl 0 rfl) ?_
  refine lv_bipush (v := 40) hx hb dX6_init_117 (by decide +kernel) ?_
  refine g_newI hx hb (hts (.arrayClass .int) (by decide +kernel)) hK hP hD hS hA (n := 40) (N' := 40) (by decide +kernel) (by decide +kernel) (Nat.le_of_ble_eq_true rfl) (Nat.le_of_ble_eq_true rfl) (Nat.le_of_ble_eq_true rfl) dX6_init_119 (fun q_13 H hP hD hS => ?_)
  have hz9 : gPD G A [zo6q12 h0 0 q_1 q_2 q_3 0 q_4 q_5 0 q_6 q_7 0 0 0 q_8 q_9 q_10 q_11 q_12 0 0 0 0 0 0 0 0 0 0 0 0 0, zi G q_1 6 (fun _ => 0), zi G q_2 6 (fun _ => 0), zi G q_3 12 (fun _ => 0), zi G q_4 12 (fun _ => 0), zi G q_5 160 (fun _ => 0), zi G q_6 1200 (fun _ => 0), zi G q_7 24 (fun _ => 0), zi G q_8 24 (fun _ => 0), zi G q_9 3 (fun _ => 0), zi G q_10 4 (upd (upd (upd (upd (fun _ => 0) 0 (-1)) 1 (-1)) 2 (-1)) 3 (-1)), zi G q_11 4 (fun _ => 0), zi G q_12 160 (fun _ => 0), zi G q_13 40 (fun _ => 0)] H := ⟨hP, hD⟩
  have hP := hz9.1
  have hD := hz9.2
  exact cut_121 q_1 q_2 q_3 q_4 q_5 q_6 q_7 q_8 q_9 q_10 q_11 q_12 q_13 _ _ hP hD hS _ hl
