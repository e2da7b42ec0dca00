abbrev q_J7_fill_53178 (G : gG) (q0 : Nat) (nn : Nat) (f : Nat → Int32) (v : Int32) (A : Nat → Prop) : Array Value → State → Outcome → State → Prop := va_Qv (fun (u : Unit) => match u with | _ => True) (fun (u : Unit) t => match u with | _ => va_P G.1 vwCl [zi G q0 nn (gFl v f nn)] t.heap ∧ gK G t ∧ va_D A [zi G q0 nn (gFl v f nn)]) A
set_option maxHeartbeats 4000000 in
set_option maxRecDepth 100000 in
theorem c_J7_fill_53178 (l : Launch) (G : gG) (q0 : Nat) (nn : Nat) (f : Nat → Int32) (v : Int32) (sz : Nat) (hnn : nn < 2 ^ 31) : Met l yJ7_fill_53178 wsJ7_fill_53178 ({ frames := 0, cells := 0, slots := 0, locals := 0 }) (gPre G [.ref q0, .int v] [zi G q0 nn f] sz) (q_J7_fill_53178 G q0 nn f v (va_A [zi G q0 nn f] sz)) 0 0 (va_A [zi G q0 nn f] sz) := by
  refine Met.ofW (cc := cJ7_fill_53178) (maxL := 4) (ret := none) (by decide) rfl ?_
  intro p e s m args below meth c s₁ B hml hv
  obtain ⟨rfl, hsz, hP, hK, hD0⟩ := hv
  have hx := B.exec
  have hb := B.bytes
  have hr := B.returns
  have hts := atoms_spec (ws := wsJ7_fill_53178) B.pre
  have hown : s.vm.findClass RJ7 = some m.cls := findClass_of_methodNamed B.named
  have hlocks := B.notSynchronized
  subst hsz
  have hD := hD0.self (sz := s.heap.size)
  generalize hAe : va_A [zi G q0 nn f] s.heap.size = A at hD ⊢
  have hA : ∀ q : Nat, s.heap.size ≤ q → A q := fun q h => by rw [← hAe]; exact Or.inr h
  have hS : va_S A s.heap s.heap [] := va_S.rf
  have hP : va_P G.1 vwCl [zi G q0 nn f] s.heap := hP
  have hD : va_D A [zi G q0 nn f] := hD
  have hl := lv_entry ([.ref q0, .int v]) (n := 4) (Nat.le_of_ble_eq_true rfl)
  rw [lg_entry_eq]
  generalize (lg_sl ([.ref q0, .int v]) ++ List.replicate (4 - (lg_sl ([.ref q0, .int v])).length) Slot.unset).toArray = ls at hl ⊢
  have hl : lv_has ls 4 [zR 0 q0, zI 1 v] := hl
  refine lv_iconst (v := 0) hx hb dJ7_fill_53178_0 (by decide) ?_
  refine lv_istore_n (lv' := [zI 2 0, zR 0 q0, zI 1 v]) hx hb dJ7_fill_53178_1 rfl hl (by decide) rfl (fun ls hl => ?_)
  refine lv_aload_n hx hb dJ7_fill_53178_2 rfl (lv_at hl 1 rfl) ?_
  refine va_alen (D := G.1) (v := nI nn) hx hb hK hP 0 0 rfl rfl rfl dJ7_fill_53178_3 ?_
  refine lv_istore_n (lv' := [zI 3 (nI nn), zI 2 0, zR 0 q0, zI 1 v]) hx hb dJ7_fill_53178_4 rfl hl (by decide) rfl (fun ls hl => ?_)
  have loop_5 : ∀ (n9 : Nat) (i : Nat), (i ≤ nn) → (nn - i) < n9 → ∀ (H : Heap) (locs : List Loc), va_P G.1 vwCl [zi G q0 nn (gFl v f i)] H → va_D A [zi G q0 nn (gFl v f i)] → va_S A s.heap H locs → ∀ ls : Array Slot, lv_has ls 4 [zI 2 (nI i), zR 0 q0, zI 1 v, zI 3 (nI nn)] → W p l e (headSpec wsJ7_fill_53178 ({ frames := 0, cells := 0, slots := 0, locals := 0 })).room s m ([.ref q0, .int v] : List Value).toArray below meth c H locs 0 0 (MQ below (q_J7_fill_53178 G q0 nn f v A) ([.ref q0, .int v] : List Value).toArray s 0 0 A) (F0 m 5 ls []) := by
    intro n9
    induction n9 with
    | zero => intro i hi hm9; exact absurd hm9 (Nat.not_lt_zero _)
    | succ n9 ih9 =>
      intro i hi hm9 H locs hP hD hS ls hl
      refine lv_iload_n hx hb dJ7_fill_53178_5 rfl (lv_at hl 0 rfl) ?_
      refine lv_iload_n hx hb dJ7_fill_53178_6 rfl (lv_at hl 3 rfl) ?_
      refine lv_icmp_ge (tgt := 20) hx hb dJ7_fill_53178_7 (by decide) (fun c_1 => ?_) (fun c_1 => ?_)
      · skip
        have hie : i = nn := by have := (nI_leI hnn (by omega)).mp c_1; omega
        rw [hie] at hP hD
        have hP : va_P G.1 vwCl [zi G q0 nn (gFl v f nn)] H := hP
        have hD : va_D A [zi G q0 nn (gFl v f nn)] := hD
        have hP9 := hP.sub (ws' := [zi G q0 nn (gFl v f nn)]) [0] rfl
        have hD9 := hD.sub (ws' := [zi G q0 nn (gFl v f nn)]) [0] (by decide) rfl
        have hpost : (fun (u : Unit) => match u with | _ => True) () := by first | trivial | rfl | decide | simp
        exact W.vret hx hb hr (fun t ht hW => ⟨⟨(), rfl, hpost, by rw [ht]; exact hP9, va_K.moved hW.alike hK, hD9⟩, hS.F ht⟩) hS.2.2 dJ7_fill_53178_20
      · skip
        have hi2 : i < nn := by
          rcases Nat.lt_or_ge i nn with z | z
          · exact z
          · exact absurd (nI_le z (by omega)) c_1
        refine lv_aload_n hx hb dJ7_fill_53178_10 rfl (lv_at hl 1 rfl) ?_
        refine lv_iload_n hx hb dJ7_fill_53178_11 rfl (lv_at hl 0 rfl) ?_
        refine lv_iload_n hx hb dJ7_fill_53178_12 rfl (lv_at hl 2 rfl) ?_
        refine va_iast (D := G.1) hx hb hK hP hD hS 0 0 rfl rfl (i := (nI i)) (x := v) (vp_in_nI (by omega) (by omega)) dJ7_fill_53178_13 (fun H locs hP hD hS => ?_)
        have hP : va_P G.1 vwCl [zi G q0 nn (gFl v f (i + 1))] H := by rw [nI_clamp (by omega), gFl_step] at hP; exact hP
        have hD : va_D A [zi G q0 nn (gFl v f (i + 1))] := by rw [nI_clamp (by omega), gFl_step] at hD; exact hD
        refine lv_iinc (v := nI (i + 1)) (lv' := [zI 2 (nI (i + 1)), zR 0 q0, zI 1 v, zI 3 (nI nn)]) hx hb dJ7_fill_53178_14 hl (k := 0) rfl (nI_1 i) (by decide) rfl (fun ls hl => ?_)
        refine lv_goto (tgt := 5) hx hb dJ7_fill_53178_17 (by decide) ?_
        exact ih9 (i + 1) (hi2) (by omega) _ _ (hP.sub [0] rfl) (hD.sub [0] (by decide) rfl) hS ls (lv_sub hl [0, 1, 2, 3] rfl)
  exact loop_5 (nn + 1) 0 (Nat.zero_le _) (by omega) _ _ (hP.sub [0] rfl) (hD.sub [0] (by decide) rfl) hS ls (lv_sub hl [1, 2, 3, 0] rfl)
abbrev q_X0_init (G : gG) (E : gS) (h0 : Nat) (tq : Nat) (A : Nat → Prop) : Array Value → State → Outcome → State → Prop := va_Qv (fun (u : Nat × Nat × Nat × Nat × Nat × Nat × Nat × Nat) => match u with | (q1, q2, q3, q4, q5, q6, q7, q8) => True) (fun (u : Nat × Nat × Nat × Nat × Nat × Nat × Nat × Nat) t => match u with | (q1, q2, q3, q4, q5, q6, q7, q8) => va_P G.1 vwCl [zo0 h0 tq q1 q2 q3 q4 q5 q6 q7 q8 0 0 0, zi G q1 6 (fun _ => 0), zi G q2 4 (fun _ => 0), zi G q3 4 (fun _ => 0), zi G q4 4 (fun _ => 0), zi G q5 6 (fun _ => 0), zi G q6 6 (fun _ => 0), zi G q7 6 (fun _ => 0), zi G q8 6 (fun _ => 0)] t.heap ∧ gK G t ∧ va_D A [zo0 h0 tq q1 q2 q3 q4 q5 q6 q7 q8 0 0 0, zi G q1 6 (fun _ => 0), zi G q2 4 (fun _ => 0), zi G q3 4 (fun _ => 0), zi G q4 4 (fun _ => 0), zi G q5 6 (fun _ => 0), zi G q6 6 (fun _ => 0), zi G q7 6 (fun _ => 0), zi G q8 6 (fun _ => 0)]) A
set_option maxHeartbeats 4000000 in
set_option maxRecDepth 100000 in
theorem c_X0_init (l : Launch) (G : gG) (E : gS) (h0 : Nat) (tq : Nat) (sz : Nat) : Met l yX0_init wsX0_init ({ frames := 1, cells := 8, slots := 42, locals := 20 }) (gPreE G E [.ref h0, .ref tq] [zo0q1 h0 0 0 0] sz) (q_X0_init G E h0 tq (va_A [zo0q1 h0 0 0 0] sz)) 8 42 (va_A [zo0q1 h0 0 0 0] sz) := by
  refine Met.ofW (cc := cX0_init) (maxL := 2) (ret := none) (by decide) rfl ?_
  intro p e s m args below meth c s₁ B hml hv
  obtain ⟨rfl, hsz, hP, hK, hD0, hE⟩ := hv
  have hx := B.exec
  have hb := B.bytes
  have hr := B.returns
  have hts := atoms_spec (ws := wsX0_init) B.pre
  have hown : s.vm.findClass RX0 = some m.cls := findClass_of_methodNamed B.named
  have hlocks := B.notSynchronized
  have hin : meth.name = "<init>" := (name_of_methodNamed B.named B.method).1
  subst hsz
  have hD := hD0.self (sz := s.heap.size)
  generalize hAe : va_A [zo0q1 h0 0 0 0] s.heap.size = A at hD hE ⊢
  have hA : ∀ q : Nat, s.heap.size ≤ q → A q := fun q h => by rw [← hAe]; exact Or.inr h
  have hS : va_S A s.heap s.heap [] := va_S.rf
  have hP : va_P G.1 vwCl [zo0q1 h0 0 0 0] s.heap := hP
  have hD : va_D A [zo0q1 h0 0 0 0] := hD
  have hl := lv_entry ([.ref h0, .ref tq]) (n := 2) (Nat.le_of_ble_eq_true rfl)
  rw [lg_entry_eq]
  generalize (lg_sl ([.ref h0, .ref tq]) ++ List.replicate (2 - (lg_sl ([.ref h0, .ref tq])).length) Slot.unset).toArray = ls at hl ⊢
  have hl : lv_has ls 2 [zR 0 h0, zR 1 tq] := hl
  have kf11 := hts (.fieldLink RX0 11 "PebbleInShoe$Court" "names" "[I") (by decide +kernel)
  have hiX0 := (by decide +kernel : ∀ w ∈ wsX00, w ∈ wsX0_init)
  have kf17 := hts (.fieldLink RX0 17 "PebbleInShoe$Court" "soles" "[I") (by decide +kernel)
  have kf20 := hts (.fieldLink RX0 20 "PebbleInShoe$Court" "miles" "[I") (by decide +kernel)
  have kf23 := hts (.fieldLink RX0 23 "PebbleInShoe$Court" "pains" "[I") (by decide +kernel)
  have kf26 := hts (.fieldLink RX0 26 "PebbleInShoe$Court" "kind" "[I") (by decide +kernel)
  have kf29 := hts (.fieldLink RX0 29 "PebbleInShoe$Court" "more" "[I") (by decide +kernel)
  have kf32 := hts (.fieldLink RX0 32 "PebbleInShoe$Court" "size" "[I") (by decide +kernel)
  have kf35 := hts (.fieldLink RX0 35 "PebbleInShoe$Court" "round" "[I") (by decide +kernel)
  have kf38 := hts (.fieldLink RX0 38 "PebbleInShoe$Court" "texts" "LPebbleInShoe$Texts;") (by decide +kernel)
  refine lv_aload_n hx hb dX0_init_0 rfl (lv_at hl 0 rfl) ?_
  refine W.objInit hx hb hown (hts (.methodLink RX0 3 objectInit) (by decide +kernel)) (hts (.instanceMethod objectInit) (by decide +kernel)) (hts (.code objectInit ⟨#[0xb1]⟩ 1 none) (by decide +kernel)) rfl (by rw [hml]; exact hl.1) rfl dX0_init_1 (Nat.le_of_ble_eq_true rfl) (Nat.le_of_ble_eq_true rfl) ?_
  refine W.eq (g2 := F0 m 4 ls []) rfl ?_
  refine lv_aload_n hx hb dX0_init_4 rfl (lv_at hl 0 rfl) ?_
  refine lv_bipush (v := 6) hx hb dX0_init_5 (by decide) ?_
  refine g_newI hx hb (hts (.arrayClass .int) (by decide +kernel)) hK hP hD hS hA (n := 6) (N' := 6) (by decide) (by decide) (Nat.le_of_ble_eq_true rfl) (Nat.le_of_ble_eq_true rfl) (Nat.le_of_ble_eq_true rfl) dX0_init_7 (fun q_1 H hP hD hS => ?_)
  have hP : va_P G.1 vwCl [zo0q1 h0 0 0 0, zi G q_1 6 (fun _ => 0)] H := hP
  have hD : va_D A [zo0q1 h0 0 0 0, zi G q_1 6 (fun _ => 0)] := hD
  refine va_putF (D := G.1) (ci := 0) (v := .ref q_1) (ty := .array .int) (C := RX0) (T := TX0) (N := 12) hx hb hts hiX0 tyX0 tyX0_ok nmX0 hown hK hP hD hS 0 rfl rfl 1 (by decide) kf11 (fun _ h9 => h9) rfl hin rfl (by decide +kernel) rfl rfl (Nat.le_of_ble_eq_true rfl) dX0_init_9 (fun H locs hP hD hS => ?_)
  have hP : va_P G.1 vwCl [zo0q2 h0 q_1 0 0 0, zi G q_1 6 (fun _ => 0)] H := hP
  have hD : va_D A [zo0q2 h0 q_1 0 0 0, zi G q_1 6 (fun _ => 0)] := hD
  refine lv_aload_n hx hb dX0_init_12 rfl (lv_at hl 0 rfl) ?_
  refine lv_iconst (v := 4) hx hb dX0_init_13 (by decide) ?_
  refine g_newI hx hb (hts (.arrayClass .int) (by decide +kernel)) hK hP hD hS hA (n := 4) (N' := 4) (by decide) (by decide) (Nat.le_of_ble_eq_true rfl) (Nat.le_of_ble_eq_true rfl) (Nat.le_of_ble_eq_true rfl) dX0_init_14 (fun q_2 H hP hD hS => ?_)
  have hP : va_P G.1 vwCl [zo0q2 h0 q_1 0 0 0, zi G q_1 6 (fun _ => 0), zi G q_2 4 (fun _ => 0)] H := hP
  have hD : va_D A [zo0q2 h0 q_1 0 0 0, zi G q_1 6 (fun _ => 0), zi G q_2 4 (fun _ => 0)] := hD
  refine va_putF (D := G.1) (ci := 0) (v := .ref q_2) (ty := .array .int) (C := RX0) (T := TX0) (N := 12) hx hb hts hiX0 tyX0 tyX0_ok nmX0 hown hK hP hD hS 0 rfl rfl 2 (by decide) kf17 (fun _ h9 => h9) rfl hin rfl (by decide +kernel) rfl rfl (Nat.le_of_ble_eq_true rfl) dX0_init_16 (fun H locs hP hD hS => ?_)
  have hP : va_P G.1 vwCl [zo0q3 h0 q_1 q_2 0 0 0, zi G q_1 6 (fun _ => 0), zi G q_2 4 (fun _ => 0)] H := hP
  have hD : va_D A [zo0q3 h0 q_1 q_2 0 0 0, zi G q_1 6 (fun _ => 0), zi G q_2 4 (fun _ => 0)] := hD
  refine lv_aload_n hx hb dX0_init_19 rfl (lv_at hl 0 rfl) ?_
  refine lv_iconst (v := 4) hx hb dX0_init_20 (by decide) ?_
  refine g_newI hx hb (hts (.arrayClass .int) (by decide +kernel)) hK hP hD hS hA (n := 4) (N' := 4) (by decide) (by decide) (Nat.le_of_ble_eq_true rfl) (Nat.le_of_ble_eq_true rfl) (Nat.le_of_ble_eq_true rfl) dX0_init_21 (fun q_3 H hP hD hS => ?_)
  have hP : va_P G.1 vwCl [zo0q3 h0 q_1 q_2 0 0 0, zi G q_1 6 (fun _ => 0), zi G q_2 4 (fun _ => 0), zi G q_3 4 (fun _ => 0)] H := hP
  have hD : va_D A [zo0q3 h0 q_1 q_2 0 0 0, zi G q_1 6 (fun _ => 0), zi G q_2 4 (fun _ => 0), zi G q_3 4 (fun _ => 0)] := hD
  refine va_putF (D := G.1) (ci := 0) (v := .ref q_3) (ty := .array .int) (C := RX0) (T := TX0) (N := 12) hx hb hts hiX0 tyX0 tyX0_ok nmX0 hown hK hP hD hS 0 rfl rfl 3 (by decide) kf20 (fun _ h9 => h9) rfl hin rfl (by decide +kernel) rfl rfl (Nat.le_of_ble_eq_true rfl) dX0_init_23 (fun H locs hP hD hS => ?_)
  have hP : va_P G.1 vwCl [zo0q4 h0 q_1 q_2 q_3 0 0 0, zi G q_1 6 (fun _ => 0), zi G q_2 4 (fun _ => 0), zi G q_3 4 (fun _ => 0)] H := hP
  have hD : va_D A [zo0q4 h0 q_1 q_2 q_3 0 0 0, zi G q_1 6 (fun _ => 0), zi G q_2 4 (fun _ => 0), zi G q_3 4 (fun _ => 0)] := hD
  refine lv_aload_n hx hb dX0_init_26 rfl (lv_at hl 0 rfl) ?_
  refine lv_iconst (v := 4) hx hb dX0_init_27 (by decide) ?_
  refine g_newI hx hb (hts (.arrayClass .int) (by decide +kernel)) hK hP hD hS hA (n := 4) (N' := 4) (by decide) (by decide) (Nat.le_of_ble_eq_true rfl) (Nat.le_of_ble_eq_true rfl) (Nat.le_of_ble_eq_true rfl) dX0_init_28 (fun q_4 H hP hD hS => ?_)
  have hP : va_P G.1 vwCl [zo0q4 h0 q_1 q_2 q_3 0 0 0, zi G q_1 6 (fun _ => 0), zi G q_2 4 (fun _ => 0), zi G q_3 4 (fun _ => 0), zi G q_4 4 (fun _ => 0)] H := hP
  have hD : va_D A [zo0q4 h0 q_1 q_2 q_3 0 0 0, zi G q_1 6 (fun _ => 0), zi G q_2 4 (fun _ => 0), zi G q_3 4 (fun _ => 0), zi G q_4 4 (fun _ => 0)] := hD
  refine va_putF (D := G.1) (ci := 0) (v := .ref q_4) (ty := .array .int) (C := RX0) (T := TX0) (N := 12) hx hb hts hiX0 tyX0 tyX0_ok nmX0 hown hK hP hD hS 0 rfl rfl 4 (by decide) kf23 (fun _ h9 => h9) rfl hin rfl (by decide +kernel) rfl rfl (Nat.le_of_ble_eq_true rfl) dX0_init_30 (fun H locs hP hD hS => ?_)
  have hP : va_P G.1 vwCl [zo0q5 h0 q_1 q_2 q_3 q_4 0 0 0, zi G q_1 6 (fun _ => 0), zi G q_2 4 (fun _ => 0), zi G q_3 4 (fun _ => 0), zi G q_4 4 (fun _ => 0)] H := hP
  have hD : va_D A [zo0q5 h0 q_1 q_2 q_3 q_4 0 0 0, zi G q_1 6 (fun _ => 0), zi G q_2 4 (fun _ => 0), zi G q_3 4 (fun _ => 0), zi G q_4 4 (fun _ => 0)] := hD
  refine lv_aload_n hx hb dX0_init_33 rfl (lv_at hl 0 rfl) ?_
  refine lv_bipush (v := 6) hx hb dX0_init_34 (by decide) ?_
  refine g_newI hx hb (hts (.arrayClass .int) (by decide +kernel)) hK hP hD hS hA (n := 6) (N' := 6) (by decide) (by decide) (Nat.le_of_ble_eq_true rfl) (Nat.le_of_ble_eq_true rfl) (Nat.le_of_ble_eq_true rfl) dX0_init_36 (fun q_5 H hP hD hS => ?_)
  have hP : va_P G.1 vwCl [zo0q5 h0 q_1 q_2 q_3 q_4 0 0 0, zi G q_1 6 (fun _ => 0), zi G q_2 4 (fun _ => 0), zi G q_3 4 (fun _ => 0), zi G q_4 4 (fun _ => 0), zi G q_5 6 (fun _ => 0)] H := hP
  have hD : va_D A [zo0q5 h0 q_1 q_2 q_3 q_4 0 0 0, zi G q_1 6 (fun _ => 0), zi G q_2 4 (fun _ => 0), zi G q_3 4 (fun _ => 0), zi G q_4 4 (fun _ => 0), zi G q_5 6 (fun _ => 0)] := hD
  refine va_putF (D := G.1) (ci := 0) (v := .ref q_5) (ty := .array .int) (C := RX0) (T := TX0) (N := 12) hx hb hts hiX0 tyX0 tyX0_ok nmX0 hown hK hP hD hS 0 rfl rfl 5 (by decide) kf26 (fun _ h9 => h9) rfl hin rfl (by decide +kernel) rfl rfl (Nat.le_of_ble_eq_true rfl) dX0_init_38 (fun H locs hP hD hS => ?_)
  have hP : va_P G.1 vwCl [zo0q6 h0 q_1 q_2 q_3 q_4 q_5 0 0 0, zi G q_1 6 (fun _ => 0), zi G q_2 4 (fun _ => 0), zi G q_3 4 (fun _ => 0), zi G q_4 4 (fun _ => 0), zi G q_5 6 (fun _ => 0)] H := hP
  have hD : va_D A [zo0q6 h0 q_1 q_2 q_3 q_4 q_5 0 0 0, zi G q_1 6 (fun _ => 0), zi G q_2 4 (fun _ => 0), zi G q_3 4 (fun _ => 0), zi G q_4 4 (fun _ => 0), zi G q_5 6 (fun _ => 0)] := hD
  refine lv_aload_n hx hb dX0_init_41 rfl (lv_at hl 0 rfl) ?_
  refine lv_bipush (v := 6) hx hb dX0_init_42 (by decide) ?_
  refine g_newI hx hb (hts (.arrayClass .int) (by decide +kernel)) hK hP hD hS hA (n := 6) (N' := 6) (by decide) (by decide) (Nat.le_of_ble_eq_true rfl) (Nat.le_of_ble_eq_true rfl) (Nat.le_of_ble_eq_true rfl) dX0_init_44 (fun q_6 H hP hD hS => ?_)
  have hP : va_P G.1 vwCl [zo0q6 h0 q_1 q_2 q_3 q_4 q_5 0 0 0, zi G q_1 6 (fun _ => 0), zi G q_2 4 (fun _ => 0), zi G q_3 4 (fun _ => 0), zi G q_4 4 (fun _ => 0), zi G q_5 6 (fun _ => 0), zi G q_6 6 (fun _ => 0)] H := hP
  have hD : va_D A [zo0q6 h0 q_1 q_2 q_3 q_4 q_5 0 0 0, zi G q_1 6 (fun _ => 0), zi G q_2 4 (fun _ => 0), zi G q_3 4 (fun _ => 0), zi G q_4 4 (fun _ => 0), zi G q_5 6 (fun _ => 0), zi G q_6 6 (fun _ => 0)] := hD
  refine va_putF (D := G.1) (ci := 0) (v := .ref q_6) (ty := .array .int) (C := RX0) (T := TX0) (N := 12) hx hb hts hiX0 tyX0 tyX0_ok nmX0 hown hK hP hD hS 0 rfl rfl 6 (by decide) kf29 (fun _ h9 => h9) rfl hin rfl (by decide +kernel) rfl rfl (Nat.le_of_ble_eq_true rfl) dX0_init_46 (fun H locs hP hD hS => ?_)
  have hP : va_P G.1 vwCl [zo0q7 h0 q_1 q_2 q_3 q_4 q_5 q_6 0 0 0, zi G q_1 6 (fun _ => 0), zi G q_2 4 (fun _ => 0), zi G q_3 4 (fun _ => 0), zi G q_4 4 (fun _ => 0), zi G q_5 6 (fun _ => 0), zi G q_6 6 (fun _ => 0)] H := hP
  have hD : va_D A [zo0q7 h0 q_1 q_2 q_3 q_4 q_5 q_6 0 0 0, zi G q_1 6 (fun _ => 0), zi G q_2 4 (fun _ => 0), zi G q_3 4 (fun _ => 0), zi G q_4 4 (fun _ => 0), zi G q_5 6 (fun _ => 0), zi G q_6 6 (fun _ => 0)] := hD
  refine lv_aload_n hx hb dX0_init_49 rfl (lv_at hl 0 rfl) ?_
  refine lv_bipush (v := 6) hx hb dX0_init_50 (by decide) ?_
  refine g_newI hx hb (hts (.arrayClass .int) (by decide +kernel)) hK hP hD hS hA (n := 6) (N' := 6) (by decide) (by decide) (Nat.le_of_ble_eq_true rfl) (Nat.le_of_ble_eq_true rfl) (Nat.le_of_ble_eq_true rfl) dX0_init_52 (fun q_7 H hP hD hS => ?_)
  have hP : va_P G.1 vwCl [zo0q7 h0 q_1 q_2 q_3 q_4 q_5 q_6 0 0 0, zi G q_1 6 (fun _ => 0), zi G q_2 4 (fun _ => 0), zi G q_3 4 (fun _ => 0), zi G q_4 4 (fun _ => 0), zi G q_5 6 (fun _ => 0), zi G q_6 6 (fun _ => 0), zi G q_7 6 (fun _ => 0)] H := hP
  have hD : va_D A [zo0q7 h0 q_1 q_2 q_3 q_4 q_5 q_6 0 0 0, zi G q_1 6 (fun _ => 0), zi G q_2 4 (fun _ => 0), zi G q_3 4 (fun _ => 0), zi G q_4 4 (fun _ => 0), zi G q_5 6 (fun _ => 0), zi G q_6 6 (fun _ => 0), zi G q_7 6 (fun _ => 0)] := hD
  refine va_putF (D := G.1) (ci := 0) (v := .ref q_7) (ty := .array .int) (C := RX0) (T := TX0) (N := 12) hx hb hts hiX0 tyX0 tyX0_ok nmX0 hown hK hP hD hS 0 rfl rfl 7 (by decide) kf32 (fun _ h9 => h9) rfl hin rfl (by decide +kernel) rfl rfl (Nat.le_of_ble_eq_true rfl) dX0_init_54 (fun H locs hP hD hS => ?_)
  have hP : va_P G.1 vwCl [zo0q8 h0 q_1 q_2 q_3 q_4 q_5 q_6 q_7 0 0 0, zi G q_1 6 (fun _ => 0), zi G q_2 4 (fun _ => 0), zi G q_3 4 (fun _ => 0), zi G q_4 4 (fun _ => 0), zi G q_5 6 (fun _ => 0), zi G q_6 6 (fun _ => 0), zi G q_7 6 (fun _ => 0)] H := hP
  have hD : va_D A [zo0q8 h0 q_1 q_2 q_3 q_4 q_5 q_6 q_7 0 0 0, zi G q_1 6 (fun _ => 0), zi G q_2 4 (fun _ => 0), zi G q_3 4 (fun _ => 0), zi G q_4 4 (fun _ => 0), zi G q_5 6 (fun _ => 0), zi G q_6 6 (fun _ => 0), zi G q_7 6 (fun _ => 0)] := hD
  refine lv_aload_n hx hb dX0_init_57 rfl (lv_at hl 0 rfl) ?_
  refine lv_bipush (v := 6) hx hb dX0_init_58 (by decide) ?_
  refine g_newI hx hb (hts (.arrayClass .int) (by decide +kernel)) hK hP hD hS hA (n := 6) (N' := 6) (by decide) (by decide) (Nat.le_of_ble_eq_true rfl) (Nat.le_of_ble_eq_true rfl) (Nat.le_of_ble_eq_true rfl) dX0_init_60 (fun q_8 H hP hD hS => ?_)
  have hP : va_P G.1 vwCl [zo0q8 h0 q_1 q_2 q_3 q_4 q_5 q_6 q_7 0 0 0, zi G q_1 6 (fun _ => 0), zi G q_2 4 (fun _ => 0), zi G q_3 4 (fun _ => 0), zi G q_4 4 (fun _ => 0), zi G q_5 6 (fun _ => 0), zi G q_6 6 (fun _ => 0), zi G q_7 6 (fun _ => 0), zi G q_8 6 (fun _ => 0)] H := hP
  have hD : va_D A [zo0q8 h0 q_1 q_2 q_3 q_4 q_5 q_6 q_7 0 0 0, zi G q_1 6 (fun _ => 0), zi G q_2 4 (fun _ => 0), zi G q_3 4 (fun _ => 0), zi G q_4 4 (fun _ => 0), zi G q_5 6 (fun _ => 0), zi G q_6 6 (fun _ => 0), zi G q_7 6 (fun _ => 0), zi G q_8 6 (fun _ => 0)] := hD
  refine va_putF (D := G.1) (ci := 0) (v := .ref q_8) (ty := .array .int) (C := RX0) (T := TX0) (N := 12) hx hb hts hiX0 tyX0 tyX0_ok nmX0 hown hK hP hD hS 0 rfl rfl 8 (by decide) kf35 (fun _ h9 => h9) rfl hin rfl (by decide +kernel) rfl rfl (Nat.le_of_ble_eq_true rfl) dX0_init_62 (fun H locs hP hD hS => ?_)
  have hP : va_P G.1 vwCl [zo0q9 h0 q_1 q_2 q_3 q_4 q_5 q_6 q_7 q_8 0 0 0, zi G q_1 6 (fun _ => 0), zi G q_2 4 (fun _ => 0), zi G q_3 4 (fun _ => 0), zi G q_4 4 (fun _ => 0), zi G q_5 6 (fun _ => 0), zi G q_6 6 (fun _ => 0), zi G q_7 6 (fun _ => 0), zi G q_8 6 (fun _ => 0)] H := hP
  have hD : va_D A [zo0q9 h0 q_1 q_2 q_3 q_4 q_5 q_6 q_7 q_8 0 0 0, zi G q_1 6 (fun _ => 0), zi G q_2 4 (fun _ => 0), zi G q_3 4 (fun _ => 0), zi G q_4 4 (fun _ => 0), zi G q_5 6 (fun _ => 0), zi G q_6 6 (fun _ => 0), zi G q_7 6 (fun _ => 0), zi G q_8 6 (fun _ => 0)] := hD
  refine lv_aload_n hx hb dX0_init_65 rfl (lv_at hl 0 rfl) ?_
  refine lv_aload_n hx hb dX0_init_66 rfl (lv_at hl 1 rfl) ?_
  refine va_putF (D := G.1) (ci := 0) (v := .ref tq) (ty := .object "PebbleInShoe$Texts") (C := RX0) (T := TX0) (N := 12) hx hb hts hiX0 tyX0 tyX0_ok nmX0 hown hK hP hD hS 0 rfl rfl 0 (by decide) kf38 (fun _ h9 => h9) rfl hin rfl (by decide +kernel) rfl rfl (Nat.le_of_ble_eq_true rfl) dX0_init_67 (fun H locs hP hD hS => ?_)
  have hP : va_P G.1 vwCl [zo0 h0 tq q_1 q_2 q_3 q_4 q_5 q_6 q_7 q_8 0 0 0, zi G q_1 6 (fun _ => 0), zi G q_2 4 (fun _ => 0), zi G q_3 4 (fun _ => 0), zi G q_4 4 (fun _ => 0), zi G q_5 6 (fun _ => 0), zi G q_6 6 (fun _ => 0), zi G q_7 6 (fun _ => 0), zi G q_8 6 (fun _ => 0)] H := hP
  have hD : va_D A [zo0 h0 tq q_1 q_2 q_3 q_4 q_5 q_6 q_7 q_8 0 0 0, zi G q_1 6 (fun _ => 0), zi G q_2 4 (fun _ => 0), zi G q_3 4 (fun _ => 0), zi G q_4 4 (fun _ => 0), zi G q_5 6 (fun _ => 0), zi G q_6 6 (fun _ => 0), zi G q_7 6 (fun _ => 0), zi G q_8 6 (fun _ => 0)] := hD
  refine W.widen (k := 8) (n := 42) (by omega) (by omega) ?_
  have hP9 := hP.sub (ws' := [zo0 h0 tq q_1 q_2 q_3 q_4 q_5 q_6 q_7 q_8 0 0 0, zi G q_1 6 (fun _ => 0), zi G q_2 4 (fun _ => 0), zi G q_3 4 (fun _ => 0), zi G q_4 4 (fun _ => 0), zi G q_5 6 (fun _ => 0), zi G q_6 6 (fun _ => 0), zi G q_7 6 (fun _ => 0), zi G q_8 6 (fun _ => 0)]) [0, 1, 2, 3, 4, 5, 6, 7, 8] rfl
  have hD9 := hD.sub (ws' := [zo0 h0 tq q_1 q_2 q_3 q_4 q_5 q_6 q_7 q_8 0 0 0, zi G q_1 6 (fun _ => 0), zi G q_2 4 (fun _ => 0), zi G q_3 4 (fun _ => 0), zi G q_4 4 (fun _ => 0), zi G q_5 6 (fun _ => 0), zi G q_6 6 (fun _ => 0), zi G q_7 6 (fun _ => 0), zi G q_8 6 (fun _ => 0)]) [0, 1, 2, 3, 4, 5, 6, 7, 8] (by decide) rfl
  have hpost : (fun (u : Nat × Nat × Nat × Nat × Nat × Nat × Nat × Nat) => match u with | (q1, q2, q3, q4, q5, q6, q7, q8) => True) (q_1, q_2, q_3, q_4, q_5, q_6, q_7, q_8) := by first | trivial | rfl | decide | simp
  exact W.vret hx hb hr (fun t ht hW => ⟨⟨(q_1, q_2, q_3, q_4, q_5, q_6, q_7, q_8), rfl, hpost, by rw [ht]; exact hP9, va_K.moved hW.alike hK, hD9⟩, hS.F ht⟩) hS.2.2 dX0_init_70
abbrev q_X1_init (G : gG) (E : gS) (h0 : Nat) (tq : Nat) (A : Nat → Prop) : Array Value → State → Outcome → State → Prop := va_Qv (fun (u : Nat) => match u with | q1 => True) (fun (u : Nat) t => match u with | q1 => va_P G.1 vwCl [zo1 h0 tq q1 0 0 0 0 0, zi G q1 160 (fun _ => 0)] t.heap ∧ gK G t ∧ va_D A [zo1 h0 tq q1 0 0 0 0 0, zi G q1 160 (fun _ => 0)]) A
set_option maxHeartbeats 4000000 in
set_option maxRecDepth 100000 in
theorem c_X1_init (l : Launch) (G : gG) (E : gS) (h0 : Nat) (tq : Nat) (sz : Nat) : Met l yX1_init wsX1_init ({ frames := 1, cells := 1, slots := 160, locals := 20 }) (gPreE G E [.ref h0, .ref tq] [zo1q1 h0 0 0 0 0 0] sz) (q_X1_init G E h0 tq (va_A [zo1q1 h0 0 0 0 0 0] sz)) 1 160 (va_A [zo1q1 h0 0 0 0 0 0] sz) := by
  refine Met.ofW (cc := cX1_init) (maxL := 2) (ret := none) (by decide) rfl ?_
  intro p e s m args below meth c s₁ B hml hv
  obtain ⟨rfl, hsz, hP, hK, hD0, hE⟩ := hv
  have hx := B.exec
  have hb := B.bytes
  have hr := B.returns
  have hts := atoms_spec (ws := wsX1_init) B.pre
  have hown : s.vm.findClass RX1 = some m.cls := findClass_of_methodNamed B.named
  have hlocks := B.notSynchronized
  have hin : meth.name = "<init>" := (name_of_methodNamed B.named B.method).1
  subst hsz
  have hD := hD0.self (sz := s.heap.size)
  generalize hAe : va_A [zo1q1 h0 0 0 0 0 0] s.heap.size = A at hD hE ⊢
  have hA : ∀ q : Nat, s.heap.size ≤ q → A q := fun q h => by rw [← hAe]; exact Or.inr h
  have hS : va_S A s.heap s.heap [] := va_S.rf
  have hP : va_P G.1 vwCl [zo1q1 h0 0 0 0 0 0] s.heap := hP
  have hD : va_D A [zo1q1 h0 0 0 0 0 0] := hD
  have hl := lv_entry ([.ref h0, .ref tq]) (n := 2) (Nat.le_of_ble_eq_true rfl)
  rw [lg_entry_eq]
  generalize (lg_sl ([.ref h0, .ref tq]) ++ List.replicate (2 - (lg_sl ([.ref h0, .ref tq])).length) Slot.unset).toArray = ls at hl ⊢
  have hl : lv_has ls 2 [zR 0 h0, zR 1 tq] := hl
  have kf9 := hts (.fieldLink RX1 9 "PebbleInShoe$Reader" "bytes" "[I") (by decide +kernel)
  have hiX1 := (by decide +kernel : ∀ w ∈ wsX10, w ∈ wsX1_init)
  have kf15 := hts (.fieldLink RX1 15 "PebbleInShoe$Reader" "texts" "LPebbleInShoe$Texts;") (by decide +kernel)
  refine lv_aload_n hx hb dX1_init_0 rfl (lv_at hl 0 rfl) ?_
  refine W.objInit hx hb hown (hts (.methodLink RX1 3 objectInit) (by decide +kernel)) (hts (.instanceMethod objectInit) (by decide +kernel)) (hts (.code objectInit ⟨#[0xb1]⟩ 1 none) (by decide +kernel)) rfl (by rw [hml]; exact hl.1) rfl dX1_init_1 (Nat.le_of_ble_eq_true rfl) (Nat.le_of_ble_eq_true rfl) ?_
  refine W.eq (g2 := F0 m 4 ls []) rfl ?_
  refine lv_aload_n hx hb dX1_init_4 rfl (lv_at hl 0 rfl) ?_
  refine lv_sipush (v := 160) hx hb dX1_init_5 (by decide) ?_
  refine g_newI hx hb (hts (.arrayClass .int) (by decide +kernel)) hK hP hD hS hA (n := 160) (N' := 160) (by decide) (by decide) (Nat.le_of_ble_eq_true rfl) (Nat.le_of_ble_eq_true rfl) (Nat.le_of_ble_eq_true rfl) dX1_init_8 (fun q_1 H hP hD hS => ?_)
  have hP : va_P G.1 vwCl [zo1q1 h0 0 0 0 0 0, zi G q_1 160 (fun _ => 0)] H := hP
  have hD : va_D A [zo1q1 h0 0 0 0 0 0, zi G q_1 160 (fun _ => 0)] := hD
  refine va_putF (D := G.1) (ci := 1) (v := .ref q_1) (ty := .array .int) (C := RX1) (T := TX1) (N := 7) hx hb hts hiX1 tyX1 tyX1_ok nmX1 hown hK hP hD hS 0 rfl rfl 1 (by decide) kf9 (fun _ h9 => h9) rfl hin rfl (by decide +kernel) rfl rfl (Nat.le_of_ble_eq_true rfl) dX1_init_10 (fun H locs hP hD hS => ?_)
  have hP : va_P G.1 vwCl [zo1q2 h0 q_1 0 0 0 0 0, zi G q_1 160 (fun _ => 0)] H := hP
  have hD : va_D A [zo1q2 h0 q_1 0 0 0 0 0, zi G q_1 160 (fun _ => 0)] := hD
  refine lv_aload_n hx hb dX1_init_13 rfl (lv_at hl 0 rfl) ?_
  refine lv_aload_n hx hb dX1_init_14 rfl (lv_at hl 1 rfl) ?_
  refine va_putF (D := G.1) (ci := 1) (v := .ref tq) (ty := .object "PebbleInShoe$Texts") (C := RX1) (T := TX1) (N := 7) hx hb hts hiX1 tyX1 tyX1_ok nmX1 hown hK hP hD hS 0 rfl rfl 0 (by decide) kf15 (fun _ h9 => h9) rfl hin rfl (by decide +kernel) rfl rfl (Nat.le_of_ble_eq_true rfl) dX1_init_15 (fun H locs hP hD hS => ?_)
  have hP : va_P G.1 vwCl [zo1 h0 tq q_1 0 0 0 0 0, zi G q_1 160 (fun _ => 0)] H := hP
  have hD : va_D A [zo1 h0 tq q_1 0 0 0 0 0, zi G q_1 160 (fun _ => 0)] := hD
  refine W.widen (k := 1) (n := 160) (by omega) (by omega) ?_
  have hP9 := hP.sub (ws' := [zo1 h0 tq q_1 0 0 0 0 0, zi G q_1 160 (fun _ => 0)]) [0, 1] rfl
  have hD9 := hD.sub (ws' := [zo1 h0 tq q_1 0 0 0 0 0, zi G q_1 160 (fun _ => 0)]) [0, 1] (by decide) rfl
  have hpost : (fun (u : Nat) => match u with | q1 => True) (q_1) := by first | trivial | rfl | decide | simp
  exact W.vret hx hb hr (fun t ht hW => ⟨⟨(q_1), rfl, hpost, by rw [ht]; exact hP9, va_K.moved hW.alike hK, hD9⟩, hS.F ht⟩) hS.2.2 dX1_init_18
abbrev q_X3_init (G : gG) (E : gS) (h0 : Nat) (A : Nat → Prop) : Array Value → State → Outcome → State → Prop := va_Qv (fun (u : Nat × Nat × Nat × (Nat → Option Nat) × (Nat → Option Nat) × Nat × Nat) => match u with | (qc, qe, qs, fc, fe, c0, e0) => fc 0 = some c0 ∧ fe 0 = some e0) (fun (u : Nat × Nat × Nat × (Nat → Option Nat) × (Nat → Option Nat) × Nat × Nat) t => match u with | (qc, qe, qs, fc, fe, c0, e0) => va_P G.1 vwCl [zo3 h0 qc qe qs 0 0, zr G qc 6 fc, zi G c0 160 (fun _ => 0), zr G qe 6 fe, zi G e0 3 (fun _ => 0), zi G qs 32 (fun _ => 0)] t.heap ∧ gK G t ∧ va_D A [zo3 h0 qc qe qs 0 0, zr G qc 6 fc, zi G c0 160 (fun _ => 0), zr G qe 6 fe, zi G e0 3 (fun _ => 0), zi G qs 32 (fun _ => 0)]) A
set_option maxHeartbeats 4000000 in
set_option maxRecDepth 100000 in
theorem c_X3_init (l : Launch) (G : gG) (E : gS) (h0 : Nat) (sz : Nat) : Met l yX3_init wsX3_init ({ frames := 1, cells := 15, slots := 1022, locals := 20 }) (gPreE G E [.ref h0] [zo3q1 h0 0 0] sz) (q_X3_init G E h0 (va_A [zo3q1 h0 0 0] sz)) 15 1022 (va_A [zo3q1 h0 0 0] sz) := by
  refine Met.ofW (cc := cX3_init) (maxL := 1) (ret := none) (by decide) rfl ?_
  intro p e s m args below meth c s₁ B hml hv
  obtain ⟨rfl, hsz, hP, hK, hD0, hE⟩ := hv
  have hx := B.exec
  have hb := B.bytes
  have hr := B.returns
  have hts := atoms_spec (ws := wsX3_init) B.pre
  have hown : s.vm.findClass RX3 = some m.cls := findClass_of_methodNamed B.named
  have hlocks := B.notSynchronized
  have hin : meth.name = "<init>" := (name_of_methodNamed B.named B.method).1
  subst hsz
  have hD := hD0.self (sz := s.heap.size)
  generalize hAe : va_A [zo3q1 h0 0 0] s.heap.size = A at hD hE ⊢
  have hA : ∀ q : Nat, s.heap.size ≤ q → A q := fun q h => by rw [← hAe]; exact Or.inr h
  have hS : va_S A s.heap s.heap [] := va_S.rf
  have hP : va_P G.1 vwCl [zo3q1 h0 0 0] s.heap := hP
  have hD : va_D A [zo3q1 h0 0 0] := hD
  have hl := lv_entry ([.ref h0]) (n := 1) (Nat.le_of_ble_eq_true rfl)
  rw [lg_entry_eq]
  generalize (lg_sl ([.ref h0]) ++ List.replicate (1 - (lg_sl ([.ref h0])).length) Slot.unset).toArray = ls at hl ⊢
  have hl : lv_has ls 1 [zR 0 h0] := hl
  have kf11 := hts (.fieldLink RX3 11 "PebbleInShoe$Texts" "codes" "[[I") (by decide +kernel)
  have hiX3 := (by decide +kernel : ∀ w ∈ wsX30, w ∈ wsX3_init)
  have kf16 := hts (.fieldLink RX3 16 "PebbleInShoe$Texts" "ends" "[[I") (by decide +kernel)
  have kf19 := hts (.fieldLink RX3 19 "PebbleInShoe$Texts" "stack" "[I") (by decide +kernel)
  refine lv_aload_n hx hb dX3_init_0 rfl (lv_at hl 0 rfl) ?_
  refine W.objInit hx hb hown (hts (.methodLink RX3 3 objectInit) (by decide +kernel)) (hts (.instanceMethod objectInit) (by decide +kernel)) (hts (.code objectInit ⟨#[0xb1]⟩ 1 none) (by decide +kernel)) rfl (by rw [hml]; exact hl.1) rfl dX3_init_1 (Nat.le_of_ble_eq_true rfl) (Nat.le_of_ble_eq_true rfl) ?_
  refine W.eq (g2 := F0 m 4 ls []) rfl ?_
  refine lv_aload_n hx hb dX3_init_4 rfl (lv_at hl 0 rfl) ?_
  refine lv_bipush (v := 6) hx hb dX3_init_5 (by decide) ?_
  refine lv_sipush (v := 160) hx hb dX3_init_7 (by decide) ?_
  refine g_newG hx hb hown (hts (.classLink RX3 9 "[[I") (by decide +kernel)) hE.2.2.2.2.2.2.2 (hts (.arrayClass .int) (by decide +kernel)) hK hP hD hS hA (n := 6) (k := 160) (N' := 6) (K' := 160) (by decide) (by decide) (by decide) (by decide) (Nat.le_of_ble_eq_true rfl) (Nat.le_of_ble_eq_true rfl) (Nat.le_of_ble_eq_true rfl) (Nat.le_of_ble_eq_true rfl) (Nat.le_of_ble_eq_true rfl) dX3_init_10 (fun q_1 rr_2 H hP hD hS => ?_)
  obtain ⟨fx_3, hffx_3⟩ : ∃ g : Nat → Option Nat, g = fun i => if i < 6 then some (rr_2 i) else none := ⟨_, rfl⟩
  rw [← hffx_3] at hP hD
  obtain ⟨x_4, hx_4⟩ : ∃ z, z = rr_2 0 := ⟨_, rfl⟩
  have hox_4 : fx_3 0 = some x_4 := by rw [hffx_3, hx_4]; rfl
  obtain ⟨x_5, hx_5⟩ : ∃ z, z = rr_2 1 := ⟨_, rfl⟩
  have hox_5 : fx_3 1 = some x_5 := by rw [hffx_3, hx_5]; rfl
  obtain ⟨x_6, hx_6⟩ : ∃ z, z = rr_2 2 := ⟨_, rfl⟩
  have hox_6 : fx_3 2 = some x_6 := by rw [hffx_3, hx_6]; rfl
  obtain ⟨x_7, hx_7⟩ : ∃ z, z = rr_2 3 := ⟨_, rfl⟩
  have hox_7 : fx_3 3 = some x_7 := by rw [hffx_3, hx_7]; rfl
  obtain ⟨x_8, hx_8⟩ : ∃ z, z = rr_2 4 := ⟨_, rfl⟩
  have hox_8 : fx_3 4 = some x_8 := by rw [hffx_3, hx_8]; rfl
  obtain ⟨x_9, hx_9⟩ : ∃ z, z = rr_2 5 := ⟨_, rfl⟩
  have hox_9 : fx_3 5 = some x_9 := by rw [hffx_3, hx_9]; rfl
  have hP : va_P G.1 vwCl [zo3q1 h0 0 0, zr G q_1 6 fx_3, zi G x_4 160 (fun _ => 0), zi G x_5 160 (fun _ => 0), zi G x_6 160 (fun _ => 0), zi G x_7 160 (fun _ => 0), zi G x_8 160 (fun _ => 0), zi G x_9 160 (fun _ => 0)] H := by rw [hx_4, hx_5, hx_6, hx_7, hx_8, hx_9]; exact hP
  have hD : va_D A [zo3q1 h0 0 0, zr G q_1 6 fx_3, zi G x_4 160 (fun _ => 0), zi G x_5 160 (fun _ => 0), zi G x_6 160 (fun _ => 0), zi G x_7 160 (fun _ => 0), zi G x_8 160 (fun _ => 0), zi G x_9 160 (fun _ => 0)] := by rw [hx_4, hx_5, hx_6, hx_7, hx_8, hx_9]; exact hD
  refine va_putF (D := G.1) (ci := 3) (v := .ref q_1) (ty := .array (.array .int)) (C := RX3) (T := TX3) (N := 5) hx hb hts hiX3 tyX3 tyX3_ok nmX3 hown hK hP hD hS 0 rfl rfl 0 (by decide) kf11 (fun _ h9 => h9) rfl hin rfl (by decide +kernel) rfl rfl (Nat.le_of_ble_eq_true rfl) dX3_init_14 (fun H locs hP hD hS => ?_)
  have hP : va_P G.1 vwCl [zo3q2 h0 q_1 0 0, zr G q_1 6 fx_3, zi G x_4 160 (fun _ => 0), zi G x_5 160 (fun _ => 0), zi G x_6 160 (fun _ => 0), zi G x_7 160 (fun _ => 0), zi G x_8 160 (fun _ => 0), zi G x_9 160 (fun _ => 0)] H := hP
  have hD : va_D A [zo3q2 h0 q_1 0 0, zr G q_1 6 fx_3, zi G x_4 160 (fun _ => 0), zi G x_5 160 (fun _ => 0), zi G x_6 160 (fun _ => 0), zi G x_7 160 (fun _ => 0), zi G x_8 160 (fun _ => 0), zi G x_9 160 (fun _ => 0)] := hD
  refine lv_aload_n hx hb dX3_init_17 rfl (lv_at hl 0 rfl) ?_
  refine lv_bipush (v := 6) hx hb dX3_init_18 (by decide) ?_
  refine lv_iconst (v := 3) hx hb dX3_init_20 (by decide) ?_
  refine g_newG hx hb hown (hts (.classLink RX3 9 "[[I") (by decide +kernel)) hE.2.2.2.2.2.2.2 (hts (.arrayClass .int) (by decide +kernel)) hK hP hD hS hA (n := 6) (k := 3) (N' := 6) (K' := 3) (by decide) (by decide) (by decide) (by decide) (Nat.le_of_ble_eq_true rfl) (Nat.le_of_ble_eq_true rfl) (Nat.le_of_ble_eq_true rfl) (Nat.le_of_ble_eq_true rfl) (Nat.le_of_ble_eq_true rfl) dX3_init_21 (fun q_10 rr_11 H hP hD hS => ?_)
  obtain ⟨fx_12, hffx_12⟩ : ∃ g : Nat → Option Nat, g = fun i => if i < 6 then some (rr_11 i) else none := ⟨_, rfl⟩
  rw [← hffx_12] at hP hD
  obtain ⟨x_13, hx_13⟩ : ∃ z, z = rr_11 0 := ⟨_, rfl⟩
  have hox_13 : fx_12 0 = some x_13 := by rw [hffx_12, hx_13]; rfl
  obtain ⟨x_14, hx_14⟩ : ∃ z, z = rr_11 1 := ⟨_, rfl⟩
  have hox_14 : fx_12 1 = some x_14 := by rw [hffx_12, hx_14]; rfl
  obtain ⟨x_15, hx_15⟩ : ∃ z, z = rr_11 2 := ⟨_, rfl⟩
  have hox_15 : fx_12 2 = some x_15 := by rw [hffx_12, hx_15]; rfl
  obtain ⟨x_16, hx_16⟩ : ∃ z, z = rr_11 3 := ⟨_, rfl⟩
  have hox_16 : fx_12 3 = some x_16 := by rw [hffx_12, hx_16]; rfl
  obtain ⟨x_17, hx_17⟩ : ∃ z, z = rr_11 4 := ⟨_, rfl⟩
  have hox_17 : fx_12 4 = some x_17 := by rw [hffx_12, hx_17]; rfl
  obtain ⟨x_18, hx_18⟩ : ∃ z, z = rr_11 5 := ⟨_, rfl⟩
  have hox_18 : fx_12 5 = some x_18 := by rw [hffx_12, hx_18]; rfl
  have hP : va_P G.1 vwCl [zo3q2 h0 q_1 0 0, zr G q_1 6 fx_3, zi G x_4 160 (fun _ => 0), zi G x_5 160 (fun _ => 0), zi G x_6 160 (fun _ => 0), zi G x_7 160 (fun _ => 0), zi G x_8 160 (fun _ => 0), zi G x_9 160 (fun _ => 0), zr G q_10 6 fx_12, zi G x_13 3 (fun _ => 0), zi G x_14 3 (fun _ => 0), zi G x_15 3 (fun _ => 0), zi G x_16 3 (fun _ => 0), zi G x_17 3 (fun _ => 0), zi G x_18 3 (fun _ => 0)] H := by rw [hx_13, hx_14, hx_15, hx_16, hx_17, hx_18]; exact hP
  have hD : va_D A [zo3q2 h0 q_1 0 0, zr G q_1 6 fx_3, zi G x_4 160 (fun _ => 0), zi G x_5 160 (fun _ => 0), zi G x_6 160 (fun _ => 0), zi G x_7 160 (fun _ => 0), zi G x_8 160 (fun _ => 0), zi G x_9 160 (fun _ => 0), zr G q_10 6 fx_12, zi G x_13 3 (fun _ => 0), zi G x_14 3 (fun _ => 0), zi G x_15 3 (fun _ => 0), zi G x_16 3 (fun _ => 0), zi G x_17 3 (fun _ => 0), zi G x_18 3 (fun _ => 0)] := by rw [hx_13, hx_14, hx_15, hx_16, hx_17, hx_18]; exact hD
  refine va_putF (D := G.1) (ci := 3) (v := .ref q_10) (ty := .array (.array .int)) (C := RX3) (T := TX3) (N := 5) hx hb hts hiX3 tyX3 tyX3_ok nmX3 hown hK hP hD hS 0 rfl rfl 1 (by decide) kf16 (fun _ h9 => h9) rfl hin rfl (by decide +kernel) rfl rfl (Nat.le_of_ble_eq_true rfl) dX3_init_25 (fun H locs hP hD hS => ?_)
  have hP : va_P G.1 vwCl [zo3q3 h0 q_1 q_10 0 0, zr G q_1 6 fx_3, zi G x_4 160 (fun _ => 0), zi G x_5 160 (fun _ => 0), zi G x_6 160 (fun _ => 0), zi G x_7 160 (fun _ => 0), zi G x_8 160 (fun _ => 0), zi G x_9 160 (fun _ => 0), zr G q_10 6 fx_12, zi G x_13 3 (fun _ => 0), zi G x_14 3 (fun _ => 0), zi G x_15 3 (fun _ => 0), zi G x_16 3 (fun _ => 0), zi G x_17 3 (fun _ => 0), zi G x_18 3 (fun _ => 0)] H := hP
  have hD : va_D A [zo3q3 h0 q_1 q_10 0 0, zr G q_1 6 fx_3, zi G x_4 160 (fun _ => 0), zi G x_5 160 (fun _ => 0), zi G x_6 160 (fun _ => 0), zi G x_7 160 (fun _ => 0), zi G x_8 160 (fun _ => 0), zi G x_9 160 (fun _ => 0), zr G q_10 6 fx_12, zi G x_13 3 (fun _ => 0), zi G x_14 3 (fun _ => 0), zi G x_15 3 (fun _ => 0), zi G x_16 3 (fun _ => 0), zi G x_17 3 (fun _ => 0), zi G x_18 3 (fun _ => 0)] := hD
  refine lv_aload_n hx hb dX3_init_28 rfl (lv_at hl 0 rfl) ?_
  refine lv_bipush (v := 32) hx hb dX3_init_29 (by decide) ?_
  refine g_newI hx hb (hts (.arrayClass .int) (by decide +kernel)) hK hP hD hS hA (n := 32) (N' := 32) (by decide) (by decide) (Nat.le_of_ble_eq_true rfl) (Nat.le_of_ble_eq_true rfl) (Nat.le_of_ble_eq_true rfl) dX3_init_31 (fun q_19 H hP hD hS => ?_)
  have hP : va_P G.1 vwCl [zo3q3 h0 q_1 q_10 0 0, zr G q_1 6 fx_3, zi G x_4 160 (fun _ => 0), zi G x_5 160 (fun _ => 0), zi G x_6 160 (fun _ => 0), zi G x_7 160 (fun _ => 0), zi G x_8 160 (fun _ => 0), zi G x_9 160 (fun _ => 0), zr G q_10 6 fx_12, zi G x_13 3 (fun _ => 0), zi G x_14 3 (fun _ => 0), zi G x_15 3 (fun _ => 0), zi G x_16 3 (fun _ => 0), zi G x_17 3 (fun _ => 0), zi G x_18 3 (fun _ => 0), zi G q_19 32 (fun _ => 0)] H := hP
  have hD : va_D A [zo3q3 h0 q_1 q_10 0 0, zr G q_1 6 fx_3, zi G x_4 160 (fun _ => 0), zi G x_5 160 (fun _ => 0), zi G x_6 160 (fun _ => 0), zi G x_7 160 (fun _ => 0), zi G x_8 160 (fun _ => 0), zi G x_9 160 (fun _ => 0), zr G q_10 6 fx_12, zi G x_13 3 (fun _ => 0), zi G x_14 3 (fun _ => 0), zi G x_15 3 (fun _ => 0), zi G x_16 3 (fun _ => 0), zi G x_17 3 (fun _ => 0), zi G x_18 3 (fun _ => 0), zi G q_19 32 (fun _ => 0)] := hD
  refine va_putF (D := G.1) (ci := 3) (v := .ref q_19) (ty := .array .int) (C := RX3) (T := TX3) (N := 5) hx hb hts hiX3 tyX3 tyX3_ok nmX3 hown hK hP hD hS 0 rfl rfl 2 (by decide) kf19 (fun _ h9 => h9) rfl hin rfl (by decide +kernel) rfl rfl (Nat.le_of_ble_eq_true rfl) dX3_init_33 (fun H locs hP hD hS => ?_)
  have hP : va_P G.1 vwCl [zo3 h0 q_1 q_10 q_19 0 0, zr G q_1 6 fx_3, zi G x_4 160 (fun _ => 0), zi G x_5 160 (fun _ => 0), zi G x_6 160 (fun _ => 0), zi G x_7 160 (fun _ => 0), zi G x_8 160 (fun _ => 0), zi G x_9 160 (fun _ => 0), zr G q_10 6 fx_12, zi G x_13 3 (fun _ => 0), zi G x_14 3 (fun _ => 0), zi G x_15 3 (fun _ => 0), zi G x_16 3 (fun _ => 0), zi G x_17 3 (fun _ => 0), zi G x_18 3 (fun _ => 0), zi G q_19 32 (fun _ => 0)] H := hP
  have hD : va_D A [zo3 h0 q_1 q_10 q_19 0 0, zr G q_1 6 fx_3, zi G x_4 160 (fun _ => 0), zi G x_5 160 (fun _ => 0), zi G x_6 160 (fun _ => 0), zi G x_7 160 (fun _ => 0), zi G x_8 160 (fun _ => 0), zi G x_9 160 (fun _ => 0), zr G q_10 6 fx_12, zi G x_13 3 (fun _ => 0), zi G x_14 3 (fun _ => 0), zi G x_15 3 (fun _ => 0), zi G x_16 3 (fun _ => 0), zi G x_17 3 (fun _ => 0), zi G x_18 3 (fun _ => 0), zi G q_19 32 (fun _ => 0)] := hD
  refine W.widen (k := 15) (n := 1022) (by omega) (by omega) ?_
  have hP9 := hP.sub (ws' := [zo3 h0 q_1 q_10 q_19 0 0, zr G q_1 6 fx_3, zi G x_4 160 (fun _ => 0), zr G q_10 6 fx_12, zi G x_13 3 (fun _ => 0), zi G q_19 32 (fun _ => 0)]) [0, 1, 2, 8, 9, 15] rfl
  have hD9 := hD.sub (ws' := [zo3 h0 q_1 q_10 q_19 0 0, zr G q_1 6 fx_3, zi G x_4 160 (fun _ => 0), zr G q_10 6 fx_12, zi G x_13 3 (fun _ => 0), zi G q_19 32 (fun _ => 0)]) [0, 1, 2, 8, 9, 15] (by decide) rfl
  have hpost : (fun (u : Nat × Nat × Nat × (Nat → Option Nat) × (Nat → Option Nat) × Nat × Nat) => match u with | (qc, qe, qs, fc, fe, c0, e0) => fc 0 = some c0 ∧ fe 0 = some e0) (q_1, q_10, q_19, fx_3, fx_12, x_4, x_13) := ⟨by assumption, by assumption⟩
  exact W.vret hx hb hr (fun t ht hW => ⟨⟨(q_1, q_10, q_19, fx_3, fx_12, x_4, x_13), rfl, hpost, by rw [ht]; exact hP9, va_K.moved hW.alike hK, hD9⟩, hS.F ht⟩) hS.2.2 dX3_init_36
abbrev q_X2_init (G : gG) (E : gS) (h0 : Nat) (A : Nat → Prop) : Array Value → State → Outcome → State → Prop := va_Qv (fun (u : Nat × Nat × Nat × (Nat → Option Nat) × Nat × Nat × Nat × Nat) => match u with | (qn, qo, ql, fn, r0, r1, r2, r3) => fn 0 = some r0 ∧ fn 1 = some r1 ∧ fn 2 = some r2 ∧ fn 3 = some r3) (fun (u : Nat × Nat × Nat × (Nat → Option Nat) × Nat × Nat × Nat × Nat) t => match u with | (qn, qo, ql, fn, r0, r1, r2, r3) => va_P G.1 vwCl [zo2 h0 qn qo ql, zr G qn 4 fn, zi G r0 40 (fun _ => 0), zi G r1 40 (fun _ => 0), zi G r2 40 (fun _ => 0), zi G r3 40 (fun _ => 0), zi G qo 4 (gFl (-1) (fun _ => 0) 4), zi G ql 4 (fun _ => 0)] t.heap ∧ gK G t ∧ va_D A [zo2 h0 qn qo ql, zr G qn 4 fn, zi G r0 40 (fun _ => 0), zi G r1 40 (fun _ => 0), zi G r2 40 (fun _ => 0), zi G r3 40 (fun _ => 0), zi G qo 4 (gFl (-1) (fun _ => 0) 4), zi G ql 4 (fun _ => 0)]) A
set_option maxHeartbeats 4000000 in
set_option maxRecDepth 100000 in
theorem c_X2_init (l : Launch) (G : gG) (E : gS) (h0 : Nat) (sz : Nat) : Met l yX2_init wsX2_init ({ frames := 1, cells := 7, slots := 172, locals := 23 }) (gPreE G E [.ref h0] [zo2q1 h0] sz) (q_X2_init G E h0 (va_A [zo2q1 h0] sz)) 7 172 (va_A [zo2q1 h0] sz) := by
  refine Met.ofW (cc := cX2_init) (maxL := 1) (ret := none) (by decide) rfl ?_
  intro p e s m args below meth c s₁ B hml hv
  obtain ⟨rfl, hsz, hP, hK, hD0, hE⟩ := hv
  have hx := B.exec
  have hb := B.bytes
  have hr := B.returns
  have hts := atoms_spec (ws := wsX2_init) B.pre
  have hown : s.vm.findClass RX2 = some m.cls := findClass_of_methodNamed B.named
  have hlocks := B.notSynchronized
  have hin : meth.name = "<init>" := (name_of_methodNamed B.named B.method).1
  subst hsz
  have hD := hD0.self (sz := s.heap.size)
  generalize hAe : va_A [zo2q1 h0] s.heap.size = A at hD hE ⊢
  have hA : ∀ q : Nat, s.heap.size ≤ q → A q := fun q h => by rw [← hAe]; exact Or.inr h
  have hS : va_S A s.heap s.heap [] := va_S.rf
  have hP : va_P G.1 vwCl [zo2q1 h0] s.heap := hP
  have hD : va_D A [zo2q1 h0] := hD
  have hl := lv_entry ([.ref h0]) (n := 1) (Nat.le_of_ble_eq_true rfl)
  rw [lg_entry_eq]
  generalize (lg_sl ([.ref h0]) ++ List.replicate (1 - (lg_sl ([.ref h0])).length) Slot.unset).toArray = ls at hl ⊢
  have hl : lv_has ls 1 [zR 0 h0] := hl
  have kf11 := hts (.fieldLink RX2 11 "PebbleInShoe$Sheets" "numbers" "[[I") (by decide +kernel)
  have hiX2 := (by decide +kernel : ∀ w ∈ wsX20, w ∈ wsX2_init)
  have kf16 := hts (.fieldLink RX2 16 "PebbleInShoe$Sheets" "sorts" "[I") (by decide +kernel)
  have kf20 := hts (.fieldLink RX2 20 "PebbleInShoe$Sheets" "lengths" "[I") (by decide +kernel)
  refine lv_aload_n hx hb dX2_init_0 rfl (lv_at hl 0 rfl) ?_
  refine W.objInit hx hb hown (hts (.methodLink RX2 3 objectInit) (by decide +kernel)) (hts (.instanceMethod objectInit) (by decide +kernel)) (hts (.code objectInit ⟨#[0xb1]⟩ 1 none) (by decide +kernel)) rfl (by rw [hml]; exact hl.1) rfl dX2_init_1 (Nat.le_of_ble_eq_true rfl) (Nat.le_of_ble_eq_true rfl) ?_
  refine W.eq (g2 := F0 m 4 ls []) rfl ?_
  refine lv_aload_n hx hb dX2_init_4 rfl (lv_at hl 0 rfl) ?_
  refine lv_iconst (v := 4) hx hb dX2_init_5 (by decide) ?_
  refine lv_bipush (v := 40) hx hb dX2_init_6 (by decide) ?_
  refine g_newG hx hb hown (hts (.classLink RX2 9 "[[I") (by decide +kernel)) hE.2.2.2.2.2.2.2 (hts (.arrayClass .int) (by decide +kernel)) hK hP hD hS hA (n := 4) (k := 40) (N' := 4) (K' := 40) (by decide) (by decide) (by decide) (by decide) (Nat.le_of_ble_eq_true rfl) (Nat.le_of_ble_eq_true rfl) (Nat.le_of_ble_eq_true rfl) (Nat.le_of_ble_eq_true rfl) (Nat.le_of_ble_eq_true rfl) dX2_init_8 (fun q_1 rr_2 H hP hD hS => ?_)
  obtain ⟨fx_3, hffx_3⟩ : ∃ g : Nat → Option Nat, g = fun i => if i < 4 then some (rr_2 i) else none := ⟨_, rfl⟩
  rw [← hffx_3] at hP hD
  obtain ⟨x_4, hx_4⟩ : ∃ z, z = rr_2 0 := ⟨_, rfl⟩
  have hox_4 : fx_3 0 = some x_4 := by rw [hffx_3, hx_4]; rfl
  obtain ⟨x_5, hx_5⟩ : ∃ z, z = rr_2 1 := ⟨_, rfl⟩
  have hox_5 : fx_3 1 = some x_5 := by rw [hffx_3, hx_5]; rfl
  obtain ⟨x_6, hx_6⟩ : ∃ z, z = rr_2 2 := ⟨_, rfl⟩
  have hox_6 : fx_3 2 = some x_6 := by rw [hffx_3, hx_6]; rfl
  obtain ⟨x_7, hx_7⟩ : ∃ z, z = rr_2 3 := ⟨_, rfl⟩
  have hox_7 : fx_3 3 = some x_7 := by rw [hffx_3, hx_7]; rfl
  have hP : va_P G.1 vwCl [zo2q1 h0, zr G q_1 4 fx_3, zi G x_4 40 (fun _ => 0), zi G x_5 40 (fun _ => 0), zi G x_6 40 (fun _ => 0), zi G x_7 40 (fun _ => 0)] H := by rw [hx_4, hx_5, hx_6, hx_7]; exact hP
  have hD : va_D A [zo2q1 h0, zr G q_1 4 fx_3, zi G x_4 40 (fun _ => 0), zi G x_5 40 (fun _ => 0), zi G x_6 40 (fun _ => 0), zi G x_7 40 (fun _ => 0)] := by rw [hx_4, hx_5, hx_6, hx_7]; exact hD
  refine va_putF (D := G.1) (ci := 2) (v := .ref q_1) (ty := .array (.array .int)) (C := RX2) (T := TX2) (N := 3) hx hb hts hiX2 tyX2 tyX2_ok nmX2 hown hK hP hD hS 0 rfl rfl 0 (by decide) kf11 (fun _ h9 => h9) rfl hin rfl (by decide +kernel) rfl rfl (Nat.le_of_ble_eq_true rfl) dX2_init_12 (fun H locs hP hD hS => ?_)
  have hP : va_P G.1 vwCl [zo2q2 h0 q_1, zr G q_1 4 fx_3, zi G x_4 40 (fun _ => 0), zi G x_5 40 (fun _ => 0), zi G x_6 40 (fun _ => 0), zi G x_7 40 (fun _ => 0)] H := hP
  have hD : va_D A [zo2q2 h0 q_1, zr G q_1 4 fx_3, zi G x_4 40 (fun _ => 0), zi G x_5 40 (fun _ => 0), zi G x_6 40 (fun _ => 0), zi G x_7 40 (fun _ => 0)] := hD
  refine lv_aload_n hx hb dX2_init_15 rfl (lv_at hl 0 rfl) ?_
  refine lv_iconst (v := 4) hx hb dX2_init_16 (by decide) ?_
  refine g_newI hx hb (hts (.arrayClass .int) (by decide +kernel)) hK hP hD hS hA (n := 4) (N' := 4) (by decide) (by decide) (Nat.le_of_ble_eq_true rfl) (Nat.le_of_ble_eq_true rfl) (Nat.le_of_ble_eq_true rfl) dX2_init_17 (fun q_8 H hP hD hS => ?_)
  have hP : va_P G.1 vwCl [zo2q2 h0 q_1, zr G q_1 4 fx_3, zi G x_4 40 (fun _ => 0), zi G x_5 40 (fun _ => 0), zi G x_6 40 (fun _ => 0), zi G x_7 40 (fun _ => 0), zi G q_8 4 (fun _ => 0)] H := hP
  have hD : va_D A [zo2q2 h0 q_1, zr G q_1 4 fx_3, zi G x_4 40 (fun _ => 0), zi G x_5 40 (fun _ => 0), zi G x_6 40 (fun _ => 0), zi G x_7 40 (fun _ => 0), zi G q_8 4 (fun _ => 0)] := hD
  refine va_putF (D := G.1) (ci := 2) (v := .ref q_8) (ty := .array .int) (C := RX2) (T := TX2) (N := 3) hx hb hts hiX2 tyX2 tyX2_ok nmX2 hown hK hP hD hS 0 rfl rfl 1 (by decide) kf16 (fun _ h9 => h9) rfl hin rfl (by decide +kernel) rfl rfl (Nat.le_of_ble_eq_true rfl) dX2_init_19 (fun H locs hP hD hS => ?_)
  have hP : va_P G.1 vwCl [zo2q3 h0 q_1 q_8, zr G q_1 4 fx_3, zi G x_4 40 (fun _ => 0), zi G x_5 40 (fun _ => 0), zi G x_6 40 (fun _ => 0), zi G x_7 40 (fun _ => 0), zi G q_8 4 (fun _ => 0)] H := hP
  have hD : va_D A [zo2q3 h0 q_1 q_8, zr G q_1 4 fx_3, zi G x_4 40 (fun _ => 0), zi G x_5 40 (fun _ => 0), zi G x_6 40 (fun _ => 0), zi G x_7 40 (fun _ => 0), zi G q_8 4 (fun _ => 0)] := hD
  refine lv_aload_n hx hb dX2_init_22 rfl (lv_at hl 0 rfl) ?_
  refine lv_iconst (v := 4) hx hb dX2_init_23 (by decide) ?_
  refine g_newI hx hb (hts (.arrayClass .int) (by decide +kernel)) hK hP hD hS hA (n := 4) (N' := 4) (by decide) (by decide) (Nat.le_of_ble_eq_true rfl) (Nat.le_of_ble_eq_true rfl) (Nat.le_of_ble_eq_true rfl) dX2_init_24 (fun q_9 H hP hD hS => ?_)
  have hP : va_P G.1 vwCl [zo2q3 h0 q_1 q_8, zr G q_1 4 fx_3, zi G x_4 40 (fun _ => 0), zi G x_5 40 (fun _ => 0), zi G x_6 40 (fun _ => 0), zi G x_7 40 (fun _ => 0), zi G q_8 4 (fun _ => 0), zi G q_9 4 (fun _ => 0)] H := hP
  have hD : va_D A [zo2q3 h0 q_1 q_8, zr G q_1 4 fx_3, zi G x_4 40 (fun _ => 0), zi G x_5 40 (fun _ => 0), zi G x_6 40 (fun _ => 0), zi G x_7 40 (fun _ => 0), zi G q_8 4 (fun _ => 0), zi G q_9 4 (fun _ => 0)] := hD
  refine va_putF (D := G.1) (ci := 2) (v := .ref q_9) (ty := .array .int) (C := RX2) (T := TX2) (N := 3) hx hb hts hiX2 tyX2 tyX2_ok nmX2 hown hK hP hD hS 0 rfl rfl 2 (by decide) kf20 (fun _ h9 => h9) rfl hin rfl (by decide +kernel) rfl rfl (Nat.le_of_ble_eq_true rfl) dX2_init_26 (fun H locs hP hD hS => ?_)
  have hP : va_P G.1 vwCl [zo2 h0 q_1 q_8 q_9, zr G q_1 4 fx_3, zi G x_4 40 (fun _ => 0), zi G x_5 40 (fun _ => 0), zi G x_6 40 (fun _ => 0), zi G x_7 40 (fun _ => 0), zi G q_8 4 (fun _ => 0), zi G q_9 4 (fun _ => 0)] H := hP
  have hD : va_D A [zo2 h0 q_1 q_8 q_9, zr G q_1 4 fx_3, zi G x_4 40 (fun _ => 0), zi G x_5 40 (fun _ => 0), zi G x_6 40 (fun _ => 0), zi G x_7 40 (fun _ => 0), zi G q_8 4 (fun _ => 0), zi G q_9 4 (fun _ => 0)] := hD
  refine lv_aload_n hx hb dX2_init_29 rfl (lv_at hl 0 rfl) ?_
  refine va_get (D := G.1) (ci := 2) (v := .ref q_8) (C := RX2) (T := TX2) (N := 3) hx hb hts hiX2 hown hK hP 0 rfl rfl 1 (by decide) kf16 (fun _ h9 => h9) rfl dX2_init_30 ?_
  refine lv_iconst (v := -1) hx hb dX2_init_33 (by decide) ?_
  have hPc : va_P G.1 vwCl [zi G q_8 4 (fun _ => 0)] H := hP.sub [6] rfl
  have hDc : va_D A [zi G q_8 4 (fun _ => 0)] := hD.sub [6] (by decide) rfl
  have hFc := va_free (wc := [zi G q_8 4 (fun _ => 0)]) hD hS hA [6] rfl
  refine va_callv (va_runS (As := [.ref q_8, .int (-1)]) (rest := []) ⟨hx, hb, hml, hown, hts⟩ (c_J7_fill_53178 l G q_8 4 (fun _ => 0) (-1) H.size (by decide)) (va_cwS 2 hts gX2_init_J7_fill_53178 rfl rfl rfl (by decide +kernel) ⟨Nat.le_of_ble_eq_true rfl, Nat.le_of_ble_eq_true rfl⟩) ⟨gPre_blind, fun U hU hW => gPre_of hU hW hK hPc hDc⟩ rfl rfl hl.1 rfl (lv_room (Nat.le_of_ble_eq_true rfl)) dX2_init_34 ⟨Nat.le_of_ble_eq_true rfl, Nat.le_of_ble_eq_true rfl⟩) hS (fun q _ h => hFc q h) hFc (fun u t H locs ht hvm w_11 hB hz1 hk1 hS => ?_)
  obtain ⟨hP1, hK1, hD1⟩ := hB
  rw [ht] at hP1
  have hP1 : va_P G.1 vwCl [zi G q_8 4 (gFl (-1) (fun _ => 0) 4)] H := hP1
  have hD1 : va_D (va_A [zi G q_8 4 (fun _ => 0)] _) [zi G q_8 4 (gFl (-1) (fun _ => 0) 4)] := hD1
  obtain ⟨hP, hD⟩ := va_join (wr := [zo2 h0 q_1 q_8 q_9, zr G q_1 4 fx_3, zi G x_4 40 (fun _ => 0), zi G x_5 40 (fun _ => 0), zi G x_6 40 (fun _ => 0), zi G x_7 40 (fun _ => 0), zi G q_9 4 (fun _ => 0)]) (w1 := [zi G q_8 4 (gFl (-1) (fun _ => 0) 4)]) hP hD [6] [0, 1, 2, 3, 4, 5, 7] rfl rfl (by decide) (by decide) hk1 hFc hP1 hD1
  have hP : va_P G.1 vwCl [zo2 h0 q_1 q_8 q_9, zr G q_1 4 fx_3, zi G x_4 40 (fun _ => 0), zi G x_5 40 (fun _ => 0), zi G x_6 40 (fun _ => 0), zi G x_7 40 (fun _ => 0), zi G q_9 4 (fun _ => 0), zi G q_8 4 (gFl (-1) (fun _ => 0) 4)] H := hP
  have hD : va_D A [zo2 h0 q_1 q_8 q_9, zr G q_1 4 fx_3, zi G x_4 40 (fun _ => 0), zi G x_5 40 (fun _ => 0), zi G x_6 40 (fun _ => 0), zi G x_7 40 (fun _ => 0), zi G q_9 4 (fun _ => 0), zi G q_8 4 (gFl (-1) (fun _ => 0) 4)] := hD
  refine W.widen (k := 7) (n := 172) (by omega) (by omega) ?_
  have hP9 := hP.sub (ws' := [zo2 h0 q_1 q_8 q_9, zr G q_1 4 fx_3, zi G x_4 40 (fun _ => 0), zi G x_5 40 (fun _ => 0), zi G x_6 40 (fun _ => 0), zi G x_7 40 (fun _ => 0), zi G q_8 4 (gFl (-1) (fun _ => 0) 4), zi G q_9 4 (fun _ => 0)]) [0, 1, 2, 3, 4, 5, 7, 6] rfl
  have hD9 := hD.sub (ws' := [zo2 h0 q_1 q_8 q_9, zr G q_1 4 fx_3, zi G x_4 40 (fun _ => 0), zi G x_5 40 (fun _ => 0), zi G x_6 40 (fun _ => 0), zi G x_7 40 (fun _ => 0), zi G q_8 4 (gFl (-1) (fun _ => 0) 4), zi G q_9 4 (fun _ => 0)]) [0, 1, 2, 3, 4, 5, 7, 6] (by decide) rfl
  have hpost : (fun (u : Nat × Nat × Nat × (Nat → Option Nat) × Nat × Nat × Nat × Nat) => match u with | (qn, qo, ql, fn, r0, r1, r2, r3) => fn 0 = some r0 ∧ fn 1 = some r1 ∧ fn 2 = some r2 ∧ fn 3 = some r3) (q_1, q_8, q_9, fx_3, x_4, x_5, x_6, x_7) := ⟨by assumption, by assumption, by assumption, by assumption⟩
  exact W.vret hx hb hr (fun t ht hW => ⟨⟨(q_1, q_8, q_9, fx_3, x_4, x_5, x_6, x_7), rfl, hpost, by rw [ht]; exact hP9, va_K.moved hW.alike hK, hD9⟩, hS.F ht⟩) hS.2.2 dX2_init_37
abbrev q_X4_init (G : gG) (E : gS) (h0 : Nat) (A : Nat → Prop) : Array Value → State → Outcome → State → Prop := va_Qv (fun (u : Nat × Nat) => match u with | (qw, qr) => True) (fun (u : Nat × Nat) t => match u with | (qw, qr) => va_P G.1 vwCl [zo4 h0 qw qr] t.heap ∧ gK G t ∧ va_D A [zo4 h0 qw qr]) A
set_option maxHeartbeats 4000000 in
set_option maxRecDepth 100000 in
theorem c_X4_init (l : Launch) (G : gG) (E : gS) (h0 : Nat) (sz : Nat) : Met l yX4_init wsX4_init ({ frames := 1, cells := 8, slots := 106, locals := 20 }) (gPreE G E [.ref h0] [zo4q1 h0] sz) (q_X4_init G E h0 (va_A [zo4q1 h0] sz)) 8 106 (va_A [zo4q1 h0] sz) := by
  refine Met.ofW (cc := cX4_init) (maxL := 1) (ret := none) (by decide) rfl ?_
  intro p e s m args below meth c s₁ B hml hv
  obtain ⟨rfl, hsz, hP, hK, hD0, hE⟩ := hv
  have hx := B.exec
  have hb := B.bytes
  have hr := B.returns
  have hts := atoms_spec (ws := wsX4_init) B.pre
  have hown : s.vm.findClass RX4 = some m.cls := findClass_of_methodNamed B.named
  have hlocks := B.notSynchronized
  have hin : meth.name = "<init>" := (name_of_methodNamed B.named B.method).1
  subst hsz
  have hD := hD0.self (sz := s.heap.size)
  generalize hAe : va_A [zo4q1 h0] s.heap.size = A at hD hE ⊢
  have hA : ∀ q : Nat, s.heap.size ≤ q → A q := fun q h => by rw [← hAe]; exact Or.inr h
  have hS : va_S A s.heap s.heap [] := va_S.rf
  have hP : va_P G.1 vwCl [zo4q1 h0] s.heap := hP
  have hD : va_D A [zo4q1 h0] := hD
  have hl := lv_entry ([.ref h0]) (n := 1) (Nat.le_of_ble_eq_true rfl)
  rw [lg_entry_eq]
  generalize (lg_sl ([.ref h0]) ++ List.replicate (1 - (lg_sl ([.ref h0])).length) Slot.unset).toArray = ls at hl ⊢
  have hl : lv_has ls 1 [zR 0 h0] := hl
  have kf11 := hts (.fieldLink RX4 11 "PebbleInShoe$Turns" "weights" "[[I") (by decide +kernel)
  have hiX4 := (by decide +kernel : ∀ w ∈ wsX40, w ∈ wsX4_init)
  have kf16 := hts (.fieldLink RX4 16 "PebbleInShoe$Turns" "rest" "[I") (by decide +kernel)
  refine lv_aload_n hx hb dX4_init_0 rfl (lv_at hl 0 rfl) ?_
  refine W.objInit hx hb hown (hts (.methodLink RX4 3 objectInit) (by decide +kernel)) (hts (.instanceMethod objectInit) (by decide +kernel)) (hts (.code objectInit ⟨#[0xb1]⟩ 1 none) (by decide +kernel)) rfl (by rw [hml]; exact hl.1) rfl dX4_init_1 (Nat.le_of_ble_eq_true rfl) (Nat.le_of_ble_eq_true rfl) ?_
  refine W.eq (g2 := F0 m 4 ls []) rfl ?_
  refine lv_aload_n hx hb dX4_init_4 rfl (lv_at hl 0 rfl) ?_
  refine lv_bipush (v := 6) hx hb dX4_init_5 (by decide) ?_
  refine lv_bipush (v := 6) hx hb dX4_init_7 (by decide) ?_
  refine g_newG hx hb hown (hts (.classLink RX4 9 "[[I") (by decide +kernel)) hE.2.2.2.2.2.2.2 (hts (.arrayClass .int) (by decide +kernel)) hK hP hD hS hA (n := 6) (k := 6) (N' := 6) (K' := 6) (by decide) (by decide) (by decide) (by decide) (Nat.le_of_ble_eq_true rfl) (Nat.le_of_ble_eq_true rfl) (Nat.le_of_ble_eq_true rfl) (Nat.le_of_ble_eq_true rfl) (Nat.le_of_ble_eq_true rfl) dX4_init_9 (fun q_1 rr_2 H hP hD hS => ?_)
  obtain ⟨fx_3, hffx_3⟩ : ∃ g : Nat → Option Nat, g = fun i => if i < 6 then some (rr_2 i) else none := ⟨_, rfl⟩
  rw [← hffx_3] at hP hD
  obtain ⟨x_4, hx_4⟩ : ∃ z, z = rr_2 0 := ⟨_, rfl⟩
  have hox_4 : fx_3 0 = some x_4 := by rw [hffx_3, hx_4]; rfl
  obtain ⟨x_5, hx_5⟩ : ∃ z, z = rr_2 1 := ⟨_, rfl⟩
  have hox_5 : fx_3 1 = some x_5 := by rw [hffx_3, hx_5]; rfl
  obtain ⟨x_6, hx_6⟩ : ∃ z, z = rr_2 2 := ⟨_, rfl⟩
  have hox_6 : fx_3 2 = some x_6 := by rw [hffx_3, hx_6]; rfl
  obtain ⟨x_7, hx_7⟩ : ∃ z, z = rr_2 3 := ⟨_, rfl⟩
  have hox_7 : fx_3 3 = some x_7 := by rw [hffx_3, hx_7]; rfl
  obtain ⟨x_8, hx_8⟩ : ∃ z, z = rr_2 4 := ⟨_, rfl⟩
  have hox_8 : fx_3 4 = some x_8 := by rw [hffx_3, hx_8]; rfl
  obtain ⟨x_9, hx_9⟩ : ∃ z, z = rr_2 5 := ⟨_, rfl⟩
  have hox_9 : fx_3 5 = some x_9 := by rw [hffx_3, hx_9]; rfl
  have hP : va_P G.1 vwCl [zo4q1 h0, zr G q_1 6 fx_3, zi G x_4 6 (fun _ => 0), zi G x_5 6 (fun _ => 0), zi G x_6 6 (fun _ => 0), zi G x_7 6 (fun _ => 0), zi G x_8 6 (fun _ => 0), zi G x_9 6 (fun _ => 0)] H := by rw [hx_4, hx_5, hx_6, hx_7, hx_8, hx_9]; exact hP
  have hD : va_D A [zo4q1 h0, zr G q_1 6 fx_3, zi G x_4 6 (fun _ => 0), zi G x_5 6 (fun _ => 0), zi G x_6 6 (fun _ => 0), zi G x_7 6 (fun _ => 0), zi G x_8 6 (fun _ => 0), zi G x_9 6 (fun _ => 0)] := by rw [hx_4, hx_5, hx_6, hx_7, hx_8, hx_9]; exact hD
  refine va_putF (D := G.1) (ci := 4) (v := .ref q_1) (ty := .array (.array .int)) (C := RX4) (T := TX4) (N := 2) hx hb hts hiX4 tyX4 tyX4_ok nmX4 hown hK hP hD hS 0 rfl rfl 0 (by decide) kf11 (fun _ h9 => h9) rfl hin rfl (by decide +kernel) rfl rfl (Nat.le_of_ble_eq_true rfl) dX4_init_13 (fun H locs hP hD hS => ?_)
  have hP : va_P G.1 vwCl [zo4q2 h0 q_1, zr G q_1 6 fx_3, zi G x_4 6 (fun _ => 0), zi G x_5 6 (fun _ => 0), zi G x_6 6 (fun _ => 0), zi G x_7 6 (fun _ => 0), zi G x_8 6 (fun _ => 0), zi G x_9 6 (fun _ => 0)] H := hP
  have hD : va_D A [zo4q2 h0 q_1, zr G q_1 6 fx_3, zi G x_4 6 (fun _ => 0), zi G x_5 6 (fun _ => 0), zi G x_6 6 (fun _ => 0), zi G x_7 6 (fun _ => 0), zi G x_8 6 (fun _ => 0), zi G x_9 6 (fun _ => 0)] := hD
  refine lv_aload_n hx hb dX4_init_16 rfl (lv_at hl 0 rfl) ?_
  refine lv_bipush (v := 64) hx hb dX4_init_17 (by decide) ?_
  refine g_newI hx hb (hts (.arrayClass .int) (by decide +kernel)) hK hP hD hS hA (n := 64) (N' := 64) (by decide) (by decide) (Nat.le_of_ble_eq_true rfl) (Nat.le_of_ble_eq_true rfl) (Nat.le_of_ble_eq_true rfl) dX4_init_19 (fun q_10 H hP hD hS => ?_)
  have hP : va_P G.1 vwCl [zo4q2 h0 q_1, zr G q_1 6 fx_3, zi G x_4 6 (fun _ => 0), zi G x_5 6 (fun _ => 0), zi G x_6 6 (fun _ => 0), zi G x_7 6 (fun _ => 0), zi G x_8 6 (fun _ => 0), zi G x_9 6 (fun _ => 0), zi G q_10 64 (fun _ => 0)] H := hP
  have hD : va_D A [zo4q2 h0 q_1, zr G q_1 6 fx_3, zi G x_4 6 (fun _ => 0), zi G x_5 6 (fun _ => 0), zi G x_6 6 (fun _ => 0), zi G x_7 6 (fun _ => 0), zi G x_8 6 (fun _ => 0), zi G x_9 6 (fun _ => 0), zi G q_10 64 (fun _ => 0)] := hD
  refine va_putF (D := G.1) (ci := 4) (v := .ref q_10) (ty := .array .int) (C := RX4) (T := TX4) (N := 2) hx hb hts hiX4 tyX4 tyX4_ok nmX4 hown hK hP hD hS 0 rfl rfl 1 (by decide) kf16 (fun _ h9 => h9) rfl hin rfl (by decide +kernel) rfl rfl (Nat.le_of_ble_eq_true rfl) dX4_init_21 (fun H locs hP hD hS => ?_)
  have hP : va_P G.1 vwCl [zo4 h0 q_1 q_10, zr G q_1 6 fx_3, zi G x_4 6 (fun _ => 0), zi G x_5 6 (fun _ => 0), zi G x_6 6 (fun _ => 0), zi G x_7 6 (fun _ => 0), zi G x_8 6 (fun _ => 0), zi G x_9 6 (fun _ => 0), zi G q_10 64 (fun _ => 0)] H := hP
  have hD : va_D A [zo4 h0 q_1 q_10, zr G q_1 6 fx_3, zi G x_4 6 (fun _ => 0), zi G x_5 6 (fun _ => 0), zi G x_6 6 (fun _ => 0), zi G x_7 6 (fun _ => 0), zi G x_8 6 (fun _ => 0), zi G x_9 6 (fun _ => 0), zi G q_10 64 (fun _ => 0)] := hD
  refine W.widen (k := 8) (n := 106) (by omega) (by omega) ?_
  have hP9 := hP.sub (ws' := [zo4 h0 q_1 q_10]) [0] rfl
  have hD9 := hD.sub (ws' := [zo4 h0 q_1 q_10]) [0] (by decide) rfl
  have hpost : (fun (u : Nat × Nat) => match u with | (qw, qr) => True) (q_1, q_10) := by first | trivial | rfl | decide | simp
  exact W.vret hx hb hr (fun t ht hW => ⟨⟨(q_1, q_10), rfl, hpost, by rw [ht]; exact hP9, va_K.moved hW.alike hK, hD9⟩, hS.F ht⟩) hS.2.2 dX4_init_24
