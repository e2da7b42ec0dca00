/-! THE CLAIM OUT OF ONE WALK OF THE LAW'S BODY. Your part is whole_start (and what it stands on); all else here is the same for every law, but numbers. -/
noncomputable def R_law : String := "PebbleInShoeLaw"
def lw_P (b : Addr) (xs : List Int32) (args : Array Value) (s : State) : Prop := args = #[.ref b] ∧ s.IntsAt b xs ∧ xs.length ≤ 3584 ∧ (Jvm.Cond.and given_1 narrow_1).before args s = true
def lw_Q (_ : Array Value) (s : State) (o : Outcome) (t : State) : Prop := o = .returned (some (.int 1)) ∧ Framed s o t [] 600000 7302250
def lw_Z (below : List Frame) (a : Array Value) (s : State) : State → Prop := fun t => ∃ o, t.status = .running ∧ Ended t below o ∧ lw_Q a s o t
/-- the law's own end, with 1 on the stack, nothing written that was there before, its room as the claim has it -/
theorem lw_ret {p : Program} {l : Launch} {e : Env} {s : State} {m : MethodId} {below : List Frame} {meth : Method} {c : Code} {b : Nat} (hx : p.tables.exec = Jvm.exec) (hb : c.code = code) (hr : meth.sig.returnType = ret) (hlocks : meth.locks = false) {pc : Nat} {H : Heap} {ls : Array Slot} (hdg : decode code pc = .ok (.ireturn, 1)) : W p l e room_1 s m #[Value.ref b] below meth c H [] 600000 7302250 (lw_Z below #[Value.ref b] s) (F0 m pc ls [.int 1]) := by
  intro T hT X
  obtain ⟨fs, hret, hrun, hended, hW, hframe⟩ := X.leave (v := some (.int 1)) (hlocks := hlocks) (fun h => by rw [hr] at h; cases h)
  have hmeth' : T.vm.method? m = some meth := X.method'
  refine ⟨T.setFrames fs, ?_, .returned (some (.int 1)), hrun, hended, rfl, ⟨_, rfl⟩, hW, hframe⟩
  jvm_step X.here [X.here.top, hx, hb, hdg, hmeth', hr, ret, narrow_b1]
  (try refine ⟨rfl, ?_⟩); (try refine ⟨rfl, ?_⟩)
  first | (intro acts; rw [hret _ acts rfl rfl rfl]) | rw [hret _ _ rfl rfl rfl]
  exact Steps.refl _
/-- what holds at the law's entry: the machine, the code, the tables' words (any of lw_tbl by 'hts w (by decide +kernel)'), the script of L ints xs at the cell b, what the Statement gives of the start (any of its parts by flat_of_before) -/
def lw_At (p : Program) (s : State) (m : MethodId) (meth : Method) (c : Code) (b L : Nat) (xs : Nat → Int32) : Prop :=
  p.tables.exec = Jvm.exec ∧ c.code = code ∧ meth.sig.returnType = ret ∧ c.maxLocals = 4 ∧ s.vm.findClass R_law = some m.cls ∧ (∀ w ∈ lw_tbl, w.before #[Value.ref b] s = true) ∧ va_X b L xs s s.heap ∧ b < s.heap.size ∧ meth.locks = false ∧ (Jvm.Cond.and given_1 narrow_1).before #[Value.ref b] s = true
/-! what the Statement gives of the start: the classes, the String constants, statics -/
theorem g_P0 {D : va_G} {cl : List vw_C} {H : Heap} : va_P D cl [] H := fun k q h => by simp at h
theorem g_D0 {A : Nat → Prop} : va_D A [] := ⟨fun i j p q h => by simp at h, fun k q h => by simp at h⟩
theorem g_cmp (x : Int64) : lg_cmp x x = 0 := by
  unfold lg_cmp
  simp [Int64.lt_irrefl]
noncomputable def gTm : List Term := [.string RX1 111, .string RX1 113, .string RX1 115, .string RX1 117, .string RX1 119, .string RX1 121, .string RX1 123, .string RX1 125, .string RX1 127, .string RX1 129, .string RX1 131, .string RX1 133, .string RX1 89, .string RX5 52]
noncomputable abbrev gF : List Cond := flatC (Jvm.Cond.and given_1 narrow_1)
noncomputable def gAt : List Nat := [53, 63, 74, 85, 95, 107, 120, 135, 152, 170, 189, 208, 229, 9]
set_option maxRecDepth 100000 in
theorem ga_4 : ∀ i, i < 14 → gF[gAt.getD i 0]? = some (Cond.exactly (gTm.getD i .null) "java/lang/String") ∧ gF[gAt.getD i 0 + 1]? = some (Cond.eq (.field (gTm.getD i .null) "java/lang/String" "coder" "B") (.int 0)) ∧ gF[gAt.getD i 0 + 2]? = some (Cond.arrayOf (.field (gTm.getD i .null) "java/lang/String" "value" "[B") .byte) ∧ gF[gAt.getD i 0 + 3]? = some (Cond.eq (.length (.field (gTm.getD i .null) "java/lang/String" "value" "[B")) (.int (Int32.ofNat (gLen.getD i 0)))) := by decide +kernel
set_option maxRecDepth 100000 in
theorem ga_el : ∀ i, i < 14 → ∀ j, j < gLen.getD i 0 → gF[gAt.getD i 0 + (4 + j)]? = some (Cond.eq (.elem (.field (gTm.getD i .null) "java/lang/String" "value" "[B") (.int (Int32.ofNat j))) (.int ((gByt.getD i []).getD j 0))) := by decide +kernel
theorem gs_ex (i : Nat) (h : i < 14) : Cond.exactly (gTm.getD i .null) "java/lang/String" ∈ gF := List.mem_of_getElem? (ga_4 i h).1
theorem gs_co (i : Nat) (h : i < 14) : Cond.eq (.field (gTm.getD i .null) "java/lang/String" "coder" "B") (.int 0) ∈ gF := List.mem_of_getElem? (ga_4 i h).2.1
theorem gs_ar (i : Nat) (h : i < 14) : Cond.arrayOf (.field (gTm.getD i .null) "java/lang/String" "value" "[B") .byte ∈ gF := List.mem_of_getElem? (ga_4 i h).2.2.1
theorem gs_le (i : Nat) (h : i < 14) : Cond.eq (.length (.field (gTm.getD i .null) "java/lang/String" "value" "[B")) (.int (Int32.ofNat (gLen.getD i 0))) ∈ gF := List.mem_of_getElem? (ga_4 i h).2.2.2
theorem gs_el (i : Nat) (h : i < 14) (j : Nat) (hj : j < gLen.getD i 0) : Cond.eq (.elem (.field (gTm.getD i .null) "java/lang/String" "value" "[B") (.int (Int32.ofNat j))) (.int ((gByt.getD i []).getD j 0)) ∈ gF := List.mem_of_getElem? (ga_el i h j hj)
noncomputable def gNxt : List (List Nat) := [[0, 73, 83, 92, 103, 115, 129, 145, 162, 180, 198, 218, 242, 62], [73, 0, 84, 93, 104, 116, 130, 146, 163, 181, 199, 219, 243, 72], [83, 84, 0, 94, 105, 117, 131, 147, 164, 182, 200, 220, 244, 82], [92, 93, 94, 0, 106, 118, 132, 148, 165, 183, 201, 221, 245, 91], [103, 104, 105, 106, 0, 119, 133, 149, 166, 184, 202, 222, 246, 102], [115, 116, 117, 118, 119, 0, 134, 150, 167, 185, 203, 223, 247, 114], [129, 130, 131, 132, 133, 134, 0, 151, 168, 186, 204, 224, 248, 128], [145, 146, 147, 148, 149, 150, 151, 0, 169, 187, 205, 225, 249, 144], [162, 163, 164, 165, 166, 167, 168, 169, 0, 188, 206, 226, 250, 161], [180, 181, 182, 183, 184, 185, 186, 187, 188, 0, 207, 227, 251, 179], [198, 199, 200, 201, 202, 203, 204, 205, 206, 207, 0, 228, 252, 197], [218, 219, 220, 221, 222, 223, 224, 225, 226, 227, 228, 0, 253, 217], [242, 243, 244, 245, 246, 247, 248, 249, 250, 251, 252, 253, 0, 241], [62, 72, 82, 91, 102, 114, 128, 144, 161, 179, 197, 217, 241, 0]]
set_option maxRecDepth 100000 in
theorem gs_nx : ∀ i, i < 14 → ∀ j, j < 14 → i ≠ j → gF[(gNxt.getD i []).getD j 0]? = some (Cond.not (Cond.eq (gTm.getD i .null) (gTm.getD j .null))) ∨ gF[(gNxt.getD i []).getD j 0]? = some (Cond.not (Cond.eq (gTm.getD j .null) (gTm.getD i .null))) := by decide +kernel
theorem gs_ne (i : Nat) (hi : i < 14) (j : Nat) (hj : j < 14) (hn : i ≠ j) : Cond.not (Cond.eq (gTm.getD i .null) (gTm.getD j .null)) ∈ gF ∨ Cond.not (Cond.eq (gTm.getD j .null) (gTm.getD i .null)) ∈ gF :=
  (gs_nx i hi j hj hn).imp List.mem_of_getElem? List.mem_of_getElem?
set_option maxRecDepth 100000 in
theorem gs_rf : ∀ i, i < 14 → Cond.stringRef (gStr.getD i ("", 0, "")).1 (gStr.getD i ("", 0, "")).2.1 (gStr.getD i ("", 0, "")).2.2 ∈ lw_tbl ∧ gTm.getD i .null = Term.string (gStr.getD i ("", 0, "")).1 (gStr.getD i ("", 0, "")).2.1 := by decide +kernel
set_option maxRecDepth 100000 in
theorem g_env {s : State} {b : Nat} (hts0 : ∀ w ∈ lw_tbl, w.before #[Value.ref b] s = true) (hgv : (Jvm.Cond.and given_1 narrow_1).before #[Value.ref b] s = true) : ∃ E : gS, gE E (fun q : Nat => s.heap.size ≤ q) s s.heap := by
  have hs := flat_of_before _ hgv
  have hA : ∀ a : Nat, a < s.heap.size → ¬ (fun q : Nat => s.heap.size ≤ q) a := fun a h => Nat.not_le.mpr h
  obtain ⟨adK, adV, hk, hev⟩ := vk_Sof (args := #[Value.ref b]) (s := s) (N := 14) (tm := fun i => gTm.getD i .null) (len := gLen) (byt := gByt) (A := fun q : Nat => s.heap.size ≤ q) (fun i hi => by have := (gLen_ok i hi).2; omega) (fun i hi => hs _ (gs_ex i hi)) (fun i hi => hs _ (gs_co i hi)) (fun i hi => hs _ (gs_ar i hi)) (fun i hi => hs _ (gs_le i hi)) (fun i hi j hj => hs _ (gs_el i hi j hj)) (fun i j hi hj hn => (gs_ne i hi j hj hn).imp (fun h => hs _ h) (fun h => hs _ h)) hA
  refine ⟨(adK, adV), hk, fun k q hq => ?_, va_Zof (hts0 (.laysStatic "java/lang/String" "COMPACT_STRINGS" "Z") (by decide +kernel)) (hts0 (.initialized "java/lang/String") (by decide +kernel)) (va_eqi (hs (.eq (.static "java/lang/String" "COMPACT_STRINGS" "Z") (.int 1)) (by decide +kernel))) hA, va_Zqof (hts0 (.laysStatic "jdk/internal/util/Preconditions" "SIOOBE_FORMATTER" "Ljava/util/function/BiFunction;") (by decide +kernel)) (hts0 (.initialized "jdk/internal/util/Preconditions") (by decide +kernel)) (hs (.isRef (.static "jdk/internal/util/Preconditions" "SIOOBE_FORMATTER" "Ljava/util/function/BiFunction;")) (by decide +kernel)) hA, va_Nw.of rfl (hts0 gNest (by decide +kernel)), va_Nw.of rfl (hts0 gNest9 (by decide +kernel)), va_Nw.of rfl (hts0 gNest47 (by decide +kernel)), hts0 (.arrayOver (.array .int)) (by decide +kernel)⟩
  have hk14 : k < 14 := (List.getElem?_eq_some_iff.mp hq).1
  have hg : gStr.getD k ("", 0, "") = q := by rw [List.getD_eq_getElem?_getD, hq]; rfl
  have h1 := gs_rf k hk14
  rw [hg] at h1
  have h2 := hev k hk14
  have h3 : (gTm.getD k .null).eval #[Value.ref b] s none [] s = some (.ref (adK k)) := h2
  rw [h1.2] at h3
  exact vk_R.of (hts0 _ h1.1) h3
set_option maxRecDepth 100000 in
theorem g_known {s : State} {b : Nat} (hts0 : ∀ w ∈ lw_tbl, w.before #[Value.ref b] s = true) : ∃ G : gG, gK G s := by
  obtain ⟨c0, i0, k0⟩ := u_known (C := RX0) (T := TX0) (N := 12) (n := 12) hts0 inX0 (hts0 (.instantiable RX0 12) (by decide +kernel))
  obtain ⟨c1, i1, k1⟩ := u_known (C := RX1) (T := TX1) (N := 7) (n := 7) hts0 inX1 (hts0 (.instantiable RX1 7) (by decide +kernel))
  obtain ⟨c2, i2, k2⟩ := u_known (C := RX2) (T := TX2) (N := 3) (n := 3) hts0 inX2 (hts0 (.instantiable RX2 3) (by decide +kernel))
  obtain ⟨c3, i3, k3⟩ := u_known (C := RX3) (T := TX3) (N := 5) (n := 5) hts0 inX3 (hts0 (.instantiable RX3 5) (by decide +kernel))
  obtain ⟨c4, i4, k4⟩ := u_known (C := RX4) (T := TX4) (N := 2) (n := 2) hts0 inX4 (hts0 (.instantiable RX4 2) (by decide +kernel))
  obtain ⟨c5, i5, k5⟩ := u_known (C := RX5) (T := TX5) (N := 8) (n := 8) hts0 inX5 (hts0 (.instantiable RX5 8) (by decide +kernel))
  obtain ⟨c6, i6, k6⟩ := u_known (C := RX6) (T := TX6) (N := 42) (n := 42) hts0 inX6 (hts0 (.instantiable RX6 42) (by decide +kernel))
  obtain ⟨dC, dI, hKc⟩ : ∃ (dC : Nat → ClassId) (dI : Nat → Nat → Nat), ∀ (k : Nat) (q : vw_C), vwCl[k]? = some q → u_Kn s q.1 q.2.1 q.2.2 (dC k) (dI k) := by
    refine ⟨fun k => if k = 0 then c0 else if k = 1 then c1 else if k = 2 then c2 else if k = 3 then c3 else if k = 4 then c4 else if k = 5 then c5 else c6, fun k => if k = 0 then i0 else if k = 1 then i1 else if k = 2 then i2 else if k = 3 then i3 else if k = 4 then i4 else if k = 5 then i5 else i6, ?_⟩
    intro k q hq
    match k, hq with
    | 0, hq => cases hq; exact k0
    | 1, hq => cases hq; exact k1
    | 2, hq => cases hq; exact k2
    | 3, hq => cases hq; exact k3
    | 4, hq => cases hq; exact k4
    | 5, hq => cases hq; exact k5
    | 6, hq => cases hq; exact k6
    | k + 7, hq => simp at hq
  obtain ⟨aI, kI, oI, f1, f2, f3⟩ := Cond.arrayClass_spec (args := #[Value.ref b]) (first := s) (s := s) (o := none) (idx := []) (type := .int) (hts0 (.arrayClass .int) (by decide +kernel))
  obtain ⟨aZ, kZ, oZ, z1, z2, z3⟩ := Cond.arrayClass_spec (args := #[Value.ref b]) (first := s) (s := s) (o := none) (idx := []) (type := .boolean) (hts0 (.arrayClass .boolean) (by decide +kernel))
  obtain ⟨oG, aG, kG, w1, w2, w3, w4⟩ := Cond.arrayOver_specA (args := #[Value.ref b]) (first := s) (s := s) (o := none) (idx := []) (t := .int) (hts0 (.arrayOver (.array .int)) (by decide +kernel))
  refine ⟨((dC, dI), aI, aZ, aG), hKc, fun k q hq => ?_⟩
  match k, hq with
  | 0, hq => cases hq; exact ⟨fun n z => ⟨(fun k h => by cases h), kI, f2, oI, f3⟩, f1⟩
  | 1, hq => cases hq; exact ⟨fun n z => ⟨(fun k h => by cases h), kZ, z2, oZ, z3⟩, z1⟩
  | 2, hq => cases hq; exact ⟨fun n z => ⟨(fun k h => by cases h), kG, w2, oG, w3⟩, w4⟩
  | k + 3, hq => simp at hq
