/-! the worlds' classes: objects by vwCl; arrays of ints, of booleans, of arrays of ints -/
abbrev gG : Type := va_G × ClassId × ClassId × ClassId
abbrev gK (G : gG) (U : State) : Prop := va_K G.1 vwCl [(G.2.1, .int), (G.2.2.1, .boolean), (G.2.2.2, .array .int)] U
/-- what a contract asks: its arguments, the cells of its world -/
def gPre (G : gG) (av : List Value) (ws : va_W) (sz : Nat) : Array Value → State → Prop := va_Pc av (fun U => U.heap.size = sz ∧ va_P G.1 vwCl ws U.heap ∧ gK G U ∧ va_D (fun _ => True) ws)
theorem gPre_blind {G : gG} {av : List Value} {ws : va_W} {sz : Nat} : FrameBlind (gPre G av ws sz) := fun a U g mk q => by
  obtain ⟨q0, q1, qP, qK, qD⟩ := q
  exact ⟨q0, q1, qP, va_K.moved (u := U) (U := U.calling g mk a) (Vm.Alike.refl U.vm) qK, qD⟩
theorem gPre_of {G : gG} {av : List Value} {ws : va_W} {s U : State} {H : Heap} {A : Nat → Prop} (hU : U.heap = H) (hW : s.WarmedH U.vm) (hK : gK G s) (hP : va_P G.1 vwCl ws H) (hD : va_D A ws) : gPre G av ws H.size av.toArray U :=
  ⟨rfl, by rw [hU], by rw [hU]; exact hP, va_K.moved hW.alike hK, hD.weaken (fun _ _ _ _ => trivial)⟩
/-- an index that is a written number -/
theorem gIn {i : Int32} {n : Nat} (h : ¬ (i < 0 ∨ n ≤ i.toNatClampNeg)) : vp_in i n := h
section GAALD
variable {p : Program} {l : Launch} {e : Env} {R : Room} {s : State} {m : MethodId} {args : Array Value} {below : List Frame} {meth : Method} {c : Code} {H : Heap} {locs : List Loc} {cells slots : Nat} {Q : State → Prop}
variable {cc : ByteArray} {pc : Nat} {ls : Array Slot} {rest : List Value} {D : va_G} {cl : List vw_C} {A : Nat → Prop} {a : Nat} {tys : List (ClassId × FieldType)} {ws : va_W} {H0 : Heap}
/-- a row of an array of rows -/
theorem g_aald (hexec : p.tables.exec = Jvm.exec) (hb : c.code = cc) (hK : va_K D cl tys s) (hP : va_P D cl ws H) (q0 t0 : Nat) {cA : ClassId} {t : FieldType} {n : Nat} {f : Nat → Option Nat} (ha : ws[q0]? = some (a, .inl (cA, n, .inr (.inr (.inr (.inr f)))))) (ht : tys[t0]? = some (cA, .array t)) {i : Int32} (hin : vp_in i n) {x : Nat} (hx : f i.toNatClampNeg = some x) (hdg : decode cc pc = .ok (.aaload, 1))
    (kk : W p l e R s m args below meth c H locs cells slots Q (F0 m (pc + 1) ls (.ref x :: rest))) : W p l e R s m args below meth c H locs cells slots Q (F0 m pc ls (.int i :: .ref a :: rest)) := by
  have hlt : i.toNatClampNeg < n := Nat.not_le.mp fun q => hin (Or.inr q)
  exact W.aald (v := va_rf (f i.toNatClampNeg)) (ty := .array t) hexec hb (hP q0 _ ha) ((hK.2 t0 _ ht).1 n (fun j => va_rf (f j))) rfl (fun q => by cases q) (by show ¬ (i < 0 ∨ (arrV _ _ _).slots.size ≤ _); rw [arrV_size]; exact hin) (by show (arrV _ _ _).slots[_]? = _; rw [arrV_read _ _ hlt]) rfl rfl hdg (by rw [hx]; exact kk)
end GAALD
/-- 1 or 0 -/
noncomputable def bz (b : Bool) : Int32 := if b then 1 else 0
theorem bz_t : bz true = 1 := rfl
theorem bz_f : bz false = 0 := rfl
theorem bz_pos {P : Prop} [Decidable P] (h : P) : (1 : Int32) = bz (decide P) := by rw [decide_eq_true h]; rfl
theorem bz_neg {P : Prop} [Decidable P] (h : ¬ P) : (0 : Int32) = bz (decide P) := by rw [decide_eq_false h]; rfl
theorem bz_nar (b : Bool) : narrow .boolean (.int (bz b)) = .int (bz b) := by cases b <;> rfl
theorem bz_ne {r : Int32} {b : Bool} (h : r = bz b) (c : ¬ r = 0) : b = true := by
  cases b with
  | true => rfl
  | false => exact absurd h c
theorem bz_eq {r : Int32} {b : Bool} (h : r = bz b) (c : r = 0) : b = false := by
  cases b with
  | false => rfl
  | true => rw [h] at c; exact absurd c (by decide)
theorem g_over {t : FieldType} {u U : State} (hvm : u.vm.Alike U.vm) (h : va_AOA t u) : va_AOA t U := by
  have h1 : (Cond.arrayOver (.array t)).before #[] (u.setVm U.vm) = true := by
    rw [Cond.arrayOver_setVmC hvm _]; exact h
  first
    | exact h1
    | simpa [va_AOA, Cond.before, Cond.holds, Cond.value] using h1
/-! the String constants (the words by their places, then the signs, then the first law), statics of the JDK's, nest words -/
abbrev gS : Type := (Nat → Nat) × (Nat → Nat)
noncomputable def gLen : List Nat := [5, 5, 4, 2, 3, 3, 4, 5, 5, 5, 4, 5, 8, 40]
noncomputable def gByt : List (List Int32) := [[102, 101, 101, 108, 115], [119, 101, 97, 114, 115], [98, 97, 114, 115], [111, 114], [97, 110, 100], [110, 111, 116], [115, 105, 122, 101], [114, 111, 117, 110, 100], [115, 111, 108, 101, 115], [109, 105, 108, 101, 115], [109, 111, 114, 101], [106, 117, 100, 103, 101], [40, 41, 59, 43, 45, 42, 60, 61], [102, 101, 101, 108, 115, 32, 115, 105, 122, 101, 32, 45, 32, 114, 111, 117, 110, 100, 32, 59, 32, 119, 101, 97, 114, 115, 32, 49, 32, 59, 32, 98, 97, 114, 115, 32, 51, 48, 32, 59]]
noncomputable def gStr : List (String × Nat × String) := [(RX1, 111, "feels"), (RX1, 113, "wears"), (RX1, 115, "bars"), (RX1, 117, "or"), (RX1, 119, "and"), (RX1, 121, "not"), (RX1, 123, "size"), (RX1, 125, "round"), (RX1, 127, "soles"), (RX1, 129, "miles"), (RX1, 131, "more"), (RX1, 133, "judge"), (RX1, 89, "();+-*<="), (RX5, 52, "feels size - round ; wears 1 ; bars 30 ;")]
noncomputable abbrev gNest : Cond := .methodLinkNest RX2 29 yX5_within RX5
noncomputable abbrev gNest9 : Cond := .methodLinkNest RX5 9 yX3_init RX5
noncomputable abbrev gNest47 : Cond := .methodLinkNest RX5 47 yX4_init RX5
def gE (E : gS) (A : Nat → Prop) (U : State) (H : Heap) : Prop :=
  vk_S 14 gLen gByt E.1 E.2 A U H ∧ (∀ (k : Nat) (q : String × Nat × String), gStr[k]? = some q → vk_R q.1 q.2.1 q.2.2 (E.1 k) U) ∧ va_Z "java/lang/String" "COMPACT_STRINGS" "Z" (.int 1) A U H ∧ va_Zq "jdk/internal/util/Preconditions" "SIOOBE_FORMATTER" "Ljava/util/function/BiFunction;" A U H ∧ va_Nw gNest U ∧ va_Nw gNest9 U ∧ va_Nw gNest47 U ∧ va_AOA .int U
theorem gE_call {E : gS} {A B : Nat → Prop} {s U : State} {H : Heap} {locs : List Loc} (hE : gE E A s s.heap) (hS : va_S A s.heap H locs) (hU : U.heap = H) (hW : s.WarmedH U.vm) (hF : ∀ q, B q → A q) : gE E B U U.heap := by
  obtain ⟨e1, e2, e3, e4, e5, e6, e7, e8⟩ := hE
  subst hU
  exact ⟨((e1.kept hS.2.1).narrow hF).moved hW.alike, fun k q h => (e2 k q h).warm hW, va_Z.moved hW.alike ((e3.kept hS.2.1).narrow hF), va_Zq.moved hW.alike ((e4.kept hS.2.1).narrow hF), va_Nw.warmM hW e5, va_Nw.warmM hW e6, va_Nw.warmM hW e7, g_over hW.alike e8⟩
theorem gE_same {E : gS} {A : Nat → Prop} {U V : State} {H : Heap} (hv : V.vm = U.vm) (hE : gE E A U H) : gE E A V H := by
  obtain ⟨e1, e2, e3, e4, e5, e6, e7, e8⟩ := hE
  have ha : U.vm.Alike V.vm := by rw [hv]; exact Vm.Alike.refl U.vm
  exact ⟨e1.moved ha, fun k q h => (e2 k q h).same hv, va_Z.moved ha e3, va_Zq.moved ha e4, va_Nw.same rfl hv.symm e5, va_Nw.same rfl hv.symm e6, va_Nw.same rfl hv.symm e7, g_over ha e8⟩
/-- what a contract asks that reads String constants -/
def gPreE (G : gG) (E : gS) (av : List Value) (ws : va_W) (sz : Nat) : Array Value → State → Prop := va_Pc av (fun U => U.heap.size = sz ∧ va_P G.1 vwCl ws U.heap ∧ gK G U ∧ va_D (fun _ => True) ws ∧ gE E (va_A ws sz) U U.heap)
theorem gPreE_blind {G : gG} {E : gS} {av : List Value} {ws : va_W} {sz : Nat} : FrameBlind (gPreE G E av ws sz) := fun a U g mk q => by
  obtain ⟨q0, q1, qP, qK, qD, qE⟩ := q
  exact ⟨q0, q1, qP, va_K.moved (u := U) (U := U.calling g mk a) (Vm.Alike.refl U.vm) qK, qD, gE_same (V := U.calling g mk a) rfl qE⟩
theorem gPreE_of {G : gG} {E : gS} {av : List Value} {ws : va_W} {s U : State} {H : Heap} {A : Nat → Prop} {locs : List Loc} (hU : U.heap = H) (hW : s.WarmedH U.vm) (hK : gK G s) (hP : va_P G.1 vwCl ws H) (hD : va_D A ws) (hE : gE E A s s.heap) (hS : va_S A s.heap H locs) (hF : ∀ q, va_A ws H.size q → A q) : gPreE G E av ws H.size av.toArray U :=
  ⟨rfl, by rw [hU], by rw [hU]; exact hP, va_K.moved hW.alike hK, hD.weaken (fun _ _ _ _ => trivial), gE_call hE hS hU hW hF⟩
/-- char j of constant k -/
noncomputable def gCh (k j : Nat) : Int32 := (gByt.getD k []).getD j 0
theorem gCh_ok : ∀ k, k < 14 → ∀ j, j < gLen.getD k 0 → (((gCh k j &&& 255).toUInt32 % 65536).toInt32 = gCh k j ∧ narrow .char (.int (gCh k j)) = .int (gCh k j)) := by decide +kernel
theorem gLen_ok : ∀ k, k < 14 → gLen.getD k 0 = (gByt.getD k []).length ∧ gLen.getD k 0 < 41 := by decide +kernel
