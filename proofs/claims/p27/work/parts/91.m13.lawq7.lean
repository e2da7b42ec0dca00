theorem bl_law : ∀ i, i < 40 → 0 ≤ gPf tB 40 i ∧ gPf tB 40 i ≤ 255 := by decide +kernel
theorem qt_law : QT 40 (gPf tB 40) (gPf tB 40) := fun i hi => ⟨rfl, bl_law i hi⟩
theorem inj6_of {fc : Nat → Option Nat} {c0 c1 c2 c3 c4 c5 : Nat} (h0 : fc 0 = some c0) (h1 : fc 1 = some c1) (h2 : fc 2 = some c2) (h3 : fc 3 = some c3) (h4 : fc 4 = some c4) (h5 : fc 5 = some c5) (n01 : c0 ≠ c1) (n02 : c0 ≠ c2) (n03 : c0 ≠ c3) (n04 : c0 ≠ c4) (n05 : c0 ≠ c5) (n12 : c1 ≠ c2) (n13 : c1 ≠ c3) (n14 : c1 ≠ c4) (n15 : c1 ≠ c5) (n23 : c2 ≠ c3) (n24 : c2 ≠ c4) (n25 : c2 ≠ c5) (n34 : c3 ≠ c4) (n35 : c3 ≠ c5) (n45 : c4 ≠ c5) : InjT6 fc := by
  intro s s' r hs hs' e e'
  have w : s = 0 ∨ s = 1 ∨ s = 2 ∨ s = 3 ∨ s = 4 ∨ s = 5 := by omega
  have w' : s' = 0 ∨ s' = 1 ∨ s' = 2 ∨ s' = 3 ∨ s' = 4 ∨ s' = 5 := by omega
  rcases w with z | z | z | z | z | z <;> rcases w' with z' | z' | z' | z' | z' | z' <;> subst z <;> subst z'
  · rfl
  · exact absurd (Option.some.inj ((h0.symm.trans e).trans (e'.symm.trans h1))) n01
  · exact absurd (Option.some.inj ((h0.symm.trans e).trans (e'.symm.trans h2))) n02
  · exact absurd (Option.some.inj ((h0.symm.trans e).trans (e'.symm.trans h3))) n03
  · exact absurd (Option.some.inj ((h0.symm.trans e).trans (e'.symm.trans h4))) n04
  · exact absurd (Option.some.inj ((h0.symm.trans e).trans (e'.symm.trans h5))) n05
  · exact absurd ((Option.some.inj ((h1.symm.trans e).trans (e'.symm.trans h0))).symm) n01
  · rfl
  · exact absurd (Option.some.inj ((h1.symm.trans e).trans (e'.symm.trans h2))) n12
  · exact absurd (Option.some.inj ((h1.symm.trans e).trans (e'.symm.trans h3))) n13
  · exact absurd (Option.some.inj ((h1.symm.trans e).trans (e'.symm.trans h4))) n14
  · exact absurd (Option.some.inj ((h1.symm.trans e).trans (e'.symm.trans h5))) n15
  · exact absurd ((Option.some.inj ((h2.symm.trans e).trans (e'.symm.trans h0))).symm) n02
  · exact absurd ((Option.some.inj ((h2.symm.trans e).trans (e'.symm.trans h1))).symm) n12
  · rfl
  · exact absurd (Option.some.inj ((h2.symm.trans e).trans (e'.symm.trans h3))) n23
  · exact absurd (Option.some.inj ((h2.symm.trans e).trans (e'.symm.trans h4))) n24
  · exact absurd (Option.some.inj ((h2.symm.trans e).trans (e'.symm.trans h5))) n25
  · exact absurd ((Option.some.inj ((h3.symm.trans e).trans (e'.symm.trans h0))).symm) n03
  · exact absurd ((Option.some.inj ((h3.symm.trans e).trans (e'.symm.trans h1))).symm) n13
  · exact absurd ((Option.some.inj ((h3.symm.trans e).trans (e'.symm.trans h2))).symm) n23
  · rfl
  · exact absurd (Option.some.inj ((h3.symm.trans e).trans (e'.symm.trans h4))) n34
  · exact absurd (Option.some.inj ((h3.symm.trans e).trans (e'.symm.trans h5))) n35
  · exact absurd ((Option.some.inj ((h4.symm.trans e).trans (e'.symm.trans h0))).symm) n04
  · exact absurd ((Option.some.inj ((h4.symm.trans e).trans (e'.symm.trans h1))).symm) n14
  · exact absurd ((Option.some.inj ((h4.symm.trans e).trans (e'.symm.trans h2))).symm) n24
  · exact absurd ((Option.some.inj ((h4.symm.trans e).trans (e'.symm.trans h3))).symm) n34
  · rfl
  · exact absurd (Option.some.inj ((h4.symm.trans e).trans (e'.symm.trans h5))) n45
  · exact absurd ((Option.some.inj ((h5.symm.trans e).trans (e'.symm.trans h0))).symm) n05
  · exact absurd ((Option.some.inj ((h5.symm.trans e).trans (e'.symm.trans h1))).symm) n15
  · exact absurd ((Option.some.inj ((h5.symm.trans e).trans (e'.symm.trans h2))).symm) n25
  · exact absurd ((Option.some.inj ((h5.symm.trans e).trans (e'.symm.trans h3))).symm) n35
  · exact absurd ((Option.some.inj ((h5.symm.trans e).trans (e'.symm.trans h4))).symm) n45
  · rfl
theorem rq_init {fc : Nat → Option Nat} {c0 c1 c2 c3 c4 c5 : Nat} (hI : InjT6 fc) (h0 : fc 0 = some c0) (n1 : c0 ≠ c1) (n2 : c0 ≠ c2) (n3 : c0 ≠ c3) (n4 : c0 ≠ c4) (n5 : c0 ≠ c5) {yct ycd : Nat → Int32} {yet ysr : Nat → Nat} {zt zm r5 zbg : Int32} {za zp zw o1 o2 o3 z5 z6 : Nat} {zok : Bool} (hX : gRead (gPf tB 40) 40 0 ((0, 0, 0, 0, 0, fun _ => 0), fun _ => 0) r5 z5 ((za, zt, zp, zm, zw, yct), yet)) (hw : mWx yct yet) (h5 : z5 = 1) (hM : rT 0 40 (gPf tB 40) (gPf tW 96) (fun _ => 0) (fun _ => 0) zok zbg ycd o1 o2 o3) (hV : (zok = true ∧ z6 = 1 ∧ mWf ycd ysr 0 ∧ ysr 0 = 0 ∧ ysr 1 = o1 ∧ ysr 2 = o2 ∧ ysr 3 = o3) ∨ (zok = false ∧ z6 = 0)) (h6 : z6 = 1) : RQP fc c0 c1 c2 c3 c4 c5 yct (fun _ => 0) (fun _ => 0) (fun _ => 0) (fun _ => 0) (fun _ => 0) yet (fun _ => 0) (fun _ => 0) (fun _ => 0) (fun _ => 0) (fun _ => 0) 0 0 z5 0 0 0 0 (gPf tB 40) (fun _ => 0) (fun _ => 0) (fun _ => 0) (fun _ => 0) (fun _ => 0) (fun _ => 0) (fun _ => 0) (fun _ => 0) (fun _ => 0) (fun _ => 0) (fun _ => 0) (fun _ => 0) (fun _ => 0) (fun _ => 0) 0 z6 0 (fun _ => 0) (fun _ => 0) (fun _ => 0) (fun _ => 0) (gPf tB 40) ycd ysr (fun _ => 0) (fun _ => 0) (gPf tW 96) := by
  have hV2 : (zok = true ∧ nI 0 = nI 0 ∧ z6 = 0 + 1 ∧ mWf ycd ysr 0 ∧ ysr (4 * 0) = 0 ∧ ysr (4 * 0 + 1) = o1 ∧ ysr (4 * 0 + 2) = o2 ∧ ysr (4 * 0 + 3) = o3) ∨ (zok = false ∧ nI 0 = -100 - zbg ∧ z6 = 0) := by
    rcases hV with ⟨a, b, c, d⟩ | ⟨a, b⟩
    · exact Or.inl ⟨a, rfl, b, c, d⟩
    · omega
  obtain ⟨-, -, x3⟩ := text_all qt_law (by omega) hX hM hV2
  refine ⟨⟨rfl, h5.trans h6.symm, rfl, Or.inl rfl⟩, fun p h => absurd h (Nat.not_lt_zero _), rfl, ⟨fun j h => ⟨rfl, rfl, rfl⟩, fun j h => ⟨⟨show (0 : Int32) ≤ 0 by decide, show (0 : Int32) ≤ 20 by decide⟩, show (0 : Int32) ≤ 0 by decide, show (0 : Int32) ≤ 99999 by decide⟩⟩, ⟨fun p h => absurd h (Nat.not_lt_zero _), fun p h => absurd h (Nat.not_lt_zero _), fun p h => absurd h (Nat.not_lt_zero _)⟩, Or.inl rfl, hI, fun t ht e => ?_, fun t ht e => absurd (Option.some.inj (h0.symm.trans (show fc 0 = some c1 by rw [show t = 0 by omega] at e; exact e))) n1, fun t ht e => absurd (Option.some.inj (h0.symm.trans (show fc 0 = some c2 by rw [show t = 0 by omega] at e; exact e))) n2, fun t ht e => absurd (Option.some.inj (h0.symm.trans (show fc 0 = some c3 by rw [show t = 0 by omega] at e; exact e))) n3, fun t ht e => absurd (Option.some.inj (h0.symm.trans (show fc 0 = some c4 by rw [show t = 0 by omega] at e; exact e))) n4, fun t ht e => absurd (Option.some.inj (h0.symm.trans (show fc 0 = some c5 by rw [show t = 0 by omega] at e; exact e))) n5⟩
  have z : t = 0 := by omega
  subst z
  exact ⟨x3 h5, (hw.1 2 (by decide)).2.1⟩
