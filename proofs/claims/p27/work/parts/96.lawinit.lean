/-! the first law's text is read by both -/
set_option maxRecDepth 100000 in
theorem gText_law : (gParts (gPf tB 40) 40 ((0, 0, 0, 0, 0, fun _ => 0), fun _ => 0)).1 = true := by decide +kernel
theorem law_x {r9 : Int32} {ztx za zp zw : Nat} {zt zm : Int32} {yct : Nat → Int32} {yet : Nat → Nat} (h : gRead (gPf tB 40) 40 0 ((0, 0, 0, 0, 0, fun _ => 0), fun _ => 0) r9 ztx ((za, zt, zp, zm, zw, yct), yet)) : ztx = 1 ∧ mWx yct yet := by
  rcases h with ⟨a, -, b⟩ | ⟨a, -, -⟩
  · exact ⟨b, gParts_wx (by decide) (Nat.zero_le _) rfl a⟩
  · have z : (gParts (gPf tB 40) 40 ((0, 0, 0, 0, 0, fun _ => 0), fun _ => 0)).1 = false := congrArg Prod.fst a
    rw [gText_law] at z
    exact absurd z (by decide)
theorem rP_use {tx td za ou a2 o2 n : Nat} {ftp fwo cd he cd2 he2 : Nat → Int32} {k bg : Int32} {b : Bool} {x : Bool × Nat × Nat × Int32 × (Nat → Int32) × (Nat → Int32)} (ht : m_X6_next_h021 td ftp fwo za = 3 ∧ m_X6_next_h022 td ftp fwo za = k) (hx : eRun tx td ftp fwo n (m_X6_next_h019 td ftp za) 0 ou 0 cd he 1 1 = some x) (h : rP tx td ftp fwo k za ou cd he b a2 o2 bg cd2 he2) : (b, a2, o2, bg, cd2, he2) = x := by
  rcases h with ⟨-, j, e⟩ | ⟨e, -⟩
  · exact eRun_1 e hx
  · exact absurd ht e
theorem some_of {α : Type} {o : Option α} {f : α → Bool} (d : α) (h : o.map f = some true) : o = some (o.getD d) ∧ f (o.getD d) = true := by
  cases o with
  | none => cases h
  | some a => exact ⟨rfl, Option.some.inj h⟩
abbrev rY : Type := Bool × Nat × Nat × Int32 × (Nat → Int32) × (Nat → Int32)
noncomputable def rD : rY := (false, 0, 0, 0, fun _ => 0, fun _ => 0)
noncomputable def rE0 : Option rY := eRun 0 40 (gPf tB 40) (gPf tW 96) 60 (m_X6_next_h019 40 (gPf tB 40) 0) 0 0 0 (fun _ => 0) (fun _ => 0) 1 1
noncomputable def rX0 : rY := rE0.getD rD
noncomputable def rE1 : Option rY := eRun 0 40 (gPf tB 40) (gPf tW 96) 60 (m_X6_next_h019 40 (gPf tB 40) rX0.2.1) 0 rX0.2.2.1 0 rX0.2.2.2.2.1 rX0.2.2.2.2.2 1 1
noncomputable def rX1 : rY := rE1.getD rD
noncomputable def rE2 : Option rY := eRun 0 40 (gPf tB 40) (gPf tW 96) 60 (m_X6_next_h019 40 (gPf tB 40) rX1.2.1) 0 rX1.2.2.1 0 rX1.2.2.2.2.1 rX1.2.2.2.2.2 1 1
noncomputable def rX2 : rY := rE2.getD rD
set_option maxRecDepth 100000 in
theorem rE0_ok : rE0.map (fun x => x.1) = some true := by decide +kernel
set_option maxRecDepth 100000 in
theorem rE1_ok : rE1.map (fun x => x.1) = some true := by decide +kernel
set_option maxRecDepth 100000 in
theorem rE2_ok : rE2.map (fun x => x.1) = some true := by decide +kernel
set_option maxRecDepth 100000 in
theorem rt0 : m_X6_next_h021 40 (gPf tB 40) (gPf tW 96) 0 = 3 ∧ m_X6_next_h022 40 (gPf tB 40) (gPf tW 96) 0 = 0 := by decide +kernel
set_option maxRecDepth 100000 in
theorem rt1 : m_X6_next_h021 40 (gPf tB 40) (gPf tW 96) rX0.2.1 = 3 ∧ m_X6_next_h022 40 (gPf tB 40) (gPf tW 96) rX0.2.1 = 1 := by decide +kernel
set_option maxRecDepth 100000 in
theorem rt2 : m_X6_next_h021 40 (gPf tB 40) (gPf tW 96) rX1.2.1 = 3 ∧ m_X6_next_h022 40 (gPf tB 40) (gPf tW 96) rX1.2.1 = 2 := by decide +kernel
set_option maxRecDepth 100000 in
theorem rt3 : m_X6_next_h021 40 (gPf tB 40) (gPf tW 96) rX2.2.1 = 0 := by decide +kernel
theorem rT_law {b : Bool} {bg : Int32} {cd : Nat → Int32} {o1 o2 o3 : Nat} (h : rT 0 40 (gPf tB 40) (gPf tW 96) (fun _ => 0) (fun _ => 0) b bg cd o1 o2 o3) : b = true := by
  have s0 := some_of rD rE0_ok
  have s1 := some_of rD rE1_ok
  have s2 := some_of rD rE2_ok
  rcases h with ⟨hb, a2, o, c2, h2, p⟩ | ⟨a1, b1, c1, h1, p, h⟩
  · have e : false = rX0.1 := congrArg Prod.fst (rP_use rt0 s0.1 p)
    exact absurd (e.trans s0.2) (by decide)
  · have e := rP_use rt0 s0.1 p
    have e1 : a1 = rX0.2.1 := congrArg (fun z : rY => z.2.1) e
    have e2 : o1 = rX0.2.2.1 := congrArg (fun z : rY => z.2.2.1) e
    have e3 : c1 = rX0.2.2.2.2.1 := congrArg (fun z : rY => z.2.2.2.2.1) e
    have e4 : h1 = rX0.2.2.2.2.2 := congrArg (fun z : rY => z.2.2.2.2.2) e
    subst e1 e2 e3 e4
    rcases h with ⟨hb, a2, o, c2, h2, p⟩ | ⟨a2, b2, c2, h2, p, h⟩
    · have e : false = rX1.1 := congrArg Prod.fst (rP_use rt1 s1.1 p)
      exact absurd (e.trans s1.2) (by decide)
    · have e := rP_use rt1 s1.1 p
      have e1 : a2 = rX1.2.1 := congrArg (fun z : rY => z.2.1) e
      have e2 : o2 = rX1.2.2.1 := congrArg (fun z : rY => z.2.2.1) e
      have e3 : c2 = rX1.2.2.2.2.1 := congrArg (fun z : rY => z.2.2.2.2.1) e
      have e4 : h2 = rX1.2.2.2.2.2 := congrArg (fun z : rY => z.2.2.2.2.2) e
      subst e1 e2 e3 e4
      rcases h with ⟨hb, a3, o, c3, h3, p⟩ | ⟨a3, b3, h3, p, -, h⟩
      · have e : false = rX2.1 := congrArg Prod.fst (rP_use rt2 s2.1 p)
        exact absurd (e.trans s2.2) (by decide)
      · have e := rP_use rt2 s2.1 p
        have e1 : a3 = rX2.2.1 := congrArg (fun z : rY => z.2.1) e
        subst e1
        rcases h with ⟨hb, -⟩ | ⟨-, hn⟩
        · exact hb
        · exact absurd rt3 hn
theorem law_m {ztx : Nat} {ycd : Nat → Int32} {ysr : Nat → Nat} {b : Bool} {bg : Int32} {o1 o2 o3 : Nat} (h : rT 0 40 (gPf tB 40) (gPf tW 96) (fun _ => 0) (fun _ => 0) b bg ycd o1 o2 o3) (h2 : (b = true ∧ ztx = 1 ∧ mWf ycd ysr 0 ∧ ysr 0 = 0 ∧ ysr 1 = o1 ∧ ysr 2 = o2 ∧ ysr 3 = o3) ∨ (b = false ∧ ztx = 0)) : ztx = 1 ∧ mWf ycd ysr 0 := by
  have hb := rT_law h
  rcases h2 with ⟨-, a, c, -⟩ | ⟨a, -⟩
  · exact ⟨a, c⟩
  · rw [hb] at a; exact absurd a (by decide)
