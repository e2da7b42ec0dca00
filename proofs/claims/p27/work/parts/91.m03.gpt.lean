/-! places only grow -/
def gMo (n : Nat) (X : gF1) : Prop := ∀ (s u : gT) (b : Bool), gI n s → X s = (b, u) → gI n u ∧ s.2.2.1 ≤ u.2.2.1
theorem gBind_cs {α : Type} {x : Bool × α} {k : α → Bool × α} {v : α} {b : Bool} (h : gBind x k = (b, v)) : (x = (false, v) ∧ b = false) ∨ ∃ u, x = (true, u) ∧ k u = (b, v) := by
  obtain ⟨c, u⟩ := x
  cases c with
  | true => exact Or.inr ⟨u, rfl, h⟩
  | false =>
    have h2 : (false, u) = (b, v) := h
    have e2 : u = v := congrArg Prod.snd h2
    have e1 : false = b := congrArg Prod.fst h2
    exact Or.inl ⟨by rw [e2], e1.symm⟩
theorem gMo_nx {f : Nat → Int32} {n : Nat} {s : gT} (h : gI n s) : gI n (gNx f n s) ∧ s.2.2.1 ≤ (gNx f n s).2.2.1 := by
  obtain ⟨a, b⟩ := gNx_I (f := f) (s := s) h.2.1
  exact ⟨a, Nat.le_trans h.1 b⟩
theorem gMo_lp {f : Nat → Int32} {n : Nat} {q : Int32 → Bool} {X : gF1} (hX : gMo n X) : ∀ fu : Nat, gMo n (gLp f n q X fu)
  | 0, s, u, b, h, e => by
    rw [gLp] at e
    have e2 : s = u := congrArg Prod.snd e
    subst e2
    exact ⟨h, Nat.le_refl _⟩
  | fu + 1, s, u, b, h, e => by
    rw [gLp] at e
    by_cases c : q s.2.1 = true
    · rw [if_pos c] at e
      obtain ⟨a1, a2⟩ := gMo_nx (f := f) h
      rcases gBind_cs e with ⟨e1, -⟩ | ⟨v, e1, e2⟩
      · obtain ⟨b1, b2⟩ := hX _ _ _ a1 e1
        exact ⟨b1, Nat.le_trans a2 b2⟩
      · obtain ⟨b1, b2⟩ := hX _ _ _ a1 e1
        obtain ⟨c1, c2⟩ := gMo_lp hX fu (gWr (20000 + s.2.1) v) u b b1 e2
        exact ⟨c1, Nat.le_trans a2 (Nat.le_trans b2 c2)⟩
    · rw [if_neg c] at e
      have e2 : s = u := congrArg Prod.snd e
      subst e2
      exact ⟨h, Nat.le_refl _⟩
theorem gMo_ch {f : Nat → Int32} {n : Nat} {q : Int32 → Bool} {X : gF1} (hX : gMo n X) : gMo n (fun s => gBind (X s) (gLp f n q X 160)) := by
  intro s u b h e
  rcases gBind_cs e with ⟨e1, -⟩ | ⟨v, e1, e2⟩
  · exact hX _ _ _ h e1
  · obtain ⟨b1, b2⟩ := hX _ _ _ h e1
    obtain ⟨c1, c2⟩ := gMo_lp hX 160 v u b b1 e2
    exact ⟨c1, Nat.le_trans b2 c2⟩
noncomputable def gMoD (n : Nat) : gD → Prop
  | none => True
  | some d => gMo n d.1 ∧ gMo n d.2.1 ∧ gMo n d.2.2
theorem gMo_one {f : Nat → Int32} {n : Nat} {D : gD} (hD : gMoD n D) : gMo n (gOneB f n D) := by
  intro s u b h e
  have stay : (false, s) = (b, u) → gI n u ∧ s.2.2.1 ≤ u.2.2.1 := fun e => by
    have e2 : s = u := congrArg Prod.snd e
    subst e2
    exact ⟨h, Nat.le_refl _⟩
  unfold gOneB at e
  by_cases c1 : s.2.1 = 2
  · rw [if_pos c1] at e
    have e2 : gNx f n (gWr s.2.2.2.1 s) = u := congrArg Prod.snd e
    subst e2
    exact gMo_nx (f := f) (s := gWr s.2.2.2.1 s) h
  · rw [if_neg c1] at e
    by_cases c2 : s.2.1 = 3
    · rw [if_pos c2] at e
      have e2 : gNx f n (gWr (10000 + s.2.2.2.1) s) = u := congrArg Prod.snd e
      subst e2
      exact gMo_nx (f := f) (s := gWr (10000 + s.2.2.2.1) s) h
    · rw [if_neg c2] at e
      cases D with
      | none => exact stay e
      | some d =>
        have e : (if s.2.1 = 45 then gBind (d.1 (gNx f n s)) (fun u => (true, gWr 20106 u)) else if s.2.1 = 40 then gBind (d.2.2 (gNx f n s)) (fun u => if u.2.1 = 41 then (true, gNx f n u) else (false, u)) else (false, s)) = (b, u) := e
        obtain ⟨a1, a2⟩ := gMo_nx (f := f) h
        by_cases c3 : s.2.1 = 45
        · rw [if_pos c3] at e
          rcases gBind_cs e with ⟨e1, -⟩ | ⟨v, e1, e2⟩
          · obtain ⟨b1, b2⟩ := hD.1 _ _ _ a1 e1
            exact ⟨b1, Nat.le_trans a2 b2⟩
          · obtain ⟨b1, b2⟩ := hD.1 _ _ _ a1 e1
            have e3 : gWr 20106 v = u := congrArg Prod.snd e2
            subst e3
            exact ⟨b1, Nat.le_trans a2 b2⟩
        · rw [if_neg c3] at e
          by_cases c4 : s.2.1 = 40
          · rw [if_pos c4] at e
            rcases gBind_cs e with ⟨e1, -⟩ | ⟨v, e1, e2⟩
            · obtain ⟨b1, b2⟩ := hD.2.2 _ _ _ a1 e1
              exact ⟨b1, Nat.le_trans a2 b2⟩
            · obtain ⟨b1, b2⟩ := hD.2.2 _ _ _ a1 e1
              by_cases c5 : v.2.1 = 41
              · have e2 : (if v.2.1 = 41 then (true, gNx f n v) else (false, v)) = (b, u) := e2
                rw [if_pos c5] at e2
                have e3 : gNx f n v = u := congrArg Prod.snd e2
                subst e3
                obtain ⟨d1, d2⟩ := gMo_nx (f := f) b1
                exact ⟨d1, Nat.le_trans a2 (Nat.le_trans b2 d2)⟩
              · have e2 : (if v.2.1 = 41 then (true, gNx f n v) else (false, v)) = (b, u) := e2
                rw [if_neg c5] at e2
                have e3 : v = u := congrArg Prod.snd e2
                subst e3
                exact ⟨b1, Nat.le_trans a2 b2⟩
          · rw [if_neg c4] at e
            exact stay e
theorem gMo_not {f : Nat → Int32} {n : Nat} {D : gD} (hD : gMoD n D) (hS : gMo n (gSumB f n D)) : gMo n (gNotB f n D) := by
  intro s u b h e
  unfold gNotB at e
  by_cases c1 : s.2.1 = 105
  · rw [if_pos c1] at e
    cases D with
    | none =>
      have e2 : s = u := congrArg Prod.snd e
      subst e2
      exact ⟨h, Nat.le_refl _⟩
    | some d =>
      have e : gBind (d.2.1 (gNx f n s)) (fun u => (true, gWr 20105 u)) = (b, u) := e
      obtain ⟨a1, a2⟩ := gMo_nx (f := f) h
      rcases gBind_cs e with ⟨e1, -⟩ | ⟨v, e1, e2⟩
      · obtain ⟨b1, b2⟩ := hD.2.1 _ _ _ a1 e1
        exact ⟨b1, Nat.le_trans a2 b2⟩
      · obtain ⟨b1, b2⟩ := hD.2.1 _ _ _ a1 e1
        have e3 : gWr 20105 v = u := congrArg Prod.snd e2
        subst e3
        exact ⟨b1, Nat.le_trans a2 b2⟩
  · rw [if_neg c1] at e
    rcases gBind_cs e with ⟨e1, -⟩ | ⟨v, e1, e2⟩
    · exact hS _ _ _ h e1
    · obtain ⟨b1, b2⟩ := hS _ _ _ h e1
      have e2 : (if v.2.1 = 60 ∨ v.2.1 = 61 then gBind (gSumB f n D (gNx f n v)) (fun x => (true, gWr (20000 + v.2.1) x)) else (true, v)) = (b, u) := e2
      by_cases c2 : v.2.1 = 60 ∨ v.2.1 = 61
      · rw [if_pos c2] at e2
        obtain ⟨d1, d2⟩ := gMo_nx (f := f) b1
        rcases gBind_cs e2 with ⟨e3, -⟩ | ⟨x, e3, e4⟩
        · obtain ⟨g1, g2⟩ := hS _ _ _ d1 e3
          exact ⟨g1, Nat.le_trans b2 (Nat.le_trans d2 g2)⟩
        · obtain ⟨g1, g2⟩ := hS _ _ _ d1 e3
          have e5 : gWr (20000 + v.2.1) x = u := congrArg Prod.snd e4
          subst e5
          exact ⟨g1, Nat.le_trans b2 (Nat.le_trans d2 g2)⟩
      · rw [if_neg c2] at e2
        have e3 : v = u := congrArg Prod.snd e2
        subst e3
        exact ⟨b1, b2⟩
theorem gMo_lv {f : Nat → Int32} {n : Nat} : ∀ d : Nat, gMoD n (gLv f n d) ∧ gMo n (gOneB f n (gLv f n d)) ∧ gMo n (gTermB f n (gLv f n d)) ∧ gMo n (gSumB f n (gLv f n d)) ∧ gMo n (gNotB f n (gLv f n d)) ∧ gMo n (gAndB f n (gLv f n d)) ∧ gMo n (gOrB f n (gLv f n d)) := by
  have step : ∀ D : gD, gMoD n D → gMoD n D ∧ gMo n (gOneB f n D) ∧ gMo n (gTermB f n D) ∧ gMo n (gSumB f n D) ∧ gMo n (gNotB f n D) ∧ gMo n (gAndB f n D) ∧ gMo n (gOrB f n D) := by
    intro D hD
    have a1 := gMo_one (f := f) hD
    have a2 : gMo n (gTermB f n D) := gMo_ch (f := f) a1
    have a3 : gMo n (gSumB f n D) := gMo_ch (f := f) a2
    have a4 := gMo_not (f := f) hD a3
    have a5 : gMo n (gAndB f n D) := gMo_ch (f := f) a4
    have a6 : gMo n (gOrB f n D) := gMo_ch (f := f) a5
    exact ⟨hD, a1, a2, a3, a4, a5, a6⟩
  intro d
  induction d with
  | zero => exact step none trivial
  | succ d ih => exact step (gLv f n (d + 1)) ⟨ih.2.1, ih.2.2.2.2.1, ih.2.2.2.2.2.2⟩
/-! the class's grammar and the reference's machine, side by side -/
section PAR
variable {tx n : Nat} {f ftp : Nat → Int32}
def Inp (tx n : Nat) (ftp : Nat → Int32) (d k : Nat) (s : gT) (x : eS) (H : List Int32) : Prop := gI n s ∧ s.2.2.2.2.1 + k ≤ s.2.2.1 ∧ AL n ftp x.1 s ∧ Sta tx x H (xl s.2.2.2.2.2 s.2.2.2.2.1) 1 ∧ cnt H + d = 5 ∧ H.length ≤ s.2.2.1
def Out (tx n : Nat) (ftp : Nat → Int32) (x : eS) (u : gT) (H : List Int32) (rp : Nat) (P : List Int32) (y : eS) : Prop := Go tx n ftp x y ∧ AL n ftp y.1 u ∧ (∃ C, Sta tx y (P ++ H) C 0 ∧ xl u.2.2.2.2.2 u.2.2.2.2.1 = C ++ P) ∧ allH rp P ∧ (P ++ H).length ≤ u.2.2.1
def Cl (tx n : Nat) (ftp : Nat → Int32) (X : gF1) (d r rp : Nat) (cm : Int32 → Int32 → Prop) (tc : List Int32 → Int32 → Prop) : Prop :=
  ∀ (s : gT) (x : eS) (H : List Int32) (k : Nat), Inp tx n ftp d k s x H → topLt r H → cm x.2.2.2.2.2.2.2 s.2.1 →
    (∀ u, X s = (true, u) → ∃ y P, Out tx n ftp x u H rp P y ∧ tc P u.2.1) ∧ (∀ u, X s = (false, u) → Bad tx n ftp x (nI u.2.2.1))
def cmS (mn t : Int32) : Prop := mn = 0 ∨ ¬ t = 105
def cmN (mn _t : Int32) : Prop := ¬ mn = 0
def tcN (P : List Int32) (t : Int32) : Prop := ((¬ t = 42 ∧ ¬ t = 43) ∧ ¬ t = 45) ∧ (t = 60 ∨ t = 61 → ∃ P1 e P2, P = P1 ++ e :: P2 ∧ allH 5 P1 ∧ rk e = 4)
theorem tcN_app {P Q : List Int32} {t : Int32} (h : tcN P t) : tcN (P ++ Q) t := ⟨h.1, fun z => by
  obtain ⟨P1, e, P2, a, b, c⟩ := h.2 z
  exact ⟨P1, e, P2 ++ Q, by rw [a, List.append_assoc]; rfl, b, c⟩⟩
/-- what stops an E: what stands behind one can't go on -/
theorem stop_no {y : eS} {P B C : List Int32} {u : gT} (hS : Sta tx y (P ++ B) C 0) (hA : AL n ftp y.1 u) (hb : (P ++ B).length < 2 ^ 31) (ht : tcN P u.2.1) (n104 : ¬ u.2.1 = 104) (n103 : ¬ u.2.1 = 103) (n41 : ¬ u.2.1 = 41) (n59 : ¬ u.2.1 = 59) : Bad tx n ftp y (nI u.2.2.1) := by
  rw [hA.2.1]
  obtain ⟨e1, e2⟩ := tk_nend hA.2.2 n41 n59
  by_cases c6 : u.2.1 = 60 ∨ u.2.1 = 61
  · obtain ⟨P1, e, P2, a, b, c⟩ := ht.2 c6
    subst a
    rw [List.append_assoc] at hS hb
    refine bad_cmp (H := P2 ++ B) (d := e) (P := P1) (g := sgX u.2.1) hS (tk_sg hA.2.2) ?_ ?_ c b hb
    · rcases c6 with z | z <;> rw [z] <;> exact Or.inr (Or.inr (by decide))
    · rcases c6 with z | z <;> rw [z] <;> decide
  · refine bad_no hS ?_ e2 e1
    rw [tk_sg hA.2.2]
    exact sgX_none n103 n104 (fun z => c6 (Or.inl z)) (fun z => c6 (Or.inr z)) ht.1.1.2 ht.1.2 ht.1.1.1
/-- signs of a level, and the readers between them -/
def sgLv (q : Int32 → Bool) (ro : Nat) : Prop := ∀ t, q t = true → isB (sgX t) ∧ trX (20000 + t) = sgX t ∧ rk (sgX t) = ro ∧ ¬ t = 0 ∧ opn (sgX t) = 0
theorem lp_cl (hy : HY n f ftp) {X : gF1} {d HH ro rK rpK : Nat} {q : Int32 → Bool} {cm : Int32 → Int32 → Prop} {tc : List Int32 → Int32 → Prop} (hK : Cl tx n ftp X d rK rpK cm tc) (hG : gGd n HH X) (hq : sgLv q ro) (hr : (1 ≤ ro ∧ ro ≤ 7) ∧ ¬ ro = 4 ∧ ro < rK ∧ ro ≤ rpK)
    (hcm : ∀ t t2, q t = true → cm (if 12 < sgX t then 0 else 1) t2) (hmo : ∀ P Q t, tc P t → tc (P ++ Q) t) {H : List Int32} (ht : topLt ro H) (hd : cnt H + d = 5) :
    ∀ (fu : Nat) (s : gT) (y : eS) (P C : List Int32) (k : Nat), gI n s → s.2.2.2.2.1 + k ≤ s.2.2.1 → 160 ≤ s.2.2.2.2.1 + fu → AL n ftp y.1 s → Sta tx y (P ++ H) C 0 → xl s.2.2.2.2.2 s.2.2.2.2.1 = C ++ P → allH ro P → (P ++ H).length ≤ s.2.2.1 → tc P s.2.1 →
      (∀ u, gLp f n q X fu s = (true, u) → ∃ z P', Out tx n ftp y u H ro P' z ∧ tc P' u.2.1 ∧ ¬ q u.2.1 = true) ∧ (∀ u, gLp f n q X fu s = (false, u) → Bad tx n ftp y (nI u.2.2.1)) := by
  intro fu
  induction fu with
  | zero =>
    intro s y P C k gs gk gw ha hS hx hP hl htc
    refine ⟨fun u e => ?_, fun u e => absurd (congrArg Prod.fst e) (by show ¬ true = false; decide)⟩
    rw [gLp] at e
    have e2 : s = u := congrArg Prod.snd e
    subst e2
    refine ⟨y, P, ⟨Go.rf, ha, ⟨C, hS, hx⟩, hP, hl⟩, htc, fun z => ?_⟩
    have a1 := gs.2.2.1 (hq _ z).2.2.2.1
    have a2 := gs.2.1
    have a3 := hy.2.2
    omega
  | succ fu ih =>
    intro s y P C k gs gk gw ha hS hx hP hl htc
    rw [gLp]
    by_cases c : q s.2.1 = true
    · rw [if_pos c]
      obtain ⟨q1, q2, q3, q4, q5⟩ := hq _ c
      obtain ⟨b1, b2⟩ := gI_step (f := f) gs gk q4
      have a1 := gs.2.2.1 q4
      have a2 := gs.2.1
      have a3 := hy.2.2
      have hlen : (P ++ H).length < 2 ^ 31 := by omega
      obtain ⟨z1, g1, g2, g3, g4⟩ := st_sign (n := n) (ftp := ftp) (g := sgX s.2.1) (ro := ro) hS (tk_sg ha.2.2) q1 hr.1 (Or.inr ⟨by rw [q3]; exact hr.2.1, q3.symm, ht⟩) hP hlen
      have gx := gNx_I (f := f) (s := s) a2
      have hI : Inp tx n ftp d (k + 1) (gNx f n s) z1 (sgX s.2.1 :: H) := by
        refine ⟨b1, b2, ?_, ?_, ?_, ?_⟩
        · rw [g3, ← ha.1]; exact AL_nx hy a2
        · rw [← hx] at g2; exact g2
        · show opn (sgX s.2.1) + cnt H + d = 5
          rw [q5]; omega
        · rw [List.length_append] at hl
          rw [List.length_cons]
          have := gx.2
          omega
      obtain ⟨k1, k2⟩ := hK _ _ _ _ hI (show topLt rK (sgX s.2.1 :: H) from by show rk (sgX s.2.1) < rK; rw [q3]; exact hr.2.2.1) (by rw [g4]; exact hcm _ _ c)
      refine ⟨fun u e => ?_, fun u e => ?_⟩
      · obtain ⟨v, e1, e2⟩ := gBind_inv e
        obtain ⟨z2, P2, ⟨o1, o2, ⟨C2, o3, o4⟩, o5, o6⟩, o7⟩ := k1 v e1
        obtain ⟨r1, r2, r3, r4, r5, r6⟩ := hG _ _ _ b1 b2 e1
        have r2 : s.2.2.2.2.1 ≤ v.2.2.2.2.1 := r2
        have hw : v.2.2.2.2.1 < 160 := by have := r1.1; have := r1.2.1; omega
        have eP : (P2 ++ [sgX s.2.1]) ++ H = P2 ++ sgX s.2.1 :: H := by rw [List.append_assoc]; rfl
        have ih2 := ih (gWr (20000 + s.2.1) v) z2 (P2 ++ [sgX s.2.1]) C2 k r1 (by rw [gWr_in hw]; show v.2.2.2.2.1 + 1 + k ≤ v.2.2.1; omega) (by rw [gWr_in hw]; show 160 ≤ v.2.2.2.2.1 + 1 + fu; omega) o2 (by rw [eP]; exact o3) (by rw [xl_wr hw, o4, q2, List.append_assoc]) (fun d hd => by
          rcases List.mem_append.mp hd with z | z
          · exact ⟨(o5 d z).1, Nat.le_trans hr.2.2.2 (o5 d z).2⟩
          · have z := List.mem_singleton.mp z
            rw [z]
            exact ⟨Or.inr (Or.inr (Or.inr q1)), by rw [q3]; exact Nat.le_refl _⟩) (by rw [eP]; exact o6) (hmo _ _ _ o7)
        obtain ⟨z3, P3, ⟨p1, p2, p3, p4, p5⟩, p6, p7⟩ := ih2.1 u e2
        exact ⟨z3, P3, ⟨(g1.tr o1).tr p1, p2, p3, p4, p5⟩, p6, p7⟩
      · rcases gBind_cs e with ⟨e1, -⟩ | ⟨v, e1, e2⟩
        · exact g1.bad (k2 u e1)
        · obtain ⟨z2, P2, ⟨o1, o2, ⟨C2, o3, o4⟩, o5, o6⟩, o7⟩ := k1 v e1
          obtain ⟨r1, r2, r3, r4, r5, r6⟩ := hG _ _ _ b1 b2 e1
          have r2 : s.2.2.2.2.1 ≤ v.2.2.2.2.1 := r2
          have hw : v.2.2.2.2.1 < 160 := by have := r1.1; have := r1.2.1; omega
          have eP : (P2 ++ [sgX s.2.1]) ++ H = P2 ++ sgX s.2.1 :: H := by rw [List.append_assoc]; rfl
          have ih2 := ih (gWr (20000 + s.2.1) v) z2 (P2 ++ [sgX s.2.1]) C2 k r1 (by rw [gWr_in hw]; show v.2.2.2.2.1 + 1 + k ≤ v.2.2.1; omega) (by rw [gWr_in hw]; show 160 ≤ v.2.2.2.2.1 + 1 + fu; omega) o2 (by rw [eP]; exact o3) (by rw [xl_wr hw, o4, q2, List.append_assoc]) (fun d hd => by
            rcases List.mem_append.mp hd with z | z
            · exact ⟨(o5 d z).1, Nat.le_trans hr.2.2.2 (o5 d z).2⟩
            · have z := List.mem_singleton.mp z
              rw [z]
              exact ⟨Or.inr (Or.inr (Or.inr q1)), by rw [q3]; exact Nat.le_refl _⟩) (by rw [eP]; exact o6) (hmo _ _ _ o7)
          exact (g1.tr o1).bad (ih2.2 u e2)
    · rw [if_neg c]
      refine ⟨fun u e => ?_, fun u e => absurd (congrArg Prod.fst e) (by show ¬ true = false; decide)⟩
      have e2 : s = u := congrArg Prod.snd e
      subst e2
      exact ⟨y, P, ⟨Go.rf, ha, ⟨C, hS, hx⟩, hP, hl⟩, htc, c⟩
theorem ch_cl (hy : HY n f ftp) {X : gF1} {d HH ro rK rpK : Nat} {q : Int32 → Bool} {cm : Int32 → Int32 → Prop} {tc : List Int32 → Int32 → Prop} (hK : Cl tx n ftp X d rK rpK cm tc) (hG : gGd n HH X) (hq : sgLv q ro) (hr : (1 ≤ ro ∧ ro ≤ 7) ∧ ¬ ro = 4 ∧ ro < rK ∧ ro ≤ rpK)
    (hcm : ∀ t t2, q t = true → cm (if 12 < sgX t then 0 else 1) t2) (hmo : ∀ P Q t, tc P t → tc (P ++ Q) t) : Cl tx n ftp (fun s => gBind (X s) (gLp f n q X 160)) d ro ro cm (fun P t => tc P t ∧ ¬ q t = true) := by
  intro s x H k hI ht hc
  obtain ⟨k1, k2⟩ := hK s x H k hI (topLt_mono (Nat.le_of_lt hr.2.2.1) ht) hc
  obtain ⟨i1, i2, i3, i4, i5, i6⟩ := hI
  have go : ∀ v, X s = (true, v) → ∃ y, Go tx n ftp x y ∧ (∀ u, gLp f n q X 160 v = (true, u) → ∃ z P', Out tx n ftp y u H ro P' z ∧ tc P' u.2.1 ∧ ¬ q u.2.1 = true) ∧ (∀ u, gLp f n q X 160 v = (false, u) → Bad tx n ftp y (nI u.2.2.1)) := by
    intro v e1
    obtain ⟨y, P, ⟨o1, o2, ⟨C, o3, o4⟩, o5, o6⟩, o7⟩ := k1 v e1
    obtain ⟨r1, r2, r3, r4, r5, r6⟩ := hG _ _ _ i1 i2 e1
    have h := lp_cl hy hK hG hq hr hcm hmo ht i5 160 v y P C k r1 r3 (by omega) o2 o3 o4 (fun d hd => ⟨(o5 d hd).1, Nat.le_trans hr.2.2.2 (o5 d hd).2⟩) o6 o7
    exact ⟨y, o1, h⟩
  refine ⟨fun u e => ?_, fun u e => ?_⟩
  · obtain ⟨v, e1, e2⟩ := gBind_inv e
    obtain ⟨y, g1, g2, g3⟩ := go v e1
    obtain ⟨z, P, ⟨p1, p2, p3, p4, p5⟩, p6⟩ := g2 u e2
    exact ⟨z, P, ⟨g1.tr p1, p2, p3, p4, p5⟩, p6⟩
  · rcases gBind_cs e with ⟨e1, -⟩ | ⟨v, e1, e2⟩
    · exact k2 u e1
    · obtain ⟨y, g1, g2, g3⟩ := go v e1
      exact g1.bad (g3 u e2)
/-- a ONE: minus signs that wait are laid behind it -/
def ClO (tx n : Nat) (ftp : Nat → Int32) (X : gF1) (d : Nat) : Prop :=
  ∀ (s : gT) (x : eS) (T H : List Int32) (k : Nat), Inp tx n ftp d k s x (T ++ H) → allH 7 T → topLt 7 H → cmS x.2.2.2.2.2.2.2 s.2.1 →
    (∀ u, X s = (true, u) → ∃ y, Go tx n ftp x y ∧ AL n ftp y.1 u ∧ Sta tx y H (xl u.2.2.2.2.2 u.2.2.2.2.1 ++ T) 0) ∧ (∀ u, X s = (false, u) → Bad tx n ftp x (nI u.2.2.1))
theorem one_cl (hy : HY n f ftp) {d : Nat} {D : gD} (hD : (D = none ∧ d = 0) ∨ ∃ d0 e, D = some d0 ∧ d = e + 1 ∧ ClO tx n ftp d0.1 e ∧ (∃ H1, gGd n H1 d0.1) ∧ (∃ H3, gGd n H3 d0.2.2) ∧ Cl tx n ftp d0.2.2 e 1 1 cmN (fun P t => (tcN P t ∧ ¬ decide (t = 104) = true) ∧ ¬ decide (t = 103) = true)) : ClO tx n ftp (gOneB f n D) d := by
  intro s x T H k hI hT ht hc
  obtain ⟨i1, i2, i3, i4, i5, i6⟩ := hI
  have a2 := i1.2.1
  have a3 := hy.2.2
  have hp : s.2.2.1 ≤ 160 := by have := i1.1; omega
  have w160 : ¬ s.2.1 = 0 → s.2.2.2.2.1 < 160 := fun z => by have := i1.2.2.1 z; omega
  have put : ∀ (c cx : Int32), ¬ s.2.1 = 0 → trX cx = c → ((m_X6_next_h021 n ftp (gPf tW 96) x.1 = 1 ∧ c = 100000 + m_X6_next_h022 n ftp (gPf tW 96) x.1) ∨ (m_X6_next_h021 n ftp (gPf tW 96) x.1 = 2 ∧ c = m_X6_next_h022 n ftp (gPf tW 96) x.1)) → ∃ y, Go tx n ftp x y ∧ AL n ftp y.1 (gNx f n (gWr cx s)) ∧ Sta tx y H (xl (gNx f n (gWr cx s)).2.2.2.2.2 (gNx f n (gWr cx s)).2.2.2.2.1 ++ T) 0 := by
    intro c cx h0 hcx hcc
    obtain ⟨y, y1, y2, y3⟩ := st_put i4 hT ht hcc
    refine ⟨y, y1, ?_, ?_⟩
    · rw [y3, ← i3.1]; exact AL_nx hy (s := gWr cx s) a2
    · show Sta tx y H (xl (gWr cx s).2.2.2.2.2 (gWr cx s).2.2.2.2.1 ++ T) 0
      rw [xl_wr (w160 h0), hcx, List.append_assoc]
      exact y2
  unfold gOneB
  by_cases c1 : s.2.1 = 2
  · rw [if_pos c1]
    obtain ⟨t1, t2⟩ := tk_2 i3.2.2 c1
    obtain ⟨v, v1, v2⟩ := i1.2.2.2.1 c1
    refine ⟨fun u e => ?_, fun u e => absurd (congrArg Prod.fst e) (by show ¬ true = false; decide)⟩
    have e2 : gNx f n (gWr s.2.2.2.1 s) = u := congrArg Prod.snd e
    subst e2
    refine put (100000 + m_X6_next_h022 n ftp (gPf tW 96) x.1) s.2.2.2.1 (by rw [c1]; decide) ?_ (Or.inl ⟨t1, rfl⟩)
    rw [t2, v2, tX_num v1, Nat.add_comm]
    exact (nI_add 100000 v).symm
  · rw [if_neg c1]
    by_cases c2 : s.2.1 = 3
    · rw [if_pos c2]
      obtain ⟨t1, t2⟩ := tk_3 i3.2.2 c2
      obtain ⟨v, v1, v2⟩ := i1.2.2.2.2 c2
      refine ⟨fun u e => ?_, fun u e => absurd (congrArg Prod.fst e) (by show ¬ true = false; decide)⟩
      have e2 : gNx f n (gWr (10000 + s.2.2.2.1) s) = u := congrArg Prod.snd e
      subst e2
      refine put (m_X6_next_h022 n ftp (gPf tW 96) x.1) (10000 + s.2.2.2.1) (by rw [c2]; decide) ?_ (Or.inr ⟨t1, rfl⟩)
      have e3 : (10000 : Int32) + nI v = nI (10000 + v) := nI_add 10000 v
      rw [t2, v2, e3, tX_nam (by omega) (by omega), show 10000 + v - 10000 = v by omega]
    · rw [if_neg c2]
      have hno : ¬ s.2.1 = 45 → ¬ s.2.1 = 40 → Bad tx n ftp x (nI s.2.2.1) := fun n45 n40 => by
        obtain ⟨b1, b2, b3, b4, b5⟩ := tk_want i3.2.2 c1 c2 n45 n40
        rw [i3.2.1]
        exact bad_want i4 b1 b2 b3 b4 (fun z => hc.resolve_right (fun w => w (b5 z)))
      rcases hD with ⟨hD, hd⟩ | ⟨d0, e0, hD, hd, hO, ⟨H1, hG1⟩, ⟨H3, hG3⟩, hR⟩
      · subst hD
        refine ⟨fun u e => absurd (congrArg Prod.fst e) (by show ¬ false = true; decide), fun u e => ?_⟩
        have e2 : s = u := congrArg Prod.snd e
        subst e2
        by_cases c3 : s.2.1 = 45
        · rw [i3.2.1]; exact bad_open i4 (by omega) (Or.inr (Or.inl (tk_45 i3.2.2 c3)))
        · by_cases c4 : s.2.1 = 40
          · rw [i3.2.1]; exact bad_open i4 (by omega) (Or.inr (Or.inr (tk_40 i3.2.2 c4)))
          · exact hno c3 c4
      · subst hD
        show (∀ u, (if s.2.1 = 45 then gBind (d0.1 (gNx f n s)) (fun u => (true, gWr 20106 u)) else if s.2.1 = 40 then gBind (d0.2.2 (gNx f n s)) (fun u => if u.2.1 = 41 then (true, gNx f n u) else (false, u)) else (false, s)) = (true, u) → _) ∧ (∀ u, (if s.2.1 = 45 then gBind (d0.1 (gNx f n s)) (fun u => (true, gWr 20106 u)) else if s.2.1 = 40 then gBind (d0.2.2 (gNx f n s)) (fun u => if u.2.1 = 41 then (true, gNx f n u) else (false, u)) else (false, s)) = (false, u) → _)
        have hcnt : cnt (T ++ H) < 5 := by omega
        have gx := gNx_I (f := f) (s := s) a2
        by_cases c3 : s.2.1 = 45
        · rw [if_pos c3]
          have t0 : ¬ s.2.1 = 0 := by rw [c3]; decide
          obtain ⟨b1, b2⟩ := gI_step (f := f) i1 i2 t0
          have a1 := i1.2.2.1 t0
          obtain ⟨y1, g1, g2, g3, -, g5, -⟩ := st_open (n := n) (ftp := ftp) (c := 19) i4 hcnt (Or.inr (Or.inl ⟨tk_45 i3.2.2 c3, rfl⟩))
          have hI2 : Inp tx n ftp e0 (k + 1) (gNx f n s) y1 ((19 :: T) ++ H) := by
            refine ⟨b1, b2, ?_, g2, ?_, ?_⟩
            · rw [g3, ← i3.1]; exact AL_nx hy a2
            · show 1 + cnt (T ++ H) + e0 = 5
              omega
            · show (T ++ H).length + 1 ≤ (gNx f n s).2.2.1
              have := gx.2
              omega
          obtain ⟨k1, k2⟩ := hO _ _ (19 :: T) H _ hI2 (fun c hc => by
            rcases List.mem_cons.mp hc with z | z
            · rw [z]; exact ⟨Or.inr (Or.inr (Or.inl rfl)), by decide⟩
            · exact hT c z) ht (Or.inl (g5 rfl))
          refine ⟨fun u e => ?_, fun u e => ?_⟩
          · obtain ⟨v, e1, e2⟩ := gBind_inv e
            have e3 : gWr 20106 v = u := congrArg Prod.snd e2
            subst e3
            obtain ⟨y2, o1, o2, o3⟩ := k1 v e1
            obtain ⟨r1, r2, r3, r4, r5, r6⟩ := hG1 _ _ _ b1 b2 e1
            have hw : v.2.2.2.2.1 < 160 := by have := r1.1; have := r1.2.1; omega
            refine ⟨y2, g1.tr o1, o2, ?_⟩
            rw [xl_wr hw, show trX 20106 = 19 by decide, List.append_assoc]
            exact o3
          · rcases gBind_cs e with ⟨e1, -⟩ | ⟨v, e1, e2⟩
            · exact g1.bad (k2 u e1)
            · exact absurd (congrArg Prod.fst e2) (by show ¬ true = false; decide)
        · rw [if_neg c3]
          by_cases c4 : s.2.1 = 40
          · rw [if_pos c4]
            have t0 : ¬ s.2.1 = 0 := by rw [c4]; decide
            obtain ⟨b1, b2⟩ := gI_step (f := f) i1 i2 t0
            have a1 := i1.2.2.1 t0
            obtain ⟨y1, g1, g2, g3, -, -, g6⟩ := st_open (n := n) (ftp := ftp) (c := 0) i4 hcnt (Or.inr (Or.inr ⟨tk_40 i3.2.2 c4, rfl⟩))
            have hI2 : Inp tx n ftp e0 (k + 1) (gNx f n s) y1 (0 :: (T ++ H)) := by
              refine ⟨b1, b2, ?_, g2, ?_, ?_⟩
              · rw [g3, ← i3.1]; exact AL_nx hy a2
              · show 1 + cnt (T ++ H) + e0 = 5
                omega
              · show (T ++ H).length + 1 ≤ (gNx f n s).2.2.1
                have := gx.2
                omega
            obtain ⟨k1, k2⟩ := hR _ _ _ _ hI2 (show topLt 1 (0 :: (T ++ H)) from by show rk 0 < 1; decide) (g6 rfl)
            have go : ∀ v, d0.2.2 (gNx f n s) = (true, v) → gI n v ∧ ∃ y2 P, Out tx n ftp y1 v (0 :: (T ++ H)) 1 P y2 ∧ (tcN P v.2.1 ∧ ¬ v.2.1 = 104) ∧ ¬ v.2.1 = 103 := fun v e1 => by
              obtain ⟨y2, P, o, ⟨o1, o2⟩, o3⟩ := k1 v e1
              exact ⟨(hG3 _ _ _ b1 b2 e1).1, y2, P, o, ⟨o1, fun z => o2 (decide_eq_true z)⟩, fun z => o3 (decide_eq_true z)⟩
            refine ⟨fun u e => ?_, fun u e => ?_⟩
            · obtain ⟨v, e1, e2⟩ := gBind_inv e
              obtain ⟨r1, y2, P, ⟨o1, o2, ⟨C2, o3, o4⟩, o5, o6⟩, -⟩ := go v e1
              have e2 : (if v.2.1 = 41 then (true, gNx f n v) else (false, v)) = (true, u) := e2
              by_cases c5 : v.2.1 = 41
              · rw [if_pos c5] at e2
                have e3 : gNx f n v = u := congrArg Prod.snd e2
                subst e3
                have hl2 : (P ++ 0 :: (T ++ H)).length < 2 ^ 31 := by have := r1.1; have := r1.2.1; omega
                obtain ⟨y3, p1, p2, p3⟩ := st_close (n := n) (ftp := ftp) o3 o5 hT ht hl2 (tk_41 o2.2.2 c5)
                refine ⟨y3, (g1.tr o1).tr p1, ?_, ?_⟩
                · rw [p3, ← o2.1]; exact AL_nx hy r1.2.1
                · show Sta tx y3 H (xl v.2.2.2.2.2 v.2.2.2.2.1 ++ T) 0
                  rw [o4]; exact p2
              · rw [if_neg c5] at e2
                exact absurd (congrArg Prod.fst e2) (by show ¬ false = true; decide)
            · rcases gBind_cs e with ⟨e1, -⟩ | ⟨v, e1, e2⟩
              · exact g1.bad (k2 u e1)
              · obtain ⟨r1, y2, P, ⟨o1, o2, ⟨C2, o3, o4⟩, o5, o6⟩, ⟨q1, q2⟩, q3⟩ := go v e1
                have e2 : (if v.2.1 = 41 then (true, gNx f n v) else (false, v)) = (false, u) := e2
                by_cases c5 : v.2.1 = 41
                · rw [if_pos c5] at e2
                  exact absurd (congrArg Prod.fst e2) (by show ¬ true = false; decide)
                · rw [if_neg c5] at e2
                  have e3 : v = u := congrArg Prod.snd e2
                  subst e3
                  have hl2 : (P ++ 0 :: (T ++ H)).length < 2 ^ 31 := by have := r1.1; have := r1.2.1; omega
                  refine (g1.tr o1).bad ?_
                  by_cases c6 : v.2.1 = 59
                  · rw [o2.2.1]; exact bad_semi o3 o5 hl2 (tk_59 o2.2.2 c6)
                  · exact stop_no o3 o2 hl2 q1 q2 q3 c5 c6
          · rw [if_neg c4]
            refine ⟨fun u e => absurd (congrArg Prod.fst e) (by show ¬ false = true; decide), fun u e => ?_⟩
            have e2 : s = u := congrArg Prod.snd e
            subst e2
            exact hno c3 c4
theorem not_cl (hy : HY n f ftp) {d : Nat} {D : gD} {HS : Nat} (hS : Cl tx n ftp (gSumB f n D) d 5 5 cmS (fun P t => (¬ t = 42 ∧ ¬ t = 43) ∧ ¬ t = 45)) (hG : gGd n HS (gSumB f n D))
    (hD : (D = none ∧ d = 0) ∨ ∃ d0 e, D = some d0 ∧ d = e + 1 ∧ (∃ H2, gGd n H2 d0.2.1) ∧ Cl tx n ftp d0.2.1 e 4 3 cmN tcN) : Cl tx n ftp (gNotB f n D) d 4 3 cmN tcN := by
  intro s x H k hI ht hc
  obtain ⟨i1, i2, i3, i4, i5, i6⟩ := id hI
  have a2 := i1.2.1
  have a3 := hy.2.2
  unfold gNotB
  by_cases c1 : s.2.1 = 105
  · rw [if_pos c1]
    have t0 : ¬ s.2.1 = 0 := by rw [c1]; decide
    rcases hD with ⟨hD, hd⟩ | ⟨d0, e0, hD, hd, ⟨H2, hG2⟩, hN⟩
    · subst hD
      refine ⟨fun u e => absurd (congrArg Prod.fst e) (by show ¬ false = true; decide), fun u e => ?_⟩
      have e2 : s = u := congrArg Prod.snd e
      subst e2
      rw [i3.2.1]
      exact bad_open i4 (by omega) (Or.inl ⟨tk_105 i3.2.2 c1, hc⟩)
    · subst hD
      show (∀ u, gBind (d0.2.1 (gNx f n s)) (fun u => (true, gWr 20105 u)) = (true, u) → _) ∧ (∀ u, gBind (d0.2.1 (gNx f n s)) (fun u => (true, gWr 20105 u)) = (false, u) → _)
      obtain ⟨b1, b2⟩ := gI_step (f := f) i1 i2 t0
      have a1 := i1.2.2.1 t0
      have gx := gNx_I (f := f) (s := s) a2
      obtain ⟨y1, g1, g2, g3, g4, -, -⟩ := st_open (n := n) (ftp := ftp) (c := 13) i4 (by omega) (Or.inl ⟨tk_105 i3.2.2 c1, hc, rfl⟩)
      have hI2 : Inp tx n ftp e0 (k + 1) (gNx f n s) y1 (13 :: H) := by
        refine ⟨b1, b2, ?_, g2, ?_, ?_⟩
        · rw [g3, ← i3.1]; exact AL_nx hy a2
        · show 1 + cnt H + e0 = 5
          omega
        · show H.length + 1 ≤ (gNx f n s).2.2.1
          have := gx.2
          omega
      obtain ⟨k1, k2⟩ := hN _ _ _ _ hI2 (show topLt 4 (13 :: H) from by show rk 13 < 4; decide) (g4 rfl)
      refine ⟨fun u e => ?_, fun u e => ?_⟩
      · obtain ⟨v, e1, e2⟩ := gBind_inv e
        have e3 : gWr 20105 v = u := congrArg Prod.snd e2
        subst e3
        obtain ⟨y2, P, ⟨o1, o2, ⟨C2, o3, o4⟩, o5, o6⟩, o7⟩ := k1 v e1
        obtain ⟨r1, r2, r3, r4, r5, r6⟩ := hG2 _ _ _ b1 b2 e1
        have hw : v.2.2.2.2.1 < 160 := by have := r1.1; have := r1.2.1; omega
        have eP : (P ++ [13]) ++ H = P ++ 13 :: H := by rw [List.append_assoc]; rfl
        refine ⟨y2, P ++ [13], ⟨g1.tr o1, o2, ⟨C2, ?_, ?_⟩, ?_, ?_⟩, tcN_app o7⟩
        · rw [eP]; exact o3
        · rw [xl_wr hw, show trX 20105 = 13 by decide, o4, List.append_assoc]
        · intro c hc
          rcases List.mem_append.mp hc with z | z
          · exact o5 c z
          · rw [List.mem_singleton.mp z]; exact ⟨Or.inr (Or.inl rfl), by decide⟩
        · rw [eP]; exact o6
      · rcases gBind_cs e with ⟨e1, -⟩ | ⟨v, e1, e2⟩
        · exact g1.bad (k2 u e1)
        · exact absurd (congrArg Prod.fst e2) (by show ¬ true = false; decide)
  · rw [if_neg c1]
    obtain ⟨k1, k2⟩ := hS s x H k hI (topLt_mono (by omega) ht) (Or.inr c1)
    -- behind the first SUM
    have go : ∀ v, gSumB f n D s = (true, v) → (∀ u, (if v.2.1 = 60 ∨ v.2.1 = 61 then gBind (gSumB f n D (gNx f n v)) (fun w => (true, gWr (20000 + v.2.1) w)) else (true, v)) = (true, u) → ∃ y P, Out tx n ftp x u H 3 P y ∧ tcN P u.2.1) ∧ (∀ u, (if v.2.1 = 60 ∨ v.2.1 = 61 then gBind (gSumB f n D (gNx f n v)) (fun w => (true, gWr (20000 + v.2.1) w)) else (true, v)) = (false, u) → Bad tx n ftp x (nI u.2.2.1)) := by
      intro v e1
      obtain ⟨y, P, ⟨o1, o2, ⟨C, o3, o4⟩, o5, o6⟩, o7⟩ := k1 v e1
      obtain ⟨r1, r2, r3, r4, r5, r6⟩ := hG _ _ _ i1 i2 e1
      by_cases c2 : v.2.1 = 60 ∨ v.2.1 = 61
      · rw [if_pos c2]
        have sg : isB (sgX v.2.1) ∧ trX (20000 + v.2.1) = sgX v.2.1 ∧ rk (sgX v.2.1) = 4 ∧ opn (sgX v.2.1) = 0 ∧ ¬ v.2.1 = 0 ∧ 12 < sgX v.2.1 := by
          rcases c2 with z | z <;> rw [z]
          · exact ⟨Or.inr (Or.inr (by decide)), by decide, by decide, by decide, by decide, by decide⟩
          · exact ⟨Or.inr (Or.inr (by decide)), by decide, by decide, by decide, by decide, by decide⟩
        obtain ⟨q1, q2, q3, q5, q4, q6⟩ := sg
        obtain ⟨b1, b2⟩ := gI_step (f := f) r1 r3 q4
        have a1 := r1.2.2.1 q4
        have a4 := r1.2.1
        have gx := gNx_I (f := f) (s := v) a4
        have hlen : (P ++ H).length < 2 ^ 31 := by omega
        obtain ⟨z1, g1, g2, g3, g4⟩ := st_sign (n := n) (ftp := ftp) (g := sgX v.2.1) (ro := 5) o3 (tk_sg o2.2.2) q1 (by omega) (Or.inl ⟨q3, rfl, ht⟩) o5 hlen
        have hI2 : Inp tx n ftp d (k + 1) (gNx f n v) z1 (sgX v.2.1 :: H) := by
          refine ⟨b1, b2, ?_, ?_, ?_, ?_⟩
          · rw [g3, ← o2.1]; exact AL_nx hy a4
          · rw [← o4] at g2; exact g2
          · show opn (sgX v.2.1) + cnt H + d = 5
            rw [q5]; omega
          · rw [List.length_append] at o6
            rw [List.length_cons]
            have := gx.2
            omega
        obtain ⟨j1, j2⟩ := hS _ _ _ _ hI2 (show topLt 5 (sgX v.2.1 :: H) from by show rk (sgX v.2.1) < 5; omega) (Or.inl (by rw [g4, if_pos q6]))
        refine ⟨fun u e => ?_, fun u e => ?_⟩
        · obtain ⟨w, e2, e3⟩ := gBind_inv e
          have e4 : gWr (20000 + v.2.1) w = u := congrArg Prod.snd e3
          subst e4
          obtain ⟨z2, P2, ⟨p1, p2, ⟨C2, p3, p4⟩, p5, p6⟩, p7⟩ := j1 w e2
          obtain ⟨t1, t2, t3, t4, t5, t6⟩ := hG _ _ _ b1 b2 e2
          have hw : w.2.2.2.2.1 < 160 := by have := t1.1; have := t1.2.1; omega
          have eP : (P2 ++ [sgX v.2.1]) ++ H = P2 ++ sgX v.2.1 :: H := by rw [List.append_assoc]; rfl
          refine ⟨z2, P2 ++ [sgX v.2.1], ⟨(o1.tr g1).tr p1, p2, ⟨C2, ?_, ?_⟩, ?_, ?_⟩, ⟨p7, fun _ => ⟨P2, sgX v.2.1, [], rfl, p5, q3⟩⟩⟩
          · rw [eP]; exact p3
          · rw [xl_wr hw, q2, p4, List.append_assoc]
          · intro c hc
            rcases List.mem_append.mp hc with z | z
            · exact ⟨(p5 c z).1, Nat.le_trans (by omega) (p5 c z).2⟩
            · rw [List.mem_singleton.mp z]; exact ⟨Or.inr (Or.inr (Or.inr q1)), by omega⟩
          · rw [eP]; exact p6
        · rcases gBind_cs e with ⟨e2, -⟩ | ⟨w, e2, e3⟩
          · exact (o1.tr g1).bad (j2 u e2)
          · exact absurd (congrArg Prod.fst e3) (by show ¬ true = false; decide)
      · rw [if_neg c2]
        refine ⟨fun u e => ?_, fun u e => absurd (congrArg Prod.fst e) (by show ¬ true = false; decide)⟩
        have e2 : v = u := congrArg Prod.snd e
        subst e2
        exact ⟨y, P, ⟨o1, o2, ⟨C, o3, o4⟩, fun c hc => ⟨(o5 c hc).1, Nat.le_trans (by omega) (o5 c hc).2⟩, o6⟩, ⟨o7, fun z => absurd z c2⟩⟩
    refine ⟨fun u e => ?_, fun u e => ?_⟩
    · obtain ⟨v, e1, e2⟩ := gBind_inv e
      exact (go v e1).1 u e2
    · rcases gBind_cs e with ⟨e1, -⟩ | ⟨v, e1, e2⟩
      · exact k2 u e1
      · exact (go v e1).2 u e2
theorem sg42 : sgLv (fun t => decide (t = 42)) 6 := fun t h => by
  have e : t = 42 := of_decide_eq_true h
  subst e
  exact ⟨Or.inr (Or.inr (by decide)), by decide, by decide, by decide, by decide⟩
theorem sg43 : sgLv (fun t => decide (t = 43 ∨ t = 45)) 5 := fun t h => by
  rcases (of_decide_eq_true h : t = 43 ∨ t = 45) with e | e
  · subst e; exact ⟨Or.inr (Or.inr (by decide)), by decide, by decide, by decide, by decide⟩
  · subst e; exact ⟨Or.inr (Or.inr (by decide)), by decide, by decide, by decide, by decide⟩
theorem sg104 : sgLv (fun t => decide (t = 104)) 2 := fun t h => by
  have e : t = 104 := of_decide_eq_true h
  subst e
  exact ⟨Or.inr (by decide), by decide, by decide, by decide, by decide⟩
theorem sg103 : sgLv (fun t => decide (t = 103)) 1 := fun t h => by
  have e : t = 103 := of_decide_eq_true h
  subst e
  exact ⟨Or.inl (by decide), by decide, by decide, by decide, by decide⟩
theorem Cl_tc {X : gF1} {d r rp : Nat} {cm : Int32 → Int32 → Prop} {tc tc2 : List Int32 → Int32 → Prop} (h : Cl tx n ftp X d r rp cm tc) (e : ∀ P t, tc P t → tc2 P t) : Cl tx n ftp X d r rp cm tc2 := fun s x H k a b c => by
  obtain ⟨h1, h2⟩ := h s x H k a b c
  exact ⟨fun u z => by obtain ⟨y, P, o, t⟩ := h1 u z; exact ⟨y, P, o, e _ _ t⟩, h2⟩
def tcO (P : List Int32) (t : Int32) : Prop := (tcN P t ∧ ¬ decide (t = 104) = true) ∧ ¬ decide (t = 103) = true
theorem lv_cl (hy : HY n f ftp) : ∀ d : Nat, ClO tx n ftp (gOneB f n (gLv f n d)) d ∧ Cl tx n ftp (gNotB f n (gLv f n d)) d 4 3 cmN tcN ∧ Cl tx n ftp (gOrB f n (gLv f n d)) d 1 1 cmN tcO := by
  have hn := hy.2.2
  have step : ∀ (D : gD) (d : Nat), gMoD n D → ClO tx n ftp (gOneB f n D) d → gGd n (5 * d + 1) (gOneB f n D) → gGd n (5 * d + 4) (gNotB f n D) → (∀ hS : Cl tx n ftp (gSumB f n D) d 5 5 cmS (fun P t => (¬ t = 42 ∧ ¬ t = 43) ∧ ¬ t = 45), gGd n (5 * d + 3) (gSumB f n D) → Cl tx n ftp (gNotB f n D) d 4 3 cmN tcN) → ClO tx n ftp (gOneB f n D) d ∧ Cl tx n ftp (gNotB f n D) d 4 3 cmN tcN ∧ Cl tx n ftp (gOrB f n D) d 1 1 cmN tcO := by
    intro D d hM h1 g1 g4 hN
    have c1 : Cl tx n ftp (gOneB f n D) d 7 7 cmS (fun _ _ => True) := by
      intro s x H k hI ht hc
      obtain ⟨k1, k2⟩ := h1 s x [] H k hI (fun c hc => absurd hc List.not_mem_nil) ht hc
      refine ⟨fun u e => ?_, k2⟩
      obtain ⟨y, y1, y2, y3⟩ := k1 u e
      have mo := (gMo_one (f := f) (D := D) hM) s u true hI.1 e
      exact ⟨y, [], ⟨y1, y2, ⟨_, y3, by rw [List.append_nil, List.append_nil]⟩, fun c hc => absurd hc List.not_mem_nil, Nat.le_trans hI.2.2.2.2.2 mo.2⟩, trivial⟩
    have gT : gGd n (5 * d + 2) (gTermB f n D) := gCh_gd (f := f) hn g1 ok42
    have gS : gGd n (5 * d + 3) (gSumB f n D) := gCh_gd (f := f) hn gT ok43
    have c2 : Cl tx n ftp (gTermB f n D) d 6 6 cmS (fun P t => True ∧ ¬ decide (t = 42) = true) := ch_cl hy c1 g1 sg42 ⟨by omega, by omega, by omega, by omega⟩ (fun t t2 h => Or.inl (by
      have e : t = 42 := of_decide_eq_true h
      subst e
      decide)) (fun _ _ _ _ => trivial)
    have c3 : Cl tx n ftp (gSumB f n D) d 5 5 cmS (fun P t => (True ∧ ¬ decide (t = 42) = true) ∧ ¬ decide (t = 43 ∨ t = 45) = true) := ch_cl hy c2 gT sg43 ⟨by omega, by omega, by omega, by omega⟩ (fun t t2 h => Or.inl (by
      rcases (of_decide_eq_true h : t = 43 ∨ t = 45) with e | e <;> subst e <;> decide)) (fun _ _ _ z => z)
    have c3' := Cl_tc (tc2 := fun P t => (¬ t = 42 ∧ ¬ t = 43) ∧ ¬ t = 45) c3 (fun P t z => ⟨⟨fun w => z.1.2 (decide_eq_true w), fun w => z.2 (decide_eq_true (Or.inl w))⟩, fun w => z.2 (decide_eq_true (Or.inr w))⟩)
    have c4 := hN c3' gS
    have c5 : Cl tx n ftp (gAndB f n D) d 2 2 cmN (fun P t => tcN P t ∧ ¬ decide (t = 104) = true) := ch_cl hy c4 g4 sg104 ⟨by omega, by omega, by omega, by omega⟩ (fun t t2 h => by
      have e : t = 104 := of_decide_eq_true h
      subst e
      show ¬ (if 12 < sgX 104 then (0 : Int32) else 1) = 0
      decide) (fun _ _ _ z => tcN_app z)
    have gA : gGd n (5 * d + 5) (gAndB f n D) := gCh_gd (f := f) hn g4 ok104
    have c6 : Cl tx n ftp (gOrB f n D) d 1 1 cmN tcO := ch_cl hy c5 gA sg103 ⟨by omega, by omega, by omega, by omega⟩ (fun t t2 h => by
      have e : t = 103 := of_decide_eq_true h
      subst e
      show ¬ (if 12 < sgX 103 then (0 : Int32) else 1) = 0
      decide) (fun _ _ _ z => ⟨tcN_app z.1, z.2⟩)
    exact ⟨h1, c4, c6⟩
  intro d
  induction d with
  | zero => exact step none 0 trivial (one_cl hy (Or.inl ⟨rfl, rfl⟩)) (gLv_gd (f := f) hn 0).1 (gLv_gd (f := f) hn 0).2.1 (fun hS gS => not_cl hy hS gS (Or.inl ⟨rfl, rfl⟩))
  | succ d ih =>
    have g := gLv_gd (f := f) hn d
    have g2 := gLv_gd (f := f) hn (d + 1)
    exact step (gLv f n (d + 1)) (d + 1) (gMo_lv (f := f) (d + 1)).1 (one_cl hy (Or.inr ⟨_, d, rfl, rfl, ih.1, ⟨_, g.1⟩, ⟨_, g.2.2⟩, ih.2.2⟩)) g2.1 g2.2.1 (fun hS gS => not_cl hy hS gS (Or.inr ⟨_, d, rfl, rfl, ⟨_, g.2.1⟩, ih.2.1⟩))
end PAR
