/-! the reference's reading of an E, as a machine over what it holds -/
noncomputable def hl (he : Nat → Int32) : Nat → List Int32
  | 0 => []
  | h + 1 => he h :: hl he h
theorem hl_eq {f g : Nat → Int32} : ∀ {h : Nat}, (∀ i, i < h → f i = g i) → hl f h = hl g h
  | 0, _ => rfl
  | h + 1, e => by rw [hl, hl, e h (by omega), hl_eq (fun i hi => e i (by omega))]
theorem hl_len {he : Nat → Int32} : ∀ (h : Nat), (hl he h).length = h
  | 0 => rfl
  | h + 1 => by rw [hl, List.length_cons, hl_len h]
theorem hl_upd {he : Nat → Int32} {h : Nat} {c : Int32} : hl (upd he h c) (h + 1) = c :: hl he h := by
  rw [hl, upd_a9 rfl, hl_eq (g := he) (fun i hi => upd_n9 (by omega))]
theorem hl_drop {he : Nat → Int32} : ∀ (P : List Int32) {hm : Nat} {H : List Int32}, hl he hm = P ++ H → hl he H.length = H
  | [], hm, H, h => by
    have e : hm = H.length := by rw [← hl_len (he := he) hm, h]; rfl
    rw [← e]; exact h
  | c :: P, hm, H, h => by
    cases hm with
    | zero => cases h
    | succ hm =>
      rw [hl, List.cons_append] at h
      exact hl_drop P (List.cons.inj h).2
noncomputable def cl (cd : Nat → Int32) (tx : Nat) : Nat → List Int32
  | 0 => []
  | k + 1 => cl cd tx k ++ [cd (200 * tx + k)]
theorem cl_eq {f g : Nat → Int32} {tx : Nat} : ∀ {k : Nat}, (∀ i, i < k → f (200 * tx + i) = g (200 * tx + i)) → cl f tx k = cl g tx k
  | 0, _ => rfl
  | k + 1, e => by rw [cl, cl, e k (by omega), cl_eq (fun i hi => e i (by omega))]
theorem cl_upd {cd : Nat → Int32} {tx k : Nat} {c : Int32} : cl (upd cd (200 * tx + k) c) tx (k + 1) = cl cd tx k ++ [c] := by
  rw [cl, upd_a9 rfl, cl_eq (g := cd) (fun i hi => upd_n9 (by omega))]
theorem cl_len {cd : Nat → Int32} {tx : Nat} : ∀ (k : Nat), (cl cd tx k).length = k
  | 0 => rfl
  | k + 1 => by rw [cl, List.length_append, cl_len k]; rfl
noncomputable def xl (ct : Nat → Int32) : Nat → List Int32
  | 0 => []
  | k + 1 => xl ct k ++ [trX (ct k)]
theorem xl_eq {f g : Nat → Int32} : ∀ {k : Nat}, (∀ i, i < k → f i = g i) → xl f k = xl g k
  | 0, _ => rfl
  | k + 1, e => by rw [xl, xl, e k (by omega), xl_eq (fun i hi => e i (by omega))]
theorem xl_upd {ct : Nat → Int32} {k : Nat} {c : Int32} : xl (upd ct k c) (k + 1) = xl ct k ++ [trX c] := by
  rw [xl, upd_a9 rfl, xl_eq (g := ct) (fun i hi => upd_n9 (by omega))]
noncomputable def rk (c : Int32) : Nat := if c = 0 then 0 else if c = 11 then 1 else if c = 12 then 2 else if c = 13 then 3 else if c = 14 ∨ c = 15 then 4 else if c = 16 ∨ c = 17 then 5 else if c = 18 then 6 else 7
theorem rk_ok {c : Int32} (h : okH c) : m_X6_rank c = nI (rk c) ∧ rk c ≤ 7 := by
  rcases h with e | e | e | e | e | e | e | e | e | e <;> subst e <;> exact ⟨by decide, by decide⟩
noncomputable def opn (c : Int32) : Nat := if c = 0 ∨ c = 13 ∨ c = 19 then 1 else 0
noncomputable def cnt : List Int32 → Nat
  | [] => 0
  | c :: L => opn c + cnt L
theorem cnt_app : ∀ (P H : List Int32), cnt (P ++ H) = cnt P + cnt H
  | [], H => by rw [List.nil_append]; show cnt H = 0 + cnt H; omega
  | c :: P, H => by rw [List.cons_append, cnt, cnt, cnt_app P H]; omega
noncomputable def topLt (r : Nat) : List Int32 → Prop
  | [] => True
  | c :: _ => rk c < r
theorem topLt_mono {r r2 : Nat} (h : r ≤ r2) : ∀ {H : List Int32}, topLt r H → topLt r2 H
  | [], _ => trivial
  | c :: H, z => Nat.lt_of_lt_of_le z h
def allH (r : Nat) (P : List Int32) : Prop := ∀ c, c ∈ P → okH c ∧ r ≤ rk c
theorem uw_p {tx hm r x : Nat} {he : Nat → Int32} (hr : 1 ≤ r ∧ r ≤ 7) : ∀ (P H : List Int32) (q u o : Nat) (cd : Nat → Int32) (z : Int32), u + q = hm → hl he (hm - u) = P ++ H → allH r P → topLt r H → (∀ c, c ∈ H → okH c) → z = nI (cnt P + x) →
    (p_X6_unwinds_0 tx he (nI r) hm q u cd z o).1 = u + P.length ∧ (p_X6_unwinds_0 tx he (nI r) hm q u cd z o).2.2.2 = o + P.length ∧ (p_X6_unwinds_0 tx he (nI r) hm q u cd z o).2.2.1 = nI x ∧ cl (p_X6_unwinds_0 tx he (nI r) hm q u cd z o).2.1 tx (o + P.length) = cl cd tx o ++ P
  | [], H, 0, u, o, cd, z, hu, hh, hP, ht, hH, hz => by
    rw [p_X6_unwinds_0]
    refine ⟨rfl, rfl, ?_, ?_⟩
    · rw [hz]; show nI (0 + x) = nI x; rw [Nat.zero_add]
    · rw [List.append_nil]; rfl
  | [], H, q + 1, u, o, cd, z, hu, hh, hP, ht, hH, hz => by
    have e : hm - u = (hm - u - 1) + 1 := by omega
    rw [e, hl, List.nil_append] at hh
    subst hh
    have hk := rk_ok (hH _ List.mem_cons_self)
    have ht : rk (he (hm - u - 1)) < r := ht
    rw [p_X6_unwinds_0, if_pos (by rw [hk.1]; exact nI_lt ht (by omega))]
    refine ⟨rfl, rfl, ?_, ?_⟩
    · rw [hz]; show nI (0 + x) = nI x; rw [Nat.zero_add]
    · rw [List.append_nil]; rfl
  | c :: P, H, 0, u, o, cd, z, hu, hh, hP, ht, hH, hz => by
    have e : hm - u = 0 := by omega
    rw [e] at hh
    cases hh
  | c :: P, H, q + 1, u, o, cd, z, hu, hh, hP, ht, hH, hz => by
    have e : hm - u = (hm - u - 1) + 1 := by omega
    rw [e, hl, List.cons_append] at hh
    obtain ⟨h1, h2⟩ := List.cons.inj hh
    obtain ⟨k1, k2⟩ := hP c List.mem_cons_self
    have hk := rk_ok k1
    have hP2 : allH r P := fun d hd => hP d (List.mem_cons_of_mem _ hd)
    have go : ∀ z', z' = nI (cnt P + x) → (p_X6_unwinds_0 tx he (nI r) hm q (u + 1) (upd cd (200 * tx + o) c) z' (o + 1)).1 = u + (c :: P).length ∧ (p_X6_unwinds_0 tx he (nI r) hm q (u + 1) (upd cd (200 * tx + o) c) z' (o + 1)).2.2.2 = o + (c :: P).length ∧ (p_X6_unwinds_0 tx he (nI r) hm q (u + 1) (upd cd (200 * tx + o) c) z' (o + 1)).2.2.1 = nI x ∧ cl (p_X6_unwinds_0 tx he (nI r) hm q (u + 1) (upd cd (200 * tx + o) c) z' (o + 1)).2.1 tx (o + (c :: P).length) = cl cd tx o ++ (c :: P) := by
      intro z' hz'
      obtain ⟨i1, i2, i3, i4⟩ := uw_p (tx := tx) (hm := hm) (x := x) (he := he) hr P H q (u + 1) (o + 1) (upd cd (200 * tx + o) c) z' (by omega) (by rw [show hm - (u + 1) = hm - u - 1 by omega]; exact h2) hP2 ht hH hz'
      rw [List.length_cons]
      refine ⟨by omega, by omega, i3, ?_⟩
      rw [show o + (P.length + 1) = o + 1 + P.length by omega, i4, cl_upd, List.append_assoc]
      rfl
    rw [p_X6_unwinds_0, h1, if_neg (by rw [hk.1]; exact nI_nlt k2 (by omega))]
    have n0 : ¬ c = 0 := fun z => by subst z; exact absurd k2 (by show ¬ r ≤ 0; omega)
    have hz2 : z = nI (opn c + cnt P + x) := hz
    by_cases c1 : c = 13
    · rw [if_pos c1]
      refine go _ ?_
      rw [hz2, show opn c = 1 by subst c1; rfl, show 1 + cnt P + x = (cnt P + x) + 1 by omega]
      exact nI_pred _
    · rw [if_neg c1]
      by_cases c2 : c = 19
      · rw [if_pos c2]
        refine go _ ?_
        rw [hz2, show opn c = 1 by subst c2; rfl, show 1 + cnt P + x = (cnt P + x) + 1 by omega]
        exact nI_pred _
      · rw [if_neg c2]
        refine go _ ?_
        have e0 : opn c = 0 := by unfold opn; rw [if_neg (fun z => z.elim n0 (fun z => z.elim c1 c2))]
        rw [hz2, e0, Nat.zero_add]
        exact pk_sub (b := 0) (Nat.zero_le _)
theorem uw_l {tx hm ou r : Nat} {op : Int32} {cd he : Nat → Int32} (hr : 1 ≤ r ∧ r ≤ 7) {P H : List Int32} (hh : hl he hm = P ++ H) (hP : allH r P) (ht : topLt r H) (hH : ∀ c, c ∈ H → okH c) (hz : op = nI (cnt (P ++ H))) :
    m_X6_unwinds_h025 tx op cd he (nI r) hm ou = H.length ∧ m_X6_unwinds_h027 tx op cd he (nI r) hm ou = ou + P.length ∧ m_X6_unwinds_h026 tx op cd he (nI r) hm ou = nI (cnt H) ∧ cl (m_X6_unwinds_cd tx op cd he (nI r) hm ou) tx (ou + P.length) = cl cd tx ou ++ P := by
  have hlen : hm = P.length + H.length := by rw [← hl_len (he := he) hm, hh, List.length_append]
  have h := uw_p (tx := tx) (x := cnt H) hr P H (hm - 0) 0 ou cd op (by omega) hh hP ht hH (by rw [hz, cnt_app])
  obtain ⟨i1, i2, i3, i4⟩ := h
  refine ⟨?_, i2, i3, i4⟩
  show hm - (p_X6_unwinds_0 tx he (nI r) hm (hm - 0) 0 cd op ou).1 = H.length
  rw [i1]
  omega
/-! its states -/
abbrev eS : Type := Nat × Nat × Nat × Int32 × (Nat → Int32) × (Nat → Int32) × Int32 × Int32
section MCH
variable {tx n : Nat} {f ftp : Nat → Int32}
noncomputable def eRx (tx n : Nat) (ftp : Nat → Int32) (q : Nat) (x : eS) : Option (Bool × Nat × Nat × Int32 × (Nat → Int32) × (Nat → Int32)) := eRun tx n ftp (gPf tW 96) q x.1 x.2.1 x.2.2.1 x.2.2.2.1 x.2.2.2.2.1 x.2.2.2.2.2.1 x.2.2.2.2.2.2.1 x.2.2.2.2.2.2.2
def Go (tx n : Nat) (ftp : Nat → Int32) (x y : eS) : Prop := ∃ j, ∀ q, eRx tx n ftp (q + j) x = eRx tx n ftp q y
def Bad (tx n : Nat) (ftp : Nat → Int32) (x : eS) (bg : Int32) : Prop := ∃ j a o c h, eRx tx n ftp j x = some (false, a, o, bg, c, h)
theorem bad_1 {x : eS} {bg : Int32} (h : (eRx tx n ftp 1 x).map (fun r => (r.1, r.2.2.2.1)) = some (false, bg)) : Bad tx n ftp x bg := by
  cases e : eRx tx n ftp 1 x with
  | none => rw [e] at h; cases h
  | some r =>
    rw [e] at h
    obtain ⟨b, a, o, g, c, d⟩ := r
    have h := Option.some.inj h
    have h1 : b = false := congrArg Prod.fst h
    have h2 : g = bg := congrArg Prod.snd h
    subst h1 h2
    exact ⟨1, a, o, c, d, e⟩
theorem Go.rf {x : eS} : Go tx n ftp x x := ⟨0, fun q => rfl⟩
theorem Go.tr {x y z : eS} (h : Go tx n ftp x y) (g : Go tx n ftp y z) : Go tx n ftp x z := by
  obtain ⟨j, h⟩ := h
  obtain ⟨k, g⟩ := g
  exact ⟨k + j, fun q => by rw [← Nat.add_assoc, h, g]⟩
theorem Go.bad {x y : eS} {bg : Int32} (h : Go tx n ftp x y) (g : Bad tx n ftp y bg) : Bad tx n ftp x bg := by
  obtain ⟨j, h⟩ := h
  obtain ⟨k, a, o, c, e, g⟩ := g
  exact ⟨k + j, a, o, c, e, by rw [h]; exact g⟩
theorem Go.one {x y : eS} (h : ∀ q, eRx tx n ftp (q + 1) x = eRx tx n ftp q y) : Go tx n ftp x y := ⟨1, h⟩
/-- where the reference stands: what it holds, its codes, whether it wants a ONE -/
def Sta (tx : Nat) (x : eS) (H C : List Int32) (wv : Int32) : Prop := hl x.2.2.2.2.2.1 x.2.1 = H ∧ x.2.2.2.1 = nI (cnt H) ∧ cl x.2.2.2.2.1 tx x.2.2.1 = C ∧ x.2.2.2.2.2.2.1 = wv ∧ ∀ c, c ∈ H → okH c
/-- the token behind such a place is the class's token in front -/
def AL (n : Nat) (ftp : Nat → Int32) (za : Nat) (s : gT) : Prop := s.1 = m_X6_next_h019 n ftp za ∧ nI s.2.2.1 = m_X6_next_h020 n ftp za ∧ tkM s.2.1 s.2.2.2.1 (m_X6_next_h021 n ftp (gPf tW 96) za) (m_X6_next_h022 n ftp (gPf tW 96) za)
/-- one tape on both sides -/
def HY (n : Nat) (f ftp : Nat → Int32) : Prop := (∀ i, i < n → f i = ftp i) ∧ (∀ i, i < n → 0 ≤ ftp i ∧ ftp i ≤ 255) ∧ n ≤ 160
theorem AL_nx (hy : HY n f ftp) {s : gT} (h : s.1 ≤ n) : AL n ftp s.1 (gNx f n s) := lex_eq hy.1 hy.2.1 hy.2.2 h
theorem xl_wr {c : Int32} {s : gT} (h : s.2.2.2.2.1 < 160) : xl (gWr c s).2.2.2.2.2 (gWr c s).2.2.2.2.1 = xl s.2.2.2.2.2 s.2.2.2.2.1 ++ [trX c] := by
  rw [gWr_in h]
  exact xl_upd
/-! its steps -/
/-- a number or a name -/
theorem st_put {x : eS} {H T C : List Int32} {c : Int32} (hS : Sta tx x (T ++ H) C 1) (hT : allH 7 T) (ht : topLt 7 H)
    (hc : (m_X6_next_h021 n ftp (gPf tW 96) x.1 = 1 ∧ c = 100000 + m_X6_next_h022 n ftp (gPf tW 96) x.1) ∨ (m_X6_next_h021 n ftp (gPf tW 96) x.1 = 2 ∧ c = m_X6_next_h022 n ftp (gPf tW 96) x.1)) :
    ∃ y, Go tx n ftp x y ∧ Sta tx y H (C ++ c :: T) 0 ∧ y.1 = m_X6_next_h019 n ftp x.1 := by
  obtain ⟨za, hm, ou, op, cd, he, wv, mn⟩ := x
  obtain ⟨s1, s2, s3, s4, h5⟩ := hS
  have h1 : hl he hm = T ++ H := s1
  have h2 : op = nI (cnt (T ++ H)) := s2
  have h3 : cl cd tx ou = C := s3
  have h4 : wv = 1 := s4
  subst h4
  have U := uw_l (tx := tx) (ou := ou + 1) (cd := upd cd (200 * tx + ou) c) (r := 7) (by omega) h1 hT ht (fun d hd => h5 d (List.mem_append_right _ hd)) h2
  obtain ⟨u1, u2, u3, u4⟩ := U
  have hst : Sta tx (m_X6_next_h019 n ftp za, m_X6_unwinds_h025 tx op (upd cd (200 * tx + ou) c) he 7 hm (ou + 1), m_X6_unwinds_h027 tx op (upd cd (200 * tx + ou) c) he 7 hm (ou + 1), m_X6_unwinds_h026 tx op (upd cd (200 * tx + ou) c) he 7 hm (ou + 1), m_X6_unwinds_cd tx op (upd cd (200 * tx + ou) c) he 7 hm (ou + 1), he, 0, mn) H (C ++ c :: T) 0 := by
    refine ⟨?_, u3, ?_, rfl, fun d hd => h5 d (List.mem_append_right _ hd)⟩
    · show hl he (m_X6_unwinds_h025 tx op (upd cd (200 * tx + ou) c) he 7 hm (ou + 1)) = H
      rw [show m_X6_unwinds_h025 tx op (upd cd (200 * tx + ou) c) he 7 hm (ou + 1) = H.length from u1]
      exact hl_drop T h1
    · show cl (m_X6_unwinds_cd tx op (upd cd (200 * tx + ou) c) he 7 hm (ou + 1)) tx (m_X6_unwinds_h027 tx op (upd cd (200 * tx + ou) c) he 7 hm (ou + 1)) = C ++ c :: T
      rw [show m_X6_unwinds_h027 tx op (upd cd (200 * tx + ou) c) he 7 hm (ou + 1) = ou + 1 + T.length from u2]
      have u4 : cl (m_X6_unwinds_cd tx op (upd cd (200 * tx + ou) c) he 7 hm (ou + 1)) tx (ou + 1 + T.length) = cl (upd cd (200 * tx + ou) c) tx (ou + 1) ++ T := u4
      rw [u4, cl_upd, h3, List.append_assoc]
      rfl
  refine ⟨_, Go.one (fun q => ?_), hst, rfl⟩
  rcases hc with ⟨c1, c2⟩ | ⟨c1, c2⟩
  · have c1 : m_X6_next_h021 n ftp (gPf tW 96) za = 1 := c1
    have c2 : c = 100000 + m_X6_next_h022 n ftp (gPf tW 96) za := c2
    subst c2
    show eRun tx n ftp (gPf tW 96) (q + 1) za hm ou op cd he 1 mn = _
    rw [eRun, if_neg (by decide), if_pos c1]
    rfl
  · have c1 : m_X6_next_h021 n ftp (gPf tW 96) za = 2 := c1
    have c2 : c = m_X6_next_h022 n ftp (gPf tW 96) za := c2
    subst c2
    show eRun tx n ftp (gPf tW 96) (q + 1) za hm ou op cd he 1 mn = _
    rw [eRun, if_neg (by decide), if_neg (by rw [c1]; decide), if_pos c1]
    rfl
theorem op_ne {k : Nat} (h : k < 5) : ¬ nI k = (5 : Int32) := fun z => absurd (nI_eq1 (a := k) (b := 5) (by omega) (by omega) z) (by omega)
theorem oO_1 {k : Nat} (h : k < 5) : ¬ m_X6_opensOne (nI k) = 0 := by
  unfold m_X6_opensOne
  rw [if_neg (op_ne h)]
  decide
/-- a not, a -, a ( is held -/
theorem st_open {x : eS} {H C : List Int32} {c : Int32} (hS : Sta tx x H C 1) (hk : cnt H < 5)
    (hc : (m_X6_next_h021 n ftp (gPf tW 96) x.1 = 6 ∧ ¬ x.2.2.2.2.2.2.2 = 0 ∧ c = 13) ∨ (m_X6_next_h021 n ftp (gPf tW 96) x.1 = 45 ∧ c = 19) ∨ (m_X6_next_h021 n ftp (gPf tW 96) x.1 = 40 ∧ c = 0)) :
    ∃ y, Go tx n ftp x y ∧ Sta tx y (c :: H) C 1 ∧ y.1 = m_X6_next_h019 n ftp x.1 ∧ (c = 13 → ¬ y.2.2.2.2.2.2.2 = 0) ∧ (c = 19 → y.2.2.2.2.2.2.2 = 0) ∧ (c = 0 → ¬ y.2.2.2.2.2.2.2 = 0) := by
  obtain ⟨za, hm, ou, op, cd, he, wv, mn⟩ := x
  obtain ⟨s1, s2, s3, s4, h5⟩ := hS
  have h1 : hl he hm = H := s1
  have h2 : op = nI (cnt H) := s2
  have h3 : cl cd tx ou = C := s3
  have h4 : wv = 1 := s4
  subst h4
  have o1 : ¬ m_X6_opensOne op = 0 := by rw [h2]; exact oO_1 hk
  have n5 : ¬ op = 5 := by rw [h2]; exact op_ne hk
  have e1 : m_X6_opensOne_h025 op hm = hm + 1 := by unfold m_X6_opensOne_h025; rw [if_neg n5]
  have e2 : ∀ v, m_X6_opensOne_he op he v hm = upd he hm v := fun v => by unfold m_X6_opensOne_he; rw [if_neg n5]
  have e3 : m_X6_opensOne_h026 op = nI (1 + cnt H) := by
    unfold m_X6_opensOne_h026
    rw [if_neg n5, h2, Nat.add_comm]
    exact nI_add (cnt H) 1
  have hst : ∀ (c mn' : Int32), opn c = 1 → okH c → Sta tx (m_X6_next_h019 n ftp za, m_X6_opensOne_h025 op hm, ou, m_X6_opensOne_h026 op, cd, m_X6_opensOne_he op he c hm, 1, mn') (c :: H) C 1 := by
    intro c mn' ho hok
    refine ⟨?_, ?_, h3, rfl, fun d hd => ?_⟩
    · show hl (m_X6_opensOne_he op he c hm) (m_X6_opensOne_h025 op hm) = c :: H
      rw [e1, e2, hl_upd, h1]
    · show m_X6_opensOne_h026 op = nI (opn c + cnt H)
      rw [e3, ho]
    · rcases List.mem_cons.mp hd with e | e
      · rw [e]; exact hok
      · exact h5 d e
  rcases hc with ⟨c1, c2, c3⟩ | ⟨c1, c3⟩ | ⟨c1, c3⟩
  · have c1 : m_X6_next_h021 n ftp (gPf tW 96) za = 6 := c1
    have c2 : ¬ mn = 0 := c2
    subst c3
    refine ⟨_, Go.one (fun q => ?_), hst 13 mn rfl (Or.inr (Or.inl rfl)), rfl, fun _ => c2, fun z => absurd z (by decide), fun z => absurd z (by decide)⟩
    show eRun tx n ftp (gPf tW 96) (q + 1) za hm ou op cd he 1 mn = _
    rw [eRun, if_neg (by decide), if_neg (by rw [c1]; decide), if_neg (by rw [c1]; decide), if_pos c1, if_neg c2, if_neg o1]
    rfl
  · have c1 : m_X6_next_h021 n ftp (gPf tW 96) za = 45 := c1
    subst c3
    refine ⟨_, Go.one (fun q => ?_), hst 19 0 rfl (Or.inr (Or.inr (Or.inl rfl))), rfl, fun z => absurd z (by decide), fun _ => rfl, fun z => absurd z (by decide)⟩
    show eRun tx n ftp (gPf tW 96) (q + 1) za hm ou op cd he 1 mn = _
    rw [eRun, if_neg (by decide), if_neg (by rw [c1]; decide), if_neg (by rw [c1]; decide), if_neg (by rw [c1]; decide), if_pos c1, if_neg o1]
    rfl
  · have c1 : m_X6_next_h021 n ftp (gPf tW 96) za = 40 := c1
    subst c3
    refine ⟨_, Go.one (fun q => ?_), hst 0 1 rfl (Or.inl rfl), rfl, fun z => absurd z (by decide), fun z => absurd z (by decide), fun _ => by show ¬ (1 : Int32) = 0; decide⟩
    show eRun tx n ftp (gPf tW 96) (q + 1) za hm ou op cd he 1 mn = _
    rw [eRun, if_neg (by decide), if_neg (by rw [c1]; decide), if_neg (by rw [c1]; decide), if_neg (by rw [c1]; decide), if_neg (by rw [c1]; decide), if_pos c1, if_neg o1]
    rfl
theorem bad_open {x : eS} {H C : List Int32} (hS : Sta tx x H C 1) (hk : cnt H = 5)
    (hc : (m_X6_next_h021 n ftp (gPf tW 96) x.1 = 6 ∧ ¬ x.2.2.2.2.2.2.2 = 0) ∨ m_X6_next_h021 n ftp (gPf tW 96) x.1 = 45 ∨ m_X6_next_h021 n ftp (gPf tW 96) x.1 = 40) : Bad tx n ftp x (m_X6_next_h020 n ftp x.1) := by
  obtain ⟨za, hm, ou, op, cd, he, wv, mn⟩ := x
  obtain ⟨s1, s2, s3, s4, h5⟩ := hS
  have h3 := s3
  have h1 := s1
  have h2 : op = nI (cnt H) := s2
  have h4 : wv = 1 := s4
  subst h4
  have o1 : m_X6_opensOne op = 0 := by rw [h2, hk]; decide
  rcases hc with ⟨c1, c2⟩ | c1 | c1
  · have c1 : m_X6_next_h021 n ftp (gPf tW 96) za = 6 := c1
    have c2 : ¬ mn = 0 := c2
    refine bad_1 ?_
    show (eRun tx n ftp (gPf tW 96) (0 + 1) za hm ou op cd he 1 mn).map (fun r => (r.1, r.2.2.2.1)) = _
    rw [eRun, if_neg (by decide), if_neg (by rw [c1]; decide), if_neg (by rw [c1]; decide), if_pos c1, if_neg c2, if_pos o1]; all_goals rfl
  · have c1 : m_X6_next_h021 n ftp (gPf tW 96) za = 45 := c1
    refine bad_1 ?_
    show (eRun tx n ftp (gPf tW 96) (0 + 1) za hm ou op cd he 1 mn).map (fun r => (r.1, r.2.2.2.1)) = _
    rw [eRun, if_neg (by decide), if_neg (by rw [c1]; decide), if_neg (by rw [c1]; decide), if_neg (by rw [c1]; decide), if_pos c1, if_pos o1]; all_goals rfl
  · have c1 : m_X6_next_h021 n ftp (gPf tW 96) za = 40 := c1
    refine bad_1 ?_
    show (eRun tx n ftp (gPf tW 96) (0 + 1) za hm ou op cd he 1 mn).map (fun r => (r.1, r.2.2.2.1)) = _
    rw [eRun, if_neg (by decide), if_neg (by rw [c1]; decide), if_neg (by rw [c1]; decide), if_neg (by rw [c1]; decide), if_neg (by rw [c1]; decide), if_pos c1, if_pos o1]; all_goals rfl
theorem bad_want {x : eS} {H C : List Int32} (hS : Sta tx x H C 1) (c1 : ¬ m_X6_next_h021 n ftp (gPf tW 96) x.1 = 1) (c2 : ¬ m_X6_next_h021 n ftp (gPf tW 96) x.1 = 2) (c3 : ¬ m_X6_next_h021 n ftp (gPf tW 96) x.1 = 45) (c4 : ¬ m_X6_next_h021 n ftp (gPf tW 96) x.1 = 40)
    (c5 : m_X6_next_h021 n ftp (gPf tW 96) x.1 = 6 → x.2.2.2.2.2.2.2 = 0) : Bad tx n ftp x (m_X6_next_h020 n ftp x.1) := by
  obtain ⟨za, hm, ou, op, cd, he, wv, mn⟩ := x
  have h4 : wv = 1 := hS.2.2.2.1
  subst h4
  have c1 : ¬ m_X6_next_h021 n ftp (gPf tW 96) za = 1 := c1
  have c2 : ¬ m_X6_next_h021 n ftp (gPf tW 96) za = 2 := c2
  have c3 : ¬ m_X6_next_h021 n ftp (gPf tW 96) za = 45 := c3
  have c4 : ¬ m_X6_next_h021 n ftp (gPf tW 96) za = 40 := c4
  have c5 : m_X6_next_h021 n ftp (gPf tW 96) za = 6 → mn = 0 := c5
  refine bad_1 ?_
  show (eRun tx n ftp (gPf tW 96) (0 + 1) za hm ou op cd he 1 mn).map (fun r => (r.1, r.2.2.2.1)) = _
  by_cases c6 : m_X6_next_h021 n ftp (gPf tW 96) za = 6
  · rw [eRun, if_neg (by decide), if_neg c1, if_neg c2, if_pos c6, if_pos (c5 c6), if_neg c3, if_neg c4]; all_goals rfl
  · rw [eRun, if_neg (by decide), if_neg c1, if_neg c2, if_neg c6, if_neg c3, if_neg c4]; all_goals rfl
theorem allH_ok {r : Nat} {P H : List Int32} (hP : allH r P) (hH : ∀ c, c ∈ H → okH c) : ∀ c, c ∈ P ++ H → okH c := fun c hc => (List.mem_append.mp hc).elim (fun z => (hP c z).1) (hH c)
theorem tl_ok {P H : List Int32} (h : ∀ c, c ∈ P ++ H → okH c) : ∀ c, c ∈ H → okH c := fun c hc => h c (List.mem_append_right _ hc)
/-- a ) behind what stands in brackets -/
theorem st_close {x : eS} {P T H C : List Int32} (hS : Sta tx x (P ++ 0 :: (T ++ H)) C 0) (hP : allH 1 P) (hT : allH 7 T) (ht : topLt 7 H) (hb : (P ++ 0 :: (T ++ H)).length < 2 ^ 31) (hc : m_X6_next_h021 n ftp (gPf tW 96) x.1 = 41) :
    ∃ y, Go tx n ftp x y ∧ Sta tx y H (C ++ P ++ T) 0 ∧ y.1 = m_X6_next_h019 n ftp x.1 := by
  have hb2 : (T ++ H).length + 1 < 2 ^ 31 := by
    rw [List.length_append, List.length_cons] at hb
    omega
  obtain ⟨za, hm, ou, op, cd, he, wv, mn⟩ := x
  obtain ⟨s1, s2, s3, s4, h5⟩ := hS
  have h1 : hl he hm = P ++ 0 :: (T ++ H) := s1
  have h2 : op = nI (cnt (P ++ 0 :: (T ++ H))) := s2
  have h3 : cl cd tx ou = C := s3
  have h4 : wv = 0 := s4
  have c1 : m_X6_next_h021 n ftp (gPf tW 96) za = 41 := hc
  subst h4
  obtain ⟨u1, u2, u3, u4⟩ := uw_l (tx := tx) (ou := ou) (cd := cd) (r := 1) (by omega) h1 hP (show topLt 1 (0 :: (T ++ H)) from by show rk 0 < 1; decide) (tl_ok h5) h2
  have u1 : m_X6_unwinds_h025 tx op cd he 1 hm ou = (T ++ H).length + 1 := u1
  have u2 : m_X6_unwinds_h027 tx op cd he 1 hm ou = ou + P.length := u2
  have u3 : m_X6_unwinds_h026 tx op cd he 1 hm ou = nI (1 + cnt (T ++ H)) := u3
  have u4 : cl (m_X6_unwinds_cd tx op cd he 1 hm ou) tx (ou + P.length) = cl cd tx ou ++ P := u4
  have d1 : hl he ((T ++ H).length + 1) = 0 :: (T ++ H) := hl_drop P h1
  have d2 : hl he (T ++ H).length = T ++ H := hl_drop [0] d1
  have e3 : m_X6_unwinds_h026 tx op cd he 1 hm ou - 1 = nI (cnt (T ++ H)) := by
    rw [u3, Nat.add_comm]
    exact nI_pred _
  have hH5 : ∀ c, c ∈ T ++ H → okH c := fun c hc => h5 c (List.mem_append_right _ (List.mem_cons_of_mem _ hc))
  obtain ⟨v1, v2, v3, v4⟩ := uw_l (tx := tx) (ou := ou + P.length) (op := nI (cnt (T ++ H))) (cd := m_X6_unwinds_cd tx op cd he 1 hm ou) (r := 7) (by omega) d2 hT ht (tl_ok hH5) rfl
  have hst : Sta tx (m_X6_next_h019 n ftp za, m_X6_unwinds_h025 tx (m_X6_unwinds_h026 tx op cd he 1 hm ou - 1) (m_X6_unwinds_cd tx op cd he 1 hm ou) he 7 (m_X6_unwinds_h025 tx op cd he 1 hm ou - 1) (m_X6_unwinds_h027 tx op cd he 1 hm ou), m_X6_unwinds_h027 tx (m_X6_unwinds_h026 tx op cd he 1 hm ou - 1) (m_X6_unwinds_cd tx op cd he 1 hm ou) he 7 (m_X6_unwinds_h025 tx op cd he 1 hm ou - 1) (m_X6_unwinds_h027 tx op cd he 1 hm ou), m_X6_unwinds_h026 tx (m_X6_unwinds_h026 tx op cd he 1 hm ou - 1) (m_X6_unwinds_cd tx op cd he 1 hm ou) he 7 (m_X6_unwinds_h025 tx op cd he 1 hm ou - 1) (m_X6_unwinds_h027 tx op cd he 1 hm ou), m_X6_unwinds_cd tx (m_X6_unwinds_h026 tx op cd he 1 hm ou - 1) (m_X6_unwinds_cd tx op cd he 1 hm ou) he 7 (m_X6_unwinds_h025 tx op cd he 1 hm ou - 1) (m_X6_unwinds_h027 tx op cd he 1 hm ou), he, 0, mn) H (C ++ P ++ T) 0 := by
    rw [e3, u1, u2, Nat.add_sub_cancel]
    refine ⟨?_, v3, ?_, rfl, tl_ok hH5⟩
    · show hl he (m_X6_unwinds_h025 tx (nI (cnt (T ++ H))) (m_X6_unwinds_cd tx op cd he 1 hm ou) he 7 (T ++ H).length (ou + P.length)) = H
      rw [show m_X6_unwinds_h025 tx (nI (cnt (T ++ H))) (m_X6_unwinds_cd tx op cd he 1 hm ou) he 7 (T ++ H).length (ou + P.length) = H.length from v1]
      exact hl_drop T d2
    · show cl (m_X6_unwinds_cd tx (nI (cnt (T ++ H))) (m_X6_unwinds_cd tx op cd he 1 hm ou) he 7 (T ++ H).length (ou + P.length)) tx (m_X6_unwinds_h027 tx (nI (cnt (T ++ H))) (m_X6_unwinds_cd tx op cd he 1 hm ou) he 7 (T ++ H).length (ou + P.length)) = C ++ P ++ T
      rw [show m_X6_unwinds_h027 tx (nI (cnt (T ++ H))) (m_X6_unwinds_cd tx op cd he 1 hm ou) he 7 (T ++ H).length (ou + P.length) = ou + P.length + T.length from v2]
      have v4 : cl (m_X6_unwinds_cd tx (nI (cnt (T ++ H))) (m_X6_unwinds_cd tx op cd he 1 hm ou) he 7 (T ++ H).length (ou + P.length)) tx (ou + P.length + T.length) = cl (m_X6_unwinds_cd tx op cd he 1 hm ou) tx (ou + P.length) ++ T := v4
      rw [v4, u4, h3]
  refine ⟨_, Go.one (fun q => ?_), hst, rfl⟩
  show eRun tx n ftp (gPf tW 96) (q + 1) za hm ou op cd he 0 mn = _
  rw [eRun, if_pos rfl, if_neg (by rw [c1]; decide), if_pos c1, if_neg (show ¬ nI (m_X6_unwinds_h025 tx op cd he 1 hm ou) = 0 from by rw [u1]; exact fun z => absurd (nI_eq1 (a := (T ++ H).length + 1) (b := 0) hb2 (by omega) z) (by omega))]
  rfl
theorem bad_close {x : eS} {P C : List Int32} (hS : Sta tx x (P ++ []) C 0) (hP : allH 1 P) (hc : m_X6_next_h021 n ftp (gPf tW 96) x.1 = 41) : Bad tx n ftp x (m_X6_next_h020 n ftp x.1) := by
  obtain ⟨za, hm, ou, op, cd, he, wv, mn⟩ := x
  obtain ⟨s1, s2, s3, s4, h5⟩ := hS
  have h3 := s3
  have h2 := s2
  have h1 := s1
  have h4 : wv = 0 := s4
  have c1 : m_X6_next_h021 n ftp (gPf tW 96) za = 41 := hc
  subst h4
  obtain ⟨u1, u2, u3, u4⟩ := uw_l (tx := tx) (ou := ou) (cd := cd) (he := he) (hm := hm) (op := op) (r := 1) (by omega) h1 hP trivial (tl_ok h5) h2
  have u1 : m_X6_unwinds_h025 tx op cd he 1 hm ou = 0 := u1
  refine bad_1 ?_
  show (eRun tx n ftp (gPf tW 96) (0 + 1) za hm ou op cd he 0 mn).map (fun r => (r.1, r.2.2.2.1)) = _
  rw [eRun, if_pos rfl, if_neg (by rw [c1]; decide), if_pos c1, if_pos (by rw [u1]; rfl)]; all_goals rfl
theorem bad_semi {x : eS} {P H C : List Int32} (hS : Sta tx x (P ++ 0 :: H) C 0) (hP : allH 1 P) (hb : (P ++ 0 :: H).length < 2 ^ 31) (hc : m_X6_next_h021 n ftp (gPf tW 96) x.1 = 59) : Bad tx n ftp x (m_X6_next_h020 n ftp x.1) := by
  have hb2 : H.length + 1 < 2 ^ 31 := by
    rw [List.length_append, List.length_cons] at hb
    omega
  obtain ⟨za, hm, ou, op, cd, he, wv, mn⟩ := x
  obtain ⟨s1, s2, s3, s4, h5⟩ := hS
  have h3 := s3
  have h2 := s2
  have h1 := s1
  have h4 : wv = 0 := s4
  have c1 : m_X6_next_h021 n ftp (gPf tW 96) za = 59 := hc
  subst h4
  obtain ⟨u1, u2, u3, u4⟩ := uw_l (tx := tx) (ou := ou) (cd := cd) (he := he) (hm := hm) (op := op) (r := 1) (by omega) h1 hP (show topLt 1 (0 :: H) from by show rk 0 < 1; decide) (tl_ok h5) h2
  have u1 : m_X6_unwinds_h025 tx op cd he 1 hm ou = H.length + 1 := u1
  refine bad_1 ?_
  show (eRun tx n ftp (gPf tW 96) (0 + 1) za hm ou op cd he 0 mn).map (fun r => (r.1, r.2.2.2.1)) = _
  rw [eRun, if_pos rfl, if_pos c1, if_neg (show ¬ nI (m_X6_unwinds_h025 tx op cd he 1 hm ou) = 0 from by rw [u1]; exact fun z => absurd (nI_eq1 (a := H.length + 1) (b := 0) hb2 (by omega) z) (by omega))]; all_goals rfl
/-- the ; behind an E -/
theorem st_semi {x : eS} {P C : List Int32} (hS : Sta tx x (P ++ []) C 0) (hP : allH 1 P) (hc : m_X6_next_h021 n ftp (gPf tW 96) x.1 = 59) :
    ∃ j o c h, eRx tx n ftp j x = some (true, m_X6_next_h019 n ftp x.1, o, m_X6_next_h020 n ftp x.1, c, h) ∧ cl c tx o = C ++ P ∧ o = x.2.2.1 + P.length := by
  obtain ⟨za, hm, ou, op, cd, he, wv, mn⟩ := x
  obtain ⟨s1, s2, s3, s4, h5⟩ := hS
  have h2 := s2
  have h1 := s1
  have h3 : cl cd tx ou = C := s3
  have h4 : wv = 0 := s4
  have c1 : m_X6_next_h021 n ftp (gPf tW 96) za = 59 := hc
  subst h4
  obtain ⟨u1, u2, u3, u4⟩ := uw_l (tx := tx) (ou := ou) (cd := cd) (he := he) (hm := hm) (op := op) (r := 1) (by omega) h1 hP trivial (tl_ok h5) h2
  have u1 : m_X6_unwinds_h025 tx op cd he 1 hm ou = 0 := u1
  have u2 : m_X6_unwinds_h027 tx op cd he 1 hm ou = ou + P.length := u2
  have u4 : cl (m_X6_unwinds_cd tx op cd he 1 hm ou) tx (ou + P.length) = cl cd tx ou ++ P := u4
  refine ⟨1, m_X6_unwinds_h027 tx op cd he 1 hm ou, m_X6_unwinds_cd tx op cd he 1 hm ou, he, ?_, ?_, u2⟩
  · show eRun tx n ftp (gPf tW 96) (0 + 1) za hm ou op cd he 0 mn = _
    rw [eRun, if_pos rfl, if_pos c1, if_pos (by rw [u1]; rfl)]
  · rw [u2, u4, h3]
/-- a sign between two -/
theorem st_sign {x : eS} {P H C : List Int32} {g : Int32} {ro : Nat} (hS : Sta tx x (P ++ H) C 0) (hg : m_X6_signOf (m_X6_next_h021 n ftp (gPf tW 96) x.1) = g) (hB : isB g) (hr : 1 ≤ ro ∧ ro ≤ 7) (hro : (rk g = 4 ∧ ro = 5 ∧ topLt 4 H) ∨ (¬ rk g = 4 ∧ ro = rk g ∧ topLt ro H)) (hP : allH ro P) (hb : (P ++ H).length < 2 ^ 31) :
    ∃ y, Go tx n ftp x y ∧ Sta tx y (g :: H) (C ++ P) 1 ∧ y.1 = m_X6_next_h019 n ftp x.1 ∧ y.2.2.2.2.2.2.2 = if 12 < g then 0 else 1 := by
  obtain ⟨za, hm, ou, op, cd, he, wv, mn⟩ := x
  obtain ⟨s1, s2, s3, s4, h5⟩ := hS
  have h1 : hl he hm = P ++ H := s1
  have h2 : op = nI (cnt (P ++ H)) := s2
  have h3 : cl cd tx ou = C := s3
  have h4 : wv = 0 := s4
  have hg : m_X6_signOf (m_X6_next_h021 n ftp (gPf tW 96) za) = g := hg
  subst h4
  have hok : okH g := Or.inr (Or.inr (Or.inr hB))
  have hrk := rk_ok hok
  have gn : ¬ g = -1 := by intro z; rw [z] at hB; exact absurd hB (by unfold isB; decide)
  have n59 : ¬ m_X6_next_h021 n ftp (gPf tW 96) za = 59 := fun z => by rw [z] at hg; exact gn (hg.symm.trans (by decide))
  have n41 : ¬ m_X6_next_h021 n ftp (gPf tW 96) za = 41 := fun z => by rw [z] at hg; exact gn (hg.symm.trans (by decide))
  have og : opn g = 0 := by rcases hB with e | e | e | e | e | e | e <;> rw [e] <;> decide
  have htop : topLt ro H := by
    rcases hro with ⟨-, e, t⟩ | ⟨-, -, t⟩
    · exact topLt_mono (by omega) t
    · exact t
  obtain ⟨u1, u2, u3, u4⟩ := uw_l (tx := tx) (ou := ou) (cd := cd) (r := ro) hr h1 hP htop (tl_ok h5) h2
  have dH : hl he H.length = H := hl_drop P h1
  -- what the sign's own reading gives
  have key : ¬ m_X6_between tx op cd he g hm ou = 0 ∧ m_X6_between_h025 tx op cd he g hm ou = H.length + 1 ∧ m_X6_between_h027 tx op cd he g hm ou = ou + P.length ∧ m_X6_between_h026 tx op cd he g hm ou = nI (cnt H) ∧ cl (m_X6_between_cd tx op cd he g hm ou) tx (ou + P.length) = cl cd tx ou ++ P ∧ m_X6_between_he tx op cd he g hm ou = upd he H.length g := by
    unfold m_X6_between m_X6_between_h025 m_X6_between_h027 m_X6_between_h026 m_X6_between_cd m_X6_between_he
    rcases hro with ⟨e4, e5, t⟩ | ⟨e4, e5, t⟩
    · have r4 : m_X6_rank g = 4 := by rw [hrk.1, e4]; rfl
      subst e5
      have u1 : m_X6_unwinds_h025 tx op cd he 5 hm ou = H.length := u1
      have u2 : m_X6_unwinds_h027 tx op cd he 5 hm ou = ou + P.length := u2
      have u3 : m_X6_unwinds_h026 tx op cd he 5 hm ou = nI (cnt H) := u3
      have u4 : cl (m_X6_unwinds_cd tx op cd he 5 hm ou) tx (ou + P.length) = cl cd tx ou ++ P := u4
      simp only [if_pos r4, u1, u2, u3]
      by_cases z : nI H.length ≤ 0
      · simp only [if_pos z]
        exact ⟨by decide, trivial, trivial, trivial, u4, trivial⟩
      · simp only [if_neg z]
        have nz : ¬ m_X6_rank (he (H.length - 1)) = 4 := by
          cases H with
          | nil => exact absurd (show nI 0 ≤ (0 : Int32) by decide) z
          | cons d H2 =>
            have e : he H2.length = d := by
              rw [List.length_cons, hl] at dH
              exact (List.cons.inj dH).1
            rw [List.length_cons, Nat.add_sub_cancel, e]
            have kd := rk_ok (tl_ok h5 d List.mem_cons_self)
            have t : rk d < 4 := t
            rw [kd.1]
            exact fun w => absurd (nI_eq1 (a := rk d) (b := 4) (by omega) (by omega) w) (by omega)
        simp only [if_neg nz]
        exact ⟨by decide, trivial, trivial, trivial, u4, trivial⟩
    · have r4 : ¬ m_X6_rank g = 4 := by rw [hrk.1]; exact fun w => e4 (nI_eq1 (a := rk g) (b := 4) (by have := hrk.2; omega) (by omega) w)
      have er : m_X6_rank g = nI ro := by rw [hrk.1, e5]
      have r5 : ¬ nI ro = 4 := by rw [← er]; exact r4
      simp only [er, if_neg r5, u1, u2, u3]
      exact ⟨by decide, trivial, trivial, trivial, u4, trivial⟩
  obtain ⟨k0, k1, k2, k3, k4, k5⟩ := key
  have hst : ∀ mn', Sta tx (m_X6_next_h019 n ftp za, m_X6_between_h025 tx op cd he g hm ou, m_X6_between_h027 tx op cd he g hm ou, m_X6_between_h026 tx op cd he g hm ou, m_X6_between_cd tx op cd he g hm ou, m_X6_between_he tx op cd he g hm ou, 1, mn') (g :: H) (C ++ P) 1 := by
    intro mn'
    refine ⟨?_, ?_, ?_, rfl, fun d hd => ?_⟩
    · show hl (m_X6_between_he tx op cd he g hm ou) (m_X6_between_h025 tx op cd he g hm ou) = g :: H
      rw [k1, k5, hl_upd, dH]
    · show m_X6_between_h026 tx op cd he g hm ou = nI (opn g + cnt H)
      rw [k3, og, Nat.zero_add]
    · show cl (m_X6_between_cd tx op cd he g hm ou) tx (m_X6_between_h027 tx op cd he g hm ou) = C ++ P
      rw [k2, k4, h3]
    · rcases List.mem_cons.mp hd with e | e
      · rw [e]; exact hok
      · exact tl_ok h5 d e
  by_cases c12 : 12 < g
  · refine ⟨_, Go.one (fun q => ?_), hst 0, rfl, by rw [if_pos c12]⟩
    show eRun tx n ftp (gPf tW 96) (q + 1) za hm ou op cd he 0 mn = _
    rw [eRun, if_pos rfl, if_neg n59, if_neg n41, hg, if_neg gn, if_neg k0, if_pos c12]
    rfl
  · refine ⟨_, Go.one (fun q => ?_), hst 1, rfl, by rw [if_neg c12]⟩
    show eRun tx n ftp (gPf tW 96) (q + 1) za hm ou op cd he 0 mn = _
    rw [eRun, if_pos rfl, if_neg n59, if_neg n41, hg, if_neg gn, if_neg k0, if_neg c12]
    rfl
/-- a < or = behind one of the same NOT -/
theorem bad_cmp {x : eS} {P H C : List Int32} {g d : Int32} (hS : Sta tx x (P ++ d :: H) C 0) (hg : m_X6_signOf (m_X6_next_h021 n ftp (gPf tW 96) x.1) = g) (hB : isB g) (h4g : rk g = 4) (hd : rk d = 4) (hP : allH 5 P) (hb : (P ++ d :: H).length < 2 ^ 31) : Bad tx n ftp x (m_X6_next_h020 n ftp x.1) := by
  have hb2 : H.length + 1 < 2 ^ 31 := by
    rw [List.length_append, List.length_cons] at hb
    omega
  obtain ⟨za, hm, ou, op, cd, he, wv, mn⟩ := x
  obtain ⟨s1, s2, s3, s4, h5⟩ := hS
  have h3 := s3
  have h2 := s2
  have h1 : hl he hm = P ++ d :: H := s1
  have h4 : wv = 0 := s4
  have hg : m_X6_signOf (m_X6_next_h021 n ftp (gPf tW 96) za) = g := hg
  subst h4
  have hrk := rk_ok (show okH g from Or.inr (Or.inr (Or.inr hB)))
  have gn : ¬ g = -1 := by intro z; rw [z] at hB; exact absurd hB (by unfold isB; decide)
  have n59 : ¬ m_X6_next_h021 n ftp (gPf tW 96) za = 59 := fun z => by rw [z] at hg; exact gn (hg.symm.trans (by decide))
  have n41 : ¬ m_X6_next_h021 n ftp (gPf tW 96) za = 41 := fun z => by rw [z] at hg; exact gn (hg.symm.trans (by decide))
  obtain ⟨u1, u2, u3, u4⟩ := uw_l (tx := tx) (ou := ou) (cd := cd) (he := he) (hm := hm) (op := op) (r := 5) (by omega) h1 hP (show topLt 5 (d :: H) from by show rk d < 5; omega) (tl_ok h5) h2
  have u1 : m_X6_unwinds_h025 tx op cd he 5 hm ou = H.length + 1 := u1
  have dH : hl he (H.length + 1) = d :: H := hl_drop P h1
  have e : he H.length = d := by rw [hl] at dH; exact (List.cons.inj dH).1
  have kd := rk_ok (tl_ok h5 d List.mem_cons_self)
  have b0 : m_X6_between tx op cd he g hm ou = 0 := by
    unfold m_X6_between
    rw [if_pos (by rw [hrk.1, h4g]; rfl), u1, Nat.add_sub_cancel, e, if_neg (show ¬ nI (H.length + 1) ≤ 0 from fun z => absurd (nI_le1 (a := H.length + 1) (b := 0) hb2 (by omega) z) (by omega)), if_pos (by rw [kd.1, hd]; rfl)]
  refine bad_1 ?_
  show (eRun tx n ftp (gPf tW 96) (0 + 1) za hm ou op cd he 0 mn).map (fun r => (r.1, r.2.2.2.1)) = _
  rw [eRun, if_pos rfl, if_neg n59, if_neg n41, hg, if_neg gn, if_pos b0]; all_goals rfl
theorem bad_no {x : eS} {H C : List Int32} (hS : Sta tx x H C 0) (hg : m_X6_signOf (m_X6_next_h021 n ftp (gPf tW 96) x.1) = -1) (n59 : ¬ m_X6_next_h021 n ftp (gPf tW 96) x.1 = 59) (n41 : ¬ m_X6_next_h021 n ftp (gPf tW 96) x.1 = 41) : Bad tx n ftp x (m_X6_next_h020 n ftp x.1) := by
  obtain ⟨za, hm, ou, op, cd, he, wv, mn⟩ := x
  have h4 : wv = 0 := hS.2.2.2.1
  subst h4
  have hg : m_X6_signOf (m_X6_next_h021 n ftp (gPf tW 96) za) = -1 := hg
  have n59 : ¬ m_X6_next_h021 n ftp (gPf tW 96) za = 59 := n59
  have n41 : ¬ m_X6_next_h021 n ftp (gPf tW 96) za = 41 := n41
  refine bad_1 ?_
  show (eRun tx n ftp (gPf tW 96) (0 + 1) za hm ou op cd he 0 mn).map (fun r => (r.1, r.2.2.2.1)) = _
  rw [eRun, if_pos rfl, if_neg n59, if_neg n41, if_pos hg]; all_goals rfl
end MCH
