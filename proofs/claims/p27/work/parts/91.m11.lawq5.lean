/-! all that both sides hold alike besides counts and sheets, and what each call makes of it -/
def InjT6 (fc : Nat → Option Nat) : Prop := ∀ s s' r, s < 6 → s' < 6 → fc s = some r → fc s' = some r → s = s'
def TxRow (fc : Nat → Option Nat) (Fcd : Nat → Int32) (Fsr : Nat → Nat) (tx c : Nat) (f : Nat → Int32) (g : Nat → Nat) : Prop := ∀ t, t < tx → fc t = some c → TxR f g Fcd Fsr t ∧ g 2 ≤ 160
def RQP (fc : Nat → Option Nat) (c0 c1 c2 c3 c4 c5 : Nat) (fcr0 fcr1 fcr2 fcr3 fcr4 fcr5 : Nat → Int32) (fer0 fer1 fer2 fer3 fer4 fer5 : Nat → Nat) (pb lw tx td kb kl : Nat) (him : Int32) (fb fso fmi fpa fki fmo fsz frd gso gmi gpa gki gmo gsz grd : Nat → Int32) (Nru Ntx Ntd : Nat) (Fkd Fmo Fst Fro Ftp Fcd : Nat → Int32) (Fsr : Nat → Nat) (Fir Fih Fwo : Nat → Int32) : Prop := (lw = Nru ∧ tx = Ntx ∧ td = Ntd ∧ (him = 0 ∨ Fih 2 = nI kl)) ∧ QT td fb Ftp ∧ Fwo = gPf tW 96 ∧ (CtJ fso fmi fpa Fro ∧ RgJ fso fpa) ∧ QP pb fki fmo fsz frd Fkd Fmo Fst ∧ IM him pb kb fki fmo gso gmi gpa gki gmo gsz grd Fir ∧ InjT6 fc ∧ (TxRow fc Fcd Fsr tx c0 fcr0 fer0 ∧ TxRow fc Fcd Fsr tx c1 fcr1 fer1 ∧ TxRow fc Fcd Fsr tx c2 fcr2 fer2 ∧ TxRow fc Fcd Fsr tx c3 fcr3 fer3 ∧ TxRow fc Fcd Fsr tx c4 fcr4 fer4 ∧ TxRow fc Fcd Fsr tx c5 fcr5 fer5)
section RQ
variable {fc : Nat → Option Nat} {c0 c1 c2 c3 c4 c5 : Nat} {fcr0 fcr1 fcr2 fcr3 fcr4 fcr5 : Nat → Int32} {fer0 fer1 fer2 fer3 fer4 fer5 : Nat → Nat} {pb lw tx td kb kl : Nat} {him : Int32} {fb fso fmi fpa fki fmo fsz frd gso gmi gpa gki gmo gsz grd : Nat → Int32} {Nru Ntx Ntd : Nat} {Fkd Fmo Fst Fro Ftp Fcd : Nat → Int32} {Fsr : Nat → Nat} {Fir Fih Fwo : Nat → Int32}
variable {jg Njg Npb ru sn ip ij il : Nat} {v1 v2 v3 v4 v5 v6 : Int32} {fql Fsq : Nat → Nat} {fqo frr Fss Fce ffa fga ga6 gb6 : Nat → Int32}
theorem rq_judge (hj : jg ≤ 4) (ej : jg = Njg) (h : RQP fc c0 c1 c2 c3 c4 c5 fcr0 fcr1 fcr2 fcr3 fcr4 fcr5 fer0 fer1 fer2 fer3 fer4 fer5 pb lw tx td kb kl him fb fso fmi fpa fki fmo fsz frd gso gmi gpa gki gmo gsz grd Nru Ntx Ntd Fkd Fmo Fst Fro Ftp Fcd Fsr Fir Fih Fwo) : RQP fc c0 c1 c2 c3 c4 c5 fcr0 fcr1 fcr2 fcr3 fcr4 fcr5 fer0 fer1 fer2 fer3 fer4 fer5 pb lw tx td kb kl him fb (m_X5_judge_n2 jg fso v1) (m_X5_judge_n3 jg fmi v1) (m_X5_judge_n4 jg fpa v1) fki fmo fsz frd gso gmi gpa gki gmo gsz grd Nru Ntx Ntd Fkd Fmo Fst (m_X6_judge_ro Njg Fro v1) Ftp Fcd Fsr Fir Fih Fwo := by
  subst ej
  exact ⟨h.1, h.2.1, h.2.2.1, judge_J hj h.2.2.2.1.1 h.2.2.2.1.2, h.2.2.2.2⟩
theorem rq_shoe (hj : jg ≤ 4) (ej : jg = Njg) (h : RQP fc c0 c1 c2 c3 c4 c5 fcr0 fcr1 fcr2 fcr3 fcr4 fcr5 fer0 fer1 fer2 fer3 fer4 fer5 pb lw tx td kb kl him fb fso fmi fpa fki fmo fsz frd gso gmi gpa gki gmo gsz grd Nru Ntx Ntd Fkd Fmo Fst Fro Ftp Fcd Fsr Fir Fih Fwo) : RQP fc c0 c1 c2 c3 c4 c5 fcr0 fcr1 fcr2 fcr3 fcr4 fcr5 fer0 fer1 fer2 fer3 fer4 fer5 pb lw tx td kb kl him fb (m_X5_shoe_n2 jg fso v1 v2 v3) (m_X5_shoe_n3 jg fmi v1 v2 v3) fpa fki fmo fsz frd gso gmi gpa gki gmo gsz grd Nru Ntx Ntd Fkd Fmo Fst (m_X6_shoe_ro Njg Fro v1 v2 v3) Ftp Fcd Fsr Fir Fih Fwo := by
  subst ej
  exact ⟨h.1, h.2.1, h.2.2.1, shoe_J h.2.2.2.1.1 h.2.2.2.1.2 hj, h.2.2.2.2⟩
theorem rq_feed (htd : td ≤ 160) (h : RQP fc c0 c1 c2 c3 c4 c5 fcr0 fcr1 fcr2 fcr3 fcr4 fcr5 fer0 fer1 fer2 fer3 fer4 fer5 pb lw tx td kb kl him fb fso fmi fpa fki fmo fsz frd gso gmi gpa gki gmo gsz grd Nru Ntx Ntd Fkd Fmo Fst Fro Ftp Fcd Fsr Fir Fih Fwo) : RQP fc c0 c1 c2 c3 c4 c5 fcr0 fcr1 fcr2 fcr3 fcr4 fcr5 fer0 fer1 fer2 fer3 fer4 fer5 pb lw tx (m_X5_feed_rd6 td fb v1 v2 v3 v4 v5 v6) kb kl him (m_X5_feed_b0 td fb v1 v2 v3 v4 v5 v6) fso fmi fpa fki fmo fsz frd gso gmi gpa gki gmo gsz grd Nru Ntx (m_X6_feed_h07 Ntd Ftp v1 v2 v3 v4 v5 v6) Fkd Fmo Fst Fro (m_X6_feed_tp Ntd Ftp v1 v2 v3 v4 v5 v6) Fcd Fsr Fir Fih Fwo := by
  obtain ⟨⟨a1, a2, a3, a4⟩, b, c⟩ := h
  subst a3
  obtain ⟨-, f2, f3⟩ := feed_all (v0 := v1) (v1 := v2) (v2 := v3) (v3 := v4) (v4 := v5) (v5 := v6) htd b
  exact ⟨⟨a1, a2, f2, a4⟩, f3, c⟩
theorem rq_force (h1 : lw < tx) (h6 : tx ≤ 6) (h : RQP fc c0 c1 c2 c3 c4 c5 fcr0 fcr1 fcr2 fcr3 fcr4 fcr5 fer0 fer1 fer2 fer3 fer4 fer5 pb lw tx td kb kl him fb fso fmi fpa fki fmo fsz frd gso gmi gpa gki gmo gsz grd Nru Ntx Ntd Fkd Fmo Fst Fro Ftp Fcd Fsr Fir Fih Fwo) : RQP fc c0 c1 c2 c3 c4 c5 fcr0 fcr1 fcr2 fcr3 fcr4 fcr5 fer0 fer1 fer2 fer3 fer4 fer5 pb (m_X5_force_nw11 lw tx v1) tx td kb kl him fb fso fmi fpa fki fmo fsz frd gso gmi gpa gki gmo gsz grd (m_X6_force_h011 Ntx Nru v1) Ntx Ntd Fkd Fmo Fst Fro Ftp Fcd Fsr Fir Fih Fwo := by
  obtain ⟨⟨a1, a2, a3⟩, b⟩ := h
  subst a1 a2
  exact ⟨⟨(force_all (by omega) h6).2, rfl, a3⟩, b⟩
theorem rq_pebble (hp : pb ≤ 6) (ep : pb = Npb) (h : RQP fc c0 c1 c2 c3 c4 c5 fcr0 fcr1 fcr2 fcr3 fcr4 fcr5 fer0 fer1 fer2 fer3 fer4 fer5 pb lw tx td kb kl him fb fso fmi fpa fki fmo fsz frd gso gmi gpa gki gmo gsz grd Nru Ntx Ntd Fkd Fmo Fst Fro Ftp Fcd Fsr Fir Fih Fwo) : RQP fc c0 c1 c2 c3 c4 c5 fcr0 fcr1 fcr2 fcr3 fcr4 fcr5 fer0 fer1 fer2 fer3 fer4 fer5 (m_X5_pebble_nw10 pb v1 v2) lw tx td kb kl him fb fso fmi fpa (m_X5_pebble_n5 pb fki v1 v2) (m_X5_pebble_n6 pb fmo v1 v2) (m_X5_pebble_n7 pb fsz v1 v2) (m_X5_pebble_n8 pb frd v1 v2) gso gmi gpa gki gmo gsz grd Nru Ntx Ntd (m_X6_pebble_kd Npb Fkd v1 v2) (m_X6_pebble_mo Npb Fmo v1 v2) (m_X6_pebble_st Npb Fst v1 v2) Fro Ftp Fcd Fsr Fir Fih Fwo := by
  subst ep
  obtain ⟨a, b, c, d, e, f, g⟩ := h
  obtain ⟨x1, x2, x3⟩ := peb_Q (a := v1) (b := v2) hp e
  exact ⟨a, b, c, d, x1, im_keep f x2 x3, g⟩
theorem rq_put (hp : pb ≤ 6) (ep : pb = Npb) (h : RQP fc c0 c1 c2 c3 c4 c5 fcr0 fcr1 fcr2 fcr3 fcr4 fcr5 fer0 fer1 fer2 fer3 fer4 fer5 pb lw tx td kb kl him fb fso fmi fpa fki fmo fsz frd gso gmi gpa gki gmo gsz grd Nru Ntx Ntd Fkd Fmo Fst Fro Ftp Fcd Fsr Fir Fih Fwo) : RQP fc c0 c1 c2 c3 c4 c5 fcr0 fcr1 fcr2 fcr3 fcr4 fcr5 fer0 fer1 fer2 fer3 fer4 fer5 pb lw tx td kb kl him fb fso fmi fpa fki fmo (m_X5_put_n7 pb fsz v1 v2 v3) (m_X5_put_n8 pb frd v1 v2 v3) gso gmi gpa gki gmo gsz grd Nru Ntx Ntd Fkd Fmo (m_X6_put_st Npb Fst v1 v2 v3) Fro Ftp Fcd Fsr Fir Fih Fwo := by
  subst ep
  obtain ⟨a, b, c, d, ⟨e1, e2, e3⟩, f⟩ := h
  obtain ⟨x1, x2⟩ := put_P (v0 := v1) (v1 := v2) (v2 := v3) e1 e2 hp
  exact ⟨a, b, c, d, ⟨x1, x2, e3⟩, f⟩
theorem rq_walk (hj : jg ≤ 4) (hp : pb ≤ 6) (ej : jg = Njg) (ep : pb = Npb) (hl : lw < tx) (hc : fc lw = some c0) (hw : mWx fcr0 fer0) (h : RQP fc c0 c1 c2 c3 c4 c5 fcr0 fcr1 fcr2 fcr3 fcr4 fcr5 fer0 fer1 fer2 fer3 fer4 fer5 pb lw tx td kb kl him fb fso fmi fpa fki fmo fsz frd gso gmi gpa gki gmo gsz grd Nru Ntx Ntd Fkd Fmo Fst Fro Ftp Fcd Fsr Fir Fih Fwo) : RQP fc c0 c1 c2 c3 c4 c5 fcr0 fcr1 fcr2 fcr3 fcr4 fcr5 fer0 fer1 fer2 fer3 fer4 fer5 pb lw tx td kb kl him fb (m_X5_walk_n2 jg pb fer0 fso fmi fpa fki fmo fsz frd fcr0 v1 v2 v3) (m_X5_walk_n3 jg pb fer0 fso fmi fpa fki fmo fsz frd fcr0 v1 v2 v3) (m_X5_walk_n4 jg pb fer0 fso fmi fpa fki fmo fsz frd fcr0 v1 v2 v3) fki fmo (m_X5_walk_n7 jg pb fer0 fso fmi fpa fki fmo fsz frd fcr0 v1 v2 v3) frd gso gmi gpa gki gmo gsz grd Nru Ntx Ntd Fkd Fmo (m_X6_walk_st Npb Njg Nru Fst Fro Fmo Fkd Fcd Fsr v1 v2 v3) (m_X6_walk_ro Npb Njg Nru Fst Fro Fmo Fkd Fcd Fsr v1 v2 v3) Ftp Fcd Fsr Fir Fih Fwo := by
  subst ej ep
  obtain ⟨⟨a1, a2⟩, b, c, ⟨d1, d2⟩, ⟨e1, e2, e3⟩, f, g, k, k2⟩ := h
  subst a1
  obtain ⟨-, x1, x2, x3, x4⟩ := walk_same (v0 := v1) (v1 := v2) (v2 := v3) hw (k lw hl hc).1 d1 e1 d2 e2 hj hp
  exact ⟨⟨rfl, a2⟩, b, c, ⟨x1, x3⟩, ⟨x2, x4, e3⟩, f, g, k, k2⟩
theorem rq_thick  (h : RQP fc c0 c1 c2 c3 c4 c5 fcr0 fcr1 fcr2 fcr3 fcr4 fcr5 fer0 fer1 fer2 fer3 fer4 fer5 pb lw tx td kb kl him fb fso fmi fpa fki fmo fsz frd gso gmi gpa gki gmo gsz grd Nru Ntx Ntd Fkd Fmo Fst Fro Ftp Fcd Fsr Fir Fih Fwo) : RQP fc c0 c1 c2 c3 c4 c5 fcr0 fcr1 fcr2 fcr3 fcr4 fcr5 fer0 fer1 fer2 fer3 fer4 fer5 pb lw tx td kb kl him fb fso fmi fpa fki fmo fsz frd gso gmi gpa gki gmo gsz grd Nru Ntx Ntd Fkd Fmo Fst (m_X6_thick_ro Npb Njg Nru Fst Fro Fmo Fkd Fcd Fsr v1 v2 v3) Ftp Fcd Fsr Fir Fih Fwo := by
  rw [thick_ro]; exact h
theorem rq_order  (h : RQP fc c0 c1 c2 c3 c4 c5 fcr0 fcr1 fcr2 fcr3 fcr4 fcr5 fer0 fer1 fer2 fer3 fer4 fer5 pb lw tx td kb kl him fb fso fmi fpa fki fmo fsz frd gso gmi gpa gki gmo gsz grd Nru Ntx Ntd Fkd Fmo Fst Fro Ftp Fcd Fsr Fir Fih Fwo) : RQP fc c0 c1 c2 c3 c4 c5 fcr0 fcr1 fcr2 fcr3 fcr4 fcr5 fer0 fer1 fer2 fer3 fer4 fer5 pb lw tx td kb kl him fb fso fmi fpa fki fmo fsz frd gso gmi gpa gki gmo gsz grd Nru Ntx Ntd Fkd Fmo Fst (m_X6_order_ro Npb Njg Nru Fst Fro Fmo Fkd Fcd Fsr ffa fga v1 v2 v3) Ftp Fcd Fsr Fir Fih Fwo := by
  rw [order_ro]; exact h
theorem rq_counsel  (h : RQP fc c0 c1 c2 c3 c4 c5 fcr0 fcr1 fcr2 fcr3 fcr4 fcr5 fer0 fer1 fer2 fer3 fer4 fer5 pb lw tx td kb kl him fb fso fmi fpa fki fmo fsz frd gso gmi gpa gki gmo gsz grd Nru Ntx Ntd Fkd Fmo Fst Fro Ftp Fcd Fsr Fir Fih Fwo) : RQP fc c0 c1 c2 c3 c4 c5 fcr0 fcr1 fcr2 fcr3 fcr4 fcr5 fer0 fer1 fer2 fer3 fer4 fer5 pb lw tx td kb kl him fb fso fmi fpa fki fmo fsz frd gso gmi gpa gki gmo gsz grd Nru Ntx Ntd Fkd Fmo Fst (m_X6_counsel_ro Npb Njg Nru Fst Fro Fmo Fkd Fcd Fsr ffa fga v1 v2 v3) Ftp Fcd Fsr Fir Fih Fwo := by
  rw [counsel_ro]; exact h
theorem rq_soled  (h : RQP fc c0 c1 c2 c3 c4 c5 fcr0 fcr1 fcr2 fcr3 fcr4 fcr5 fer0 fer1 fer2 fer3 fer4 fer5 pb lw tx td kb kl him fb fso fmi fpa fki fmo fsz frd gso gmi gpa gki gmo gsz grd Nru Ntx Ntd Fkd Fmo Fst Fro Ftp Fcd Fsr Fir Fih Fwo) : RQP fc c0 c1 c2 c3 c4 c5 fcr0 fcr1 fcr2 fcr3 fcr4 fcr5 fer0 fer1 fer2 fer3 fer4 fer5 pb lw tx td kb kl him fb fso fmi fpa fki fmo fsz frd gso gmi gpa gki gmo gsz grd Nru Ntx Ntd Fkd Fmo Fst (m_X6_soled_ro Npb Njg Nru Fst Fro Fmo Fkd Fcd Fsr Fsq Fce Fss v1 v2) Ftp Fcd Fsr Fir Fih Fwo := by
  rw [soled_ro]; exact h
theorem rq_sizes  (h : RQP fc c0 c1 c2 c3 c4 c5 fcr0 fcr1 fcr2 fcr3 fcr4 fcr5 fer0 fer1 fer2 fer3 fer4 fer5 pb lw tx td kb kl him fb fso fmi fpa fki fmo fsz frd gso gmi gpa gki gmo gsz grd Nru Ntx Ntd Fkd Fmo Fst Fro Ftp Fcd Fsr Fir Fih Fwo) : RQP fc c0 c1 c2 c3 c4 c5 fcr0 fcr1 fcr2 fcr3 fcr4 fcr5 fer0 fer1 fer2 fer3 fer4 fer5 pb lw tx td kb kl him fb fso fmi fpa fki fmo fsz frd gso gmi gpa gki gmo gsz grd Nru Ntx Ntd Fkd Fmo (m_X6_sizes_st Npb Njg Nru Fst Fro Fmo Fkd Fcd Fsr Fsq Fce Fss v1 v2 v3 v4) Fro Ftp Fcd Fsr Fir Fih Fwo := by
  rw [sizes_st]; exact h
theorem rq_kinds  (h : RQP fc c0 c1 c2 c3 c4 c5 fcr0 fcr1 fcr2 fcr3 fcr4 fcr5 fer0 fer1 fer2 fer3 fer4 fer5 pb lw tx td kb kl him fb fso fmi fpa fki fmo fsz frd gso gmi gpa gki gmo gsz grd Nru Ntx Ntd Fkd Fmo Fst Fro Ftp Fcd Fsr Fir Fih Fwo) : RQP fc c0 c1 c2 c3 c4 c5 fcr0 fcr1 fcr2 fcr3 fcr4 fcr5 fer0 fer1 fer2 fer3 fer4 fer5 pb lw tx td kb kl him fb fso fmi fpa fki fmo fsz frd gso gmi gpa gki gmo gsz grd Nru Ntx Ntd (m_X6_kinds_kd Npb Njg Nru Fst Fro Fmo Fkd Fcd Fsr Fsq Fce Fss v1 v2 v3 v4) (m_X6_kinds_mo Npb Njg Nru Fst Fro Fmo Fkd Fcd Fsr Fsq Fce Fss v1 v2 v3 v4) Fst Fro Ftp Fcd Fsr Fir Fih Fwo := by
  rw [kinds_kd, kinds_mo]; exact h
theorem rq_image (hp : pb ≤ 6) (ej : jg = Njg) (ep : pb = Npb) (h : RQP fc c0 c1 c2 c3 c4 c5 fcr0 fcr1 fcr2 fcr3 fcr4 fcr5 fer0 fer1 fer2 fer3 fer4 fer5 pb lw tx td kb kl him fb fso fmi fpa fki fmo fsz frd gso gmi gpa gki gmo gsz grd Nru Ntx Ntd Fkd Fmo Fst Fro Ftp Fcd Fsr Fir Fih Fwo) : RQP fc c0 c1 c2 c3 c4 c5 fcr0 fcr1 fcr2 fcr3 fcr4 fcr5 fer0 fer1 fer2 fer3 fer4 fer5 pb lw tx td pb lw 1 fb fso fmi fpa fki fmo fsz frd fso fmi fpa fki fmo fsz frd Nru Ntx Ntd Fkd Fmo Fst Fro Ftp Fcd Fsr (mKeep Fro Fst) (mHold (nI Npb) (nI Njg) (nI Nru)) Fwo := by
  subst ej ep
  obtain ⟨⟨a1, a2, a3, a4⟩, b, c, ⟨d1, d2⟩, e, f, g⟩ := h
  refine ⟨⟨a1, a2, a3, Or.inr ?_⟩, b, c, ⟨d1, d2⟩, e, im_image hp d1 d2 e, g⟩
  rw [a1]; rfl
theorem rq_back_no (hz : him = 0) (h : RQP fc c0 c1 c2 c3 c4 c5 fcr0 fcr1 fcr2 fcr3 fcr4 fcr5 fer0 fer1 fer2 fer3 fer4 fer5 pb lw tx td kb kl him fb fso fmi fpa fki fmo fsz frd gso gmi gpa gki gmo gsz grd Nru Ntx Ntd Fkd Fmo Fst Fro Ftp Fcd Fsr Fir Fih Fwo) : RQP fc c0 c1 c2 c3 c4 c5 fcr0 fcr1 fcr2 fcr3 fcr4 fcr5 fer0 fer1 fer2 fer3 fer4 fer5 (m_X5_back_nw10 pb kb him) (m_X5_back_nw11 lw kl him) tx td kb kl him fb (m_X5_back_n2 him fso gso) (m_X5_back_n3 him fmi gmi) (m_X5_back_n4 him fpa gpa) (m_X5_back_n5 him fki gki) (m_X5_back_n6 him fmo gmo) (m_X5_back_n7 him fsz gsz) (m_X5_back_n8 him frd grd) gso gmi gpa gki gmo gsz grd Nru Ntx Ntd Fkd Fmo Fst Fro Ftp Fcd Fsr Fir Fih Fwo := by
  unfold m_X5_back_nw10 m_X5_back_nw11 m_X5_back_n2 m_X5_back_n3 m_X5_back_n4 m_X5_back_n5 m_X5_back_n6 m_X5_back_n7 m_X5_back_n8
  simp only [if_pos hz]
  exact h
theorem rq_back_yes (hz : ¬ him = 0) (hk : kb ≤ 6) (hil : il < 6) (hkl : kl < 6) (h : RQP fc c0 c1 c2 c3 c4 c5 fcr0 fcr1 fcr2 fcr3 fcr4 fcr5 fer0 fer1 fer2 fer3 fer4 fer5 pb lw tx td kb kl him fb fso fmi fpa fki fmo fsz frd gso gmi gpa gki gmo gsz grd Nru Ntx Ntd Fkd Fmo Fst Fro Ftp Fcd Fsr (mKeep ga6 gb6) (mHold (nI ip) (nI ij) (nI il)) Fwo) : RQP fc c0 c1 c2 c3 c4 c5 fcr0 fcr1 fcr2 fcr3 fcr4 fcr5 fer0 fer1 fer2 fer3 fer4 fer5 (m_X5_back_nw10 pb kb him) (m_X5_back_nw11 lw kl him) tx td kb kl him fb (m_X5_back_n2 him fso gso) (m_X5_back_n3 him fmi gmi) (m_X5_back_n4 him fpa gpa) (m_X5_back_n5 him fki gki) (m_X5_back_n6 him fmo gmo) (m_X5_back_n7 him fsz gsz) (m_X5_back_n8 him frd grd) gso gmi gpa gki gmo gsz grd il Ntx Ntd Fkd Fmo gb6 ga6 Ftp Fcd Fsr (mKeep ga6 gb6) (mHold (nI ip) (nI ij) (nI il)) Fwo := by
  unfold m_X5_back_nw10 m_X5_back_nw11 m_X5_back_n2 m_X5_back_n3 m_X5_back_n4 m_X5_back_n5 m_X5_back_n6 m_X5_back_n7 m_X5_back_n8
  simp only [if_neg hz]
  obtain ⟨⟨a1, a2, a3, a4⟩, b, c, d, e, f, g⟩ := h
  obtain ⟨x1, x2, x3, x4⟩ := im_back hz e f hk
  have q : nI il = nI kl := a4.resolve_left hz
  have q := nI_eq1 (by omega) (by omega) q
  exact ⟨⟨q.symm, a2, a3, a4⟩, b, c, ⟨x1, x2⟩, x3, x4, g⟩
theorem rq_pebblesBy (hp : pb ≤ 6) (ep : pb = Npb) (hsn : sn < 4) (hS : RSP fqo fql Fss Fsq) (hq : ∀ q9, q9 < 4 → fql q9 ≤ 40) (hR : ∀ i, i < 40 → frr i = Fce (40 * sn + i)) (h : RQP fc c0 c1 c2 c3 c4 c5 fcr0 fcr1 fcr2 fcr3 fcr4 fcr5 fer0 fer1 fer2 fer3 fer4 fer5 pb lw tx td kb kl him fb fso fmi fpa fki fmo fsz frd gso gmi gpa gki gmo gsz grd Nru Ntx Ntd Fkd Fmo Fst Fro Ftp Fcd Fsr Fir Fih Fwo) : RQP fc c0 c1 c2 c3 c4 c5 fcr0 fcr1 fcr2 fcr3 fcr4 fcr5 fer0 fer1 fer2 fer3 fer4 fer5 (m_X5_pebblesBy_A_nw10 pb fql fki fmo fsz frd fqo frr sn v2 v3 v4) lw tx td kb kl him fb fso fmi fpa (m_X5_pebblesBy_A_n5 pb fql fki fmo fsz frd fqo frr sn v2 v3 v4) (m_X5_pebblesBy_A_n6 pb fql fki fmo fsz frd fqo frr sn v2 v3 v4) (m_X5_pebblesBy_A_n7 pb fql fki fmo fsz frd fqo frr sn v2 v3 v4) (m_X5_pebblesBy_A_n8 pb fql fki fmo fsz frd fqo frr sn v2 v3 v4) gso gmi gpa gki gmo gsz grd Nru Ntx Ntd (m_X6_pebblesBy_kd Npb Fss Fsq Fce Fkd Fmo Fst (nI sn) v2 v3 v4) (m_X6_pebblesBy_mo Npb Fss Fsq Fce Fkd Fmo Fst (nI sn) v2 v3 v4) (m_X6_pebblesBy_st Npb Fss Fsq Fce Fkd Fmo Fst (nI sn) v2 v3 v4) Fro Ftp Fcd Fsr Fir Fih Fwo := by
  subst ep
  unfold m_X5_pebblesBy_A_nw10 m_X5_pebblesBy_A_n5 m_X5_pebblesBy_A_n6 m_X5_pebblesBy_A_n7 m_X5_pebblesBy_A_n8 m_X6_pebblesBy_kd m_X6_pebblesBy_mo m_X6_pebblesBy_st g_X5_pebblesBy_A_70 g_X6_pebblesBy_64
  rw [nC_nI (show sn < 2 ^ 31 by omega), (hS sn hsn).1]
  simp only [if_pos (sn_in hsn)]
  by_cases c1 : 0 ≤ v2 ∧ v2 ≤ 2
  case neg => simp only [if_neg c1]; exact h
  by_cases c2 : 0 ≤ v4 ∧ v4 ≤ 6
  case neg => simp only [if_pos c1, if_neg c2]; exact h
  simp only [if_pos c1, if_pos c2]
  by_cases c3 : Fss sn = (-1)
  · simp only [if_pos c3]; exact h
  simp only [if_neg c3]
  by_cases c4 : Fss sn = nI (nC v2)
  case neg => simp only [if_neg c4]; exact h
  simp only [if_pos c4]
  have h6 : nC v4 ≤ 6 := nC_le (n := 6) (by omega) c2
  obtain ⟨a, b, c, d, e, f, g⟩ := h
  obtain ⟨x1, x2, x3⟩ := pbq_loop (v := v3) hsn (hS sn hsn).2 (hq sn hsn) hR (nC v4 - 0) 0 0 0 fki fmo fsz frd Fkd Fmo Fst pb hp (by omega) (Or.inr rfl) e
  exact ⟨a, b, c, d, x1, im_keep f x2 x3, g⟩
theorem rq_pebblesBy_B (hno : ¬ (0 ≤ v1 ∧ v1 ≤ 3)) (h : RQP fc c0 c1 c2 c3 c4 c5 fcr0 fcr1 fcr2 fcr3 fcr4 fcr5 fer0 fer1 fer2 fer3 fer4 fer5 pb lw tx td kb kl him fb fso fmi fpa fki fmo fsz frd gso gmi gpa gki gmo gsz grd Nru Ntx Ntd Fkd Fmo Fst Fro Ftp Fcd Fsr Fir Fih Fwo) : RQP fc c0 c1 c2 c3 c4 c5 fcr0 fcr1 fcr2 fcr3 fcr4 fcr5 fer0 fer1 fer2 fer3 fer4 fer5 pb lw tx td kb kl him fb fso fmi fpa fki fmo fsz frd gso gmi gpa gki gmo gsz grd Nru Ntx Ntd (m_X6_pebblesBy_kd Npb Fss Fsq Fce Fkd Fmo Fst v1 v2 v3 v4) (m_X6_pebblesBy_mo Npb Fss Fsq Fce Fkd Fmo Fst v1 v2 v3 v4) (m_X6_pebblesBy_st Npb Fss Fsq Fce Fkd Fmo Fst v1 v2 v3 v4) Fro Ftp Fcd Fsr Fir Fih Fwo := by
  unfold m_X6_pebblesBy_kd m_X6_pebblesBy_mo m_X6_pebblesBy_st
  simp only [if_neg hno]
  exact h
theorem tx_other {c c0 : Nat} {f : Nat → Int32} {g : Nat → Nat} {z : Nat} {ycd : Nat → Int32} {ysr : Nat → Nat} (hu : ∀ i, i < 200 * tx → ycd i = Fcd i) (hs : ∀ i, i < 4 * tx → ysr i = Fsr i) (hz : z = tx ∨ z = tx + 1) (hc : fc tx = some c0) (hne : c0 ≠ c) (h : TxRow fc Fcd Fsr tx c f g) : TxRow fc ycd ysr z c f g := by
  intro t ht e
  have hlt : t < tx := by
    rcases Nat.lt_or_ge t tx with q | q
    · exact q
    · exfalso
      have e2 : t = tx := by omega
      rw [e2] at e
      exact hne (Option.some.inj (hc.symm.trans e))
  obtain ⟨⟨x1, x2, x3⟩, hg⟩ := h t hlt e
  refine ⟨⟨fun i hi => ?_, ?_, fun pt hp => ?_⟩, hg⟩
  · rw [hu (200 * t + i) (by omega)]; exact x1 i hi
  · rw [hs (4 * t) (by omega)]; exact x2
  · rw [hs (4 * t + pt + 1) (by omega)]; exact x3 pt hp
theorem rq_text {yct Fhe ycd : Nat → Int32} {yet ysr : Nat → Nat} {t0 m0 zt zm r5 r6 zbg : Int32} {za zp zw o1 o2 o3 z5 z6 : Nat} {zok : Bool} (h6 : tx < 6) (htd : td ≤ 160) (hc : fc tx = some c0) (n1 : c0 ≠ c1) (n2 : c0 ≠ c2) (n3 : c0 ≠ c3) (n4 : c0 ≠ c4) (n5 : c0 ≠ c5) (hX : gRead fb td tx ((0, t0, 0, m0, 0, fcr0), fer0) r5 z5 ((za, zt, zp, zm, zw, yct), yet)) (hu : ∀ i, i < 200 * Ntx → ycd i = Fcd i) (hs : ∀ i, i < 4 * Ntx → ysr i = Fsr i) (hM : rT Ntx Ntd Ftp Fwo Fcd Fhe zok zbg ycd o1 o2 o3) (hV : (zok = true ∧ r6 = nI Ntx ∧ z6 = Ntx + 1 ∧ mWf ycd ysr Ntx ∧ ysr (4 * Ntx) = 0 ∧ ysr (4 * Ntx + 1) = o1 ∧ ysr (4 * Ntx + 2) = o2 ∧ ysr (4 * Ntx + 3) = o3) ∨ (zok = false ∧ r6 = -100 - zbg ∧ z6 = Ntx)) (h99 : z5 = tx ∨ (z5 = tx + 1 ∧ mWx yct yet)) (h : RQP fc c0 c1 c2 c3 c4 c5 fcr0 fcr1 fcr2 fcr3 fcr4 fcr5 fer0 fer1 fer2 fer3 fer4 fer5 pb lw tx td kb kl him fb fso fmi fpa fki fmo fsz frd gso gmi gpa gki gmo gsz grd Nru Ntx Ntd Fkd Fmo Fst Fro Ftp Fcd Fsr Fir Fih Fwo) : r5 = r6 ∧ RQP fc c0 c1 c2 c3 c4 c5 yct fcr1 fcr2 fcr3 fcr4 fcr5 yet fer1 fer2 fer3 fer4 fer5 pb lw z5 0 kb kl him fb fso fmi fpa fki fmo fsz frd gso gmi gpa gki gmo gsz grd Nru z6 0 Fkd Fmo Fst Fro Ftp ycd ysr Fir Fih Fwo := by
  obtain ⟨⟨a1, a2, a3, a4⟩, b, c, d, e, f, g, k0, k1, k2, k3, k4, k5⟩ := h
  subst a2 a3 c
  obtain ⟨x1, x2, x3⟩ := text_all b htd hX hM hV
  subst x2
  have hz : z5 = tx ∨ z5 = tx + 1 := h99.imp id (fun w => w.1)
  refine ⟨x1, ⟨a1, rfl, rfl, a4⟩, fun i hi => absurd hi (Nat.not_lt_zero _), rfl, d, e, f, g, fun t ht q => ?_, tx_other hu hs hz hc n1 k1, tx_other hu hs hz hc n2 k2, tx_other hu hs hz hc n3 k3, tx_other hu hs hz hc n4 k4, tx_other hu hs hz hc n5 k5⟩
  have et : t = tx := g t tx c0 (by omega) h6 q hc
  subst et
  have e5 : z5 = t + 1 := by omega
  refine ⟨x3 e5, ?_⟩
  rcases h99 with w | ⟨-, w⟩
  · omega
  · exact (w.1 2 (by decide)).2.1
theorem rqT_1 (h : RQP fc c0 c1 c2 c3 c4 c5 fcr0 fcr1 fcr2 fcr3 fcr4 fcr5 fer0 fer1 fer2 fer3 fer4 fer5 pb lw tx td kb kl him fb fso fmi fpa fki fmo fsz frd gso gmi gpa gki gmo gsz grd Nru Ntx Ntd Fkd Fmo Fst Fro Ftp Fcd Fsr Fir Fih Fwo) : RQP fc c1 c0 c2 c3 c4 c5 fcr1 fcr0 fcr2 fcr3 fcr4 fcr5 fer1 fer0 fer2 fer3 fer4 fer5 pb lw tx td kb kl him fb fso fmi fpa fki fmo fsz frd gso gmi gpa gki gmo gsz grd Nru Ntx Ntd Fkd Fmo Fst Fro Ftp Fcd Fsr Fir Fih Fwo := ⟨h.1, h.2.1, h.2.2.1, h.2.2.2.1, h.2.2.2.2.1, h.2.2.2.2.2.1, h.2.2.2.2.2.2.1, h.2.2.2.2.2.2.2.2.1, h.2.2.2.2.2.2.2.1, h.2.2.2.2.2.2.2.2.2.1, h.2.2.2.2.2.2.2.2.2.2.1, h.2.2.2.2.2.2.2.2.2.2.2.1, h.2.2.2.2.2.2.2.2.2.2.2.2⟩
theorem rqT_2 (h : RQP fc c0 c1 c2 c3 c4 c5 fcr0 fcr1 fcr2 fcr3 fcr4 fcr5 fer0 fer1 fer2 fer3 fer4 fer5 pb lw tx td kb kl him fb fso fmi fpa fki fmo fsz frd gso gmi gpa gki gmo gsz grd Nru Ntx Ntd Fkd Fmo Fst Fro Ftp Fcd Fsr Fir Fih Fwo) : RQP fc c2 c1 c0 c3 c4 c5 fcr2 fcr1 fcr0 fcr3 fcr4 fcr5 fer2 fer1 fer0 fer3 fer4 fer5 pb lw tx td kb kl him fb fso fmi fpa fki fmo fsz frd gso gmi gpa gki gmo gsz grd Nru Ntx Ntd Fkd Fmo Fst Fro Ftp Fcd Fsr Fir Fih Fwo := ⟨h.1, h.2.1, h.2.2.1, h.2.2.2.1, h.2.2.2.2.1, h.2.2.2.2.2.1, h.2.2.2.2.2.2.1, h.2.2.2.2.2.2.2.2.2.1, h.2.2.2.2.2.2.2.2.1, h.2.2.2.2.2.2.2.1, h.2.2.2.2.2.2.2.2.2.2.1, h.2.2.2.2.2.2.2.2.2.2.2.1, h.2.2.2.2.2.2.2.2.2.2.2.2⟩
theorem rqT_3 (h : RQP fc c0 c1 c2 c3 c4 c5 fcr0 fcr1 fcr2 fcr3 fcr4 fcr5 fer0 fer1 fer2 fer3 fer4 fer5 pb lw tx td kb kl him fb fso fmi fpa fki fmo fsz frd gso gmi gpa gki gmo gsz grd Nru Ntx Ntd Fkd Fmo Fst Fro Ftp Fcd Fsr Fir Fih Fwo) : RQP fc c3 c1 c2 c0 c4 c5 fcr3 fcr1 fcr2 fcr0 fcr4 fcr5 fer3 fer1 fer2 fer0 fer4 fer5 pb lw tx td kb kl him fb fso fmi fpa fki fmo fsz frd gso gmi gpa gki gmo gsz grd Nru Ntx Ntd Fkd Fmo Fst Fro Ftp Fcd Fsr Fir Fih Fwo := ⟨h.1, h.2.1, h.2.2.1, h.2.2.2.1, h.2.2.2.2.1, h.2.2.2.2.2.1, h.2.2.2.2.2.2.1, h.2.2.2.2.2.2.2.2.2.2.1, h.2.2.2.2.2.2.2.2.1, h.2.2.2.2.2.2.2.2.2.1, h.2.2.2.2.2.2.2.1, h.2.2.2.2.2.2.2.2.2.2.2.1, h.2.2.2.2.2.2.2.2.2.2.2.2⟩
theorem rqT_4 (h : RQP fc c0 c1 c2 c3 c4 c5 fcr0 fcr1 fcr2 fcr3 fcr4 fcr5 fer0 fer1 fer2 fer3 fer4 fer5 pb lw tx td kb kl him fb fso fmi fpa fki fmo fsz frd gso gmi gpa gki gmo gsz grd Nru Ntx Ntd Fkd Fmo Fst Fro Ftp Fcd Fsr Fir Fih Fwo) : RQP fc c4 c1 c2 c3 c0 c5 fcr4 fcr1 fcr2 fcr3 fcr0 fcr5 fer4 fer1 fer2 fer3 fer0 fer5 pb lw tx td kb kl him fb fso fmi fpa fki fmo fsz frd gso gmi gpa gki gmo gsz grd Nru Ntx Ntd Fkd Fmo Fst Fro Ftp Fcd Fsr Fir Fih Fwo := ⟨h.1, h.2.1, h.2.2.1, h.2.2.2.1, h.2.2.2.2.1, h.2.2.2.2.2.1, h.2.2.2.2.2.2.1, h.2.2.2.2.2.2.2.2.2.2.2.1, h.2.2.2.2.2.2.2.2.1, h.2.2.2.2.2.2.2.2.2.1, h.2.2.2.2.2.2.2.2.2.2.1, h.2.2.2.2.2.2.2.1, h.2.2.2.2.2.2.2.2.2.2.2.2⟩
theorem rqT_5 (h : RQP fc c0 c1 c2 c3 c4 c5 fcr0 fcr1 fcr2 fcr3 fcr4 fcr5 fer0 fer1 fer2 fer3 fer4 fer5 pb lw tx td kb kl him fb fso fmi fpa fki fmo fsz frd gso gmi gpa gki gmo gsz grd Nru Ntx Ntd Fkd Fmo Fst Fro Ftp Fcd Fsr Fir Fih Fwo) : RQP fc c5 c1 c2 c3 c4 c0 fcr5 fcr1 fcr2 fcr3 fcr4 fcr0 fer5 fer1 fer2 fer3 fer4 fer0 pb lw tx td kb kl him fb fso fmi fpa fki fmo fsz frd gso gmi gpa gki gmo gsz grd Nru Ntx Ntd Fkd Fmo Fst Fro Ftp Fcd Fsr Fir Fih Fwo := ⟨h.1, h.2.1, h.2.2.1, h.2.2.2.1, h.2.2.2.2.1, h.2.2.2.2.2.1, h.2.2.2.2.2.2.1, h.2.2.2.2.2.2.2.2.2.2.2.2, h.2.2.2.2.2.2.2.2.1, h.2.2.2.2.2.2.2.2.2.1, h.2.2.2.2.2.2.2.2.2.2.1, h.2.2.2.2.2.2.2.2.2.2.2.1, h.2.2.2.2.2.2.2.1⟩
end RQ
