/-! a film under the whole relation (new lawrel: cR has a first argument; NOT compiled) -/
theorem rq_T {fc : Nat → Option Nat} {c0 tx lw Nru : Nat} {fcr0 : Nat → Int32} {fer0 : Nat → Nat} {Fcd : Nat → Int32} {Fsr : Nat → Nat} (h : TxRow fc Fcd Fsr tx c0 fcr0 fer0) (he : lw = Nru) (hl : lw < tx) (hc : fc lw = some c0) : TxR fcr0 fer0 Fcd Fsr Nru := by
  subst he
  exact (h lw hl hc).1
theorem rl_filmQ {fn : Nat → Option Nat} {r0 r1 r2 r3 jg pb kj kb Npb Njg sn ru : Nat} {him Zhi v2 v3 : Int32} {fs0 fs1 fs2 fs3 fqo Fss Fce Fih : Nat → Int32} {fql Fsq : Nat → Nat} {fet : Nat → Nat} {fso fmi fpa fki fmo fsz frd fct Fst Fro Fmo Fkd Fcd : Nat → Int32} {Fsr : Nat → Nat} (hw : mWx fct fet) (hT : TxR fct fet Fcd Fsr ru) (hJ : CtJ fso fmi fpa Fro) (hP : CtP pb fki fmo fsz frd Fkd Fmo Fst) (rJ : RgJ fso fpa) (rP : RgP pb fmo fsz) (hjg : jg ≤ 4) (hp : pb ≤ 6) (hsn : sn < 4) (hr : fn sn = some r0) (n1 : r0 ≠ r1) (n2 : r0 ≠ r2) (n3 : r0 ≠ r3) (h : RLP False fn r0 r1 r2 r3 jg pb kj kb him fs0 fs1 fs2 fs3 fqo fql Npb Njg Zhi Fss Fsq Fce Fih) : RLP False fn r0 r1 r2 r3 jg pb kj kb him (m_X5_film_A_rr jg pb fet fso fmi fpa fki fmo fsz frd fct fqo fs0 sn v2 v3) fs1 fs2 fs3 (m_X5_film_A_qo jg fqo sn v2 v3) (m_X5_film_A_ql jg pb fql sn v2 v3) Npb Njg Zhi (m_X6_film_ss Njg Fss (nI sn) v2 v3) (m_X6_film_sq Npb Njg Fsq (nI sn) v2 v3) (m_X6_film_ce Npb Njg ru Fst Fro Fmo Fkd Fcd Fsr Fce (nI sn) v2 v3) Fih := by
  obtain ⟨⟨e1, e2, hN⟩, hI, hS, a0, a1, a2, a3⟩ := h
  subst e1 e2
  have ho : Only sn Fce (m_X6_film_ce pb jg ru Fst Fro Fmo Fkd Fcd Fsr Fce (nI sn) v2 v3) := film_only hsn hp
  have hf := (film_same (fqo := fqo) (frr := fs0) (v2 := v2) (v3 := v3) hw hT hsn hjg hp hJ hP rJ rP (fun i hi => (a0 sn hsn hr i hi).elim id (fun z => z.1.elim))).2
  exact ⟨⟨rfl, rfl, hN⟩, hI, film_S hsn hS, row_one (fun s s' x y u v => hI s s' r0 x y u v) hsn hr (fun i hi => Or.inl (hf i hi)), row_other ho hr n1 a1, row_other ho hr n2 a2, row_other ho hr n3 a3⟩
theorem rowE {fn : Nat → Option Nat} {r sn : Nat} {f Fce : Nat → Int32} (h : RowR False fn Fce r f) (hsn : sn < 4) (hr : fn sn = some r) : ∀ i, i < 40 → f i = Fce (40 * sn + i) := fun i hi => (h sn hsn hr i hi).elim id (fun z => z.1.elim)
