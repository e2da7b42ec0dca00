/-! a text that is read: the same answer on both sides -/
section TX
variable {fc : Nat → Option Nat} {c0 c1 c2 c3 c4 c5 : Nat} {fcr0 fcr1 fcr2 fcr3 fcr4 fcr5 : Nat → Int32} {fer0 fer1 fer2 fer3 fer4 fer5 : Nat → Nat} {pb lw tx td kb kl : Nat} {him : Int32} {fb fso fmi fpa fki fmo fsz frd gso gmi gpa gki gmo gsz grd : Nat → Int32} {Nru Ntx Ntd : Nat} {Fkd Fmo Fst Fro Ftp Fcd : Nat → Int32} {Fsr : Nat → Nat} {Fir Fih Fwo : Nat → Int32}
variable {jg Njg Npb ru sn ip ij il : Nat} {v1 v2 v3 v4 v5 v6 : Int32} {fql Fsq : Nat → Nat} {fqo frr Fss Fce ffa fga ga6 gb6 : Nat → Int32}
theorem tx_res {yct Fhe ycd : Nat → Int32} {yet ysr : Nat → Nat} {t0 m0 zt zm r5 r6 zbg : Int32} {za zp zw o1 o2 o3 z5 z6 : Nat} {zok : Bool} (htd : td ≤ 160) (hX : gRead fb td tx ((0, t0, 0, m0, 0, fcr0), fer0) r5 z5 ((za, zt, zp, zm, zw, yct), yet)) (hM : rT Ntx Ntd Ftp Fwo Fcd Fhe zok zbg ycd o1 o2 o3) (hV : (zok = true ∧ r6 = nI Ntx ∧ z6 = Ntx + 1 ∧ mWf ycd ysr Ntx ∧ ysr (4 * Ntx) = 0 ∧ ysr (4 * Ntx + 1) = o1 ∧ ysr (4 * Ntx + 2) = o2 ∧ ysr (4 * Ntx + 3) = o3) ∨ (zok = false ∧ r6 = -100 - zbg ∧ z6 = Ntx)) (h : RQP fc c0 c1 c2 c3 c4 c5 fcr0 fcr1 fcr2 fcr3 fcr4 fcr5 fer0 fer1 fer2 fer3 fer4 fer5 pb lw tx td kb kl him fb fso fmi fpa fki fmo fsz frd gso gmi gpa gki gmo gsz grd Nru Ntx Ntd Fkd Fmo Fst Fro Ftp Fcd Fsr Fir Fih Fwo) : r5 = r6 := by
  obtain ⟨⟨a1, a2, a3, a4⟩, b, c, -⟩ := h
  subst a2 a3 c
  exact (text_all b htd hX hM hV).1
end TX
