/-! the class's reading of a text as functions: at, token, place, meaning, written, codes -/
abbrev gT : Type := Nat × Int32 × Nat × Int32 × Nat × (Nat → Int32)
noncomputable def gNx (f : Nat → Int32) (n : Nat) (s : gT) : gT := ((mNext f n s.1 s.2.2.2.1).1, (mNext f n s.1 s.2.2.2.1).2.1, (mNext f n s.1 s.2.2.2.1).2.2.1, (mNext f n s.1 s.2.2.2.1).2.2.2, s.2.2.2.2.1, s.2.2.2.2.2)
noncomputable def gWc (c : Int32) (w : Nat) (ct : Nat → Int32) : Nat × (Nat → Int32) := if w < 160 then (w + 1, upd ct w c) else (w, ct)
noncomputable def gWr (c : Int32) (s : gT) : gT := (s.1, s.2.1, s.2.2.1, s.2.2.2.1, (gWc c s.2.2.2.2.1 s.2.2.2.2.2).1, (gWc c s.2.2.2.2.1 s.2.2.2.2.2).2)
theorem gNx_of {f : Nat → Int32} {n a : Nat} {t : Int32} {p : Nat} {m : Int32} {w : Nat} {ct : Nat → Int32} {zb : Nat} {zt : Int32} {zp : Nat} {zm : Int32} (h : (zb, zt, zp, zm) = mNext f n a m) : gNx f n (a, t, p, m, w, ct) = (zb, zt, zp, zm, w, ct) := by
  unfold gNx
  show ((mNext f n a m).1, (mNext f n a m).2.1, (mNext f n a m).2.2.1, (mNext f n a m).2.2.2, w, ct) = _
  rw [← h]
theorem gWr_of {c : Int32} {a : Nat} {t : Int32} {p : Nat} {m : Int32} {w : Nat} {ct : Nat → Int32} {zw : Nat} {yct : Nat → Int32} (h : (zw, yct) = gWc c w ct) : gWr c (a, t, p, m, w, ct) = (a, t, p, m, zw, yct) := by
  unfold gWr
  show (a, t, p, m, (gWc c w ct).1, (gWc c w ct).2) = _
  rw [← h]
theorem nx_le9 {f : Nat → Int32} {n a : Nat} {m : Int32} {zb : Nat} {zt : Int32} {zp : Nat} {zm : Int32} (h : (zb, zt, zp, zm) = mNext f n a m) (ha : a ≤ n) : zb ≤ n ∧ zp ≤ n := by
  have e := mNext_le f n a m ha
  rw [← h] at e
  exact e
noncomputable def gBind {α : Type} (x : Bool × α) (k : α → Bool × α) : Bool × α := if x.1 = true then k x.2 else x
theorem gBind_t {α : Type} {x : Bool × α} {u : α} {k : α → Bool × α} (h : x = (true, u)) : gBind x k = k u := by subst h; rfl
theorem gBind_f {α : Type} {x : Bool × α} {u : α} {k : α → Bool × α} (h : x = (false, u)) : gBind x k = (false, u) := by subst h; rfl
def gRes {α : Type} (r : Int32) (u : α) (R : Bool × α) : Prop := (R = (true, u) ∧ r = 1) ∨ (R = (false, u) ∧ r = 0)
theorem gRes_t {α : Type} {r : Int32} {u : α} {R : Bool × α} (h : gRes r u R) (c : ¬ r = 0) : R = (true, u) := h.elim (fun z => z.1) (fun z => absurd z.2 c)
theorem gRes_f {α : Type} {r : Int32} {u : α} {R : Bool × α} (h : gRes r u R) (c : r = 0) : R = (false, u) := h.elim (fun z => absurd (z.2.symm.trans c) (by decide +kernel)) (fun z => z.1)
noncomputable def gLp (f : Nat → Int32) (n : Nat) (q : Int32 → Bool) (k : gT → Bool × gT) : Nat → gT → Bool × gT
  | 0, s => (true, s)
  | i + 1, s => if q s.2.1 = true then gBind (k (gNx f n s)) (fun u => gLp f n q k i (gWr (20000 + s.2.1) u)) else (true, s)
theorem gLp_stop {f : Nat → Int32} {n : Nat} {q : Int32 → Bool} {k : gT → Bool × gT} {i : Nat} {s : gT} (h : q s.2.1 = false) : gLp f n q k i s = (true, s) := by
  cases i with
  | zero => rfl
  | succ i => rw [gLp, if_neg (by rw [h]; decide)]
theorem gLp_fail {f : Nat → Int32} {n : Nat} {q : Int32 → Bool} {k : gT → Bool × gT} {i : Nat} {s u : gT} (h : q s.2.1 = true) (hk : k (gNx f n s) = (false, u)) : gLp f n q k (i + 1) s = (false, u) := by rw [gLp, if_pos h, gBind_f hk]
theorem gLp_go {f : Nat → Int32} {n : Nat} {q : Int32 → Bool} {k : gT → Bool × gT} {i : Nat} {s u v : gT} {c : Int32} (h : q s.2.1 = true) (hk : k (gNx f n s) = (true, u)) (hc : 20000 + s.2.1 = c) (hw : gWr c u = v) : gLp f n q k (i + 1) s = gLp f n q k i v := by
  rw [gLp, if_pos h, gBind_t hk, hc, hw]
abbrev gF1 : Type := gT → Bool × gT
abbrev gD : Type := Option (gF1 × gF1 × gF1)
noncomputable def gOneB (f : Nat → Int32) (n : Nat) (D : gD) (s : gT) : Bool × gT :=
  if s.2.1 = 2 then (true, gNx f n (gWr s.2.2.2.1 s))
  else if s.2.1 = 3 then (true, gNx f n (gWr (10000 + s.2.2.2.1) s))
  else match D with
    | none => (false, s)
    | some d => if s.2.1 = 45 then gBind (d.1 (gNx f n s)) (fun u => (true, gWr 20106 u))
      else if s.2.1 = 40 then gBind (d.2.2 (gNx f n s)) (fun u => if u.2.1 = 41 then (true, gNx f n u) else (false, u))
      else (false, s)
noncomputable def gTermB (f : Nat → Int32) (n : Nat) (D : gD) (s : gT) : Bool × gT := gBind (gOneB f n D s) (gLp f n (fun t => decide (t = 42)) (gOneB f n D) 160)
noncomputable def gSumB (f : Nat → Int32) (n : Nat) (D : gD) (s : gT) : Bool × gT := gBind (gTermB f n D s) (gLp f n (fun t => decide (t = 43 ∨ t = 45)) (gTermB f n D) 160)
noncomputable def gNotB (f : Nat → Int32) (n : Nat) (D : gD) (s : gT) : Bool × gT :=
  if s.2.1 = 105 then (match D with
    | none => (false, s)
    | some d => gBind (d.2.1 (gNx f n s)) (fun u => (true, gWr 20105 u)))
  else gBind (gSumB f n D s) (fun u => if u.2.1 = 60 ∨ u.2.1 = 61 then gBind (gSumB f n D (gNx f n u)) (fun v => (true, gWr (20000 + u.2.1) v)) else (true, u))
noncomputable def gAndB (f : Nat → Int32) (n : Nat) (D : gD) (s : gT) : Bool × gT := gBind (gNotB f n D s) (gLp f n (fun t => decide (t = 104)) (gNotB f n D) 160)
noncomputable def gOrB (f : Nat → Int32) (n : Nat) (D : gD) (s : gT) : Bool × gT := gBind (gAndB f n D s) (gLp f n (fun t => decide (t = 103)) (gAndB f n D) 160)
noncomputable def gLv (f : Nat → Int32) (n : Nat) : Nat → gD
  | 0 => none
  | d + 1 => some (gOneB f n (gLv f n d), gNotB f n (gLv f n d), gOrB f n (gLv f n d))
section
variable {f : Nat → Int32} {n : Nat} {D : gD} {d : gF1 × gF1 × gF1} {s u v x : gT}
theorem gOne_num (h : s.2.1 = 2) (hw : gWr s.2.2.2.1 s = u) (hn : gNx f n u = v) : gOneB f n D s = (true, v) := by rw [gOneB.eq_def, if_pos h, hw, hn]
theorem gOne_nam (h1 : ¬ s.2.1 = 2) (h : s.2.1 = 3) (hw : gWr (10000 + s.2.2.2.1) s = u) (hn : gNx f n u = v) : gOneB f n D s = (true, v) := by rw [gOneB.eq_def, if_neg h1, if_pos h, hw, hn]
theorem gOne_none (h1 : ¬ s.2.1 = 2) (h2 : ¬ s.2.1 = 3) : gOneB f n none s = (false, s) := by rw [gOneB, if_neg h1, if_neg h2]
theorem gOne_no (h1 : ¬ s.2.1 = 2) (h2 : ¬ s.2.1 = 3) (h3 : ¬ s.2.1 = 45) (h4 : ¬ s.2.1 = 40) : gOneB f n D s = (false, s) := by
  rw [gOneB.eq_def, if_neg h1, if_neg h2]
  cases D with
  | none => rfl
  | some d => show (if s.2.1 = 45 then _ else if s.2.1 = 40 then _ else (false, s)) = (false, s); rw [if_neg h3, if_neg h4]
theorem gOne_m (h3 : s.2.1 = 45) : gOneB f n (some d) s = gBind (d.1 (gNx f n s)) (fun u => (true, gWr 20106 u)) := by
  rw [gOneB, if_neg (by rw [h3]; decide), if_neg (by rw [h3]; decide)]
  show (if s.2.1 = 45 then _ else _) = _
  rw [if_pos h3]
theorem gOne_mf (h3 : s.2.1 = 45) (hk : d.1 (gNx f n s) = (false, u)) : gOneB f n (some d) s = (false, u) := by rw [gOne_m h3, gBind_f hk]
theorem gOne_mt (h3 : s.2.1 = 45) (hk : d.1 (gNx f n s) = (true, u)) (hw : gWr 20106 u = v) : gOneB f n (some d) s = (true, v) := by rw [gOne_m h3, gBind_t hk, hw]
theorem gOne_p (h3 : s.2.1 = 40) : gOneB f n (some d) s = gBind (d.2.2 (gNx f n s)) (fun u => if u.2.1 = 41 then (true, gNx f n u) else (false, u)) := by
  rw [gOneB, if_neg (by rw [h3]; decide), if_neg (by rw [h3]; decide)]
  show (if s.2.1 = 45 then _ else if s.2.1 = 40 then _ else _) = _
  rw [if_neg (by rw [h3]; decide), if_pos h3]
theorem gOne_pf (h3 : s.2.1 = 40) (hk : d.2.2 (gNx f n s) = (false, u)) : gOneB f n (some d) s = (false, u) := by rw [gOne_p h3, gBind_f hk]
theorem gOne_pn (h3 : s.2.1 = 40) (hk : d.2.2 (gNx f n s) = (true, u)) (h4 : ¬ u.2.1 = 41) : gOneB f n (some d) s = (false, u) := by rw [gOne_p h3, gBind_t hk, if_neg h4]
theorem gOne_pt (h3 : s.2.1 = 40) (hk : d.2.2 (gNx f n s) = (true, u)) (h4 : u.2.1 = 41) (hn : gNx f n u = v) : gOneB f n (some d) s = (true, v) := by rw [gOne_p h3, gBind_t hk, if_pos h4, hn]
theorem gNot_none (h : s.2.1 = 105) : gNotB f n none s = (false, s) := by rw [gNotB, if_pos h]
theorem gNot_n (h : s.2.1 = 105) : gNotB f n (some d) s = gBind (d.2.1 (gNx f n s)) (fun u => (true, gWr 20105 u)) := by rw [gNotB, if_pos h]
theorem gNot_f (h : s.2.1 = 105) (hk : d.2.1 (gNx f n s) = (false, u)) : gNotB f n (some d) s = (false, u) := by rw [gNot_n h, gBind_f hk]
theorem gNot_t (h : s.2.1 = 105) (hk : d.2.1 (gNx f n s) = (true, u)) (hw : gWr 20105 u = v) : gNotB f n (some d) s = (true, v) := by rw [gNot_n h, gBind_t hk, hw]
theorem gNot_s (h : ¬ s.2.1 = 105) (hk : gSumB f n D s = (false, u)) : gNotB f n D s = (false, u) := by rw [gNotB.eq_def, if_neg h, gBind_f hk]
theorem gNot_1 (h : ¬ s.2.1 = 105) (hk : gSumB f n D s = (true, u)) (h1 : ¬ u.2.1 = 60) (h2 : ¬ u.2.1 = 61) : gNotB f n D s = (true, u) := by rw [gNotB.eq_def, if_neg h, gBind_t hk, if_neg (fun z => z.elim h1 h2)]
theorem gNot_2f (h : ¬ s.2.1 = 105) (hk : gSumB f n D s = (true, u)) (h1 : u.2.1 = 60 ∨ u.2.1 = 61) (hk2 : gSumB f n D (gNx f n u) = (false, v)) : gNotB f n D s = (false, v) := by rw [gNotB.eq_def, if_neg h, gBind_t hk, if_pos h1, gBind_f hk2]
theorem gNot_2 (h : ¬ s.2.1 = 105) (hk : gSumB f n D s = (true, u)) (h1 : u.2.1 = 60 ∨ u.2.1 = 61) (hk2 : gSumB f n D (gNx f n u) = (true, v)) (hw : gWr (20000 + u.2.1) v = x) : gNotB f n D s = (true, x) := by rw [gNotB.eq_def, if_neg h, gBind_t hk, if_pos h1, gBind_t hk2, hw]
end
abbrev gTE : Type := gT × (Nat → Nat)
noncomputable def gPe (f : Nat → Int32) (n pt : Nat) (e : Nat → Nat) (R : Bool × gT) : Bool × gTE := if R.1 = true ∧ R.2.2.1 = 59 then (true, (gNx f n R.2, updN e pt R.2.2.2.2.2.1)) else (false, (R.2, e))
noncomputable def gPt (f : Nat → Int32) (n pt : Nat) (x : gTE) : Bool × gTE := if x.1.2.1 = nI (100 + pt) then gPe f n pt x.2 (gOrB f n (gLv f n 5) (gNx f n x.1)) else (false, x)
theorem gPt_no {f : Nat → Int32} {n pt : Nat} {x : gTE} (h : ¬ x.1.2.1 = nI (100 + pt)) : gPt f n pt x = (false, x) := by rw [gPt, if_neg h]
theorem gPt_f {f : Nat → Int32} {n pt : Nat} {x : gTE} {u : gT} (h : x.1.2.1 = nI (100 + pt)) (hk : gOrB f n (gLv f n 5) (gNx f n x.1) = (false, u)) : gPt f n pt x = (false, (u, x.2)) := by
  rw [gPt, if_pos h, hk]
  unfold gPe
  exact if_neg (fun z => Bool.noConfusion z.1)
theorem gPt_n {f : Nat → Int32} {n pt : Nat} {x : gTE} {u : gT} (h : x.1.2.1 = nI (100 + pt)) (hk : gOrB f n (gLv f n 5) (gNx f n x.1) = (true, u)) (h5 : ¬ u.2.1 = 59) : gPt f n pt x = (false, (u, x.2)) := by
  rw [gPt, if_pos h, hk]
  unfold gPe
  exact if_neg (fun z => h5 z.2)
theorem gPt_t {f : Nat → Int32} {n pt : Nat} {x : gTE} {u v : gT} (h : x.1.2.1 = nI (100 + pt)) (hk : gOrB f n (gLv f n 5) (gNx f n x.1) = (true, u)) (h5 : u.2.1 = 59) (hn : gNx f n u = v) : gPt f n pt x = (true, (v, updN x.2 pt u.2.2.2.2.1)) := by
  subst hn
  rw [gPt, if_pos h, hk]
  unfold gPe
  exact if_pos ⟨rfl, h5⟩
noncomputable def gParts (f : Nat → Int32) (n : Nat) (x : gTE) : Bool × gTE := gBind (gPt f n 0 (gNx f n x.1, x.2)) (fun x => gBind (gPt f n 1 x) (fun y => gBind (gPt f n 2 y) (fun z => (decide (z.1.2.1 = 0), z))))
def gRead (f : Nat → Int32) (n tx : Nat) (x : gTE) (r : Int32) (tx1 : Nat) (y : gTE) : Prop := (gParts f n x = (true, y) ∧ r = nI tx ∧ tx1 = tx + 1) ∨ (gParts f n x = (false, y) ∧ r = -100 - nI y.1.2.2.1 ∧ tx1 = tx)
theorem gParts_f0 {f : Nat → Int32} {n : Nat} {s : gT} {e : Nat → Nat} {x : gTE} (h0 : gPt f n 0 (gNx f n s, e) = (false, x)) : gParts f n (s, e) = (false, x) := gBind_f h0
theorem gParts_1 {f : Nat → Int32} {n : Nat} {s : gT} {e : Nat → Nat} {x : gTE} (h0 : gPt f n 0 (gNx f n s, e) = (true, x)) : gParts f n (s, e) = gBind (gPt f n 1 x) (fun y => gBind (gPt f n 2 y) (fun z => (decide (z.1.2.1 = 0), z))) := gBind_t h0
theorem gParts_f1 {f : Nat → Int32} {n : Nat} {s : gT} {e : Nat → Nat} {x y : gTE} (h0 : gPt f n 0 (gNx f n s, e) = (true, x)) (h1 : gPt f n 1 x = (false, y)) : gParts f n (s, e) = (false, y) := (gParts_1 h0).trans (gBind_f h1)
theorem gParts_2 {f : Nat → Int32} {n : Nat} {s : gT} {e : Nat → Nat} {x y : gTE} (h0 : gPt f n 0 (gNx f n s, e) = (true, x)) (h1 : gPt f n 1 x = (true, y)) : gParts f n (s, e) = gBind (gPt f n 2 y) (fun z => (decide (z.1.2.1 = 0), z)) := (gParts_1 h0).trans (gBind_t h1)
theorem gParts_f2 {f : Nat → Int32} {n : Nat} {s : gT} {e : Nat → Nat} {x y z : gTE} (h0 : gPt f n 0 (gNx f n s, e) = (true, x)) (h1 : gPt f n 1 x = (true, y)) (h2 : gPt f n 2 y = (false, z)) : gParts f n (s, e) = (false, z) := (gParts_2 h0 h1).trans (gBind_f h2)
theorem gParts_3 {f : Nat → Int32} {n : Nat} {s : gT} {e : Nat → Nat} {x y z : gTE} (h0 : gPt f n 0 (gNx f n s, e) = (true, x)) (h1 : gPt f n 1 x = (true, y)) (h2 : gPt f n 2 y = (true, z)) : gParts f n (s, e) = (decide (z.1.2.1 = 0), z) := (gParts_2 h0 h1).trans (gBind_t h2)
abbrev q_X3_write_g (G : gG) (t0 co en sk ct : Nat) (fc : Nat → Option Nat) (fct : Nat → Int32) (w0 : Nat) (tx : Nat) (v : Int32) (A : Nat → Prop) : Array Value → State → Outcome → State → Prop := va_Qv (fun (u : Nat × (Nat → Int32)) => match u with | (zw, yct) => (zw, yct) = gWc v w0 fct ∧ zw ≤ 160) (fun (u : Nat × (Nat → Int32)) t => match u with | (zw, yct) => va_P G.1 vwCl [zo3 t0 co en sk (nI zw) (nI tx), zr G co 6 fc, zi G ct 160 yct] t.heap ∧ gK G t ∧ va_D A [zo3 t0 co en sk (nI zw) (nI tx), zr G co 6 fc, zi G ct 160 yct]) A
set_option maxHeartbeats 4000000 in
set_option maxRecDepth 100000 in
theorem c_X3_write_g (l : Launch) (G : gG) (t0 co en sk ct : Nat) (fc : Nat → Option Nat) (fct : Nat → Int32) (w0 : Nat) (tx : Nat) (v : Int32) (sz : Nat) (hw0 : w0 ≤ 160) (htx : tx < 6) (hc : fc tx = some ct) : Met l yX3_write wsX3_write ({ frames := 0, cells := 0, slots := 0, locals := 0 }) (gPre G [.ref t0, .int v] [zo3 t0 co en sk (nI w0) (nI tx), zr G co 6 fc, zi G ct 160 fct] sz) (q_X3_write_g G t0 co en sk ct fc fct w0 tx v (va_A [zo3 t0 co en sk (nI w0) (nI tx), zr G co 6 fc, zi G ct 160 fct] sz)) 0 0 (va_A [zo3 t0 co en sk (nI w0) (nI tx), zr G co 6 fc, zi G ct 160 fct] sz) := by
  refine Met.ofW (cc := cX3_write) (maxL := 2) (ret := none) (by decide +kernel) rfl ?_
  intro p e s m args below meth c s₁ B hml hv
  obtain ⟨rfl, hsz, hP, hK, hD0⟩ := hv
  have hx := B.exec
  have hb := B.bytes
  have hr := B.returns
  have hts := atoms_spec (ws := wsX3_write) B.pre
  have hown : s.vm.findClass RX3 = some m.cls := findClass_of_methodNamed B.named
  have hlocks := B.notSynchronized
  subst hsz
  have hD := hD0.self (sz := s.heap.size)
  generalize hAe : va_A [zo3 t0 co en sk (nI w0) (nI tx), zr G co 6 fc, zi G ct 160 fct] s.heap.size = A at hD ⊢
  have hA : ∀ q : Nat, s.heap.size ≤ q → A q := fun q h => by rw [← hAe]; exact Or.inr h
  have hS : va_S A s.heap s.heap [] := va_S.rf
  have hz9 : gPD G A [zo3 t0 co en sk (nI w0) (nI tx), zr G co 6 fc, zi G ct 160 fct] s.heap := ⟨hP, hD⟩
  have hP := hz9.1
  have hD := hz9.2
  have hl := lv_entry ([.ref t0, .int v]) (n := 2) (Nat.le_of_ble_eq_true rfl)
  rw [lg_entry_eq]
  generalize (lg_sl ([.ref t0, .int v]) ++ List.replicate (2 - (lg_sl ([.ref t0, .int v])).length) Slot.unset).toArray = ls at hl ⊢
  have hl : lv_has ls 2 [zR 0 t0, zI 1 v] := hl
  have kf27 := hts (.fieldLink RX3 27 "PebbleInShoe$Texts" "number" "I") (by decide +kernel)
  have hiX3 := (by decide +kernel : ∀ w ∈ wsX30, w ∈ wsX3_write)
  have kf23 := hts (.fieldLink RX3 23 "PebbleInShoe$Texts" "written" "I") (by decide +kernel)
  have kf11 := hts (.fieldLink RX3 11 "PebbleInShoe$Texts" "codes" "[[I") (by decide +kernel)
  refine g_aget (D := G.1) (ci := 3) (v := .int (nI tx)) (C := RX3) (T := TX3) (N := 5) hx hb dX3_write_0 rfl (lv_at hl 0 rfl) hts hiX3 hown hK hP 0 rfl rfl 4 (by decide +kernel) kf27 (fun _ h9 => h9) rfl dX3_write_1 ?_
  refine lv_bipush (v := 6) hx hb dX3_write_4 (by decide +kernel) ?_
  refine lv_icmp_ge (tgt := 44) hx hb dX3_write_6 (by decide +kernel) (fun c_1 => ?_) (fun c_1 => ?_)
  · exact absurd c_1 (fun z => absurd (nI_le1 (a := 6) (b := tx) (by omega) (by omega) z) (by omega))
  refine g_aget (D := G.1) (ci := 3) (v := .int (nI w0)) (C := RX3) (T := TX3) (N := 5) hx hb dX3_write_9 rfl (lv_at hl 0 rfl) hts hiX3 hown hK hP 0 rfl rfl 3 (by decide +kernel) kf23 (fun _ h9 => h9) rfl dX3_write_10 ?_
  refine lv_sipush (v := 160) hx hb dX3_write_13 (by decide +kernel) ?_
  refine lv_icmp_ge (tgt := 44) hx hb dX3_write_16 (by decide +kernel) (fun c_2 => ?_) (fun c_2 => ?_)
  · skip
    have c_2N : 160 ≤ w0 := nI_le1 (a := 160) (b := w0) (by omega) (by omega) c_2
    have hpost : (fun (u : Nat × (Nat → Int32)) => match u with | (zw, yct) => (zw, yct) = gWc v w0 fct ∧ zw ≤ 160) (w0, fct) := by refine ⟨?_, hw0⟩; rw [gWc, if_neg (by omega)]
    exact W.vret hx hb hr (fun t ht hW => ⟨⟨(w0, fct), rfl, hpost, by rw [ht]; exact hP, va_K.moved hW.alike hK, hD⟩, hS.F ht⟩) hS.2.2 dX3_write_44
  · skip
    have c_2N : w0 < 160 := nI_le0 (a := 160) (b := w0) (by omega) (by omega) c_2
    refine g_aget (D := G.1) (ci := 3) (v := .ref co) (C := RX3) (T := TX3) (N := 5) hx hb dX3_write_19 rfl (lv_at hl 0 rfl) hts hiX3 hown hK hP 0 rfl rfl 0 (by decide +kernel) kf11 (fun _ h9 => h9) rfl dX3_write_20 ?_
    refine g_aget (D := G.1) (ci := 3) (v := .int (nI tx)) (C := RX3) (T := TX3) (N := 5) hx hb dX3_write_23 rfl (lv_at hl 0 rfl) hts hiX3 hown hK hP 0 rfl rfl 4 (by decide +kernel) kf27 (fun _ h9 => h9) rfl dX3_write_24 ?_
    refine g_aald (x := ct) hx hb hK hP 1 2 rfl rfl (i := (nI tx)) (vpn (by omega) rfl) (by rw [nI_clamp (by omega)]; exact hc) dX3_write_27 ?_
    refine g_aget (D := G.1) (ci := 3) (v := .int (nI w0)) (C := RX3) (T := TX3) (N := 5) hx hb dX3_write_28 rfl (lv_at hl 0 rfl) hts hiX3 hown hK hP 0 rfl rfl 3 (by decide +kernel) kf23 (fun _ h9 => h9) rfl dX3_write_29 ?_
    refine lv_iload_n hx hb dX3_write_32 rfl (lv_at hl 1 rfl) ?_
    refine g_iast (D := G.1) hx hb hK hP hD hS 2 0 rfl rfl (k := w0) (x := v) (by omega) rfl dX3_write_33 (fun H locs hP hD hS => ?_)
    have hz9 : gPD G A [zo3 t0 co en sk (nI w0) (nI tx), zr G co 6 fc, zi G ct 160 (upd fct w0 v)] H := ⟨hP, hD⟩
    have hP := hz9.1
    have hD := hz9.2
    refine lv_aload_n hx hb dX3_write_34 rfl (lv_at hl 0 rfl) ?_
    refine lv_dup hx hb dX3_write_35 rfl ?_
    refine va_get (D := G.1) (ci := 3) (v := .int (nI w0)) (C := RX3) (T := TX3) (N := 5) hx hb hts hiX3 hown hK hP 0 rfl rfl 3 (by decide +kernel) kf23 (fun _ h9 => h9) rfl dX3_write_36 ?_
    refine lv_iconst (v := 1) hx hb dX3_write_39 (by decide +kernel) ?_
    refine lv_iadd hx hb dX3_write_40 ?_
    refine g_topi (y := nI (w0 + 1)) (nI_add w0 1) ?_
    refine va_put (D := G.1) (ci := 3) (v := .int (nI (w0 + 1))) (ty := .int) (C := RX3) (T := TX3) (N := 5) hx hb hts hiX3 tyX3 tyX3_ok nmX3 hown hK hP hD hS 0 rfl rfl 3 (by decide +kernel) kf23 (fun _ h9 => h9) rfl (by decide +kernel) rfl rfl (Nat.le_of_ble_eq_true rfl) dX3_write_41 (fun H locs hP hD hS => ?_)
    have hz9 : gPD G A [zo3 t0 co en sk (nI (w0 + 1)) (nI tx), zr G co 6 fc, zi G ct 160 (upd fct w0 v)] H := ⟨hP, hD⟩
    have hP := hz9.1
    have hD := hz9.2
    have hpost : (fun (u : Nat × (Nat → Int32)) => match u with | (zw, yct) => (zw, yct) = gWc v w0 fct ∧ zw ≤ 160) ((w0 + 1), upd fct w0 v) := by refine ⟨?_, by omega⟩; rw [gWc, if_pos (by omega)]
    exact W.vret hx hb hr (fun t ht hW => ⟨⟨((w0 + 1), upd fct w0 v), rfl, hpost, by rw [ht]; exact hP, va_K.moved hW.alike hK, hD⟩, hS.F ht⟩) hS.2.2 dX3_write_44
abbrev q_X3_endPart_g (G : gG) (t0 co en sk et : Nat) (fe : Nat → Option Nat) (fet : Nat → Nat) (w0 : Nat) (tx : Nat) (pt : Nat) (A : Nat → Prop) : Array Value → State → Outcome → State → Prop := va_Qv (fun (u : Unit) => match u with | _ => True) (fun (u : Unit) t => match u with | _ => va_P G.1 vwCl [zo3 t0 co en sk (nI w0) (nI tx), zr G en 6 fe, zi G et 3 (nF (updN fet pt w0))] t.heap ∧ gK G t ∧ va_D A [zo3 t0 co en sk (nI w0) (nI tx), zr G en 6 fe, zi G et 3 (nF (updN fet pt w0))]) A
set_option maxHeartbeats 4000000 in
set_option maxRecDepth 100000 in
theorem c_X3_endPart_g (l : Launch) (G : gG) (t0 co en sk et : Nat) (fe : Nat → Option Nat) (fet : Nat → Nat) (w0 : Nat) (tx : Nat) (pt : Nat) (sz : Nat) (htx : tx < 6) (he : fe tx = some et) (hpt : pt < 3) : Met l yX3_endPart wsX3_endPart ({ frames := 0, cells := 0, slots := 0, locals := 0 }) (gPre G [.ref t0, .int (nI pt)] [zo3 t0 co en sk (nI w0) (nI tx), zr G en 6 fe, zi G et 3 (nF fet)] sz) (q_X3_endPart_g G t0 co en sk et fe fet w0 tx pt (va_A [zo3 t0 co en sk (nI w0) (nI tx), zr G en 6 fe, zi G et 3 (nF fet)] sz)) 0 0 (va_A [zo3 t0 co en sk (nI w0) (nI tx), zr G en 6 fe, zi G et 3 (nF fet)] sz) := by
  refine Met.ofW (cc := cX3_endPart) (maxL := 2) (ret := none) (by decide +kernel) rfl ?_
  intro p e s m args below meth c s₁ B hml hv
  obtain ⟨rfl, hsz, hP, hK, hD0⟩ := hv
  have hx := B.exec
  have hb := B.bytes
  have hr := B.returns
  have hts := atoms_spec (ws := wsX3_endPart) B.pre
  have hown : s.vm.findClass RX3 = some m.cls := findClass_of_methodNamed B.named
  have hlocks := B.notSynchronized
  subst hsz
  have hD := hD0.self (sz := s.heap.size)
  generalize hAe : va_A [zo3 t0 co en sk (nI w0) (nI tx), zr G en 6 fe, zi G et 3 (nF fet)] s.heap.size = A at hD ⊢
  have hA : ∀ q : Nat, s.heap.size ≤ q → A q := fun q h => by rw [← hAe]; exact Or.inr h
  have hS : va_S A s.heap s.heap [] := va_S.rf
  have hz9 : gPD G A [zo3 t0 co en sk (nI w0) (nI tx), zr G en 6 fe, zi G et 3 (nF fet)] s.heap := ⟨hP, hD⟩
  have hP := hz9.1
  have hD := hz9.2
  have hl := lv_entry ([.ref t0, .int (nI pt)]) (n := 2) (Nat.le_of_ble_eq_true rfl)
  rw [lg_entry_eq]
  generalize (lg_sl ([.ref t0, .int (nI pt)]) ++ List.replicate (2 - (lg_sl ([.ref t0, .int (nI pt)])).length) Slot.unset).toArray = ls at hl ⊢
  have hl : lv_has ls 2 [zR 0 t0, zI 1 (nI pt)] := hl
  have kf27 := hts (.fieldLink RX3 27 "PebbleInShoe$Texts" "number" "I") (by decide +kernel)
  have hiX3 := (by decide +kernel : ∀ w ∈ wsX30, w ∈ wsX3_endPart)
  have kf16 := hts (.fieldLink RX3 16 "PebbleInShoe$Texts" "ends" "[[I") (by decide +kernel)
  have kf23 := hts (.fieldLink RX3 23 "PebbleInShoe$Texts" "written" "I") (by decide +kernel)
  refine g_aget (D := G.1) (ci := 3) (v := .int (nI tx)) (C := RX3) (T := TX3) (N := 5) hx hb dX3_endPart_0 rfl (lv_at hl 0 rfl) hts hiX3 hown hK hP 0 rfl rfl 4 (by decide +kernel) kf27 (fun _ h9 => h9) rfl dX3_endPart_1 ?_
  refine lv_bipush (v := 6) hx hb dX3_endPart_4 (by decide +kernel) ?_
  refine lv_icmp_ge (tgt := 24) hx hb dX3_endPart_6 (by decide +kernel) (fun c_1 => ?_) (fun c_1 => ?_)
  · exact absurd c_1 (fun z => absurd (nI_le1 (a := 6) (b := tx) (by omega) (by omega) z) (by omega))
  refine g_aget (D := G.1) (ci := 3) (v := .ref en) (C := RX3) (T := TX3) (N := 5) hx hb dX3_endPart_9 rfl (lv_at hl 0 rfl) hts hiX3 hown hK hP 0 rfl rfl 1 (by decide +kernel) kf16 (fun _ h9 => h9) rfl dX3_endPart_10 ?_
  refine g_aget (D := G.1) (ci := 3) (v := .int (nI tx)) (C := RX3) (T := TX3) (N := 5) hx hb dX3_endPart_13 rfl (lv_at hl 0 rfl) hts hiX3 hown hK hP 0 rfl rfl 4 (by decide +kernel) kf27 (fun _ h9 => h9) rfl dX3_endPart_14 ?_
  refine g_aald (x := et) hx hb hK hP 1 2 rfl rfl (i := (nI tx)) (vpn (by omega) rfl) (by rw [nI_clamp (by omega)]; exact he) dX3_endPart_17 ?_
  refine lv_iload_n hx hb dX3_endPart_18 rfl (lv_at hl 1 rfl) ?_
  refine g_aget (D := G.1) (ci := 3) (v := .int (nI w0)) (C := RX3) (T := TX3) (N := 5) hx hb dX3_endPart_19 rfl (lv_at hl 0 rfl) hts hiX3 hown hK hP 0 rfl rfl 3 (by decide +kernel) kf23 (fun _ h9 => h9) rfl dX3_endPart_20 ?_
  refine va_iast (D := G.1) hx hb hK hP hD hS 2 0 rfl rfl (i := (nI pt)) (x := (nI w0)) (vpn (by omega) rfl) dX3_endPart_23 (fun H locs hP hD hS => ?_)
  have hz9 : gPD G A [zo3 t0 co en sk (nI w0) (nI tx), zr G en 6 fe, zi G et 3 (nF (updN fet pt w0))] H := ⟨by rw [nI_clamp (by omega), show upd (nF fet) pt (nI w0) = nF (updN fet pt w0) from nF_upd] at hP; exact hP, by rw [nI_clamp (by omega), show upd (nF fet) pt (nI w0) = nF (updN fet pt w0) from nF_upd] at hD; exact hD⟩
  have hP := hz9.1
  have hD := hz9.2
  have hpost : (fun (u : Unit) => match u with | _ => True) () := by first | trivial | rfl
  exact W.vret hx hb hr (fun t ht hW => ⟨⟨(), rfl, hpost, by rw [ht]; exact hP, va_K.moved hW.alike hK, hD⟩, hS.F ht⟩) hS.2.2 dX3_endPart_24
abbrev q_X3_keep_g (G : gG) (t0 co en sk : Nat) (x8 : Int32) (tx : Nat) (A : Nat → Prop) : Array Value → State → Outcome → State → Prop := va_Qi (fun (r : Int32) (u : Unit) => match u with | _ => r = nI tx) (fun (u : Unit) t => match u with | _ => va_P G.1 vwCl [zo3 t0 co en sk x8 (nI (tx + 1))] t.heap ∧ gK G t ∧ va_D A [zo3 t0 co en sk x8 (nI (tx + 1))]) A
set_option maxHeartbeats 4000000 in
set_option maxRecDepth 100000 in
theorem c_X3_keep_g (l : Launch) (G : gG) (t0 co en sk : Nat) (x8 : Int32) (tx : Nat) (sz : Nat) (htx : tx < 6) : Met l yX3_keep wsX3_keep ({ frames := 0, cells := 0, slots := 0, locals := 0 }) (gPre G [.ref t0] [zo3 t0 co en sk x8 (nI tx)] sz) (q_X3_keep_g G t0 co en sk x8 tx (va_A [zo3 t0 co en sk x8 (nI tx)] sz)) 0 0 (va_A [zo3 t0 co en sk x8 (nI tx)] sz) := by
  refine Met.ofW (cc := cX3_keep) (maxL := 2) (ret := (some .int)) (by decide +kernel) rfl ?_
  intro p e s m args below meth c s₁ B hml hv
  obtain ⟨rfl, hsz, hP, hK, hD0⟩ := hv
  have hx := B.exec
  have hb := B.bytes
  have hr := B.returns
  have hts := atoms_spec (ws := wsX3_keep) B.pre
  have hown : s.vm.findClass RX3 = some m.cls := findClass_of_methodNamed B.named
  have hlocks := B.notSynchronized
  subst hsz
  have hD := hD0.self (sz := s.heap.size)
  generalize hAe : va_A [zo3 t0 co en sk x8 (nI tx)] s.heap.size = A at hD ⊢
  have hA : ∀ q : Nat, s.heap.size ≤ q → A q := fun q h => by rw [← hAe]; exact Or.inr h
  have hS : va_S A s.heap s.heap [] := va_S.rf
  have hz9 : gPD G A [zo3 t0 co en sk x8 (nI tx)] s.heap := ⟨hP, hD⟩
  have hP := hz9.1
  have hD := hz9.2
  have hl := lv_entry ([.ref t0]) (n := 2) (Nat.le_of_ble_eq_true rfl)
  rw [lg_entry_eq]
  generalize (lg_sl ([.ref t0]) ++ List.replicate (2 - (lg_sl ([.ref t0])).length) Slot.unset).toArray = ls at hl ⊢
  have hl : lv_has ls 2 [zR 0 t0] := hl
  have kf27 := hts (.fieldLink RX3 27 "PebbleInShoe$Texts" "number" "I") (by decide +kernel)
  have hiX3 := (by decide +kernel : ∀ w ∈ wsX30, w ∈ wsX3_keep)
  refine g_aget (D := G.1) (ci := 3) (v := .int (nI tx)) (C := RX3) (T := TX3) (N := 5) hx hb dX3_keep_0 rfl (lv_at hl 0 rfl) hts hiX3 hown hK hP 0 rfl rfl 4 (by decide +kernel) kf27 (fun _ h9 => h9) rfl dX3_keep_1 ?_
  refine lv_istore_n (lv' := [zI 1 (nI tx), zR 0 t0]) hx hb dX3_keep_4 rfl hl (by decide +kernel) rfl (fun ls hl => ?_)
  refine g_aget (D := G.1) (ci := 3) (v := .int (nI tx)) (C := RX3) (T := TX3) (N := 5) hx hb dX3_keep_5 rfl (lv_at hl 1 rfl) hts hiX3 hown hK hP 0 rfl rfl 4 (by decide +kernel) kf27 (fun _ h9 => h9) rfl dX3_keep_6 ?_
  refine lv_bipush (v := 6) hx hb dX3_keep_9 (by decide +kernel) ?_
  refine lv_icmp_ge (tgt := 24) hx hb dX3_keep_11 (by decide +kernel) (fun c_1 => ?_) (fun c_1 => ?_)
  · exact absurd c_1 (fun z => absurd (nI_le1 (a := 6) (b := tx) (by omega) (by omega) z) (by omega))
  refine lv_aload_n hx hb dX3_keep_14 rfl (lv_at hl 1 rfl) ?_
  refine lv_dup hx hb dX3_keep_15 rfl ?_
  refine va_get (D := G.1) (ci := 3) (v := .int (nI tx)) (C := RX3) (T := TX3) (N := 5) hx hb hts hiX3 hown hK hP 0 rfl rfl 4 (by decide +kernel) kf27 (fun _ h9 => h9) rfl dX3_keep_16 ?_
  refine lv_iconst (v := 1) hx hb dX3_keep_19 (by decide +kernel) ?_
  refine lv_iadd hx hb dX3_keep_20 ?_
  refine g_topi (y := nI (tx + 1)) (nI_add tx 1) ?_
  refine va_put (D := G.1) (ci := 3) (v := .int (nI (tx + 1))) (ty := .int) (C := RX3) (T := TX3) (N := 5) hx hb hts hiX3 tyX3 tyX3_ok nmX3 hown hK hP hD hS 0 rfl rfl 4 (by decide +kernel) kf27 (fun _ h9 => h9) rfl (by decide +kernel) rfl rfl (Nat.le_of_ble_eq_true rfl) dX3_keep_21 (fun H locs hP hD hS => ?_)
  have hz9 : gPD G A [zo3 t0 co en sk x8 (nI (tx + 1))] H := ⟨hP, hD⟩
  have hP := hz9.1
  have hD := hz9.2
  refine lv_iload_n hx hb dX3_keep_24 rfl (lv_at hl 0 rfl) ?_
  have hpost : (fun (r : Int32) (u : Unit) => match u with | _ => r = nI tx) (nI tx) () := by first | trivial | rfl
  exact W.iret (v := (nI tx)) hx hb hr (fun t ht hW => ⟨⟨(nI tx), (), rfl, hpost, by rw [ht]; exact hP, va_K.moved hW.alike hK, hD⟩, hS.F ht⟩) hS.2.2 dX3_keep_25
abbrev q_X3_begin_g (G : gG) (t0 co en sk : Nat) (x8 : Int32) (tx : Nat) (A : Nat → Prop) : Array Value → State → Outcome → State → Prop := va_Qv (fun (u : Unit) => match u with | _ => True) (fun (u : Unit) t => match u with | _ => va_P G.1 vwCl [zo3 t0 co en sk 0 (nI tx)] t.heap ∧ gK G t ∧ va_D A [zo3 t0 co en sk 0 (nI tx)]) A
set_option maxHeartbeats 4000000 in
set_option maxRecDepth 100000 in
theorem c_X3_begin_g (l : Launch) (G : gG) (t0 co en sk : Nat) (x8 : Int32) (tx : Nat) (sz : Nat) : Met l yX3_begin wsX3_begin ({ frames := 0, cells := 0, slots := 0, locals := 0 }) (gPre G [.ref t0] [zo3 t0 co en sk x8 (nI tx)] sz) (q_X3_begin_g G t0 co en sk x8 tx (va_A [zo3 t0 co en sk x8 (nI tx)] sz)) 0 0 (va_A [zo3 t0 co en sk x8 (nI tx)] sz) := by
  refine Met.ofW (cc := cX3_begin) (maxL := 1) (ret := none) (by decide +kernel) rfl ?_
  intro p e s m args below meth c s₁ B hml hv
  obtain ⟨rfl, hsz, hP, hK, hD0⟩ := hv
  have hx := B.exec
  have hb := B.bytes
  have hr := B.returns
  have hts := atoms_spec (ws := wsX3_begin) B.pre
  have hown : s.vm.findClass RX3 = some m.cls := findClass_of_methodNamed B.named
  have hlocks := B.notSynchronized
  subst hsz
  have hD := hD0.self (sz := s.heap.size)
  generalize hAe : va_A [zo3 t0 co en sk x8 (nI tx)] s.heap.size = A at hD ⊢
  have hA : ∀ q : Nat, s.heap.size ≤ q → A q := fun q h => by rw [← hAe]; exact Or.inr h
  have hS : va_S A s.heap s.heap [] := va_S.rf
  have hz9 : gPD G A [zo3 t0 co en sk x8 (nI tx)] s.heap := ⟨hP, hD⟩
  have hP := hz9.1
  have hD := hz9.2
  have hl := lv_entry ([.ref t0]) (n := 1) (Nat.le_of_ble_eq_true rfl)
  rw [lg_entry_eq]
  generalize (lg_sl ([.ref t0]) ++ List.replicate (1 - (lg_sl ([.ref t0])).length) Slot.unset).toArray = ls at hl ⊢
  have hl : lv_has ls 1 [zR 0 t0] := hl
  have kf23 := hts (.fieldLink RX3 23 "PebbleInShoe$Texts" "written" "I") (by decide +kernel)
  have hiX3 := (by decide +kernel : ∀ w ∈ wsX30, w ∈ wsX3_begin)
  refine lv_aload_n hx hb dX3_begin_0 rfl (lv_at hl 0 rfl) ?_
  refine lv_iconst (v := 0) hx hb dX3_begin_1 (by decide +kernel) ?_
  refine va_put (D := G.1) (ci := 3) (v := .int 0) (ty := .int) (C := RX3) (T := TX3) (N := 5) hx hb hts hiX3 tyX3 tyX3_ok nmX3 hown hK hP hD hS 0 rfl rfl 3 (by decide +kernel) kf23 (fun _ h9 => h9) rfl (by decide +kernel) rfl rfl (Nat.le_of_ble_eq_true rfl) dX3_begin_2 (fun H locs hP hD hS => ?_)
  have hz9 : gPD G A [zo3 t0 co en sk 0 (nI tx)] H := ⟨hP, hD⟩
  have hP := hz9.1
  have hD := hz9.2
  have hpost : (fun (u : Unit) => match u with | _ => True) () := by first | trivial | rfl
  exact W.vret hx hb hr (fun t ht hW => ⟨⟨(), rfl, hpost, by rw [ht]; exact hP, va_K.moved hW.alike hK, hD⟩, hS.F ht⟩) hS.2.2 dX3_begin_5
