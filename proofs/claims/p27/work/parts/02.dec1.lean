/-- an instruction and its length, at a place -/
abbrev zD (c : ByteArray) (pc : Nat) (i : Instr) (n : Nat) : Prop := decode c pc = .ok (i, n)
/-- the bytes from a place on -/
def zsuf (c : ByteArray) (p : Nat) (L : List UInt8) : Prop := c.data.toList.drop p = L
theorem zsuf_tl {c : ByteArray} {p : Nat} {b : UInt8} {L : List UInt8} (h : zsuf c p (b :: L)) : zsuf c (p + 1) L := by
  have h1 : c.data.toList.drop p = b :: L := h
  show c.data.toList.drop (p + 1) = L
  rw [← List.drop_drop, h1]
  try rfl
theorem zsuf_at {c : ByteArray} {p : Nat} {b : UInt8} {L : List UInt8} (h : zsuf c p (b :: L)) : ∃ hs : p < c.size, c[p]'hs = b := by
  have h1 : c.data.toList.drop p = b :: L := h
  have h2 : (c.data.toList.drop p)[0]? = some b := by rw [h1]; rfl
  rw [List.getElem?_drop] at h2
  obtain ⟨hs, e⟩ := List.getElem?_eq_some_iff.mp h2
  exact ⟨hs, e⟩
theorem zu1 {c : ByteArray} {p v : Nat} {b : UInt8} {L : List UInt8} (h : zsuf c p (b :: L)) (hv : b.toNat = v) : (Reader.u1 : Decoder Nat) c p = .ok (v, p + 1) := by
  obtain ⟨hs, e⟩ := zsuf_at h
  have e1 : (Reader.u1 : Decoder Nat) c p = (dite (p < c.size) (fun h => (set (p + 1) >>= fun _ => pure ((c[p]'h).toNat) : Decoder Nat)) (fun _ => throw (HasTruncated.truncated p))) c p := rfl
  rw [e1, dif_pos hs]
  show Except.ok ((c[p]'hs).toNat, p + 1) = _
  rw [e, hv]
theorem zbd {α β : Type} {r : Decoder α} {f : α → Decoder β} {c : ByteArray} {p q : Nat} {a : α} (h : r c p = .ok (a, q)) : (r >>= f) c p = f a c q := by
  show Except.bind (r c p) (fun x => f x.1 c x.2) = _
  rw [h]
  try rfl
theorem zu2 {c : ByteArray} {p v : Nat} {a b : UInt8} {L : List UInt8} (h : zsuf c p (a :: b :: L)) (hv : a.toNat * 256 + b.toNat = v) : (Reader.u2 : Decoder Nat) c p = .ok (v, p + 2) := by
  have e : (Reader.u2 : Decoder Nat) c p = .ok (a.toNat * 256 + b.toNat, p + 2) := Eq.trans (zbd (zu1 h rfl)) (Eq.trans (zbd (zu1 (zsuf_tl h) rfl)) rfl)
  rw [e, hv]
theorem zs1 {c : ByteArray} {p : Nat} {v : Int} {b : UInt8} {L : List UInt8} (h : zsuf c p (b :: L)) (hv : Reader.signed 8 b.toNat = v) : (Reader.s1 : Decoder Int) c p = .ok (v, p + 1) := by
  show Except.bind ((Reader.u1 : Decoder Nat) c p) (fun x => Except.ok (Reader.signed 8 x.1, x.2)) = _
  rw [zu1 h rfl]
  show Except.ok (Reader.signed 8 b.toNat, p + 1) = _
  rw [hv]
theorem zs2 {c : ByteArray} {p : Nat} {v : Int} {a b : UInt8} {L : List UInt8} (h : zsuf c p (a :: b :: L)) (hv : Reader.signed 16 (a.toNat * 256 + b.toNat) = v) : (Reader.s2 : Decoder Int) c p = .ok (v, p + 2) := by
  show Except.bind ((Reader.u2 : Decoder Nat) c p) (fun x => Except.ok (Reader.signed 16 x.1, x.2)) = _
  rw [zu2 h rfl]
  show Except.ok (Reader.signed 16 (a.toNat * 256 + b.toNat), p + 2) = _
  rw [hv]
theorem zfin {c : ByteArray} {p n q : Nat} {i : Instr} {L : List UInt8} (hq : p + n = q) (h : Decoder.instr p c p = .ok (i, p + n)) (hs : zsuf c (p + n) L) : zD c p i n ∧ zsuf c q L := by
  subst hq
  refine ⟨?_, hs⟩
  show Except.bind (Decoder.instr p c p) (fun x => Except.ok (x.1, x.2 - p)) = _
  rw [h]
  show Except.ok (i, p + n - p) = _
  rw [Nat.add_sub_cancel_left]
theorem zskip {c : ByteArray} {p q : Nat} {L : List UInt8} (h : zsuf c p L) (n : Nat) (hq : p + n = q) : zsuf c q (L.drop n) := by
  subst hq
  have h1 : c.data.toList.drop p = L := h
  show c.data.toList.drop (p + n) = L.drop n
  rw [← List.drop_drop, h1]
theorem zs_dX0_init_0 : zsuf cX0_init 0 cX0_init.data.toList := rfl
theorem zo_42 {c : ByteArray} {p q : Nat} {L : List UInt8} (h : zsuf c p (42 :: L)) (hq : p + 1 = q) : zD c p (.aload_n 0) 1 ∧ zsuf c q L := zfin hq (Eq.trans (zbd (zu1 (v := 42) h rfl)) rfl) (zsuf_tl h)
noncomputable def zr_dX0_init_0 := zo_42 (q := 1) zs_dX0_init_0 rfl
noncomputable def dX0_init_0 := zr_dX0_init_0.1
theorem zo_183 {c : ByteArray} {p q : Nat} {x y : UInt8} {L : List UInt8} {k : Nat} (h : zsuf c p (183 :: x :: y :: L)) (hk : x.toNat * 256 + y.toNat = k) (hq : p + 3 = q) : zD c p (.invokespecial k) 3 ∧ zsuf c q L := zfin hq (Eq.trans (zbd (zu1 (v := 183) h rfl)) (Eq.trans (zbd (zu2 (zsuf_tl h) hk)) rfl)) (zsuf_tl (zsuf_tl (zsuf_tl h)))
noncomputable def zr_dX0_init_1 := zo_183 (k := 3)  (q := 4) zr_dX0_init_0.2 rfl rfl
noncomputable def dX0_init_1 := zr_dX0_init_1.1
noncomputable def zr_dX0_init_4 := zo_42 (q := 5) zr_dX0_init_1.2 rfl
noncomputable def dX0_init_4 := zr_dX0_init_4.1
theorem zo_16 {c : ByteArray} {p q : Nat} {x : UInt8} {L : List UInt8} {k : Int} (h : zsuf c p (16 :: x :: L)) (hk : Reader.signed 8 x.toNat = k) (hq : p + 2 = q) : zD c p (.bipush k) 2 ∧ zsuf c q L := zfin hq (Eq.trans (zbd (zu1 (v := 16) h rfl)) (Eq.trans (zbd (zs1 (zsuf_tl h) hk)) rfl)) (zsuf_tl (zsuf_tl h))
noncomputable def zr_dX0_init_5 := zo_16 (k := 6)  (q := 7) zr_dX0_init_4.2 (by decide +kernel) rfl
noncomputable def dX0_init_5 := zr_dX0_init_5.1
theorem dX0_init_7 : zD cX0_init 7 (.newarray .int) 2 := by decide +kernel
noncomputable def zr_dX0_init_7 := zskip zr_dX0_init_5.2 2 (q := 9) rfl
theorem zo_181 {c : ByteArray} {p q : Nat} {x y : UInt8} {L : List UInt8} {k : Nat} (h : zsuf c p (181 :: x :: y :: L)) (hk : x.toNat * 256 + y.toNat = k) (hq : p + 3 = q) : zD c p (.putfield k) 3 ∧ zsuf c q L := zfin hq (Eq.trans (zbd (zu1 (v := 181) h rfl)) (Eq.trans (zbd (zu2 (zsuf_tl h) hk)) rfl)) (zsuf_tl (zsuf_tl (zsuf_tl h)))
noncomputable def zr_dX0_init_9 := zo_181 (k := 11)  (q := 12) zr_dX0_init_7 rfl rfl
noncomputable def dX0_init_9 := zr_dX0_init_9.1
noncomputable def zr_dX0_init_12 := zo_42 (q := 13) zr_dX0_init_9.2 rfl
noncomputable def dX0_init_12 := zr_dX0_init_12.1
theorem zo_7 {c : ByteArray} {p q : Nat} {L : List UInt8} (h : zsuf c p (7 :: L)) (hq : p + 1 = q) : zD c p (.iconst 4) 1 ∧ zsuf c q L := zfin hq (Eq.trans (zbd (zu1 (v := 7) h rfl)) rfl) (zsuf_tl h)
noncomputable def zr_dX0_init_13 := zo_7 (q := 14) zr_dX0_init_12.2 rfl
noncomputable def dX0_init_13 := zr_dX0_init_13.1
theorem dX0_init_14 : zD cX0_init 14 (.newarray .int) 2 := by decide +kernel
noncomputable def zr_dX0_init_14 := zskip zr_dX0_init_13.2 2 (q := 16) rfl
noncomputable def zr_dX0_init_16 := zo_181 (k := 17)  (q := 19) zr_dX0_init_14 rfl rfl
noncomputable def dX0_init_16 := zr_dX0_init_16.1
noncomputable def zr_dX0_init_19 := zo_42 (q := 20) zr_dX0_init_16.2 rfl
noncomputable def dX0_init_19 := zr_dX0_init_19.1
noncomputable def zr_dX0_init_20 := zo_7 (q := 21) zr_dX0_init_19.2 rfl
noncomputable def dX0_init_20 := zr_dX0_init_20.1
theorem dX0_init_21 : zD cX0_init 21 (.newarray .int) 2 := by decide +kernel
noncomputable def zr_dX0_init_21 := zskip zr_dX0_init_20.2 2 (q := 23) rfl
noncomputable def zr_dX0_init_23 := zo_181 (k := 20)  (q := 26) zr_dX0_init_21 rfl rfl
noncomputable def dX0_init_23 := zr_dX0_init_23.1
noncomputable def zr_dX0_init_26 := zo_42 (q := 27) zr_dX0_init_23.2 rfl
noncomputable def dX0_init_26 := zr_dX0_init_26.1
noncomputable def zr_dX0_init_27 := zo_7 (q := 28) zr_dX0_init_26.2 rfl
noncomputable def dX0_init_27 := zr_dX0_init_27.1
theorem dX0_init_28 : zD cX0_init 28 (.newarray .int) 2 := by decide +kernel
noncomputable def zr_dX0_init_28 := zskip zr_dX0_init_27.2 2 (q := 30) rfl
noncomputable def zr_dX0_init_30 := zo_181 (k := 23)  (q := 33) zr_dX0_init_28 rfl rfl
noncomputable def dX0_init_30 := zr_dX0_init_30.1
noncomputable def zr_dX0_init_33 := zo_42 (q := 34) zr_dX0_init_30.2 rfl
noncomputable def dX0_init_33 := zr_dX0_init_33.1
noncomputable def zr_dX0_init_34 := zo_16 (k := 6)  (q := 36) zr_dX0_init_33.2 (by decide +kernel) rfl
noncomputable def dX0_init_34 := zr_dX0_init_34.1
theorem dX0_init_36 : zD cX0_init 36 (.newarray .int) 2 := by decide +kernel
noncomputable def zr_dX0_init_36 := zskip zr_dX0_init_34.2 2 (q := 38) rfl
noncomputable def zr_dX0_init_38 := zo_181 (k := 26)  (q := 41) zr_dX0_init_36 rfl rfl
noncomputable def dX0_init_38 := zr_dX0_init_38.1
noncomputable def zr_dX0_init_41 := zo_42 (q := 42) zr_dX0_init_38.2 rfl
noncomputable def dX0_init_41 := zr_dX0_init_41.1
noncomputable def zr_dX0_init_42 := zo_16 (k := 6)  (q := 44) zr_dX0_init_41.2 (by decide +kernel) rfl
noncomputable def dX0_init_42 := zr_dX0_init_42.1
theorem dX0_init_44 : zD cX0_init 44 (.newarray .int) 2 := by decide +kernel
noncomputable def zr_dX0_init_44 := zskip zr_dX0_init_42.2 2 (q := 46) rfl
noncomputable def zr_dX0_init_46 := zo_181 (k := 29)  (q := 49) zr_dX0_init_44 rfl rfl
noncomputable def dX0_init_46 := zr_dX0_init_46.1
noncomputable def zr_dX0_init_49 := zo_42 (q := 50) zr_dX0_init_46.2 rfl
noncomputable def dX0_init_49 := zr_dX0_init_49.1
noncomputable def zr_dX0_init_50 := zo_16 (k := 6)  (q := 52) zr_dX0_init_49.2 (by decide +kernel) rfl
noncomputable def dX0_init_50 := zr_dX0_init_50.1
theorem dX0_init_52 : zD cX0_init 52 (.newarray .int) 2 := by decide +kernel
noncomputable def zr_dX0_init_52 := zskip zr_dX0_init_50.2 2 (q := 54) rfl
noncomputable def zr_dX0_init_54 := zo_181 (k := 32)  (q := 57) zr_dX0_init_52 rfl rfl
noncomputable def dX0_init_54 := zr_dX0_init_54.1
noncomputable def zr_dX0_init_57 := zo_42 (q := 58) zr_dX0_init_54.2 rfl
noncomputable def dX0_init_57 := zr_dX0_init_57.1
noncomputable def zr_dX0_init_58 := zo_16 (k := 6)  (q := 60) zr_dX0_init_57.2 (by decide +kernel) rfl
noncomputable def dX0_init_58 := zr_dX0_init_58.1
theorem dX0_init_60 : zD cX0_init 60 (.newarray .int) 2 := by decide +kernel
noncomputable def zr_dX0_init_60 := zskip zr_dX0_init_58.2 2 (q := 62) rfl
noncomputable def zr_dX0_init_62 := zo_181 (k := 35)  (q := 65) zr_dX0_init_60 rfl rfl
noncomputable def dX0_init_62 := zr_dX0_init_62.1
noncomputable def zr_dX0_init_65 := zo_42 (q := 66) zr_dX0_init_62.2 rfl
noncomputable def dX0_init_65 := zr_dX0_init_65.1
theorem zo_43 {c : ByteArray} {p q : Nat} {L : List UInt8} (h : zsuf c p (43 :: L)) (hq : p + 1 = q) : zD c p (.aload_n 1) 1 ∧ zsuf c q L := zfin hq (Eq.trans (zbd (zu1 (v := 43) h rfl)) rfl) (zsuf_tl h)
noncomputable def zr_dX0_init_66 := zo_43 (q := 67) zr_dX0_init_65.2 rfl
noncomputable def dX0_init_66 := zr_dX0_init_66.1
noncomputable def zr_dX0_init_67 := zo_181 (k := 38)  (q := 70) zr_dX0_init_66.2 rfl rfl
noncomputable def dX0_init_67 := zr_dX0_init_67.1
theorem zo_177 {c : ByteArray} {p q : Nat} {L : List UInt8} (h : zsuf c p (177 :: L)) (hq : p + 1 = q) : zD c p .return_ 1 ∧ zsuf c q L := zfin hq (Eq.trans (zbd (zu1 (v := 177) h rfl)) rfl) (zsuf_tl h)
noncomputable def zr_dX0_init_70 := zo_177 (q := 71) zr_dX0_init_67.2 rfl
noncomputable def dX0_init_70 := zr_dX0_init_70.1
theorem zs_dX0_become_0 : zsuf cX0_become 0 cX0_become.data.toList := rfl
noncomputable def zr_dX0_become_0 := zo_43 (q := 1) zs_dX0_become_0 rfl
noncomputable def dX0_become_0 := zr_dX0_become_0.1
theorem zo_180 {c : ByteArray} {p q : Nat} {x y : UInt8} {L : List UInt8} {k : Nat} (h : zsuf c p (180 :: x :: y :: L)) (hk : x.toNat * 256 + y.toNat = k) (hq : p + 3 = q) : zD c p (.getfield k) 3 ∧ zsuf c q L := zfin hq (Eq.trans (zbd (zu1 (v := 180) h rfl)) (Eq.trans (zbd (zu2 (zsuf_tl h) hk)) rfl)) (zsuf_tl (zsuf_tl (zsuf_tl h)))
noncomputable def zr_dX0_become_1 := zo_180 (k := 17)  (q := 4) zr_dX0_become_0.2 rfl rfl
noncomputable def dX0_become_1 := zr_dX0_become_1.1
theorem zo_3 {c : ByteArray} {p q : Nat} {L : List UInt8} (h : zsuf c p (3 :: L)) (hq : p + 1 = q) : zD c p (.iconst 0) 1 ∧ zsuf c q L := zfin hq (Eq.trans (zbd (zu1 (v := 3) h rfl)) rfl) (zsuf_tl h)
noncomputable def zr_dX0_become_4 := zo_3 (q := 5) zr_dX0_become_1.2 rfl
noncomputable def dX0_become_4 := zr_dX0_become_4.1
noncomputable def zr_dX0_become_5 := zo_42 (q := 6) zr_dX0_become_4.2 rfl
noncomputable def dX0_become_5 := zr_dX0_become_5.1
noncomputable def zr_dX0_become_6 := zo_180 (k := 17)  (q := 9) zr_dX0_become_5.2 rfl rfl
noncomputable def dX0_become_6 := zr_dX0_become_6.1
noncomputable def zr_dX0_become_9 := zo_3 (q := 10) zr_dX0_become_6.2 rfl
noncomputable def dX0_become_9 := zr_dX0_become_9.1
noncomputable def zr_dX0_become_10 := zo_7 (q := 11) zr_dX0_become_9.2 rfl
noncomputable def dX0_become_10 := zr_dX0_become_10.1
theorem zo_184 {c : ByteArray} {p q : Nat} {x y : UInt8} {L : List UInt8} {k : Nat} (h : zsuf c p (184 :: x :: y :: L)) (hk : x.toNat * 256 + y.toNat = k) (hq : p + 3 = q) : zD c p (.invokestatic k) 3 ∧ zsuf c q L := zfin hq (Eq.trans (zbd (zu1 (v := 184) h rfl)) (Eq.trans (zbd (zu2 (zsuf_tl h) hk)) rfl)) (zsuf_tl (zsuf_tl (zsuf_tl h)))
noncomputable def zr_dX0_become_11 := zo_184 (k := 42)  (q := 14) zr_dX0_become_10.2 rfl rfl
noncomputable def dX0_become_11 := zr_dX0_become_11.1
noncomputable def zr_dX0_become_14 := zo_43 (q := 15) zr_dX0_become_11.2 rfl
noncomputable def dX0_become_14 := zr_dX0_become_14.1
noncomputable def zr_dX0_become_15 := zo_180 (k := 20)  (q := 18) zr_dX0_become_14.2 rfl rfl
noncomputable def dX0_become_15 := zr_dX0_become_15.1
noncomputable def zr_dX0_become_18 := zo_3 (q := 19) zr_dX0_become_15.2 rfl
noncomputable def dX0_become_18 := zr_dX0_become_18.1
noncomputable def zr_dX0_become_19 := zo_42 (q := 20) zr_dX0_become_18.2 rfl
noncomputable def dX0_become_19 := zr_dX0_become_19.1
noncomputable def zr_dX0_become_20 := zo_180 (k := 20)  (q := 23) zr_dX0_become_19.2 rfl rfl
noncomputable def dX0_become_20 := zr_dX0_become_20.1
noncomputable def zr_dX0_become_23 := zo_3 (q := 24) zr_dX0_become_20.2 rfl
noncomputable def dX0_become_23 := zr_dX0_become_23.1
noncomputable def zr_dX0_become_24 := zo_7 (q := 25) zr_dX0_become_23.2 rfl
noncomputable def dX0_become_24 := zr_dX0_become_24.1
noncomputable def zr_dX0_become_25 := zo_184 (k := 42)  (q := 28) zr_dX0_become_24.2 rfl rfl
noncomputable def dX0_become_25 := zr_dX0_become_25.1
noncomputable def zr_dX0_become_28 := zo_43 (q := 29) zr_dX0_become_25.2 rfl
noncomputable def dX0_become_28 := zr_dX0_become_28.1
noncomputable def zr_dX0_become_29 := zo_180 (k := 23)  (q := 32) zr_dX0_become_28.2 rfl rfl
noncomputable def dX0_become_29 := zr_dX0_become_29.1
noncomputable def zr_dX0_become_32 := zo_3 (q := 33) zr_dX0_become_29.2 rfl
noncomputable def dX0_become_32 := zr_dX0_become_32.1
noncomputable def zr_dX0_become_33 := zo_42 (q := 34) zr_dX0_become_32.2 rfl
noncomputable def dX0_become_33 := zr_dX0_become_33.1
noncomputable def zr_dX0_become_34 := zo_180 (k := 23)  (q := 37) zr_dX0_become_33.2 rfl rfl
noncomputable def dX0_become_34 := zr_dX0_become_34.1
noncomputable def zr_dX0_become_37 := zo_3 (q := 38) zr_dX0_become_34.2 rfl
noncomputable def dX0_become_37 := zr_dX0_become_37.1
noncomputable def zr_dX0_become_38 := zo_7 (q := 39) zr_dX0_become_37.2 rfl
noncomputable def dX0_become_38 := zr_dX0_become_38.1
noncomputable def zr_dX0_become_39 := zo_184 (k := 42)  (q := 42) zr_dX0_become_38.2 rfl rfl
noncomputable def dX0_become_39 := zr_dX0_become_39.1
noncomputable def zr_dX0_become_42 := zo_43 (q := 43) zr_dX0_become_39.2 rfl
noncomputable def dX0_become_42 := zr_dX0_become_42.1
noncomputable def zr_dX0_become_43 := zo_180 (k := 26)  (q := 46) zr_dX0_become_42.2 rfl rfl
noncomputable def dX0_become_43 := zr_dX0_become_43.1
noncomputable def zr_dX0_become_46 := zo_3 (q := 47) zr_dX0_become_43.2 rfl
noncomputable def dX0_become_46 := zr_dX0_become_46.1
noncomputable def zr_dX0_become_47 := zo_42 (q := 48) zr_dX0_become_46.2 rfl
noncomputable def dX0_become_47 := zr_dX0_become_47.1
noncomputable def zr_dX0_become_48 := zo_180 (k := 26)  (q := 51) zr_dX0_become_47.2 rfl rfl
noncomputable def dX0_become_48 := zr_dX0_become_48.1
noncomputable def zr_dX0_become_51 := zo_3 (q := 52) zr_dX0_become_48.2 rfl
noncomputable def dX0_become_51 := zr_dX0_become_51.1
noncomputable def zr_dX0_become_52 := zo_16 (k := 6)  (q := 54) zr_dX0_become_51.2 (by decide +kernel) rfl
noncomputable def dX0_become_52 := zr_dX0_become_52.1
noncomputable def zr_dX0_become_54 := zo_184 (k := 42)  (q := 57) zr_dX0_become_52.2 rfl rfl
noncomputable def dX0_become_54 := zr_dX0_become_54.1
noncomputable def zr_dX0_become_57 := zo_43 (q := 58) zr_dX0_become_54.2 rfl
noncomputable def dX0_become_57 := zr_dX0_become_57.1
noncomputable def zr_dX0_become_58 := zo_180 (k := 29)  (q := 61) zr_dX0_become_57.2 rfl rfl
noncomputable def dX0_become_58 := zr_dX0_become_58.1
noncomputable def zr_dX0_become_61 := zo_3 (q := 62) zr_dX0_become_58.2 rfl
noncomputable def dX0_become_61 := zr_dX0_become_61.1
noncomputable def zr_dX0_become_62 := zo_42 (q := 63) zr_dX0_become_61.2 rfl
noncomputable def dX0_become_62 := zr_dX0_become_62.1
noncomputable def zr_dX0_become_63 := zo_180 (k := 29)  (q := 66) zr_dX0_become_62.2 rfl rfl
noncomputable def dX0_become_63 := zr_dX0_become_63.1
noncomputable def zr_dX0_become_66 := zo_3 (q := 67) zr_dX0_become_63.2 rfl
noncomputable def dX0_become_66 := zr_dX0_become_66.1
noncomputable def zr_dX0_become_67 := zo_16 (k := 6)  (q := 69) zr_dX0_become_66.2 (by decide +kernel) rfl
noncomputable def dX0_become_67 := zr_dX0_become_67.1
noncomputable def zr_dX0_become_69 := zo_184 (k := 42)  (q := 72) zr_dX0_become_67.2 rfl rfl
noncomputable def dX0_become_69 := zr_dX0_become_69.1
noncomputable def zr_dX0_become_72 := zo_43 (q := 73) zr_dX0_become_69.2 rfl
noncomputable def dX0_become_72 := zr_dX0_become_72.1
noncomputable def zr_dX0_become_73 := zo_180 (k := 32)  (q := 76) zr_dX0_become_72.2 rfl rfl
noncomputable def dX0_become_73 := zr_dX0_become_73.1
noncomputable def zr_dX0_become_76 := zo_3 (q := 77) zr_dX0_become_73.2 rfl
noncomputable def dX0_become_76 := zr_dX0_become_76.1
noncomputable def zr_dX0_become_77 := zo_42 (q := 78) zr_dX0_become_76.2 rfl
noncomputable def dX0_become_77 := zr_dX0_become_77.1
noncomputable def zr_dX0_become_78 := zo_180 (k := 32)  (q := 81) zr_dX0_become_77.2 rfl rfl
noncomputable def dX0_become_78 := zr_dX0_become_78.1
noncomputable def zr_dX0_become_81 := zo_3 (q := 82) zr_dX0_become_78.2 rfl
noncomputable def dX0_become_81 := zr_dX0_become_81.1
noncomputable def zr_dX0_become_82 := zo_16 (k := 6)  (q := 84) zr_dX0_become_81.2 (by decide +kernel) rfl
noncomputable def dX0_become_82 := zr_dX0_become_82.1
noncomputable def zr_dX0_become_84 := zo_184 (k := 42)  (q := 87) zr_dX0_become_82.2 rfl rfl
noncomputable def dX0_become_84 := zr_dX0_become_84.1
noncomputable def zr_dX0_become_87 := zo_43 (q := 88) zr_dX0_become_84.2 rfl
noncomputable def dX0_become_87 := zr_dX0_become_87.1
noncomputable def zr_dX0_become_88 := zo_180 (k := 35)  (q := 91) zr_dX0_become_87.2 rfl rfl
noncomputable def dX0_become_88 := zr_dX0_become_88.1
noncomputable def zr_dX0_become_91 := zo_3 (q := 92) zr_dX0_become_88.2 rfl
noncomputable def dX0_become_91 := zr_dX0_become_91.1
noncomputable def zr_dX0_become_92 := zo_42 (q := 93) zr_dX0_become_91.2 rfl
noncomputable def dX0_become_92 := zr_dX0_become_92.1
noncomputable def zr_dX0_become_93 := zo_180 (k := 35)  (q := 96) zr_dX0_become_92.2 rfl rfl
noncomputable def dX0_become_93 := zr_dX0_become_93.1
noncomputable def zr_dX0_become_96 := zo_3 (q := 97) zr_dX0_become_93.2 rfl
noncomputable def dX0_become_96 := zr_dX0_become_96.1
noncomputable def zr_dX0_become_97 := zo_16 (k := 6)  (q := 99) zr_dX0_become_96.2 (by decide +kernel) rfl
noncomputable def dX0_become_97 := zr_dX0_become_97.1
noncomputable def zr_dX0_become_99 := zo_184 (k := 42)  (q := 102) zr_dX0_become_97.2 rfl rfl
noncomputable def dX0_become_99 := zr_dX0_become_99.1
noncomputable def zr_dX0_become_102 := zo_42 (q := 103) zr_dX0_become_99.2 rfl
noncomputable def dX0_become_102 := zr_dX0_become_102.1
noncomputable def zr_dX0_become_103 := zo_43 (q := 104) zr_dX0_become_102.2 rfl
noncomputable def dX0_become_103 := zr_dX0_become_103.1
noncomputable def zr_dX0_become_104 := zo_180 (k := 48)  (q := 107) zr_dX0_become_103.2 rfl rfl
noncomputable def dX0_become_104 := zr_dX0_become_104.1
noncomputable def zr_dX0_become_107 := zo_181 (k := 48)  (q := 110) zr_dX0_become_104.2 rfl rfl
noncomputable def dX0_become_107 := zr_dX0_become_107.1
noncomputable def zr_dX0_become_110 := zo_42 (q := 111) zr_dX0_become_107.2 rfl
noncomputable def dX0_become_110 := zr_dX0_become_110.1
noncomputable def zr_dX0_become_111 := zo_43 (q := 112) zr_dX0_become_110.2 rfl
noncomputable def dX0_become_111 := zr_dX0_become_111.1
noncomputable def zr_dX0_become_112 := zo_180 (k := 52)  (q := 115) zr_dX0_become_111.2 rfl rfl
noncomputable def dX0_become_112 := zr_dX0_become_112.1
noncomputable def zr_dX0_become_115 := zo_181 (k := 52)  (q := 118) zr_dX0_become_112.2 rfl rfl
noncomputable def dX0_become_115 := zr_dX0_become_115.1
noncomputable def zr_dX0_become_118 := zo_42 (q := 119) zr_dX0_become_115.2 rfl
noncomputable def dX0_become_118 := zr_dX0_become_118.1
noncomputable def zr_dX0_become_119 := zo_43 (q := 120) zr_dX0_become_118.2 rfl
noncomputable def dX0_become_119 := zr_dX0_become_119.1
noncomputable def zr_dX0_become_120 := zo_180 (k := 55)  (q := 123) zr_dX0_become_119.2 rfl rfl
noncomputable def dX0_become_120 := zr_dX0_become_120.1
noncomputable def zr_dX0_become_123 := zo_181 (k := 55)  (q := 126) zr_dX0_become_120.2 rfl rfl
noncomputable def dX0_become_123 := zr_dX0_become_123.1
noncomputable def zr_dX0_become_126 := zo_177 (q := 127) zr_dX0_become_123.2 rfl
noncomputable def dX0_become_126 := zr_dX0_become_126.1
theorem zs_dX0_hasJudge_0 : zsuf cX0_hasJudge 0 cX0_hasJudge.data.toList := rfl
theorem zo_27 {c : ByteArray} {p q : Nat} {L : List UInt8} (h : zsuf c p (27 :: L)) (hq : p + 1 = q) : zD c p (.iload_n 1) 1 ∧ zsuf c q L := zfin hq (Eq.trans (zbd (zu1 (v := 27) h rfl)) rfl) (zsuf_tl h)
noncomputable def zr_dX0_hasJudge_0 := zo_27 (q := 1) zs_dX0_hasJudge_0 rfl
noncomputable def dX0_hasJudge_0 := zr_dX0_hasJudge_0.1
theorem zo_155 {c : ByteArray} {p q : Nat} {x y : UInt8} {L : List UInt8} {k : Int} (h : zsuf c p (155 :: x :: y :: L)) (hk : Reader.signed 16 (x.toNat * 256 + y.toNat) = k) (hq : p + 3 = q) : zD c p (.ifCond .lt k) 3 ∧ zsuf c q L := zfin hq (Eq.trans (zbd (zu1 (v := 155) h rfl)) (Eq.trans (zbd (zs2 (zsuf_tl h) hk)) rfl)) (zsuf_tl (zsuf_tl (zsuf_tl h)))
noncomputable def zr_dX0_hasJudge_1 := zo_155 (k := 15)  (q := 4) zr_dX0_hasJudge_0.2 (by decide +kernel) rfl
noncomputable def dX0_hasJudge_1 := zr_dX0_hasJudge_1.1
noncomputable def zr_dX0_hasJudge_4 := zo_27 (q := 5) zr_dX0_hasJudge_1.2 rfl
noncomputable def dX0_hasJudge_4 := zr_dX0_hasJudge_4.1
noncomputable def zr_dX0_hasJudge_5 := zo_42 (q := 6) zr_dX0_hasJudge_4.2 rfl
noncomputable def dX0_hasJudge_5 := zr_dX0_hasJudge_5.1
noncomputable def zr_dX0_hasJudge_6 := zo_180 (k := 48)  (q := 9) zr_dX0_hasJudge_5.2 rfl rfl
noncomputable def dX0_hasJudge_6 := zr_dX0_hasJudge_6.1
theorem zo_162 {c : ByteArray} {p q : Nat} {x y : UInt8} {L : List UInt8} {k : Int} (h : zsuf c p (162 :: x :: y :: L)) (hk : Reader.signed 16 (x.toNat * 256 + y.toNat) = k) (hq : p + 3 = q) : zD c p (.if_icmp .ge k) 3 ∧ zsuf c q L := zfin hq (Eq.trans (zbd (zu1 (v := 162) h rfl)) (Eq.trans (zbd (zs2 (zsuf_tl h) hk)) rfl)) (zsuf_tl (zsuf_tl (zsuf_tl h)))
noncomputable def zr_dX0_hasJudge_9 := zo_162 (k := 7)  (q := 12) zr_dX0_hasJudge_6.2 (by decide +kernel) rfl
noncomputable def dX0_hasJudge_9 := zr_dX0_hasJudge_9.1
theorem zo_4 {c : ByteArray} {p q : Nat} {L : List UInt8} (h : zsuf c p (4 :: L)) (hq : p + 1 = q) : zD c p (.iconst 1) 1 ∧ zsuf c q L := zfin hq (Eq.trans (zbd (zu1 (v := 4) h rfl)) rfl) (zsuf_tl h)
noncomputable def zr_dX0_hasJudge_12 := zo_4 (q := 13) zr_dX0_hasJudge_9.2 rfl
noncomputable def dX0_hasJudge_12 := zr_dX0_hasJudge_12.1
theorem zo_167 {c : ByteArray} {p q : Nat} {x y : UInt8} {L : List UInt8} {k : Int} (h : zsuf c p (167 :: x :: y :: L)) (hk : Reader.signed 16 (x.toNat * 256 + y.toNat) = k) (hq : p + 3 = q) : zD c p (.goto k) 3 ∧ zsuf c q L := zfin hq (Eq.trans (zbd (zu1 (v := 167) h rfl)) (Eq.trans (zbd (zs2 (zsuf_tl h) hk)) rfl)) (zsuf_tl (zsuf_tl (zsuf_tl h)))
noncomputable def zr_dX0_hasJudge_13 := zo_167 (k := 4)  (q := 16) zr_dX0_hasJudge_12.2 (by decide +kernel) rfl
noncomputable def dX0_hasJudge_13 := zr_dX0_hasJudge_13.1
noncomputable def zr_dX0_hasJudge_16 := zo_3 (q := 17) zr_dX0_hasJudge_13.2 rfl
noncomputable def dX0_hasJudge_16 := zr_dX0_hasJudge_16.1
theorem zo_172 {c : ByteArray} {p q : Nat} {L : List UInt8} (h : zsuf c p (172 :: L)) (hq : p + 1 = q) : zD c p .ireturn 1 ∧ zsuf c q L := zfin hq (Eq.trans (zbd (zu1 (v := 172) h rfl)) rfl) (zsuf_tl h)
noncomputable def zr_dX0_hasJudge_17 := zo_172 (q := 18) zr_dX0_hasJudge_16.2 rfl
noncomputable def dX0_hasJudge_17 := zr_dX0_hasJudge_17.1
theorem zs_dX0_hasPebble_0 : zsuf cX0_hasPebble 0 cX0_hasPebble.data.toList := rfl
noncomputable def zr_dX0_hasPebble_0 := zo_27 (q := 1) zs_dX0_hasPebble_0 rfl
noncomputable def dX0_hasPebble_0 := zr_dX0_hasPebble_0.1
noncomputable def zr_dX0_hasPebble_1 := zo_155 (k := 15)  (q := 4) zr_dX0_hasPebble_0.2 (by decide +kernel) rfl
noncomputable def dX0_hasPebble_1 := zr_dX0_hasPebble_1.1
noncomputable def zr_dX0_hasPebble_4 := zo_27 (q := 5) zr_dX0_hasPebble_1.2 rfl
noncomputable def dX0_hasPebble_4 := zr_dX0_hasPebble_4.1
noncomputable def zr_dX0_hasPebble_5 := zo_42 (q := 6) zr_dX0_hasPebble_4.2 rfl
noncomputable def dX0_hasPebble_5 := zr_dX0_hasPebble_5.1
noncomputable def zr_dX0_hasPebble_6 := zo_180 (k := 52)  (q := 9) zr_dX0_hasPebble_5.2 rfl rfl
noncomputable def dX0_hasPebble_6 := zr_dX0_hasPebble_6.1
noncomputable def zr_dX0_hasPebble_9 := zo_162 (k := 7)  (q := 12) zr_dX0_hasPebble_6.2 (by decide +kernel) rfl
noncomputable def dX0_hasPebble_9 := zr_dX0_hasPebble_9.1
noncomputable def zr_dX0_hasPebble_12 := zo_4 (q := 13) zr_dX0_hasPebble_9.2 rfl
noncomputable def dX0_hasPebble_12 := zr_dX0_hasPebble_12.1
noncomputable def zr_dX0_hasPebble_13 := zo_167 (k := 4)  (q := 16) zr_dX0_hasPebble_12.2 (by decide +kernel) rfl
noncomputable def dX0_hasPebble_13 := zr_dX0_hasPebble_13.1
noncomputable def zr_dX0_hasPebble_16 := zo_3 (q := 17) zr_dX0_hasPebble_13.2 rfl
noncomputable def dX0_hasPebble_16 := zr_dX0_hasPebble_16.1
noncomputable def zr_dX0_hasPebble_17 := zo_172 (q := 18) zr_dX0_hasPebble_16.2 rfl
noncomputable def dX0_hasPebble_17 := zr_dX0_hasPebble_17.1
theorem zs_dX0_hasBoth_0 : zsuf cX0_hasBoth 0 cX0_hasBoth.data.toList := rfl
noncomputable def zr_dX0_hasBoth_0 := zo_42 (q := 1) zs_dX0_hasBoth_0 rfl
noncomputable def dX0_hasBoth_0 := zr_dX0_hasBoth_0.1
noncomputable def zr_dX0_hasBoth_1 := zo_27 (q := 2) zr_dX0_hasBoth_0.2 rfl
noncomputable def dX0_hasBoth_1 := zr_dX0_hasBoth_1.1
theorem zo_182 {c : ByteArray} {p q : Nat} {x y : UInt8} {L : List UInt8} {k : Nat} (h : zsuf c p (182 :: x :: y :: L)) (hk : x.toNat * 256 + y.toNat = k) (hq : p + 3 = q) : zD c p (.invokevirtual k) 3 ∧ zsuf c q L := zfin hq (Eq.trans (zbd (zu1 (v := 182) h rfl)) (Eq.trans (zbd (zu2 (zsuf_tl h) hk)) rfl)) (zsuf_tl (zsuf_tl (zsuf_tl h)))
noncomputable def zr_dX0_hasBoth_2 := zo_182 (k := 58)  (q := 5) zr_dX0_hasBoth_1.2 rfl rfl
noncomputable def dX0_hasBoth_2 := zr_dX0_hasBoth_2.1
theorem zo_153 {c : ByteArray} {p q : Nat} {x y : UInt8} {L : List UInt8} {k : Int} (h : zsuf c p (153 :: x :: y :: L)) (hk : Reader.signed 16 (x.toNat * 256 + y.toNat) = k) (hq : p + 3 = q) : zD c p (.ifCond .eq k) 3 ∧ zsuf c q L := zfin hq (Eq.trans (zbd (zu1 (v := 153) h rfl)) (Eq.trans (zbd (zs2 (zsuf_tl h) hk)) rfl)) (zsuf_tl (zsuf_tl (zsuf_tl h)))
noncomputable def zr_dX0_hasBoth_5 := zo_153 (k := 15)  (q := 8) zr_dX0_hasBoth_2.2 (by decide +kernel) rfl
noncomputable def dX0_hasBoth_5 := zr_dX0_hasBoth_5.1
noncomputable def zr_dX0_hasBoth_8 := zo_42 (q := 9) zr_dX0_hasBoth_5.2 rfl
noncomputable def dX0_hasBoth_8 := zr_dX0_hasBoth_8.1
theorem zo_28 {c : ByteArray} {p q : Nat} {L : List UInt8} (h : zsuf c p (28 :: L)) (hq : p + 1 = q) : zD c p (.iload_n 2) 1 ∧ zsuf c q L := zfin hq (Eq.trans (zbd (zu1 (v := 28) h rfl)) rfl) (zsuf_tl h)
noncomputable def zr_dX0_hasBoth_9 := zo_28 (q := 10) zr_dX0_hasBoth_8.2 rfl
noncomputable def dX0_hasBoth_9 := zr_dX0_hasBoth_9.1
noncomputable def zr_dX0_hasBoth_10 := zo_182 (k := 62)  (q := 13) zr_dX0_hasBoth_9.2 rfl rfl
noncomputable def dX0_hasBoth_10 := zr_dX0_hasBoth_10.1
noncomputable def zr_dX0_hasBoth_13 := zo_153 (k := 7)  (q := 16) zr_dX0_hasBoth_10.2 (by decide +kernel) rfl
noncomputable def dX0_hasBoth_13 := zr_dX0_hasBoth_13.1
noncomputable def zr_dX0_hasBoth_16 := zo_4 (q := 17) zr_dX0_hasBoth_13.2 rfl
noncomputable def dX0_hasBoth_16 := zr_dX0_hasBoth_16.1
noncomputable def zr_dX0_hasBoth_17 := zo_167 (k := 4)  (q := 20) zr_dX0_hasBoth_16.2 (by decide +kernel) rfl
noncomputable def dX0_hasBoth_17 := zr_dX0_hasBoth_17.1
noncomputable def zr_dX0_hasBoth_20 := zo_3 (q := 21) zr_dX0_hasBoth_17.2 rfl
noncomputable def dX0_hasBoth_20 := zr_dX0_hasBoth_20.1
noncomputable def zr_dX0_hasBoth_21 := zo_172 (q := 22) zr_dX0_hasBoth_20.2 rfl
noncomputable def dX0_hasBoth_21 := zr_dX0_hasBoth_21.1
theorem zs_dX0_addJudge_0 : zsuf cX0_addJudge 0 cX0_addJudge.data.toList := rfl
noncomputable def zr_dX0_addJudge_0 := zo_42 (q := 1) zs_dX0_addJudge_0 rfl
noncomputable def dX0_addJudge_0 := zr_dX0_addJudge_0.1
noncomputable def zr_dX0_addJudge_1 := zo_180 (k := 48)  (q := 4) zr_dX0_addJudge_0.2 rfl rfl
noncomputable def dX0_addJudge_1 := zr_dX0_addJudge_1.1
noncomputable def zr_dX0_addJudge_4 := zo_7 (q := 5) zr_dX0_addJudge_1.2 rfl
noncomputable def dX0_addJudge_4 := zr_dX0_addJudge_4.1
theorem zo_161 {c : ByteArray} {p q : Nat} {x y : UInt8} {L : List UInt8} {k : Int} (h : zsuf c p (161 :: x :: y :: L)) (hk : Reader.signed 16 (x.toNat * 256 + y.toNat) = k) (hq : p + 3 = q) : zD c p (.if_icmp .lt k) 3 ∧ zsuf c q L := zfin hq (Eq.trans (zbd (zu1 (v := 161) h rfl)) (Eq.trans (zbd (zs2 (zsuf_tl h) hk)) rfl)) (zsuf_tl (zsuf_tl (zsuf_tl h)))
noncomputable def zr_dX0_addJudge_5 := zo_161 (k := 6)  (q := 8) zr_dX0_addJudge_4.2 (by decide +kernel) rfl
noncomputable def dX0_addJudge_5 := zr_dX0_addJudge_5.1
noncomputable def zr_dX0_addJudge_8 := zo_16 (k := -4)  (q := 10) zr_dX0_addJudge_5.2 (by decide +kernel) rfl
noncomputable def dX0_addJudge_8 := zr_dX0_addJudge_8.1
noncomputable def zr_dX0_addJudge_10 := zo_172 (q := 11) zr_dX0_addJudge_8.2 rfl
noncomputable def dX0_addJudge_10 := zr_dX0_addJudge_10.1
noncomputable def zr_dX0_addJudge_11 := zo_42 (q := 12) zr_dX0_addJudge_10.2 rfl
noncomputable def dX0_addJudge_11 := zr_dX0_addJudge_11.1
noncomputable def zr_dX0_addJudge_12 := zo_180 (k := 48)  (q := 15) zr_dX0_addJudge_11.2 rfl rfl
noncomputable def dX0_addJudge_12 := zr_dX0_addJudge_12.1
theorem zo_61 {c : ByteArray} {p q : Nat} {L : List UInt8} (h : zsuf c p (61 :: L)) (hq : p + 1 = q) : zD c p (.istore_n 2) 1 ∧ zsuf c q L := zfin hq (Eq.trans (zbd (zu1 (v := 61) h rfl)) rfl) (zsuf_tl h)
noncomputable def zr_dX0_addJudge_15 := zo_61 (q := 16) zr_dX0_addJudge_12.2 rfl
noncomputable def dX0_addJudge_15 := zr_dX0_addJudge_15.1
noncomputable def zr_dX0_addJudge_16 := zo_42 (q := 17) zr_dX0_addJudge_15.2 rfl
noncomputable def dX0_addJudge_16 := zr_dX0_addJudge_16.1
noncomputable def zr_dX0_addJudge_17 := zo_180 (k := 17)  (q := 20) zr_dX0_addJudge_16.2 rfl rfl
noncomputable def dX0_addJudge_17 := zr_dX0_addJudge_17.1
noncomputable def zr_dX0_addJudge_20 := zo_28 (q := 21) zr_dX0_addJudge_17.2 rfl
noncomputable def dX0_addJudge_20 := zr_dX0_addJudge_20.1
noncomputable def zr_dX0_addJudge_21 := zo_27 (q := 22) zr_dX0_addJudge_20.2 rfl
noncomputable def dX0_addJudge_21 := zr_dX0_addJudge_21.1
theorem zo_79 {c : ByteArray} {p q : Nat} {L : List UInt8} (h : zsuf c p (79 :: L)) (hq : p + 1 = q) : zD c p .iastore 1 ∧ zsuf c q L := zfin hq (Eq.trans (zbd (zu1 (v := 79) h rfl)) rfl) (zsuf_tl h)
noncomputable def zr_dX0_addJudge_22 := zo_79 (q := 23) zr_dX0_addJudge_21.2 rfl
noncomputable def dX0_addJudge_22 := zr_dX0_addJudge_22.1
noncomputable def zr_dX0_addJudge_23 := zo_42 (q := 24) zr_dX0_addJudge_22.2 rfl
noncomputable def dX0_addJudge_23 := zr_dX0_addJudge_23.1
noncomputable def zr_dX0_addJudge_24 := zo_180 (k := 20)  (q := 27) zr_dX0_addJudge_23.2 rfl rfl
noncomputable def dX0_addJudge_24 := zr_dX0_addJudge_24.1
noncomputable def zr_dX0_addJudge_27 := zo_28 (q := 28) zr_dX0_addJudge_24.2 rfl
noncomputable def dX0_addJudge_27 := zr_dX0_addJudge_27.1
noncomputable def zr_dX0_addJudge_28 := zo_3 (q := 29) zr_dX0_addJudge_27.2 rfl
noncomputable def dX0_addJudge_28 := zr_dX0_addJudge_28.1
noncomputable def zr_dX0_addJudge_29 := zo_79 (q := 30) zr_dX0_addJudge_28.2 rfl
noncomputable def dX0_addJudge_29 := zr_dX0_addJudge_29.1
noncomputable def zr_dX0_addJudge_30 := zo_42 (q := 31) zr_dX0_addJudge_29.2 rfl
noncomputable def dX0_addJudge_30 := zr_dX0_addJudge_30.1
noncomputable def zr_dX0_addJudge_31 := zo_180 (k := 23)  (q := 34) zr_dX0_addJudge_30.2 rfl rfl
noncomputable def dX0_addJudge_31 := zr_dX0_addJudge_31.1
noncomputable def zr_dX0_addJudge_34 := zo_28 (q := 35) zr_dX0_addJudge_31.2 rfl
noncomputable def dX0_addJudge_34 := zr_dX0_addJudge_34.1
noncomputable def zr_dX0_addJudge_35 := zo_3 (q := 36) zr_dX0_addJudge_34.2 rfl
noncomputable def dX0_addJudge_35 := zr_dX0_addJudge_35.1
noncomputable def zr_dX0_addJudge_36 := zo_79 (q := 37) zr_dX0_addJudge_35.2 rfl
noncomputable def dX0_addJudge_36 := zr_dX0_addJudge_36.1
noncomputable def zr_dX0_addJudge_37 := zo_42 (q := 38) zr_dX0_addJudge_36.2 rfl
noncomputable def dX0_addJudge_37 := zr_dX0_addJudge_37.1
theorem zo_89 {c : ByteArray} {p q : Nat} {L : List UInt8} (h : zsuf c p (89 :: L)) (hq : p + 1 = q) : zD c p .dup 1 ∧ zsuf c q L := zfin hq (Eq.trans (zbd (zu1 (v := 89) h rfl)) rfl) (zsuf_tl h)
noncomputable def zr_dX0_addJudge_38 := zo_89 (q := 39) zr_dX0_addJudge_37.2 rfl
noncomputable def dX0_addJudge_38 := zr_dX0_addJudge_38.1
noncomputable def zr_dX0_addJudge_39 := zo_180 (k := 48)  (q := 42) zr_dX0_addJudge_38.2 rfl rfl
noncomputable def dX0_addJudge_39 := zr_dX0_addJudge_39.1
noncomputable def zr_dX0_addJudge_42 := zo_4 (q := 43) zr_dX0_addJudge_39.2 rfl
noncomputable def dX0_addJudge_42 := zr_dX0_addJudge_42.1
theorem zo_96 {c : ByteArray} {p q : Nat} {L : List UInt8} (h : zsuf c p (96 :: L)) (hq : p + 1 = q) : zD c p .iadd 1 ∧ zsuf c q L := zfin hq (Eq.trans (zbd (zu1 (v := 96) h rfl)) rfl) (zsuf_tl h)
noncomputable def zr_dX0_addJudge_43 := zo_96 (q := 44) zr_dX0_addJudge_42.2 rfl
noncomputable def dX0_addJudge_43 := zr_dX0_addJudge_43.1
noncomputable def zr_dX0_addJudge_44 := zo_181 (k := 48)  (q := 47) zr_dX0_addJudge_43.2 rfl rfl
noncomputable def dX0_addJudge_44 := zr_dX0_addJudge_44.1
noncomputable def zr_dX0_addJudge_47 := zo_28 (q := 48) zr_dX0_addJudge_44.2 rfl
noncomputable def dX0_addJudge_47 := zr_dX0_addJudge_47.1
noncomputable def zr_dX0_addJudge_48 := zo_172 (q := 49) zr_dX0_addJudge_47.2 rfl
noncomputable def dX0_addJudge_48 := zr_dX0_addJudge_48.1
theorem zs_dX0_addPebble_0 : zsuf cX0_addPebble 0 cX0_addPebble.data.toList := rfl
noncomputable def zr_dX0_addPebble_0 := zo_42 (q := 1) zs_dX0_addPebble_0 rfl
noncomputable def dX0_addPebble_0 := zr_dX0_addPebble_0.1
noncomputable def zr_dX0_addPebble_1 := zo_180 (k := 52)  (q := 4) zr_dX0_addPebble_0.2 rfl rfl
noncomputable def dX0_addPebble_1 := zr_dX0_addPebble_1.1
noncomputable def zr_dX0_addPebble_4 := zo_16 (k := 6)  (q := 6) zr_dX0_addPebble_1.2 (by decide +kernel) rfl
noncomputable def dX0_addPebble_4 := zr_dX0_addPebble_4.1
noncomputable def zr_dX0_addPebble_6 := zo_161 (k := 6)  (q := 9) zr_dX0_addPebble_4.2 (by decide +kernel) rfl
noncomputable def dX0_addPebble_6 := zr_dX0_addPebble_6.1
noncomputable def zr_dX0_addPebble_9 := zo_16 (k := -4)  (q := 11) zr_dX0_addPebble_6.2 (by decide +kernel) rfl
noncomputable def dX0_addPebble_9 := zr_dX0_addPebble_9.1
noncomputable def zr_dX0_addPebble_11 := zo_172 (q := 12) zr_dX0_addPebble_9.2 rfl
noncomputable def dX0_addPebble_11 := zr_dX0_addPebble_11.1
noncomputable def zr_dX0_addPebble_12 := zo_42 (q := 13) zr_dX0_addPebble_11.2 rfl
noncomputable def dX0_addPebble_12 := zr_dX0_addPebble_12.1
noncomputable def zr_dX0_addPebble_13 := zo_180 (k := 52)  (q := 16) zr_dX0_addPebble_12.2 rfl rfl
noncomputable def dX0_addPebble_13 := zr_dX0_addPebble_13.1
theorem zo_62 {c : ByteArray} {p q : Nat} {L : List UInt8} (h : zsuf c p (62 :: L)) (hq : p + 1 = q) : zD c p (.istore_n 3) 1 ∧ zsuf c q L := zfin hq (Eq.trans (zbd (zu1 (v := 62) h rfl)) rfl) (zsuf_tl h)
noncomputable def zr_dX0_addPebble_16 := zo_62 (q := 17) zr_dX0_addPebble_13.2 rfl
noncomputable def dX0_addPebble_16 := zr_dX0_addPebble_16.1
noncomputable def zr_dX0_addPebble_17 := zo_42 (q := 18) zr_dX0_addPebble_16.2 rfl
noncomputable def dX0_addPebble_17 := zr_dX0_addPebble_17.1
noncomputable def zr_dX0_addPebble_18 := zo_180 (k := 26)  (q := 21) zr_dX0_addPebble_17.2 rfl rfl
noncomputable def dX0_addPebble_18 := zr_dX0_addPebble_18.1
theorem zo_29 {c : ByteArray} {p q : Nat} {L : List UInt8} (h : zsuf c p (29 :: L)) (hq : p + 1 = q) : zD c p (.iload_n 3) 1 ∧ zsuf c q L := zfin hq (Eq.trans (zbd (zu1 (v := 29) h rfl)) rfl) (zsuf_tl h)
noncomputable def zr_dX0_addPebble_21 := zo_29 (q := 22) zr_dX0_addPebble_18.2 rfl
noncomputable def dX0_addPebble_21 := zr_dX0_addPebble_21.1
noncomputable def zr_dX0_addPebble_22 := zo_27 (q := 23) zr_dX0_addPebble_21.2 rfl
noncomputable def dX0_addPebble_22 := zr_dX0_addPebble_22.1
noncomputable def zr_dX0_addPebble_23 := zo_16 (k := 10)  (q := 25) zr_dX0_addPebble_22.2 (by decide +kernel) rfl
noncomputable def dX0_addPebble_23 := zr_dX0_addPebble_23.1
theorem zo_108 {c : ByteArray} {p q : Nat} {L : List UInt8} (h : zsuf c p (108 :: L)) (hq : p + 1 = q) : zD c p .idiv 1 ∧ zsuf c q L := zfin hq (Eq.trans (zbd (zu1 (v := 108) h rfl)) rfl) (zsuf_tl h)
noncomputable def zr_dX0_addPebble_25 := zo_108 (q := 26) zr_dX0_addPebble_23.2 rfl
noncomputable def dX0_addPebble_25 := zr_dX0_addPebble_25.1
noncomputable def zr_dX0_addPebble_26 := zo_79 (q := 27) zr_dX0_addPebble_25.2 rfl
noncomputable def dX0_addPebble_26 := zr_dX0_addPebble_26.1
noncomputable def zr_dX0_addPebble_27 := zo_42 (q := 28) zr_dX0_addPebble_26.2 rfl
noncomputable def dX0_addPebble_27 := zr_dX0_addPebble_27.1
noncomputable def zr_dX0_addPebble_28 := zo_180 (k := 29)  (q := 31) zr_dX0_addPebble_27.2 rfl rfl
noncomputable def dX0_addPebble_28 := zr_dX0_addPebble_28.1
noncomputable def zr_dX0_addPebble_31 := zo_29 (q := 32) zr_dX0_addPebble_28.2 rfl
noncomputable def dX0_addPebble_31 := zr_dX0_addPebble_31.1
noncomputable def zr_dX0_addPebble_32 := zo_27 (q := 33) zr_dX0_addPebble_31.2 rfl
noncomputable def dX0_addPebble_32 := zr_dX0_addPebble_32.1
noncomputable def zr_dX0_addPebble_33 := zo_16 (k := 10)  (q := 35) zr_dX0_addPebble_32.2 (by decide +kernel) rfl
noncomputable def dX0_addPebble_33 := zr_dX0_addPebble_33.1
theorem zo_112 {c : ByteArray} {p q : Nat} {L : List UInt8} (h : zsuf c p (112 :: L)) (hq : p + 1 = q) : zD c p .irem 1 ∧ zsuf c q L := zfin hq (Eq.trans (zbd (zu1 (v := 112) h rfl)) rfl) (zsuf_tl h)
noncomputable def zr_dX0_addPebble_35 := zo_112 (q := 36) zr_dX0_addPebble_33.2 rfl
noncomputable def dX0_addPebble_35 := zr_dX0_addPebble_35.1
noncomputable def zr_dX0_addPebble_36 := zo_79 (q := 37) zr_dX0_addPebble_35.2 rfl
noncomputable def dX0_addPebble_36 := zr_dX0_addPebble_36.1
noncomputable def zr_dX0_addPebble_37 := zo_42 (q := 38) zr_dX0_addPebble_36.2 rfl
noncomputable def dX0_addPebble_37 := zr_dX0_addPebble_37.1
noncomputable def zr_dX0_addPebble_38 := zo_180 (k := 32)  (q := 41) zr_dX0_addPebble_37.2 rfl rfl
noncomputable def dX0_addPebble_38 := zr_dX0_addPebble_38.1
noncomputable def zr_dX0_addPebble_41 := zo_29 (q := 42) zr_dX0_addPebble_38.2 rfl
noncomputable def dX0_addPebble_41 := zr_dX0_addPebble_41.1
noncomputable def zr_dX0_addPebble_42 := zo_28 (q := 43) zr_dX0_addPebble_41.2 rfl
noncomputable def dX0_addPebble_42 := zr_dX0_addPebble_42.1
noncomputable def zr_dX0_addPebble_43 := zo_16 (k := 100)  (q := 45) zr_dX0_addPebble_42.2 (by decide +kernel) rfl
noncomputable def dX0_addPebble_43 := zr_dX0_addPebble_43.1
noncomputable def zr_dX0_addPebble_45 := zo_108 (q := 46) zr_dX0_addPebble_43.2 rfl
noncomputable def dX0_addPebble_45 := zr_dX0_addPebble_45.1
noncomputable def zr_dX0_addPebble_46 := zo_79 (q := 47) zr_dX0_addPebble_45.2 rfl
noncomputable def dX0_addPebble_46 := zr_dX0_addPebble_46.1
noncomputable def zr_dX0_addPebble_47 := zo_42 (q := 48) zr_dX0_addPebble_46.2 rfl
noncomputable def dX0_addPebble_47 := zr_dX0_addPebble_47.1
noncomputable def zr_dX0_addPebble_48 := zo_180 (k := 35)  (q := 51) zr_dX0_addPebble_47.2 rfl rfl
noncomputable def dX0_addPebble_48 := zr_dX0_addPebble_48.1
noncomputable def zr_dX0_addPebble_51 := zo_29 (q := 52) zr_dX0_addPebble_48.2 rfl
noncomputable def dX0_addPebble_51 := zr_dX0_addPebble_51.1
noncomputable def zr_dX0_addPebble_52 := zo_28 (q := 53) zr_dX0_addPebble_51.2 rfl
noncomputable def dX0_addPebble_52 := zr_dX0_addPebble_52.1
noncomputable def zr_dX0_addPebble_53 := zo_16 (k := 100)  (q := 55) zr_dX0_addPebble_52.2 (by decide +kernel) rfl
noncomputable def dX0_addPebble_53 := zr_dX0_addPebble_53.1
noncomputable def zr_dX0_addPebble_55 := zo_112 (q := 56) zr_dX0_addPebble_53.2 rfl
noncomputable def dX0_addPebble_55 := zr_dX0_addPebble_55.1
noncomputable def zr_dX0_addPebble_56 := zo_79 (q := 57) zr_dX0_addPebble_55.2 rfl
noncomputable def dX0_addPebble_56 := zr_dX0_addPebble_56.1
noncomputable def zr_dX0_addPebble_57 := zo_42 (q := 58) zr_dX0_addPebble_56.2 rfl
noncomputable def dX0_addPebble_57 := zr_dX0_addPebble_57.1
noncomputable def zr_dX0_addPebble_58 := zo_89 (q := 59) zr_dX0_addPebble_57.2 rfl
noncomputable def dX0_addPebble_58 := zr_dX0_addPebble_58.1
noncomputable def zr_dX0_addPebble_59 := zo_180 (k := 52)  (q := 62) zr_dX0_addPebble_58.2 rfl rfl
noncomputable def dX0_addPebble_59 := zr_dX0_addPebble_59.1
noncomputable def zr_dX0_addPebble_62 := zo_4 (q := 63) zr_dX0_addPebble_59.2 rfl
noncomputable def dX0_addPebble_62 := zr_dX0_addPebble_62.1
noncomputable def zr_dX0_addPebble_63 := zo_96 (q := 64) zr_dX0_addPebble_62.2 rfl
noncomputable def dX0_addPebble_63 := zr_dX0_addPebble_63.1
noncomputable def zr_dX0_addPebble_64 := zo_181 (k := 52)  (q := 67) zr_dX0_addPebble_63.2 rfl rfl
noncomputable def dX0_addPebble_64 := zr_dX0_addPebble_64.1
noncomputable def zr_dX0_addPebble_67 := zo_29 (q := 68) zr_dX0_addPebble_64.2 rfl
noncomputable def dX0_addPebble_67 := zr_dX0_addPebble_67.1
noncomputable def zr_dX0_addPebble_68 := zo_172 (q := 69) zr_dX0_addPebble_67.2 rfl
noncomputable def dX0_addPebble_68 := zr_dX0_addPebble_68.1
theorem zs_dX0_says_0 : zsuf cX0_says 0 cX0_says.data.toList := rfl
noncomputable def zr_dX0_says_0 := zo_42 (q := 1) zs_dX0_says_0 rfl
noncomputable def dX0_says_0 := zr_dX0_says_0.1
noncomputable def zr_dX0_says_1 := zo_180 (k := 11)  (q := 4) zr_dX0_says_0.2 rfl rfl
noncomputable def dX0_says_1 := zr_dX0_says_1.1
noncomputable def zr_dX0_says_4 := zo_3 (q := 5) zr_dX0_says_1.2 rfl
noncomputable def dX0_says_4 := zr_dX0_says_4.1
noncomputable def zr_dX0_says_5 := zo_42 (q := 6) zr_dX0_says_4.2 rfl
noncomputable def dX0_says_5 := zr_dX0_says_5.1
noncomputable def zr_dX0_says_6 := zo_180 (k := 32)  (q := 9) zr_dX0_says_5.2 rfl rfl
noncomputable def dX0_says_6 := zr_dX0_says_6.1
noncomputable def zr_dX0_says_9 := zo_29 (q := 10) zr_dX0_says_6.2 rfl
noncomputable def dX0_says_9 := zr_dX0_says_9.1
theorem zo_46 {c : ByteArray} {p q : Nat} {L : List UInt8} (h : zsuf c p (46 :: L)) (hq : p + 1 = q) : zD c p .iaload 1 ∧ zsuf c q L := zfin hq (Eq.trans (zbd (zu1 (v := 46) h rfl)) rfl) (zsuf_tl h)
noncomputable def zr_dX0_says_10 := zo_46 (q := 11) zr_dX0_says_9.2 rfl
noncomputable def dX0_says_10 := zr_dX0_says_10.1
noncomputable def zr_dX0_says_11 := zo_79 (q := 12) zr_dX0_says_10.2 rfl
noncomputable def dX0_says_11 := zr_dX0_says_11.1
noncomputable def zr_dX0_says_12 := zo_42 (q := 13) zr_dX0_says_11.2 rfl
noncomputable def dX0_says_12 := zr_dX0_says_12.1
noncomputable def zr_dX0_says_13 := zo_180 (k := 11)  (q := 16) zr_dX0_says_12.2 rfl rfl
noncomputable def dX0_says_13 := zr_dX0_says_13.1
noncomputable def zr_dX0_says_16 := zo_4 (q := 17) zr_dX0_says_13.2 rfl
noncomputable def dX0_says_16 := zr_dX0_says_16.1
noncomputable def zr_dX0_says_17 := zo_42 (q := 18) zr_dX0_says_16.2 rfl
noncomputable def dX0_says_17 := zr_dX0_says_17.1
noncomputable def zr_dX0_says_18 := zo_180 (k := 35)  (q := 21) zr_dX0_says_17.2 rfl rfl
noncomputable def dX0_says_18 := zr_dX0_says_18.1
noncomputable def zr_dX0_says_21 := zo_29 (q := 22) zr_dX0_says_18.2 rfl
noncomputable def dX0_says_21 := zr_dX0_says_21.1
noncomputable def zr_dX0_says_22 := zo_46 (q := 23) zr_dX0_says_21.2 rfl
noncomputable def dX0_says_22 := zr_dX0_says_22.1
noncomputable def zr_dX0_says_23 := zo_79 (q := 24) zr_dX0_says_22.2 rfl
noncomputable def dX0_says_23 := zr_dX0_says_23.1
noncomputable def zr_dX0_says_24 := zo_42 (q := 25) zr_dX0_says_23.2 rfl
noncomputable def dX0_says_24 := zr_dX0_says_24.1
noncomputable def zr_dX0_says_25 := zo_180 (k := 11)  (q := 28) zr_dX0_says_24.2 rfl rfl
noncomputable def dX0_says_25 := zr_dX0_says_25.1
theorem zo_5 {c : ByteArray} {p q : Nat} {L : List UInt8} (h : zsuf c p (5 :: L)) (hq : p + 1 = q) : zD c p (.iconst 2) 1 ∧ zsuf c q L := zfin hq (Eq.trans (zbd (zu1 (v := 5) h rfl)) rfl) (zsuf_tl h)
noncomputable def zr_dX0_says_28 := zo_5 (q := 29) zr_dX0_says_25.2 rfl
noncomputable def dX0_says_28 := zr_dX0_says_28.1
noncomputable def zr_dX0_says_29 := zo_42 (q := 30) zr_dX0_says_28.2 rfl
noncomputable def dX0_says_29 := zr_dX0_says_29.1
noncomputable def zr_dX0_says_30 := zo_180 (k := 17)  (q := 33) zr_dX0_says_29.2 rfl rfl
noncomputable def dX0_says_30 := zr_dX0_says_30.1
noncomputable def zr_dX0_says_33 := zo_28 (q := 34) zr_dX0_says_30.2 rfl
noncomputable def dX0_says_33 := zr_dX0_says_33.1
noncomputable def zr_dX0_says_34 := zo_46 (q := 35) zr_dX0_says_33.2 rfl
noncomputable def dX0_says_34 := zr_dX0_says_34.1
noncomputable def zr_dX0_says_35 := zo_79 (q := 36) zr_dX0_says_34.2 rfl
noncomputable def dX0_says_35 := zr_dX0_says_35.1
noncomputable def zr_dX0_says_36 := zo_42 (q := 37) zr_dX0_says_35.2 rfl
noncomputable def dX0_says_36 := zr_dX0_says_36.1
noncomputable def zr_dX0_says_37 := zo_180 (k := 11)  (q := 40) zr_dX0_says_36.2 rfl rfl
noncomputable def dX0_says_37 := zr_dX0_says_37.1
theorem zo_6 {c : ByteArray} {p q : Nat} {L : List UInt8} (h : zsuf c p (6 :: L)) (hq : p + 1 = q) : zD c p (.iconst 3) 1 ∧ zsuf c q L := zfin hq (Eq.trans (zbd (zu1 (v := 6) h rfl)) rfl) (zsuf_tl h)
noncomputable def zr_dX0_says_40 := zo_6 (q := 41) zr_dX0_says_37.2 rfl
noncomputable def dX0_says_40 := zr_dX0_says_40.1
noncomputable def zr_dX0_says_41 := zo_42 (q := 42) zr_dX0_says_40.2 rfl
noncomputable def dX0_says_41 := zr_dX0_says_41.1
noncomputable def zr_dX0_says_42 := zo_180 (k := 20)  (q := 45) zr_dX0_says_41.2 rfl rfl
noncomputable def dX0_says_42 := zr_dX0_says_42.1
noncomputable def zr_dX0_says_45 := zo_28 (q := 46) zr_dX0_says_42.2 rfl
noncomputable def dX0_says_45 := zr_dX0_says_45.1
noncomputable def zr_dX0_says_46 := zo_46 (q := 47) zr_dX0_says_45.2 rfl
noncomputable def dX0_says_46 := zr_dX0_says_46.1
noncomputable def zr_dX0_says_47 := zo_79 (q := 48) zr_dX0_says_46.2 rfl
noncomputable def dX0_says_47 := zr_dX0_says_47.1
noncomputable def zr_dX0_says_48 := zo_42 (q := 49) zr_dX0_says_47.2 rfl
noncomputable def dX0_says_48 := zr_dX0_says_48.1
noncomputable def zr_dX0_says_49 := zo_180 (k := 11)  (q := 52) zr_dX0_says_48.2 rfl rfl
noncomputable def dX0_says_49 := zr_dX0_says_49.1
noncomputable def zr_dX0_says_52 := zo_7 (q := 53) zr_dX0_says_49.2 rfl
noncomputable def dX0_says_52 := zr_dX0_says_52.1
noncomputable def zr_dX0_says_53 := zo_42 (q := 54) zr_dX0_says_52.2 rfl
noncomputable def dX0_says_53 := zr_dX0_says_53.1
noncomputable def zr_dX0_says_54 := zo_180 (k := 29)  (q := 57) zr_dX0_says_53.2 rfl rfl
noncomputable def dX0_says_54 := zr_dX0_says_54.1
noncomputable def zr_dX0_says_57 := zo_29 (q := 58) zr_dX0_says_54.2 rfl
noncomputable def dX0_says_57 := zr_dX0_says_57.1
noncomputable def zr_dX0_says_58 := zo_46 (q := 59) zr_dX0_says_57.2 rfl
noncomputable def dX0_says_58 := zr_dX0_says_58.1
noncomputable def zr_dX0_says_59 := zo_79 (q := 60) zr_dX0_says_58.2 rfl
noncomputable def dX0_says_59 := zr_dX0_says_59.1
noncomputable def zr_dX0_says_60 := zo_42 (q := 61) zr_dX0_says_59.2 rfl
noncomputable def dX0_says_60 := zr_dX0_says_60.1
noncomputable def zr_dX0_says_61 := zo_180 (k := 11)  (q := 64) zr_dX0_says_60.2 rfl rfl
noncomputable def dX0_says_61 := zr_dX0_says_61.1
theorem zo_8 {c : ByteArray} {p q : Nat} {L : List UInt8} (h : zsuf c p (8 :: L)) (hq : p + 1 = q) : zD c p (.iconst 5) 1 ∧ zsuf c q L := zfin hq (Eq.trans (zbd (zu1 (v := 8) h rfl)) rfl) (zsuf_tl h)
noncomputable def zr_dX0_says_64 := zo_8 (q := 65) zr_dX0_says_61.2 rfl
noncomputable def dX0_says_64 := zr_dX0_says_64.1
noncomputable def zr_dX0_says_65 := zo_28 (q := 66) zr_dX0_says_64.2 rfl
noncomputable def dX0_says_65 := zr_dX0_says_65.1
noncomputable def zr_dX0_says_66 := zo_79 (q := 67) zr_dX0_says_65.2 rfl
noncomputable def dX0_says_66 := zr_dX0_says_66.1
noncomputable def zr_dX0_says_67 := zo_27 (q := 68) zr_dX0_says_66.2 rfl
noncomputable def dX0_says_67 := zr_dX0_says_67.1
theorem zo_154 {c : ByteArray} {p q : Nat} {x y : UInt8} {L : List UInt8} {k : Int} (h : zsuf c p (154 :: x :: y :: L)) (hk : Reader.signed 16 (x.toNat * 256 + y.toNat) = k) (hq : p + 3 = q) : zD c p (.ifCond .ne k) 3 ∧ zsuf c q L := zfin hq (Eq.trans (zbd (zu1 (v := 154) h rfl)) (Eq.trans (zbd (zs2 (zsuf_tl h) hk)) rfl)) (zsuf_tl (zsuf_tl (zsuf_tl h)))
noncomputable def zr_dX0_says_68 := zo_154 (k := 8)  (q := 71) zr_dX0_says_67.2 (by decide +kernel) rfl
noncomputable def dX0_says_68 := zr_dX0_says_68.1
noncomputable def zr_dX0_says_71 := zo_16 (k := 99)  (q := 73) zr_dX0_says_68.2 (by decide +kernel) rfl
noncomputable def dX0_says_71 := zr_dX0_says_71.1
noncomputable def zr_dX0_says_73 := zo_167 (k := 16)  (q := 76) zr_dX0_says_71.2 (by decide +kernel) rfl
noncomputable def dX0_says_73 := zr_dX0_says_73.1
noncomputable def zr_dX0_says_76 := zo_27 (q := 77) zr_dX0_says_73.2 rfl
noncomputable def dX0_says_76 := zr_dX0_says_76.1
noncomputable def zr_dX0_says_77 := zo_4 (q := 78) zr_dX0_says_76.2 rfl
noncomputable def dX0_says_77 := zr_dX0_says_77.1
theorem zo_160 {c : ByteArray} {p q : Nat} {x y : UInt8} {L : List UInt8} {k : Int} (h : zsuf c p (160 :: x :: y :: L)) (hk : Reader.signed 16 (x.toNat * 256 + y.toNat) = k) (hq : p + 3 = q) : zD c p (.if_icmp .ne k) 3 ∧ zsuf c q L := zfin hq (Eq.trans (zbd (zu1 (v := 160) h rfl)) (Eq.trans (zbd (zs2 (zsuf_tl h) hk)) rfl)) (zsuf_tl (zsuf_tl (zsuf_tl h)))
noncomputable def zr_dX0_says_78 := zo_160 (k := 8)  (q := 81) zr_dX0_says_77.2 (by decide +kernel) rfl
noncomputable def dX0_says_78 := zr_dX0_says_78.1
noncomputable def zr_dX0_says_81 := zo_16 (k := 20)  (q := 83) zr_dX0_says_78.2 (by decide +kernel) rfl
noncomputable def dX0_says_81 := zr_dX0_says_81.1
noncomputable def zr_dX0_says_83 := zo_167 (k := 6)  (q := 86) zr_dX0_says_81.2 (by decide +kernel) rfl
noncomputable def dX0_says_83 := zr_dX0_says_83.1
theorem zo_17 {c : ByteArray} {p q : Nat} {x y : UInt8} {L : List UInt8} {k : Int} (h : zsuf c p (17 :: x :: y :: L)) (hk : Reader.signed 16 (x.toNat * 256 + y.toNat) = k) (hq : p + 3 = q) : zD c p (.sipush k) 3 ∧ zsuf c q L := zfin hq (Eq.trans (zbd (zu1 (v := 17) h rfl)) (Eq.trans (zbd (zs2 (zsuf_tl h) hk)) rfl)) (zsuf_tl (zsuf_tl (zsuf_tl h)))
noncomputable def zr_dX0_says_86 := zo_17 (k := 9999)  (q := 89) zr_dX0_says_83.2 (by decide +kernel) rfl
noncomputable def dX0_says_86 := zr_dX0_says_86.1
theorem zo_54 {c : ByteArray} {p q : Nat} {x : UInt8} {L : List UInt8} {k : Nat} (h : zsuf c p (54 :: x :: L)) (hk : x.toNat = k) (hq : p + 2 = q) : zD c p (.istore k) 2 ∧ zsuf c q L := zfin hq (Eq.trans (zbd (zu1 (v := 54) h rfl)) (Eq.trans (zbd (zu1 (zsuf_tl h) hk)) rfl)) (zsuf_tl (zsuf_tl h))
noncomputable def zr_dX0_says_89 := zo_54 (k := 4)  (q := 91) zr_dX0_says_86.2 rfl rfl
noncomputable def dX0_says_89 := zr_dX0_says_89.1
noncomputable def zr_dX0_says_91 := zo_3 (q := 92) zr_dX0_says_89.2 rfl
noncomputable def dX0_says_91 := zr_dX0_says_91.1
theorem zo_21 {c : ByteArray} {p q : Nat} {x : UInt8} {L : List UInt8} {k : Nat} (h : zsuf c p (21 :: x :: L)) (hk : x.toNat = k) (hq : p + 2 = q) : zD c p (.iload k) 2 ∧ zsuf c q L := zfin hq (Eq.trans (zbd (zu1 (v := 21) h rfl)) (Eq.trans (zbd (zu1 (zsuf_tl h) hk)) rfl)) (zsuf_tl (zsuf_tl h))
noncomputable def zr_dX0_says_92 := zo_21 (k := 4)  (q := 94) zr_dX0_says_91.2 rfl rfl
noncomputable def dX0_says_92 := zr_dX0_says_92.1
noncomputable def zr_dX0_says_94 := zo_42 (q := 95) zr_dX0_says_92.2 rfl
noncomputable def dX0_says_94 := zr_dX0_says_94.1
noncomputable def zr_dX0_says_95 := zo_180 (k := 38)  (q := 98) zr_dX0_says_94.2 rfl rfl
noncomputable def dX0_says_95 := zr_dX0_says_95.1
noncomputable def zr_dX0_says_98 := zo_42 (q := 99) zr_dX0_says_95.2 rfl
noncomputable def dX0_says_98 := zr_dX0_says_98.1
noncomputable def zr_dX0_says_99 := zo_180 (k := 55)  (q := 102) zr_dX0_says_98.2 rfl rfl
noncomputable def dX0_says_99 := zr_dX0_says_99.1
noncomputable def zr_dX0_says_102 := zo_27 (q := 103) zr_dX0_says_99.2 rfl
noncomputable def dX0_says_102 := zr_dX0_says_102.1
noncomputable def zr_dX0_says_103 := zo_42 (q := 104) zr_dX0_says_102.2 rfl
noncomputable def dX0_says_103 := zr_dX0_says_103.1
noncomputable def zr_dX0_says_104 := zo_180 (k := 11)  (q := 107) zr_dX0_says_103.2 rfl rfl
noncomputable def dX0_says_104 := zr_dX0_says_104.1
noncomputable def zr_dX0_says_107 := zo_182 (k := 65)  (q := 110) zr_dX0_says_104.2 rfl rfl
noncomputable def dX0_says_107 := zr_dX0_says_107.1
noncomputable def zr_dX0_says_110 := zo_184 (k := 71)  (q := 113) zr_dX0_says_107.2 rfl rfl
noncomputable def dX0_says_110 := zr_dX0_says_110.1
noncomputable def zr_dX0_says_113 := zo_184 (k := 77)  (q := 116) zr_dX0_says_110.2 rfl rfl
noncomputable def dX0_says_113 := zr_dX0_says_113.1
noncomputable def zr_dX0_says_116 := zo_172 (q := 117) zr_dX0_says_113.2 rfl
noncomputable def dX0_says_116 := zr_dX0_says_116.1
theorem zs_dX0_isSand_0 : zsuf cX0_isSand 0 cX0_isSand.data.toList := rfl
noncomputable def zr_dX0_isSand_0 := zo_42 (q := 1) zs_dX0_isSand_0 rfl
noncomputable def dX0_isSand_0 := zr_dX0_isSand_0.1
noncomputable def zr_dX0_isSand_1 := zo_180 (k := 26)  (q := 4) zr_dX0_isSand_0.2 rfl rfl
noncomputable def dX0_isSand_1 := zr_dX0_isSand_1.1
noncomputable def zr_dX0_isSand_4 := zo_27 (q := 5) zr_dX0_isSand_1.2 rfl
noncomputable def dX0_isSand_4 := zr_dX0_isSand_4.1
noncomputable def zr_dX0_isSand_5 := zo_46 (q := 6) zr_dX0_isSand_4.2 rfl
noncomputable def dX0_isSand_5 := zr_dX0_isSand_5.1
theorem dX0_isSand_6 : zD cX0_isSand 6 (.tableswitch 67 2 5 #[30, 67, 30, 51]) 30 := by decide +kernel
noncomputable def zr_dX0_isSand_6 := zskip zr_dX0_isSand_5.2 30 (q := 36) rfl
noncomputable def zr_dX0_isSand_36 := zo_42 (q := 37) zr_dX0_isSand_6 rfl
noncomputable def dX0_isSand_36 := zr_dX0_isSand_36.1
noncomputable def zr_dX0_isSand_37 := zo_180 (k := 32)  (q := 40) zr_dX0_isSand_36.2 rfl rfl
noncomputable def dX0_isSand_37 := zr_dX0_isSand_37.1
noncomputable def zr_dX0_isSand_40 := zo_27 (q := 41) zr_dX0_isSand_37.2 rfl
noncomputable def dX0_isSand_40 := zr_dX0_isSand_40.1
noncomputable def zr_dX0_isSand_41 := zo_46 (q := 42) zr_dX0_isSand_40.2 rfl
noncomputable def dX0_isSand_41 := zr_dX0_isSand_41.1
noncomputable def zr_dX0_isSand_42 := zo_42 (q := 43) zr_dX0_isSand_41.2 rfl
noncomputable def dX0_isSand_42 := zr_dX0_isSand_42.1
noncomputable def zr_dX0_isSand_43 := zo_180 (k := 29)  (q := 46) zr_dX0_isSand_42.2 rfl rfl
noncomputable def dX0_isSand_43 := zr_dX0_isSand_43.1
noncomputable def zr_dX0_isSand_46 := zo_27 (q := 47) zr_dX0_isSand_43.2 rfl
noncomputable def dX0_isSand_46 := zr_dX0_isSand_46.1
noncomputable def zr_dX0_isSand_47 := zo_46 (q := 48) zr_dX0_isSand_46.2 rfl
noncomputable def dX0_isSand_47 := zr_dX0_isSand_47.1
theorem zo_163 {c : ByteArray} {p q : Nat} {x y : UInt8} {L : List UInt8} {k : Int} (h : zsuf c p (163 :: x :: y :: L)) (hk : Reader.signed 16 (x.toNat * 256 + y.toNat) = k) (hq : p + 3 = q) : zD c p (.if_icmp .gt k) 3 ∧ zsuf c q L := zfin hq (Eq.trans (zbd (zu1 (v := 163) h rfl)) (Eq.trans (zbd (zs2 (zsuf_tl h) hk)) rfl)) (zsuf_tl (zsuf_tl (zsuf_tl h)))
noncomputable def zr_dX0_isSand_48 := zo_163 (k := 7)  (q := 51) zr_dX0_isSand_47.2 (by decide +kernel) rfl
noncomputable def dX0_isSand_48 := zr_dX0_isSand_48.1
noncomputable def zr_dX0_isSand_51 := zo_4 (q := 52) zr_dX0_isSand_48.2 rfl
noncomputable def dX0_isSand_51 := zr_dX0_isSand_51.1
noncomputable def zr_dX0_isSand_52 := zo_167 (k := 4)  (q := 55) zr_dX0_isSand_51.2 (by decide +kernel) rfl
noncomputable def dX0_isSand_52 := zr_dX0_isSand_52.1
noncomputable def zr_dX0_isSand_55 := zo_3 (q := 56) zr_dX0_isSand_52.2 rfl
noncomputable def dX0_isSand_55 := zr_dX0_isSand_55.1
noncomputable def zr_dX0_isSand_56 := zo_172 (q := 57) zr_dX0_isSand_55.2 rfl
noncomputable def dX0_isSand_56 := zr_dX0_isSand_56.1
noncomputable def zr_dX0_isSand_57 := zo_42 (q := 58) zr_dX0_isSand_56.2 rfl
noncomputable def dX0_isSand_57 := zr_dX0_isSand_57.1
noncomputable def zr_dX0_isSand_58 := zo_180 (k := 32)  (q := 61) zr_dX0_isSand_57.2 rfl rfl
noncomputable def dX0_isSand_58 := zr_dX0_isSand_58.1
noncomputable def zr_dX0_isSand_61 := zo_27 (q := 62) zr_dX0_isSand_58.2 rfl
noncomputable def dX0_isSand_61 := zr_dX0_isSand_61.1
noncomputable def zr_dX0_isSand_62 := zo_46 (q := 63) zr_dX0_isSand_61.2 rfl
noncomputable def dX0_isSand_62 := zr_dX0_isSand_62.1
noncomputable def zr_dX0_isSand_63 := zo_8 (q := 64) zr_dX0_isSand_62.2 rfl
noncomputable def dX0_isSand_63 := zr_dX0_isSand_63.1
noncomputable def zr_dX0_isSand_64 := zo_162 (k := 7)  (q := 67) zr_dX0_isSand_63.2 (by decide +kernel) rfl
noncomputable def dX0_isSand_64 := zr_dX0_isSand_64.1
noncomputable def zr_dX0_isSand_67 := zo_4 (q := 68) zr_dX0_isSand_64.2 rfl
noncomputable def dX0_isSand_67 := zr_dX0_isSand_67.1
noncomputable def zr_dX0_isSand_68 := zo_167 (k := 4)  (q := 71) zr_dX0_isSand_67.2 (by decide +kernel) rfl
noncomputable def dX0_isSand_68 := zr_dX0_isSand_68.1
noncomputable def zr_dX0_isSand_71 := zo_3 (q := 72) zr_dX0_isSand_68.2 rfl
noncomputable def dX0_isSand_71 := zr_dX0_isSand_71.1
noncomputable def zr_dX0_isSand_72 := zo_172 (q := 73) zr_dX0_isSand_71.2 rfl
noncomputable def dX0_isSand_72 := zr_dX0_isSand_72.1
noncomputable def zr_dX0_isSand_73 := zo_42 (q := 74) zr_dX0_isSand_72.2 rfl
noncomputable def dX0_isSand_73 := zr_dX0_isSand_73.1
noncomputable def zr_dX0_isSand_74 := zo_180 (k := 32)  (q := 77) zr_dX0_isSand_73.2 rfl rfl
noncomputable def dX0_isSand_74 := zr_dX0_isSand_74.1
noncomputable def zr_dX0_isSand_77 := zo_27 (q := 78) zr_dX0_isSand_74.2 rfl
noncomputable def dX0_isSand_77 := zr_dX0_isSand_77.1
noncomputable def zr_dX0_isSand_78 := zo_46 (q := 79) zr_dX0_isSand_77.2 rfl
noncomputable def dX0_isSand_78 := zr_dX0_isSand_78.1
noncomputable def zr_dX0_isSand_79 := zo_154 (k := 7)  (q := 82) zr_dX0_isSand_78.2 (by decide +kernel) rfl
noncomputable def dX0_isSand_79 := zr_dX0_isSand_79.1
noncomputable def zr_dX0_isSand_82 := zo_4 (q := 83) zr_dX0_isSand_79.2 rfl
noncomputable def dX0_isSand_82 := zr_dX0_isSand_82.1
noncomputable def zr_dX0_isSand_83 := zo_167 (k := 4)  (q := 86) zr_dX0_isSand_82.2 (by decide +kernel) rfl
noncomputable def dX0_isSand_83 := zr_dX0_isSand_83.1
noncomputable def zr_dX0_isSand_86 := zo_3 (q := 87) zr_dX0_isSand_83.2 rfl
noncomputable def dX0_isSand_86 := zr_dX0_isSand_86.1
noncomputable def zr_dX0_isSand_87 := zo_172 (q := 88) zr_dX0_isSand_86.2 rfl
noncomputable def dX0_isSand_87 := zr_dX0_isSand_87.1
theorem zs_dX0_hurts_0 : zsuf cX0_hurts 0 cX0_hurts.data.toList := rfl
noncomputable def zr_dX0_hurts_0 := zo_27 (q := 1) zs_dX0_hurts_0 rfl
noncomputable def dX0_hurts_0 := zr_dX0_hurts_0.1
noncomputable def zr_dX0_hurts_1 := zo_42 (q := 2) zr_dX0_hurts_0.2 rfl
noncomputable def dX0_hurts_1 := zr_dX0_hurts_1.1
noncomputable def zr_dX0_hurts_2 := zo_180 (k := 17)  (q := 5) zr_dX0_hurts_1.2 rfl rfl
noncomputable def dX0_hurts_2 := zr_dX0_hurts_2.1
noncomputable def zr_dX0_hurts_5 := zo_28 (q := 6) zr_dX0_hurts_2.2 rfl
noncomputable def dX0_hurts_5 := zr_dX0_hurts_5.1
noncomputable def zr_dX0_hurts_6 := zo_46 (q := 7) zr_dX0_hurts_5.2 rfl
noncomputable def dX0_hurts_6 := zr_dX0_hurts_6.1
theorem zo_100 {c : ByteArray} {p q : Nat} {L : List UInt8} (h : zsuf c p (100 :: L)) (hq : p + 1 = q) : zD c p .isub 1 ∧ zsuf c q L := zfin hq (Eq.trans (zbd (zu1 (v := 100) h rfl)) rfl) (zsuf_tl h)
noncomputable def zr_dX0_hurts_7 := zo_100 (q := 8) zr_dX0_hurts_6.2 rfl
noncomputable def dX0_hurts_7 := zr_dX0_hurts_7.1
noncomputable def zr_dX0_hurts_8 := zo_54 (k := 4)  (q := 10) zr_dX0_hurts_7.2 rfl rfl
noncomputable def dX0_hurts_8 := zr_dX0_hurts_8.1
noncomputable def zr_dX0_hurts_10 := zo_21 (k := 4)  (q := 12) zr_dX0_hurts_8.2 rfl rfl
noncomputable def dX0_hurts_10 := zr_dX0_hurts_10.1
noncomputable def zr_dX0_hurts_12 := zo_42 (q := 13) zr_dX0_hurts_10.2 rfl
noncomputable def dX0_hurts_12 := zr_dX0_hurts_12.1
noncomputable def zr_dX0_hurts_13 := zo_180 (k := 29)  (q := 16) zr_dX0_hurts_12.2 rfl rfl
noncomputable def dX0_hurts_13 := zr_dX0_hurts_13.1
noncomputable def zr_dX0_hurts_16 := zo_29 (q := 17) zr_dX0_hurts_13.2 rfl
noncomputable def dX0_hurts_16 := zr_dX0_hurts_16.1
noncomputable def zr_dX0_hurts_17 := zo_46 (q := 18) zr_dX0_hurts_16.2 rfl
noncomputable def dX0_hurts_17 := zr_dX0_hurts_17.1
noncomputable def zr_dX0_hurts_18 := zo_96 (q := 19) zr_dX0_hurts_17.2 rfl
noncomputable def dX0_hurts_18 := zr_dX0_hurts_18.1
noncomputable def zr_dX0_hurts_19 := zo_54 (k := 5)  (q := 21) zr_dX0_hurts_18.2 rfl rfl
noncomputable def dX0_hurts_19 := zr_dX0_hurts_19.1
noncomputable def zr_dX0_hurts_21 := zo_42 (q := 22) zr_dX0_hurts_19.2 rfl
noncomputable def dX0_hurts_21 := zr_dX0_hurts_21.1
noncomputable def zr_dX0_hurts_22 := zo_180 (k := 26)  (q := 25) zr_dX0_hurts_21.2 rfl rfl
noncomputable def dX0_hurts_22 := zr_dX0_hurts_22.1
noncomputable def zr_dX0_hurts_25 := zo_29 (q := 26) zr_dX0_hurts_22.2 rfl
noncomputable def dX0_hurts_25 := zr_dX0_hurts_25.1
noncomputable def zr_dX0_hurts_26 := zo_46 (q := 27) zr_dX0_hurts_25.2 rfl
noncomputable def dX0_hurts_26 := zr_dX0_hurts_26.1
theorem dX0_hurts_27 : zD cX0_hurts 27 (.tableswitch 95 1 5 #[33, 95, 40, 64, 73]) 33 := by decide +kernel
noncomputable def zr_dX0_hurts_27 := zskip zr_dX0_hurts_26.2 33 (q := 60) rfl
noncomputable def zr_dX0_hurts_60 := zo_3 (q := 61) zr_dX0_hurts_27 rfl
noncomputable def dX0_hurts_60 := zr_dX0_hurts_60.1
noncomputable def zr_dX0_hurts_61 := zo_21 (k := 5)  (q := 63) zr_dX0_hurts_60.2 rfl rfl
noncomputable def dX0_hurts_61 := zr_dX0_hurts_61.1
noncomputable def zr_dX0_hurts_63 := zo_184 (k := 77)  (q := 66) zr_dX0_hurts_61.2 rfl rfl
noncomputable def dX0_hurts_63 := zr_dX0_hurts_63.1
noncomputable def zr_dX0_hurts_66 := zo_172 (q := 67) zr_dX0_hurts_63.2 rfl
noncomputable def dX0_hurts_66 := zr_dX0_hurts_66.1
noncomputable def zr_dX0_hurts_67 := zo_3 (q := 68) zr_dX0_hurts_66.2 rfl
noncomputable def dX0_hurts_67 := zr_dX0_hurts_67.1
noncomputable def zr_dX0_hurts_68 := zo_42 (q := 69) zr_dX0_hurts_67.2 rfl
noncomputable def dX0_hurts_68 := zr_dX0_hurts_68.1
noncomputable def zr_dX0_hurts_69 := zo_180 (k := 17)  (q := 72) zr_dX0_hurts_68.2 rfl rfl
noncomputable def dX0_hurts_69 := zr_dX0_hurts_69.1
noncomputable def zr_dX0_hurts_72 := zo_28 (q := 73) zr_dX0_hurts_69.2 rfl
noncomputable def dX0_hurts_72 := zr_dX0_hurts_72.1
noncomputable def zr_dX0_hurts_73 := zo_46 (q := 74) zr_dX0_hurts_72.2 rfl
noncomputable def dX0_hurts_73 := zr_dX0_hurts_73.1
noncomputable def zr_dX0_hurts_74 := zo_8 (q := 75) zr_dX0_hurts_73.2 rfl
noncomputable def dX0_hurts_74 := zr_dX0_hurts_74.1
noncomputable def zr_dX0_hurts_75 := zo_162 (k := 10)  (q := 78) zr_dX0_hurts_74.2 (by decide +kernel) rfl
noncomputable def dX0_hurts_75 := zr_dX0_hurts_75.1
noncomputable def zr_dX0_hurts_78 := zo_5 (q := 79) zr_dX0_hurts_75.2 rfl
noncomputable def dX0_hurts_78 := zr_dX0_hurts_78.1
noncomputable def zr_dX0_hurts_79 := zo_21 (k := 5)  (q := 81) zr_dX0_hurts_78.2 rfl rfl
noncomputable def dX0_hurts_79 := zr_dX0_hurts_79.1
theorem zo_104 {c : ByteArray} {p q : Nat} {L : List UInt8} (h : zsuf c p (104 :: L)) (hq : p + 1 = q) : zD c p .imul 1 ∧ zsuf c q L := zfin hq (Eq.trans (zbd (zu1 (v := 104) h rfl)) rfl) (zsuf_tl h)
noncomputable def zr_dX0_hurts_81 := zo_104 (q := 82) zr_dX0_hurts_79.2 rfl
noncomputable def dX0_hurts_81 := zr_dX0_hurts_81.1
noncomputable def zr_dX0_hurts_82 := zo_167 (k := 5)  (q := 85) zr_dX0_hurts_81.2 (by decide +kernel) rfl
noncomputable def dX0_hurts_82 := zr_dX0_hurts_82.1
noncomputable def zr_dX0_hurts_85 := zo_21 (k := 5)  (q := 87) zr_dX0_hurts_82.2 rfl rfl
noncomputable def dX0_hurts_85 := zr_dX0_hurts_85.1
noncomputable def zr_dX0_hurts_87 := zo_184 (k := 77)  (q := 90) zr_dX0_hurts_85.2 rfl rfl
noncomputable def dX0_hurts_87 := zr_dX0_hurts_87.1
noncomputable def zr_dX0_hurts_90 := zo_172 (q := 91) zr_dX0_hurts_87.2 rfl
noncomputable def dX0_hurts_90 := zr_dX0_hurts_90.1
noncomputable def zr_dX0_hurts_91 := zo_3 (q := 92) zr_dX0_hurts_90.2 rfl
noncomputable def dX0_hurts_91 := zr_dX0_hurts_91.1
noncomputable def zr_dX0_hurts_92 := zo_21 (k := 4)  (q := 94) zr_dX0_hurts_91.2 rfl rfl
noncomputable def dX0_hurts_92 := zr_dX0_hurts_92.1
noncomputable def zr_dX0_hurts_94 := zo_5 (q := 95) zr_dX0_hurts_92.2 rfl
noncomputable def dX0_hurts_94 := zr_dX0_hurts_94.1
noncomputable def zr_dX0_hurts_95 := zo_108 (q := 96) zr_dX0_hurts_94.2 rfl
noncomputable def dX0_hurts_95 := zr_dX0_hurts_95.1
noncomputable def zr_dX0_hurts_96 := zo_184 (k := 77)  (q := 99) zr_dX0_hurts_95.2 rfl rfl
noncomputable def dX0_hurts_96 := zr_dX0_hurts_96.1
noncomputable def zr_dX0_hurts_99 := zo_172 (q := 100) zr_dX0_hurts_96.2 rfl
noncomputable def dX0_hurts_99 := zr_dX0_hurts_99.1
noncomputable def zr_dX0_hurts_100 := zo_3 (q := 101) zr_dX0_hurts_99.2 rfl
noncomputable def dX0_hurts_100 := zr_dX0_hurts_100.1
noncomputable def zr_dX0_hurts_101 := zo_27 (q := 102) zr_dX0_hurts_100.2 rfl
noncomputable def dX0_hurts_101 := zr_dX0_hurts_101.1
noncomputable def zr_dX0_hurts_102 := zo_42 (q := 103) zr_dX0_hurts_101.2 rfl
noncomputable def dX0_hurts_102 := zr_dX0_hurts_102.1
noncomputable def zr_dX0_hurts_103 := zo_180 (k := 17)  (q := 106) zr_dX0_hurts_102.2 rfl rfl
noncomputable def dX0_hurts_103 := zr_dX0_hurts_103.1
noncomputable def zr_dX0_hurts_106 := zo_28 (q := 107) zr_dX0_hurts_103.2 rfl
noncomputable def dX0_hurts_106 := zr_dX0_hurts_106.1
noncomputable def zr_dX0_hurts_107 := zo_46 (q := 108) zr_dX0_hurts_106.2 rfl
noncomputable def dX0_hurts_107 := zr_dX0_hurts_107.1
noncomputable def zr_dX0_hurts_108 := zo_42 (q := 109) zr_dX0_hurts_107.2 rfl
noncomputable def dX0_hurts_108 := zr_dX0_hurts_108.1
noncomputable def zr_dX0_hurts_109 := zo_180 (k := 29)  (q := 112) zr_dX0_hurts_108.2 rfl rfl
noncomputable def dX0_hurts_109 := zr_dX0_hurts_109.1
noncomputable def zr_dX0_hurts_112 := zo_29 (q := 113) zr_dX0_hurts_109.2 rfl
noncomputable def dX0_hurts_112 := zr_dX0_hurts_112.1
noncomputable def zr_dX0_hurts_113 := zo_46 (q := 114) zr_dX0_hurts_112.2 rfl
noncomputable def dX0_hurts_113 := zr_dX0_hurts_113.1
noncomputable def zr_dX0_hurts_114 := zo_104 (q := 115) zr_dX0_hurts_113.2 rfl
noncomputable def dX0_hurts_114 := zr_dX0_hurts_114.1
noncomputable def zr_dX0_hurts_115 := zo_7 (q := 116) zr_dX0_hurts_114.2 rfl
noncomputable def dX0_hurts_115 := zr_dX0_hurts_115.1
noncomputable def zr_dX0_hurts_116 := zo_108 (q := 117) zr_dX0_hurts_115.2 rfl
noncomputable def dX0_hurts_116 := zr_dX0_hurts_116.1
noncomputable def zr_dX0_hurts_117 := zo_100 (q := 118) zr_dX0_hurts_116.2 rfl
noncomputable def dX0_hurts_117 := zr_dX0_hurts_117.1
noncomputable def zr_dX0_hurts_118 := zo_184 (k := 77)  (q := 121) zr_dX0_hurts_117.2 rfl rfl
noncomputable def dX0_hurts_118 := zr_dX0_hurts_118.1
noncomputable def zr_dX0_hurts_121 := zo_172 (q := 122) zr_dX0_hurts_118.2 rfl
noncomputable def dX0_hurts_121 := zr_dX0_hurts_121.1
noncomputable def zr_dX0_hurts_122 := zo_3 (q := 123) zr_dX0_hurts_121.2 rfl
noncomputable def dX0_hurts_122 := zr_dX0_hurts_122.1
noncomputable def zr_dX0_hurts_123 := zo_21 (k := 4)  (q := 125) zr_dX0_hurts_122.2 rfl rfl
noncomputable def dX0_hurts_123 := zr_dX0_hurts_123.1
noncomputable def zr_dX0_hurts_125 := zo_184 (k := 77)  (q := 128) zr_dX0_hurts_123.2 rfl rfl
noncomputable def dX0_hurts_125 := zr_dX0_hurts_125.1
noncomputable def zr_dX0_hurts_128 := zo_172 (q := 129) zr_dX0_hurts_125.2 rfl
noncomputable def dX0_hurts_128 := zr_dX0_hurts_128.1
theorem zs_dX0_wears_0 : zsuf cX0_wears 0 cX0_wears.data.toList := rfl
noncomputable def zr_dX0_wears_0 := zo_42 (q := 1) zs_dX0_wears_0 rfl
noncomputable def dX0_wears_0 := zr_dX0_wears_0.1
noncomputable def zr_dX0_wears_1 := zo_180 (k := 26)  (q := 4) zr_dX0_wears_0.2 rfl rfl
noncomputable def dX0_wears_1 := zr_dX0_wears_1.1
noncomputable def zr_dX0_wears_4 := zo_28 (q := 5) zr_dX0_wears_1.2 rfl
noncomputable def dX0_wears_4 := zr_dX0_wears_4.1
noncomputable def zr_dX0_wears_5 := zo_46 (q := 6) zr_dX0_wears_4.2 rfl
noncomputable def dX0_wears_5 := zr_dX0_wears_5.1
theorem dX0_wears_6 : zD cX0_wears 6 (.tableswitch 47 2 4 #[26, 30, 34]) 26 := by decide +kernel
noncomputable def zr_dX0_wears_6 := zskip zr_dX0_wears_5.2 26 (q := 32) rfl
noncomputable def zr_dX0_wears_32 := zo_5 (q := 33) zr_dX0_wears_6 rfl
noncomputable def dX0_wears_32 := zr_dX0_wears_32.1
noncomputable def zr_dX0_wears_33 := zo_27 (q := 34) zr_dX0_wears_32.2 rfl
noncomputable def dX0_wears_33 := zr_dX0_wears_33.1
noncomputable def zr_dX0_wears_34 := zo_104 (q := 35) zr_dX0_wears_33.2 rfl
noncomputable def dX0_wears_34 := zr_dX0_wears_34.1
noncomputable def zr_dX0_wears_35 := zo_172 (q := 36) zr_dX0_wears_34.2 rfl
noncomputable def dX0_wears_35 := zr_dX0_wears_35.1
noncomputable def zr_dX0_wears_36 := zo_27 (q := 37) zr_dX0_wears_35.2 rfl
noncomputable def dX0_wears_36 := zr_dX0_wears_36.1
noncomputable def zr_dX0_wears_37 := zo_5 (q := 38) zr_dX0_wears_36.2 rfl
noncomputable def dX0_wears_37 := zr_dX0_wears_37.1
noncomputable def zr_dX0_wears_38 := zo_108 (q := 39) zr_dX0_wears_37.2 rfl
noncomputable def dX0_wears_38 := zr_dX0_wears_38.1
noncomputable def zr_dX0_wears_39 := zo_172 (q := 40) zr_dX0_wears_38.2 rfl
noncomputable def dX0_wears_39 := zr_dX0_wears_39.1
noncomputable def zr_dX0_wears_40 := zo_27 (q := 41) zr_dX0_wears_39.2 rfl
noncomputable def dX0_wears_40 := zr_dX0_wears_40.1
noncomputable def zr_dX0_wears_41 := zo_8 (q := 42) zr_dX0_wears_40.2 rfl
noncomputable def dX0_wears_41 := zr_dX0_wears_41.1
noncomputable def zr_dX0_wears_42 := zo_163 (k := 7)  (q := 45) zr_dX0_wears_41.2 (by decide +kernel) rfl
noncomputable def dX0_wears_42 := zr_dX0_wears_42.1
noncomputable def zr_dX0_wears_45 := zo_3 (q := 46) zr_dX0_wears_42.2 rfl
noncomputable def dX0_wears_45 := zr_dX0_wears_45.1
noncomputable def zr_dX0_wears_46 := zo_167 (k := 6)  (q := 49) zr_dX0_wears_45.2 (by decide +kernel) rfl
noncomputable def dX0_wears_46 := zr_dX0_wears_46.1
noncomputable def zr_dX0_wears_49 := zo_5 (q := 50) zr_dX0_wears_46.2 rfl
noncomputable def dX0_wears_49 := zr_dX0_wears_49.1
noncomputable def zr_dX0_wears_50 := zo_27 (q := 51) zr_dX0_wears_49.2 rfl
noncomputable def dX0_wears_50 := zr_dX0_wears_50.1
noncomputable def zr_dX0_wears_51 := zo_104 (q := 52) zr_dX0_wears_50.2 rfl
noncomputable def dX0_wears_51 := zr_dX0_wears_51.1
noncomputable def zr_dX0_wears_52 := zo_172 (q := 53) zr_dX0_wears_51.2 rfl
noncomputable def dX0_wears_52 := zr_dX0_wears_52.1
noncomputable def zr_dX0_wears_53 := zo_27 (q := 54) zr_dX0_wears_52.2 rfl
noncomputable def dX0_wears_53 := zr_dX0_wears_53.1
noncomputable def zr_dX0_wears_54 := zo_172 (q := 55) zr_dX0_wears_53.2 rfl
noncomputable def dX0_wears_54 := zr_dX0_wears_54.1
theorem zs_dX0_tread_0 : zsuf cX0_tread 0 cX0_tread.data.toList := rfl
noncomputable def zr_dX0_tread_0 := zo_42 (q := 1) zs_dX0_tread_0 rfl
noncomputable def dX0_tread_0 := zr_dX0_tread_0.1
noncomputable def zr_dX0_tread_1 := zo_180 (k := 20)  (q := 4) zr_dX0_tread_0.2 rfl rfl
noncomputable def dX0_tread_1 := zr_dX0_tread_1.1
noncomputable def zr_dX0_tread_4 := zo_27 (q := 5) zr_dX0_tread_1.2 rfl
noncomputable def dX0_tread_4 := zr_dX0_tread_4.1
theorem zo_92 {c : ByteArray} {p q : Nat} {L : List UInt8} (h : zsuf c p (92 :: L)) (hq : p + 1 = q) : zD c p .dup2 1 ∧ zsuf c q L := zfin hq (Eq.trans (zbd (zu1 (v := 92) h rfl)) rfl) (zsuf_tl h)
noncomputable def zr_dX0_tread_5 := zo_92 (q := 6) zr_dX0_tread_4.2 rfl
noncomputable def dX0_tread_5 := zr_dX0_tread_5.1
noncomputable def zr_dX0_tread_6 := zo_46 (q := 7) zr_dX0_tread_5.2 rfl
noncomputable def dX0_tread_6 := zr_dX0_tread_6.1
noncomputable def zr_dX0_tread_7 := zo_4 (q := 8) zr_dX0_tread_6.2 rfl
noncomputable def dX0_tread_7 := zr_dX0_tread_7.1
noncomputable def zr_dX0_tread_8 := zo_96 (q := 9) zr_dX0_tread_7.2 rfl
noncomputable def dX0_tread_8 := zr_dX0_tread_8.1
noncomputable def zr_dX0_tread_9 := zo_79 (q := 10) zr_dX0_tread_8.2 rfl
noncomputable def dX0_tread_9 := zr_dX0_tread_9.1
noncomputable def zr_dX0_tread_10 := zo_42 (q := 11) zr_dX0_tread_9.2 rfl
noncomputable def dX0_tread_10 := zr_dX0_tread_10.1
noncomputable def zr_dX0_tread_11 := zo_180 (k := 20)  (q := 14) zr_dX0_tread_10.2 rfl rfl
noncomputable def dX0_tread_11 := zr_dX0_tread_11.1
noncomputable def zr_dX0_tread_14 := zo_27 (q := 15) zr_dX0_tread_11.2 rfl
noncomputable def dX0_tread_14 := zr_dX0_tread_14.1
noncomputable def zr_dX0_tread_15 := zo_46 (q := 16) zr_dX0_tread_14.2 rfl
noncomputable def dX0_tread_15 := zr_dX0_tread_15.1
noncomputable def zr_dX0_tread_16 := zo_16 (k := 10)  (q := 18) zr_dX0_tread_15.2 (by decide +kernel) rfl
noncomputable def dX0_tread_16 := zr_dX0_tread_16.1
noncomputable def zr_dX0_tread_18 := zo_112 (q := 19) zr_dX0_tread_16.2 rfl
noncomputable def dX0_tread_18 := zr_dX0_tread_18.1
noncomputable def zr_dX0_tread_19 := zo_154 (k := 22)  (q := 22) zr_dX0_tread_18.2 (by decide +kernel) rfl
noncomputable def dX0_tread_19 := zr_dX0_tread_19.1
noncomputable def zr_dX0_tread_22 := zo_42 (q := 23) zr_dX0_tread_19.2 rfl
noncomputable def dX0_tread_22 := zr_dX0_tread_22.1
noncomputable def zr_dX0_tread_23 := zo_180 (k := 17)  (q := 26) zr_dX0_tread_22.2 rfl rfl
noncomputable def dX0_tread_23 := zr_dX0_tread_23.1
noncomputable def zr_dX0_tread_26 := zo_27 (q := 27) zr_dX0_tread_23.2 rfl
noncomputable def dX0_tread_26 := zr_dX0_tread_26.1
noncomputable def zr_dX0_tread_27 := zo_16 (k := 20)  (q := 29) zr_dX0_tread_26.2 (by decide +kernel) rfl
noncomputable def dX0_tread_27 := zr_dX0_tread_27.1
noncomputable def zr_dX0_tread_29 := zo_42 (q := 30) zr_dX0_tread_27.2 rfl
noncomputable def dX0_tread_29 := zr_dX0_tread_29.1
noncomputable def zr_dX0_tread_30 := zo_180 (k := 17)  (q := 33) zr_dX0_tread_29.2 rfl rfl
noncomputable def dX0_tread_30 := zr_dX0_tread_30.1
noncomputable def zr_dX0_tread_33 := zo_27 (q := 34) zr_dX0_tread_30.2 rfl
noncomputable def dX0_tread_33 := zr_dX0_tread_33.1
noncomputable def zr_dX0_tread_34 := zo_46 (q := 35) zr_dX0_tread_33.2 rfl
noncomputable def dX0_tread_34 := zr_dX0_tread_34.1
noncomputable def zr_dX0_tread_35 := zo_4 (q := 36) zr_dX0_tread_34.2 rfl
noncomputable def dX0_tread_35 := zr_dX0_tread_35.1
noncomputable def zr_dX0_tread_36 := zo_96 (q := 37) zr_dX0_tread_35.2 rfl
noncomputable def dX0_tread_36 := zr_dX0_tread_36.1
noncomputable def zr_dX0_tread_37 := zo_184 (k := 71)  (q := 40) zr_dX0_tread_36.2 rfl rfl
noncomputable def dX0_tread_37 := zr_dX0_tread_37.1
noncomputable def zr_dX0_tread_40 := zo_79 (q := 41) zr_dX0_tread_37.2 rfl
noncomputable def dX0_tread_40 := zr_dX0_tread_40.1
noncomputable def zr_dX0_tread_41 := zo_177 (q := 42) zr_dX0_tread_40.2 rfl
noncomputable def dX0_tread_41 := zr_dX0_tread_41.1
theorem zs_dX0_mile_0 : zsuf cX0_mile 0 cX0_mile.data.toList := rfl
noncomputable def zr_dX0_mile_0 := zo_3 (q := 1) zs_dX0_mile_0 rfl
noncomputable def dX0_mile_0 := zr_dX0_mile_0.1
noncomputable def zr_dX0_mile_1 := zo_54 (k := 4)  (q := 3) zr_dX0_mile_0.2 rfl rfl
noncomputable def dX0_mile_1 := zr_dX0_mile_1.1
noncomputable def zr_dX0_mile_3 := zo_42 (q := 4) zr_dX0_mile_1.2 rfl
noncomputable def dX0_mile_3 := zr_dX0_mile_3.1
noncomputable def zr_dX0_mile_4 := zo_28 (q := 5) zr_dX0_mile_3.2 rfl
noncomputable def dX0_mile_4 := zr_dX0_mile_4.1
noncomputable def zr_dX0_mile_5 := zo_182 (k := 80)  (q := 8) zr_dX0_mile_4.2 rfl rfl
noncomputable def dX0_mile_5 := zr_dX0_mile_5.1
noncomputable def zr_dX0_mile_8 := zo_154 (k := 73)  (q := 11) zr_dX0_mile_5.2 (by decide +kernel) rfl
noncomputable def dX0_mile_8 := zr_dX0_mile_8.1
noncomputable def zr_dX0_mile_11 := zo_42 (q := 12) zr_dX0_mile_8.2 rfl
noncomputable def dX0_mile_11 := zr_dX0_mile_11.1
noncomputable def zr_dX0_mile_12 := zo_42 (q := 13) zr_dX0_mile_11.2 rfl
noncomputable def dX0_mile_12 := zr_dX0_mile_12.1
noncomputable def zr_dX0_mile_13 := zo_3 (q := 14) zr_dX0_mile_12.2 rfl
noncomputable def dX0_mile_13 := zr_dX0_mile_13.1
noncomputable def zr_dX0_mile_14 := zo_27 (q := 15) zr_dX0_mile_13.2 rfl
noncomputable def dX0_mile_14 := zr_dX0_mile_14.1
noncomputable def zr_dX0_mile_15 := zo_28 (q := 16) zr_dX0_mile_14.2 rfl
noncomputable def dX0_mile_15 := zr_dX0_mile_15.1
noncomputable def zr_dX0_mile_16 := zo_182 (k := 83)  (q := 19) zr_dX0_mile_15.2 rfl rfl
noncomputable def dX0_mile_16 := zr_dX0_mile_16.1
noncomputable def zr_dX0_mile_19 := zo_27 (q := 20) zr_dX0_mile_16.2 rfl
noncomputable def dX0_mile_19 := zr_dX0_mile_19.1
noncomputable def zr_dX0_mile_20 := zo_28 (q := 21) zr_dX0_mile_19.2 rfl
noncomputable def dX0_mile_20 := zr_dX0_mile_20.1
noncomputable def zr_dX0_mile_21 := zo_182 (k := 87)  (q := 24) zr_dX0_mile_20.2 rfl rfl
noncomputable def dX0_mile_21 := zr_dX0_mile_21.1
noncomputable def zr_dX0_mile_24 := zo_54 (k := 4)  (q := 26) zr_dX0_mile_21.2 rfl rfl
noncomputable def dX0_mile_24 := zr_dX0_mile_24.1
noncomputable def zr_dX0_mile_26 := zo_42 (q := 27) zr_dX0_mile_24.2 rfl
noncomputable def dX0_mile_26 := zr_dX0_mile_26.1
noncomputable def zr_dX0_mile_27 := zo_42 (q := 28) zr_dX0_mile_26.2 rfl
noncomputable def dX0_mile_27 := zr_dX0_mile_27.1
noncomputable def zr_dX0_mile_28 := zo_4 (q := 29) zr_dX0_mile_27.2 rfl
noncomputable def dX0_mile_28 := zr_dX0_mile_28.1
noncomputable def zr_dX0_mile_29 := zo_27 (q := 30) zr_dX0_mile_28.2 rfl
noncomputable def dX0_mile_29 := zr_dX0_mile_29.1
noncomputable def zr_dX0_mile_30 := zo_28 (q := 31) zr_dX0_mile_29.2 rfl
noncomputable def dX0_mile_30 := zr_dX0_mile_30.1
noncomputable def zr_dX0_mile_31 := zo_182 (k := 83)  (q := 34) zr_dX0_mile_30.2 rfl rfl
noncomputable def dX0_mile_31 := zr_dX0_mile_31.1
noncomputable def zr_dX0_mile_34 := zo_28 (q := 35) zr_dX0_mile_31.2 rfl
noncomputable def dX0_mile_34 := zr_dX0_mile_34.1
noncomputable def zr_dX0_mile_35 := zo_182 (k := 90)  (q := 38) zr_dX0_mile_34.2 rfl rfl
noncomputable def dX0_mile_35 := zr_dX0_mile_35.1
noncomputable def zr_dX0_mile_38 := zo_29 (q := 39) zr_dX0_mile_35.2 rfl
noncomputable def dX0_mile_38 := zr_dX0_mile_38.1
noncomputable def zr_dX0_mile_39 := zo_96 (q := 40) zr_dX0_mile_38.2 rfl
noncomputable def dX0_mile_39 := zr_dX0_mile_39.1
noncomputable def zr_dX0_mile_40 := zo_54 (k := 5)  (q := 42) zr_dX0_mile_39.2 rfl rfl
noncomputable def dX0_mile_40 := zr_dX0_mile_40.1
noncomputable def zr_dX0_mile_42 := zo_42 (q := 43) zr_dX0_mile_40.2 rfl
noncomputable def dX0_mile_42 := zr_dX0_mile_42.1
noncomputable def zr_dX0_mile_43 := zo_180 (k := 23)  (q := 46) zr_dX0_mile_42.2 rfl rfl
noncomputable def dX0_mile_43 := zr_dX0_mile_43.1
noncomputable def zr_dX0_mile_46 := zo_27 (q := 47) zr_dX0_mile_43.2 rfl
noncomputable def dX0_mile_46 := zr_dX0_mile_46.1
theorem zo_18 {c : ByteArray} {p q : Nat} {x : UInt8} {L : List UInt8} {k : Nat} (h : zsuf c p (18 :: x :: L)) (hk : x.toNat = k) (hq : p + 2 = q) : zD c p (.ldc k) 2 ∧ zsuf c q L := zfin hq (Eq.trans (zbd (zu1 (v := 18) h rfl)) (Eq.trans (zbd (zu1 (zsuf_tl h) hk)) rfl)) (zsuf_tl (zsuf_tl h))
noncomputable def zr_dX0_mile_47 := zo_18 (k := 93)  (q := 49) zr_dX0_mile_46.2 rfl rfl
noncomputable def dX0_mile_47 := zr_dX0_mile_47.1
noncomputable def zr_dX0_mile_49 := zo_42 (q := 50) zr_dX0_mile_47.2 rfl
noncomputable def dX0_mile_49 := zr_dX0_mile_49.1
noncomputable def zr_dX0_mile_50 := zo_180 (k := 23)  (q := 53) zr_dX0_mile_49.2 rfl rfl
noncomputable def dX0_mile_50 := zr_dX0_mile_50.1
noncomputable def zr_dX0_mile_53 := zo_27 (q := 54) zr_dX0_mile_50.2 rfl
noncomputable def dX0_mile_53 := zr_dX0_mile_53.1
noncomputable def zr_dX0_mile_54 := zo_46 (q := 55) zr_dX0_mile_53.2 rfl
noncomputable def dX0_mile_54 := zr_dX0_mile_54.1
noncomputable def zr_dX0_mile_55 := zo_21 (k := 4)  (q := 57) zr_dX0_mile_54.2 rfl rfl
noncomputable def dX0_mile_55 := zr_dX0_mile_55.1
noncomputable def zr_dX0_mile_57 := zo_96 (q := 58) zr_dX0_mile_55.2 rfl
noncomputable def dX0_mile_57 := zr_dX0_mile_57.1
noncomputable def zr_dX0_mile_58 := zo_184 (k := 71)  (q := 61) zr_dX0_mile_57.2 rfl rfl
noncomputable def dX0_mile_58 := zr_dX0_mile_58.1
noncomputable def zr_dX0_mile_61 := zo_79 (q := 62) zr_dX0_mile_58.2 rfl
noncomputable def dX0_mile_61 := zr_dX0_mile_61.1
noncomputable def zr_dX0_mile_62 := zo_42 (q := 63) zr_dX0_mile_61.2 rfl
noncomputable def dX0_mile_62 := zr_dX0_mile_62.1
noncomputable def zr_dX0_mile_63 := zo_180 (k := 32)  (q := 66) zr_dX0_mile_62.2 rfl rfl
noncomputable def dX0_mile_63 := zr_dX0_mile_63.1
noncomputable def zr_dX0_mile_66 := zo_28 (q := 67) zr_dX0_mile_63.2 rfl
noncomputable def dX0_mile_66 := zr_dX0_mile_66.1
noncomputable def zr_dX0_mile_67 := zo_3 (q := 68) zr_dX0_mile_66.2 rfl
noncomputable def dX0_mile_67 := zr_dX0_mile_67.1
noncomputable def zr_dX0_mile_68 := zo_42 (q := 69) zr_dX0_mile_67.2 rfl
noncomputable def dX0_mile_68 := zr_dX0_mile_68.1
noncomputable def zr_dX0_mile_69 := zo_180 (k := 32)  (q := 72) zr_dX0_mile_68.2 rfl rfl
noncomputable def dX0_mile_69 := zr_dX0_mile_69.1
noncomputable def zr_dX0_mile_72 := zo_28 (q := 73) zr_dX0_mile_69.2 rfl
noncomputable def dX0_mile_72 := zr_dX0_mile_72.1
noncomputable def zr_dX0_mile_73 := zo_46 (q := 74) zr_dX0_mile_72.2 rfl
noncomputable def dX0_mile_73 := zr_dX0_mile_73.1
noncomputable def zr_dX0_mile_74 := zo_21 (k := 5)  (q := 76) zr_dX0_mile_73.2 rfl rfl
noncomputable def dX0_mile_74 := zr_dX0_mile_74.1
noncomputable def zr_dX0_mile_76 := zo_100 (q := 77) zr_dX0_mile_74.2 rfl
noncomputable def dX0_mile_76 := zr_dX0_mile_76.1
noncomputable def zr_dX0_mile_77 := zo_184 (k := 77)  (q := 80) zr_dX0_mile_76.2 rfl rfl
noncomputable def dX0_mile_77 := zr_dX0_mile_77.1
noncomputable def zr_dX0_mile_80 := zo_79 (q := 81) zr_dX0_mile_77.2 rfl
noncomputable def dX0_mile_80 := zr_dX0_mile_80.1
noncomputable def zr_dX0_mile_81 := zo_42 (q := 82) zr_dX0_mile_80.2 rfl
noncomputable def dX0_mile_81 := zr_dX0_mile_81.1
noncomputable def zr_dX0_mile_82 := zo_27 (q := 83) zr_dX0_mile_81.2 rfl
noncomputable def dX0_mile_82 := zr_dX0_mile_82.1
noncomputable def zr_dX0_mile_83 := zo_182 (k := 94)  (q := 86) zr_dX0_mile_82.2 rfl rfl
noncomputable def dX0_mile_83 := zr_dX0_mile_83.1
noncomputable def zr_dX0_mile_86 := zo_21 (k := 4)  (q := 88) zr_dX0_mile_83.2 rfl rfl
noncomputable def dX0_mile_86 := zr_dX0_mile_86.1
noncomputable def zr_dX0_mile_88 := zo_172 (q := 89) zr_dX0_mile_86.2 rfl
noncomputable def dX0_mile_88 := zr_dX0_mile_88.1
theorem zs_dX0_go_0 : zsuf cX0_go 0 cX0_go.data.toList := rfl
noncomputable def zr_dX0_go_0 := zo_3 (q := 1) zs_dX0_go_0 rfl
noncomputable def dX0_go_0 := zr_dX0_go_0.1
noncomputable def zr_dX0_go_1 := zo_54 (k := 4)  (q := 3) zr_dX0_go_0.2 rfl rfl
noncomputable def dX0_go_1 := zr_dX0_go_1.1
noncomputable def zr_dX0_go_3 := zo_3 (q := 4) zr_dX0_go_1.2 rfl
noncomputable def dX0_go_3 := zr_dX0_go_3.1
noncomputable def zr_dX0_go_4 := zo_54 (k := 5)  (q := 6) zr_dX0_go_3.2 rfl rfl
noncomputable def dX0_go_4 := zr_dX0_go_4.1
noncomputable def zr_dX0_go_6 := zo_21 (k := 5)  (q := 8) zr_dX0_go_4.2 rfl rfl
noncomputable def dX0_go_6 := zr_dX0_go_6.1
noncomputable def zr_dX0_go_8 := zo_29 (q := 9) zr_dX0_go_6.2 rfl
noncomputable def dX0_go_8 := zr_dX0_go_8.1
noncomputable def zr_dX0_go_9 := zo_162 (k := 21)  (q := 12) zr_dX0_go_8.2 (by decide +kernel) rfl
noncomputable def dX0_go_9 := zr_dX0_go_9.1
noncomputable def zr_dX0_go_12 := zo_21 (k := 4)  (q := 14) zr_dX0_go_9.2 rfl rfl
noncomputable def dX0_go_12 := zr_dX0_go_12.1
noncomputable def zr_dX0_go_14 := zo_42 (q := 15) zr_dX0_go_12.2 rfl
noncomputable def dX0_go_14 := zr_dX0_go_14.1
noncomputable def zr_dX0_go_15 := zo_27 (q := 16) zr_dX0_go_14.2 rfl
noncomputable def dX0_go_15 := zr_dX0_go_15.1
noncomputable def zr_dX0_go_16 := zo_28 (q := 17) zr_dX0_go_15.2 rfl
noncomputable def dX0_go_16 := zr_dX0_go_16.1
noncomputable def zr_dX0_go_17 := zo_3 (q := 18) zr_dX0_go_16.2 rfl
noncomputable def dX0_go_17 := zr_dX0_go_17.1
noncomputable def zr_dX0_go_18 := zo_182 (k := 98)  (q := 21) zr_dX0_go_17.2 rfl rfl
noncomputable def dX0_go_18 := zr_dX0_go_18.1
noncomputable def zr_dX0_go_21 := zo_96 (q := 22) zr_dX0_go_18.2 rfl
noncomputable def dX0_go_21 := zr_dX0_go_21.1
noncomputable def zr_dX0_go_22 := zo_54 (k := 4)  (q := 24) zr_dX0_go_21.2 rfl rfl
noncomputable def dX0_go_22 := zr_dX0_go_22.1
theorem zo_132 {c : ByteArray} {p q : Nat} {x y : UInt8} {L : List UInt8} {k : Nat} {o : Int} (h : zsuf c p (132 :: x :: y :: L)) (hk : x.toNat = k) (ho : Reader.signed 8 y.toNat = o) (hq : p + 3 = q) : zD c p (.iinc k o) 3 ∧ zsuf c q L := zfin hq (Eq.trans (zbd (zu1 (v := 132) h rfl)) (Eq.trans (zbd (zu1 (zsuf_tl h) hk)) (Eq.trans (zbd (zs1 (zsuf_tl (zsuf_tl h)) ho)) rfl))) (zsuf_tl (zsuf_tl (zsuf_tl h)))
noncomputable def zr_dX0_go_24 := zo_132 (k := 5) (o := 1)  (q := 27) zr_dX0_go_22.2 rfl (by decide +kernel) rfl
noncomputable def dX0_go_24 := zr_dX0_go_24.1
noncomputable def zr_dX0_go_27 := zo_167 (k := -21)  (q := 30) zr_dX0_go_24.2 (by decide +kernel) rfl
noncomputable def dX0_go_27 := zr_dX0_go_27.1
noncomputable def zr_dX0_go_30 := zo_21 (k := 4)  (q := 32) zr_dX0_go_27.2 rfl rfl
noncomputable def dX0_go_30 := zr_dX0_go_30.1
noncomputable def zr_dX0_go_32 := zo_172 (q := 33) zr_dX0_go_30.2 rfl
noncomputable def dX0_go_32 := zr_dX0_go_32.1
theorem zs_dX0_goByLots_0 : zsuf cX0_goByLots 0 cX0_goByLots.data.toList := rfl
noncomputable def zr_dX0_goByLots_0 := zo_21 (k := 4)  (q := 2) zs_dX0_goByLots_0 rfl rfl
noncomputable def dX0_goByLots_0 := zr_dX0_goByLots_0.1
noncomputable def zr_dX0_goByLots_2 := zo_16 (k := 100)  (q := 4) zr_dX0_goByLots_0.2 (by decide +kernel) rfl
noncomputable def dX0_goByLots_2 := zr_dX0_goByLots_2.1
noncomputable def zr_dX0_goByLots_4 := zo_108 (q := 5) zr_dX0_goByLots_2.2 rfl
noncomputable def dX0_goByLots_4 := zr_dX0_goByLots_4.1
noncomputable def zr_dX0_goByLots_5 := zo_4 (q := 6) zr_dX0_goByLots_4.2 rfl
noncomputable def dX0_goByLots_5 := zr_dX0_goByLots_5.1
noncomputable def zr_dX0_goByLots_6 := zo_96 (q := 7) zr_dX0_goByLots_5.2 rfl
noncomputable def dX0_goByLots_6 := zr_dX0_goByLots_6.1
noncomputable def zr_dX0_goByLots_7 := zo_54 (k := 5)  (q := 9) zr_dX0_goByLots_6.2 rfl rfl
noncomputable def dX0_goByLots_7 := zr_dX0_goByLots_7.1
noncomputable def zr_dX0_goByLots_9 := zo_3 (q := 10) zr_dX0_goByLots_7.2 rfl
noncomputable def dX0_goByLots_9 := zr_dX0_goByLots_9.1
noncomputable def zr_dX0_goByLots_10 := zo_54 (k := 6)  (q := 12) zr_dX0_goByLots_9.2 rfl rfl
noncomputable def dX0_goByLots_10 := zr_dX0_goByLots_10.1
noncomputable def zr_dX0_goByLots_12 := zo_27 (q := 13) zr_dX0_goByLots_10.2 rfl
noncomputable def dX0_goByLots_12 := zr_dX0_goByLots_12.1
theorem zo_133 {c : ByteArray} {p q : Nat} {L : List UInt8} (h : zsuf c p (133 :: L)) (hq : p + 1 = q) : zD c p .i2l 1 ∧ zsuf c q L := zfin hq (Eq.trans (zbd (zu1 (v := 133) h rfl)) rfl) (zsuf_tl h)
noncomputable def zr_dX0_goByLots_13 := zo_133 (q := 14) zr_dX0_goByLots_12.2 rfl
noncomputable def dX0_goByLots_13 := zr_dX0_goByLots_13.1
theorem zo_10 {c : ByteArray} {p q : Nat} {L : List UInt8} (h : zsuf c p (10 :: L)) (hq : p + 1 = q) : zD c p (.lconst 1) 1 ∧ zsuf c q L := zfin hq (Eq.trans (zbd (zu1 (v := 10) h rfl)) rfl) (zsuf_tl h)
noncomputable def zr_dX0_goByLots_14 := zo_10 (q := 15) zr_dX0_goByLots_13.2 rfl
noncomputable def dX0_goByLots_14 := zr_dX0_goByLots_14.1
theorem zo_97 {c : ByteArray} {p q : Nat} {L : List UInt8} (h : zsuf c p (97 :: L)) (hq : p + 1 = q) : zD c p .ladd 1 ∧ zsuf c q L := zfin hq (Eq.trans (zbd (zu1 (v := 97) h rfl)) rfl) (zsuf_tl h)
noncomputable def zr_dX0_goByLots_15 := zo_97 (q := 16) zr_dX0_goByLots_14.2 rfl
noncomputable def dX0_goByLots_15 := zr_dX0_goByLots_15.1
theorem zo_55 {c : ByteArray} {p q : Nat} {x : UInt8} {L : List UInt8} {k : Nat} (h : zsuf c p (55 :: x :: L)) (hk : x.toNat = k) (hq : p + 2 = q) : zD c p (.lstore k) 2 ∧ zsuf c q L := zfin hq (Eq.trans (zbd (zu1 (v := 55) h rfl)) (Eq.trans (zbd (zu1 (zsuf_tl h) hk)) rfl)) (zsuf_tl (zsuf_tl h))
noncomputable def zr_dX0_goByLots_16 := zo_55 (k := 7)  (q := 18) zr_dX0_goByLots_15.2 rfl rfl
noncomputable def dX0_goByLots_16 := zr_dX0_goByLots_16.1
noncomputable def zr_dX0_goByLots_18 := zo_3 (q := 19) zr_dX0_goByLots_16.2 rfl
noncomputable def dX0_goByLots_18 := zr_dX0_goByLots_18.1
noncomputable def zr_dX0_goByLots_19 := zo_54 (k := 9)  (q := 21) zr_dX0_goByLots_18.2 rfl rfl
noncomputable def dX0_goByLots_19 := zr_dX0_goByLots_19.1
noncomputable def zr_dX0_goByLots_21 := zo_21 (k := 9)  (q := 23) zr_dX0_goByLots_19.2 rfl rfl
noncomputable def dX0_goByLots_21 := zr_dX0_goByLots_21.1
noncomputable def zr_dX0_goByLots_23 := zo_21 (k := 4)  (q := 25) zr_dX0_goByLots_21.2 rfl rfl
noncomputable def dX0_goByLots_23 := zr_dX0_goByLots_23.1
noncomputable def zr_dX0_goByLots_25 := zo_16 (k := 100)  (q := 27) zr_dX0_goByLots_23.2 (by decide +kernel) rfl
noncomputable def dX0_goByLots_25 := zr_dX0_goByLots_25.1
noncomputable def zr_dX0_goByLots_27 := zo_112 (q := 28) zr_dX0_goByLots_25.2 rfl
noncomputable def dX0_goByLots_27 := zr_dX0_goByLots_27.1
noncomputable def zr_dX0_goByLots_28 := zo_162 (k := 39)  (q := 31) zr_dX0_goByLots_27.2 (by decide +kernel) rfl
noncomputable def dX0_goByLots_28 := zr_dX0_goByLots_28.1
theorem zo_22 {c : ByteArray} {p q : Nat} {x : UInt8} {L : List UInt8} {k : Nat} (h : zsuf c p (22 :: x :: L)) (hk : x.toNat = k) (hq : p + 2 = q) : zD c p (.lload k) 2 ∧ zsuf c q L := zfin hq (Eq.trans (zbd (zu1 (v := 22) h rfl)) (Eq.trans (zbd (zu1 (zsuf_tl h) hk)) rfl)) (zsuf_tl (zsuf_tl h))
noncomputable def zr_dX0_goByLots_31 := zo_22 (k := 7)  (q := 33) zr_dX0_goByLots_28.2 rfl rfl
noncomputable def dX0_goByLots_31 := zr_dX0_goByLots_31.1
theorem zo_20 {c : ByteArray} {p q : Nat} {x y : UInt8} {L : List UInt8} {k : Nat} (h : zsuf c p (20 :: x :: y :: L)) (hk : x.toNat * 256 + y.toNat = k) (hq : p + 3 = q) : zD c p (.ldc2_w k) 3 ∧ zsuf c q L := zfin hq (Eq.trans (zbd (zu1 (v := 20) h rfl)) (Eq.trans (zbd (zu2 (zsuf_tl h) hk)) rfl)) (zsuf_tl (zsuf_tl (zsuf_tl h)))
noncomputable def zr_dX0_goByLots_33 := zo_20 (k := 101)  (q := 36) zr_dX0_goByLots_31.2 rfl rfl
noncomputable def dX0_goByLots_33 := zr_dX0_goByLots_33.1
theorem zo_105 {c : ByteArray} {p q : Nat} {L : List UInt8} (h : zsuf c p (105 :: L)) (hq : p + 1 = q) : zD c p .lmul 1 ∧ zsuf c q L := zfin hq (Eq.trans (zbd (zu1 (v := 105) h rfl)) rfl) (zsuf_tl h)
noncomputable def zr_dX0_goByLots_36 := zo_105 (q := 37) zr_dX0_goByLots_33.2 rfl
noncomputable def dX0_goByLots_36 := zr_dX0_goByLots_36.1
noncomputable def zr_dX0_goByLots_37 := zo_20 (k := 103)  (q := 40) zr_dX0_goByLots_36.2 rfl rfl
noncomputable def dX0_goByLots_37 := zr_dX0_goByLots_37.1
theorem zo_113 {c : ByteArray} {p q : Nat} {L : List UInt8} (h : zsuf c p (113 :: L)) (hq : p + 1 = q) : zD c p .lrem 1 ∧ zsuf c q L := zfin hq (Eq.trans (zbd (zu1 (v := 113) h rfl)) rfl) (zsuf_tl h)
noncomputable def zr_dX0_goByLots_40 := zo_113 (q := 41) zr_dX0_goByLots_37.2 rfl
noncomputable def dX0_goByLots_40 := zr_dX0_goByLots_40.1
noncomputable def zr_dX0_goByLots_41 := zo_55 (k := 7)  (q := 43) zr_dX0_goByLots_40.2 rfl rfl
noncomputable def dX0_goByLots_41 := zr_dX0_goByLots_41.1
noncomputable def zr_dX0_goByLots_43 := zo_21 (k := 6)  (q := 45) zr_dX0_goByLots_41.2 rfl rfl
noncomputable def dX0_goByLots_43 := zr_dX0_goByLots_43.1
noncomputable def zr_dX0_goByLots_45 := zo_42 (q := 46) zr_dX0_goByLots_43.2 rfl
noncomputable def dX0_goByLots_45 := zr_dX0_goByLots_45.1
noncomputable def zr_dX0_goByLots_46 := zo_28 (q := 47) zr_dX0_goByLots_45.2 rfl
noncomputable def dX0_goByLots_46 := zr_dX0_goByLots_46.1
noncomputable def zr_dX0_goByLots_47 := zo_29 (q := 48) zr_dX0_goByLots_46.2 rfl
noncomputable def dX0_goByLots_47 := zr_dX0_goByLots_47.1
noncomputable def zr_dX0_goByLots_48 := zo_22 (k := 7)  (q := 50) zr_dX0_goByLots_47.2 rfl rfl
noncomputable def dX0_goByLots_48 := zr_dX0_goByLots_48.1
noncomputable def zr_dX0_goByLots_50 := zo_21 (k := 5)  (q := 52) zr_dX0_goByLots_48.2 rfl rfl
noncomputable def dX0_goByLots_50 := zr_dX0_goByLots_50.1
noncomputable def zr_dX0_goByLots_52 := zo_133 (q := 53) zr_dX0_goByLots_50.2 rfl
noncomputable def dX0_goByLots_52 := zr_dX0_goByLots_52.1
noncomputable def zr_dX0_goByLots_53 := zo_113 (q := 54) zr_dX0_goByLots_52.2 rfl
noncomputable def dX0_goByLots_53 := zr_dX0_goByLots_53.1
theorem zo_136 {c : ByteArray} {p q : Nat} {L : List UInt8} (h : zsuf c p (136 :: L)) (hq : p + 1 = q) : zD c p .l2i 1 ∧ zsuf c q L := zfin hq (Eq.trans (zbd (zu1 (v := 136) h rfl)) rfl) (zsuf_tl h)
noncomputable def zr_dX0_goByLots_54 := zo_136 (q := 55) zr_dX0_goByLots_53.2 rfl
noncomputable def dX0_goByLots_54 := zr_dX0_goByLots_54.1
noncomputable def zr_dX0_goByLots_55 := zo_182 (k := 98)  (q := 58) zr_dX0_goByLots_54.2 rfl rfl
noncomputable def dX0_goByLots_55 := zr_dX0_goByLots_55.1
noncomputable def zr_dX0_goByLots_58 := zo_96 (q := 59) zr_dX0_goByLots_55.2 rfl
noncomputable def dX0_goByLots_58 := zr_dX0_goByLots_58.1
noncomputable def zr_dX0_goByLots_59 := zo_54 (k := 6)  (q := 61) zr_dX0_goByLots_58.2 rfl rfl
noncomputable def dX0_goByLots_59 := zr_dX0_goByLots_59.1
noncomputable def zr_dX0_goByLots_61 := zo_132 (k := 9) (o := 1)  (q := 64) zr_dX0_goByLots_59.2 rfl (by decide +kernel) rfl
noncomputable def dX0_goByLots_61 := zr_dX0_goByLots_61.1
noncomputable def zr_dX0_goByLots_64 := zo_167 (k := -43)  (q := 67) zr_dX0_goByLots_61.2 (by decide +kernel) rfl
noncomputable def dX0_goByLots_64 := zr_dX0_goByLots_64.1
noncomputable def zr_dX0_goByLots_67 := zo_21 (k := 6)  (q := 69) zr_dX0_goByLots_64.2 rfl rfl
noncomputable def dX0_goByLots_67 := zr_dX0_goByLots_67.1
noncomputable def zr_dX0_goByLots_69 := zo_172 (q := 70) zr_dX0_goByLots_67.2 rfl
noncomputable def dX0_goByLots_69 := zr_dX0_goByLots_69.1
theorem zs_dX0_verdict_0 : zsuf cX0_verdict 0 cX0_verdict.data.toList := rfl
noncomputable def zr_dX0_verdict_0 := zo_29 (q := 1) zs_dX0_verdict_0 rfl
noncomputable def dX0_verdict_0 := zr_dX0_verdict_0.1
noncomputable def zr_dX0_verdict_1 := zo_42 (q := 2) zr_dX0_verdict_0.2 rfl
noncomputable def dX0_verdict_1 := zr_dX0_verdict_1.1
noncomputable def zr_dX0_verdict_2 := zo_5 (q := 3) zr_dX0_verdict_1.2 rfl
noncomputable def dX0_verdict_2 := zr_dX0_verdict_2.1
noncomputable def zr_dX0_verdict_3 := zo_27 (q := 4) zr_dX0_verdict_2.2 rfl
noncomputable def dX0_verdict_3 := zr_dX0_verdict_3.1
noncomputable def zr_dX0_verdict_4 := zo_28 (q := 5) zr_dX0_verdict_3.2 rfl
noncomputable def dX0_verdict_4 := zr_dX0_verdict_4.1
noncomputable def zr_dX0_verdict_5 := zo_182 (k := 83)  (q := 8) zr_dX0_verdict_4.2 rfl rfl
noncomputable def dX0_verdict_5 := zr_dX0_verdict_5.1
noncomputable def zr_dX0_verdict_8 := zo_161 (k := 7)  (q := 11) zr_dX0_verdict_5.2 (by decide +kernel) rfl
noncomputable def dX0_verdict_8 := zr_dX0_verdict_8.1
noncomputable def zr_dX0_verdict_11 := zo_4 (q := 12) zr_dX0_verdict_8.2 rfl
noncomputable def dX0_verdict_11 := zr_dX0_verdict_11.1
noncomputable def zr_dX0_verdict_12 := zo_167 (k := 4)  (q := 15) zr_dX0_verdict_11.2 (by decide +kernel) rfl
noncomputable def dX0_verdict_12 := zr_dX0_verdict_12.1
noncomputable def zr_dX0_verdict_15 := zo_3 (q := 16) zr_dX0_verdict_12.2 rfl
noncomputable def dX0_verdict_15 := zr_dX0_verdict_15.1
noncomputable def zr_dX0_verdict_16 := zo_172 (q := 17) zr_dX0_verdict_15.2 rfl
noncomputable def dX0_verdict_16 := zr_dX0_verdict_16.1
theorem zs_dX1_init_0 : zsuf cX1_init 0 cX1_init.data.toList := rfl
noncomputable def zr_dX1_init_0 := zo_42 (q := 1) zs_dX1_init_0 rfl
noncomputable def dX1_init_0 := zr_dX1_init_0.1
noncomputable def zr_dX1_init_1 := zo_183 (k := 3)  (q := 4) zr_dX1_init_0.2 rfl rfl
noncomputable def dX1_init_1 := zr_dX1_init_1.1
noncomputable def zr_dX1_init_4 := zo_42 (q := 5) zr_dX1_init_1.2 rfl
noncomputable def dX1_init_4 := zr_dX1_init_4.1
noncomputable def zr_dX1_init_5 := zo_17 (k := 160)  (q := 8) zr_dX1_init_4.2 (by decide +kernel) rfl
noncomputable def dX1_init_5 := zr_dX1_init_5.1
theorem dX1_init_8 : zD cX1_init 8 (.newarray .int) 2 := by decide +kernel
noncomputable def zr_dX1_init_8 := zskip zr_dX1_init_5.2 2 (q := 10) rfl
noncomputable def zr_dX1_init_10 := zo_181 (k := 9)  (q := 13) zr_dX1_init_8 rfl rfl
noncomputable def dX1_init_10 := zr_dX1_init_10.1
noncomputable def zr_dX1_init_13 := zo_42 (q := 14) zr_dX1_init_10.2 rfl
noncomputable def dX1_init_13 := zr_dX1_init_13.1
noncomputable def zr_dX1_init_14 := zo_43 (q := 15) zr_dX1_init_13.2 rfl
noncomputable def dX1_init_14 := zr_dX1_init_14.1
noncomputable def zr_dX1_init_15 := zo_181 (k := 15)  (q := 18) zr_dX1_init_14.2 rfl rfl
noncomputable def dX1_init_15 := zr_dX1_init_15.1
noncomputable def zr_dX1_init_18 := zo_177 (q := 19) zr_dX1_init_15.2 rfl
noncomputable def dX1_init_18 := zr_dX1_init_18.1
theorem zs_dX1_add_0 : zsuf cX1_add 0 cX1_add.data.toList := rfl
noncomputable def zr_dX1_add_0 := zo_42 (q := 1) zs_dX1_add_0 rfl
noncomputable def dX1_add_0 := zr_dX1_add_0.1
noncomputable def zr_dX1_add_1 := zo_180 (k := 19)  (q := 4) zr_dX1_add_0.2 rfl rfl
noncomputable def dX1_add_1 := zr_dX1_add_1.1
noncomputable def zr_dX1_add_4 := zo_17 (k := 160)  (q := 7) zr_dX1_add_1.2 (by decide +kernel) rfl
noncomputable def dX1_add_4 := zr_dX1_add_4.1
noncomputable def zr_dX1_add_7 := zo_162 (k := 23)  (q := 10) zr_dX1_add_4.2 (by decide +kernel) rfl
noncomputable def dX1_add_7 := zr_dX1_add_7.1
noncomputable def zr_dX1_add_10 := zo_42 (q := 11) zr_dX1_add_7.2 rfl
noncomputable def dX1_add_10 := zr_dX1_add_10.1
noncomputable def zr_dX1_add_11 := zo_180 (k := 9)  (q := 14) zr_dX1_add_10.2 rfl rfl
noncomputable def dX1_add_11 := zr_dX1_add_11.1
noncomputable def zr_dX1_add_14 := zo_42 (q := 15) zr_dX1_add_11.2 rfl
noncomputable def dX1_add_14 := zr_dX1_add_14.1
noncomputable def zr_dX1_add_15 := zo_180 (k := 19)  (q := 18) zr_dX1_add_14.2 rfl rfl
noncomputable def dX1_add_15 := zr_dX1_add_15.1
noncomputable def zr_dX1_add_18 := zo_27 (q := 19) zr_dX1_add_15.2 rfl
noncomputable def dX1_add_18 := zr_dX1_add_18.1
noncomputable def zr_dX1_add_19 := zo_79 (q := 20) zr_dX1_add_18.2 rfl
noncomputable def dX1_add_19 := zr_dX1_add_19.1
noncomputable def zr_dX1_add_20 := zo_42 (q := 21) zr_dX1_add_19.2 rfl
noncomputable def dX1_add_20 := zr_dX1_add_20.1
noncomputable def zr_dX1_add_21 := zo_89 (q := 22) zr_dX1_add_20.2 rfl
noncomputable def dX1_add_21 := zr_dX1_add_21.1
noncomputable def zr_dX1_add_22 := zo_180 (k := 19)  (q := 25) zr_dX1_add_21.2 rfl rfl
noncomputable def dX1_add_22 := zr_dX1_add_22.1
noncomputable def zr_dX1_add_25 := zo_4 (q := 26) zr_dX1_add_22.2 rfl
noncomputable def dX1_add_25 := zr_dX1_add_25.1
noncomputable def zr_dX1_add_26 := zo_96 (q := 27) zr_dX1_add_25.2 rfl
noncomputable def dX1_add_26 := zr_dX1_add_26.1
noncomputable def zr_dX1_add_27 := zo_181 (k := 19)  (q := 30) zr_dX1_add_26.2 rfl rfl
noncomputable def dX1_add_27 := zr_dX1_add_27.1
noncomputable def zr_dX1_add_30 := zo_177 (q := 31) zr_dX1_add_27.2 rfl
noncomputable def dX1_add_30 := zr_dX1_add_30.1
theorem zs_dX1_read_0 : zsuf cX1_read 0 cX1_read.data.toList := rfl
noncomputable def zr_dX1_read_0 := zo_42 (q := 1) zs_dX1_read_0 rfl
noncomputable def dX1_read_0 := zr_dX1_read_0.1
noncomputable def zr_dX1_read_1 := zo_3 (q := 2) zr_dX1_read_0.2 rfl
noncomputable def dX1_read_1 := zr_dX1_read_1.1
noncomputable def zr_dX1_read_2 := zo_181 (k := 23)  (q := 5) zr_dX1_read_1.2 rfl rfl
noncomputable def dX1_read_2 := zr_dX1_read_2.1
noncomputable def zr_dX1_read_5 := zo_42 (q := 6) zr_dX1_read_2.2 rfl
noncomputable def dX1_read_5 := zr_dX1_read_5.1
noncomputable def zr_dX1_read_6 := zo_180 (k := 15)  (q := 9) zr_dX1_read_5.2 rfl rfl
noncomputable def dX1_read_6 := zr_dX1_read_6.1
noncomputable def zr_dX1_read_9 := zo_182 (k := 26)  (q := 12) zr_dX1_read_6.2 rfl rfl
noncomputable def dX1_read_9 := zr_dX1_read_9.1
noncomputable def zr_dX1_read_12 := zo_42 (q := 13) zr_dX1_read_9.2 rfl
noncomputable def dX1_read_12 := zr_dX1_read_12.1
noncomputable def zr_dX1_read_13 := zo_182 (k := 31)  (q := 16) zr_dX1_read_12.2 rfl rfl
noncomputable def dX1_read_13 := zr_dX1_read_13.1
theorem zo_60 {c : ByteArray} {p q : Nat} {L : List UInt8} (h : zsuf c p (60 :: L)) (hq : p + 1 = q) : zD c p (.istore_n 1) 1 ∧ zsuf c q L := zfin hq (Eq.trans (zbd (zu1 (v := 60) h rfl)) rfl) (zsuf_tl h)
noncomputable def zr_dX1_read_16 := zo_60 (q := 17) zr_dX1_read_13.2 rfl
noncomputable def dX1_read_16 := zr_dX1_read_16.1
noncomputable def zr_dX1_read_17 := zo_42 (q := 18) zr_dX1_read_16.2 rfl
noncomputable def dX1_read_17 := zr_dX1_read_17.1
noncomputable def zr_dX1_read_18 := zo_3 (q := 19) zr_dX1_read_17.2 rfl
noncomputable def dX1_read_18 := zr_dX1_read_18.1
noncomputable def zr_dX1_read_19 := zo_181 (k := 19)  (q := 22) zr_dX1_read_18.2 rfl rfl
noncomputable def dX1_read_19 := zr_dX1_read_19.1
noncomputable def zr_dX1_read_22 := zo_27 (q := 23) zr_dX1_read_19.2 rfl
noncomputable def dX1_read_22 := zr_dX1_read_22.1
noncomputable def zr_dX1_read_23 := zo_153 (k := 13)  (q := 26) zr_dX1_read_22.2 (by decide +kernel) rfl
noncomputable def dX1_read_23 := zr_dX1_read_23.1
noncomputable def zr_dX1_read_26 := zo_42 (q := 27) zr_dX1_read_23.2 rfl
noncomputable def dX1_read_26 := zr_dX1_read_26.1
noncomputable def zr_dX1_read_27 := zo_180 (k := 15)  (q := 30) zr_dX1_read_26.2 rfl rfl
noncomputable def dX1_read_27 := zr_dX1_read_27.1
noncomputable def zr_dX1_read_30 := zo_182 (k := 35)  (q := 33) zr_dX1_read_27.2 rfl rfl
noncomputable def dX1_read_30 := zr_dX1_read_30.1
noncomputable def zr_dX1_read_33 := zo_167 (k := 10)  (q := 36) zr_dX1_read_30.2 (by decide +kernel) rfl
noncomputable def dX1_read_33 := zr_dX1_read_33.1
noncomputable def zr_dX1_read_36 := zo_16 (k := -100)  (q := 38) zr_dX1_read_33.2 (by decide +kernel) rfl
noncomputable def dX1_read_36 := zr_dX1_read_36.1
noncomputable def zr_dX1_read_38 := zo_42 (q := 39) zr_dX1_read_36.2 rfl
noncomputable def dX1_read_38 := zr_dX1_read_38.1
noncomputable def zr_dX1_read_39 := zo_180 (k := 39)  (q := 42) zr_dX1_read_38.2 rfl rfl
noncomputable def dX1_read_39 := zr_dX1_read_39.1
noncomputable def zr_dX1_read_42 := zo_100 (q := 43) zr_dX1_read_39.2 rfl
noncomputable def dX1_read_42 := zr_dX1_read_42.1
noncomputable def zr_dX1_read_43 := zo_172 (q := 44) zr_dX1_read_42.2 rfl
noncomputable def dX1_read_43 := zr_dX1_read_43.1
theorem zs_dX1_readParts_0 : zsuf cX1_readParts 0 cX1_readParts.data.toList := rfl
noncomputable def zr_dX1_readParts_0 := zo_42 (q := 1) zs_dX1_readParts_0 rfl
noncomputable def dX1_readParts_0 := zr_dX1_readParts_0.1
noncomputable def zr_dX1_readParts_1 := zo_182 (k := 42)  (q := 4) zr_dX1_readParts_0.2 rfl rfl
noncomputable def dX1_readParts_1 := zr_dX1_readParts_1.1
noncomputable def zr_dX1_readParts_4 := zo_3 (q := 5) zr_dX1_readParts_1.2 rfl
noncomputable def dX1_readParts_4 := zr_dX1_readParts_4.1
noncomputable def zr_dX1_readParts_5 := zo_60 (q := 6) zr_dX1_readParts_4.2 rfl
noncomputable def dX1_readParts_5 := zr_dX1_readParts_5.1
noncomputable def zr_dX1_readParts_6 := zo_27 (q := 7) zr_dX1_readParts_5.2 rfl
noncomputable def dX1_readParts_6 := zr_dX1_readParts_6.1
noncomputable def zr_dX1_readParts_7 := zo_5 (q := 8) zr_dX1_readParts_6.2 rfl
noncomputable def dX1_readParts_7 := zr_dX1_readParts_7.1
noncomputable def zr_dX1_readParts_8 := zo_163 (k := 57)  (q := 11) zr_dX1_readParts_7.2 (by decide +kernel) rfl
noncomputable def dX1_readParts_8 := zr_dX1_readParts_8.1
noncomputable def zr_dX1_readParts_11 := zo_42 (q := 12) zr_dX1_readParts_8.2 rfl
noncomputable def dX1_readParts_11 := zr_dX1_readParts_11.1
noncomputable def zr_dX1_readParts_12 := zo_180 (k := 45)  (q := 15) zr_dX1_readParts_11.2 rfl rfl
noncomputable def dX1_readParts_12 := zr_dX1_readParts_12.1
noncomputable def zr_dX1_readParts_15 := zo_16 (k := 100)  (q := 17) zr_dX1_readParts_12.2 (by decide +kernel) rfl
noncomputable def dX1_readParts_15 := zr_dX1_readParts_15.1
noncomputable def zr_dX1_readParts_17 := zo_27 (q := 18) zr_dX1_readParts_15.2 rfl
noncomputable def dX1_readParts_17 := zr_dX1_readParts_17.1
noncomputable def zr_dX1_readParts_18 := zo_96 (q := 19) zr_dX1_readParts_17.2 rfl
noncomputable def dX1_readParts_18 := zr_dX1_readParts_18.1
theorem zo_159 {c : ByteArray} {p q : Nat} {x y : UInt8} {L : List UInt8} {k : Int} (h : zsuf c p (159 :: x :: y :: L)) (hk : Reader.signed 16 (x.toNat * 256 + y.toNat) = k) (hq : p + 3 = q) : zD c p (.if_icmp .eq k) 3 ∧ zsuf c q L := zfin hq (Eq.trans (zbd (zu1 (v := 159) h rfl)) (Eq.trans (zbd (zs2 (zsuf_tl h) hk)) rfl)) (zsuf_tl (zsuf_tl (zsuf_tl h)))
noncomputable def zr_dX1_readParts_19 := zo_159 (k := 5)  (q := 22) zr_dX1_readParts_18.2 (by decide +kernel) rfl
noncomputable def dX1_readParts_19 := zr_dX1_readParts_19.1
noncomputable def zr_dX1_readParts_22 := zo_3 (q := 23) zr_dX1_readParts_19.2 rfl
noncomputable def dX1_readParts_22 := zr_dX1_readParts_22.1
noncomputable def zr_dX1_readParts_23 := zo_172 (q := 24) zr_dX1_readParts_22.2 rfl
noncomputable def dX1_readParts_23 := zr_dX1_readParts_23.1
noncomputable def zr_dX1_readParts_24 := zo_42 (q := 25) zr_dX1_readParts_23.2 rfl
noncomputable def dX1_readParts_24 := zr_dX1_readParts_24.1
noncomputable def zr_dX1_readParts_25 := zo_182 (k := 42)  (q := 28) zr_dX1_readParts_24.2 rfl rfl
noncomputable def dX1_readParts_25 := zr_dX1_readParts_25.1
noncomputable def zr_dX1_readParts_28 := zo_42 (q := 29) zr_dX1_readParts_25.2 rfl
noncomputable def dX1_readParts_28 := zr_dX1_readParts_28.1
noncomputable def zr_dX1_readParts_29 := zo_3 (q := 30) zr_dX1_readParts_28.2 rfl
noncomputable def dX1_readParts_29 := zr_dX1_readParts_29.1
noncomputable def zr_dX1_readParts_30 := zo_182 (k := 48)  (q := 33) zr_dX1_readParts_29.2 rfl rfl
noncomputable def dX1_readParts_30 := zr_dX1_readParts_30.1
noncomputable def zr_dX1_readParts_33 := zo_153 (k := 12)  (q := 36) zr_dX1_readParts_30.2 (by decide +kernel) rfl
noncomputable def dX1_readParts_33 := zr_dX1_readParts_33.1
noncomputable def zr_dX1_readParts_36 := zo_42 (q := 37) zr_dX1_readParts_33.2 rfl
noncomputable def dX1_readParts_36 := zr_dX1_readParts_36.1
noncomputable def zr_dX1_readParts_37 := zo_180 (k := 45)  (q := 40) zr_dX1_readParts_36.2 rfl rfl
noncomputable def dX1_readParts_37 := zr_dX1_readParts_37.1
noncomputable def zr_dX1_readParts_40 := zo_16 (k := 59)  (q := 42) zr_dX1_readParts_37.2 (by decide +kernel) rfl
noncomputable def dX1_readParts_40 := zr_dX1_readParts_40.1
noncomputable def zr_dX1_readParts_42 := zo_159 (k := 5)  (q := 45) zr_dX1_readParts_40.2 (by decide +kernel) rfl
noncomputable def dX1_readParts_42 := zr_dX1_readParts_42.1
noncomputable def zr_dX1_readParts_45 := zo_3 (q := 46) zr_dX1_readParts_42.2 rfl
noncomputable def dX1_readParts_45 := zr_dX1_readParts_45.1
noncomputable def zr_dX1_readParts_46 := zo_172 (q := 47) zr_dX1_readParts_45.2 rfl
noncomputable def dX1_readParts_46 := zr_dX1_readParts_46.1
noncomputable def zr_dX1_readParts_47 := zo_42 (q := 48) zr_dX1_readParts_46.2 rfl
noncomputable def dX1_readParts_47 := zr_dX1_readParts_47.1
noncomputable def zr_dX1_readParts_48 := zo_180 (k := 15)  (q := 51) zr_dX1_readParts_47.2 rfl rfl
noncomputable def dX1_readParts_48 := zr_dX1_readParts_48.1
noncomputable def zr_dX1_readParts_51 := zo_27 (q := 52) zr_dX1_readParts_48.2 rfl
noncomputable def dX1_readParts_51 := zr_dX1_readParts_51.1
noncomputable def zr_dX1_readParts_52 := zo_182 (k := 52)  (q := 55) zr_dX1_readParts_51.2 rfl rfl
noncomputable def dX1_readParts_52 := zr_dX1_readParts_52.1
noncomputable def zr_dX1_readParts_55 := zo_42 (q := 56) zr_dX1_readParts_52.2 rfl
noncomputable def dX1_readParts_55 := zr_dX1_readParts_55.1
noncomputable def zr_dX1_readParts_56 := zo_182 (k := 42)  (q := 59) zr_dX1_readParts_55.2 rfl rfl
noncomputable def dX1_readParts_56 := zr_dX1_readParts_56.1
noncomputable def zr_dX1_readParts_59 := zo_132 (k := 1) (o := 1)  (q := 62) zr_dX1_readParts_56.2 rfl (by decide +kernel) rfl
noncomputable def dX1_readParts_59 := zr_dX1_readParts_59.1
noncomputable def zr_dX1_readParts_62 := zo_167 (k := -56)  (q := 65) zr_dX1_readParts_59.2 (by decide +kernel) rfl
noncomputable def dX1_readParts_62 := zr_dX1_readParts_62.1
noncomputable def zr_dX1_readParts_65 := zo_42 (q := 66) zr_dX1_readParts_62.2 rfl
noncomputable def dX1_readParts_65 := zr_dX1_readParts_65.1
noncomputable def zr_dX1_readParts_66 := zo_180 (k := 45)  (q := 69) zr_dX1_readParts_65.2 rfl rfl
noncomputable def dX1_readParts_66 := zr_dX1_readParts_66.1
noncomputable def zr_dX1_readParts_69 := zo_154 (k := 7)  (q := 72) zr_dX1_readParts_66.2 (by decide +kernel) rfl
noncomputable def dX1_readParts_69 := zr_dX1_readParts_69.1
noncomputable def zr_dX1_readParts_72 := zo_4 (q := 73) zr_dX1_readParts_69.2 rfl
noncomputable def dX1_readParts_72 := zr_dX1_readParts_72.1
noncomputable def zr_dX1_readParts_73 := zo_167 (k := 4)  (q := 76) zr_dX1_readParts_72.2 (by decide +kernel) rfl
noncomputable def dX1_readParts_73 := zr_dX1_readParts_73.1
noncomputable def zr_dX1_readParts_76 := zo_3 (q := 77) zr_dX1_readParts_73.2 rfl
noncomputable def dX1_readParts_76 := zr_dX1_readParts_76.1
noncomputable def zr_dX1_readParts_77 := zo_172 (q := 78) zr_dX1_readParts_76.2 rfl
noncomputable def dX1_readParts_77 := zr_dX1_readParts_77.1
theorem zs_dX1_readOr_0 : zsuf cX1_readOr 0 cX1_readOr.data.toList := rfl
noncomputable def zr_dX1_readOr_0 := zo_42 (q := 1) zs_dX1_readOr_0 rfl
noncomputable def dX1_readOr_0 := zr_dX1_readOr_0.1
noncomputable def zr_dX1_readOr_1 := zo_27 (q := 2) zr_dX1_readOr_0.2 rfl
noncomputable def dX1_readOr_1 := zr_dX1_readOr_1.1
noncomputable def zr_dX1_readOr_2 := zo_182 (k := 56)  (q := 5) zr_dX1_readOr_1.2 rfl rfl
noncomputable def dX1_readOr_2 := zr_dX1_readOr_2.1
noncomputable def zr_dX1_readOr_5 := zo_154 (k := 5)  (q := 8) zr_dX1_readOr_2.2 (by decide +kernel) rfl
noncomputable def dX1_readOr_5 := zr_dX1_readOr_5.1
noncomputable def zr_dX1_readOr_8 := zo_3 (q := 9) zr_dX1_readOr_5.2 rfl
noncomputable def dX1_readOr_8 := zr_dX1_readOr_8.1
noncomputable def zr_dX1_readOr_9 := zo_172 (q := 10) zr_dX1_readOr_8.2 rfl
noncomputable def dX1_readOr_9 := zr_dX1_readOr_9.1
noncomputable def zr_dX1_readOr_10 := zo_3 (q := 11) zr_dX1_readOr_9.2 rfl
noncomputable def dX1_readOr_10 := zr_dX1_readOr_10.1
noncomputable def zr_dX1_readOr_11 := zo_61 (q := 12) zr_dX1_readOr_10.2 rfl
noncomputable def dX1_readOr_11 := zr_dX1_readOr_11.1
noncomputable def zr_dX1_readOr_12 := zo_28 (q := 13) zr_dX1_readOr_11.2 rfl
noncomputable def dX1_readOr_12 := zr_dX1_readOr_12.1
noncomputable def zr_dX1_readOr_13 := zo_17 (k := 160)  (q := 16) zr_dX1_readOr_12.2 (by decide +kernel) rfl
noncomputable def dX1_readOr_13 := zr_dX1_readOr_13.1
noncomputable def zr_dX1_readOr_16 := zo_162 (k := 42)  (q := 19) zr_dX1_readOr_13.2 (by decide +kernel) rfl
noncomputable def dX1_readOr_16 := zr_dX1_readOr_16.1
noncomputable def zr_dX1_readOr_19 := zo_42 (q := 20) zr_dX1_readOr_16.2 rfl
noncomputable def dX1_readOr_19 := zr_dX1_readOr_19.1
noncomputable def zr_dX1_readOr_20 := zo_180 (k := 45)  (q := 23) zr_dX1_readOr_19.2 rfl rfl
noncomputable def dX1_readOr_20 := zr_dX1_readOr_20.1
noncomputable def zr_dX1_readOr_23 := zo_16 (k := 103)  (q := 25) zr_dX1_readOr_20.2 (by decide +kernel) rfl
noncomputable def dX1_readOr_23 := zr_dX1_readOr_23.1
noncomputable def zr_dX1_readOr_25 := zo_160 (k := 33)  (q := 28) zr_dX1_readOr_23.2 (by decide +kernel) rfl
noncomputable def dX1_readOr_25 := zr_dX1_readOr_25.1
noncomputable def zr_dX1_readOr_28 := zo_42 (q := 29) zr_dX1_readOr_25.2 rfl
noncomputable def dX1_readOr_28 := zr_dX1_readOr_28.1
noncomputable def zr_dX1_readOr_29 := zo_182 (k := 42)  (q := 32) zr_dX1_readOr_28.2 rfl rfl
noncomputable def dX1_readOr_29 := zr_dX1_readOr_29.1
noncomputable def zr_dX1_readOr_32 := zo_42 (q := 33) zr_dX1_readOr_29.2 rfl
noncomputable def dX1_readOr_32 := zr_dX1_readOr_32.1
noncomputable def zr_dX1_readOr_33 := zo_27 (q := 34) zr_dX1_readOr_32.2 rfl
noncomputable def dX1_readOr_33 := zr_dX1_readOr_33.1
noncomputable def zr_dX1_readOr_34 := zo_182 (k := 56)  (q := 37) zr_dX1_readOr_33.2 rfl rfl
noncomputable def dX1_readOr_34 := zr_dX1_readOr_34.1
noncomputable def zr_dX1_readOr_37 := zo_154 (k := 5)  (q := 40) zr_dX1_readOr_34.2 (by decide +kernel) rfl
noncomputable def dX1_readOr_37 := zr_dX1_readOr_37.1
noncomputable def zr_dX1_readOr_40 := zo_3 (q := 41) zr_dX1_readOr_37.2 rfl
noncomputable def dX1_readOr_40 := zr_dX1_readOr_40.1
noncomputable def zr_dX1_readOr_41 := zo_172 (q := 42) zr_dX1_readOr_40.2 rfl
noncomputable def dX1_readOr_41 := zr_dX1_readOr_41.1
noncomputable def zr_dX1_readOr_42 := zo_42 (q := 43) zr_dX1_readOr_41.2 rfl
noncomputable def dX1_readOr_42 := zr_dX1_readOr_42.1
noncomputable def zr_dX1_readOr_43 := zo_180 (k := 15)  (q := 46) zr_dX1_readOr_42.2 rfl rfl
noncomputable def dX1_readOr_43 := zr_dX1_readOr_43.1
noncomputable def zr_dX1_readOr_46 := zo_17 (k := 20103)  (q := 49) zr_dX1_readOr_43.2 (by decide +kernel) rfl
noncomputable def dX1_readOr_46 := zr_dX1_readOr_46.1
noncomputable def zr_dX1_readOr_49 := zo_182 (k := 59)  (q := 52) zr_dX1_readOr_46.2 rfl rfl
noncomputable def dX1_readOr_49 := zr_dX1_readOr_49.1
noncomputable def zr_dX1_readOr_52 := zo_132 (k := 2) (o := 1)  (q := 55) zr_dX1_readOr_49.2 rfl (by decide +kernel) rfl
noncomputable def dX1_readOr_52 := zr_dX1_readOr_52.1
noncomputable def zr_dX1_readOr_55 := zo_167 (k := -43)  (q := 58) zr_dX1_readOr_52.2 (by decide +kernel) rfl
noncomputable def dX1_readOr_55 := zr_dX1_readOr_55.1
noncomputable def zr_dX1_readOr_58 := zo_4 (q := 59) zr_dX1_readOr_55.2 rfl
noncomputable def dX1_readOr_58 := zr_dX1_readOr_58.1
noncomputable def zr_dX1_readOr_59 := zo_172 (q := 60) zr_dX1_readOr_58.2 rfl
noncomputable def dX1_readOr_59 := zr_dX1_readOr_59.1
theorem zs_dX1_readAnd_0 : zsuf cX1_readAnd 0 cX1_readAnd.data.toList := rfl
noncomputable def zr_dX1_readAnd_0 := zo_42 (q := 1) zs_dX1_readAnd_0 rfl
noncomputable def dX1_readAnd_0 := zr_dX1_readAnd_0.1
noncomputable def zr_dX1_readAnd_1 := zo_27 (q := 2) zr_dX1_readAnd_0.2 rfl
noncomputable def dX1_readAnd_1 := zr_dX1_readAnd_1.1
noncomputable def zr_dX1_readAnd_2 := zo_182 (k := 62)  (q := 5) zr_dX1_readAnd_1.2 rfl rfl
noncomputable def dX1_readAnd_2 := zr_dX1_readAnd_2.1
noncomputable def zr_dX1_readAnd_5 := zo_154 (k := 5)  (q := 8) zr_dX1_readAnd_2.2 (by decide +kernel) rfl
noncomputable def dX1_readAnd_5 := zr_dX1_readAnd_5.1
noncomputable def zr_dX1_readAnd_8 := zo_3 (q := 9) zr_dX1_readAnd_5.2 rfl
noncomputable def dX1_readAnd_8 := zr_dX1_readAnd_8.1
noncomputable def zr_dX1_readAnd_9 := zo_172 (q := 10) zr_dX1_readAnd_8.2 rfl
noncomputable def dX1_readAnd_9 := zr_dX1_readAnd_9.1
noncomputable def zr_dX1_readAnd_10 := zo_3 (q := 11) zr_dX1_readAnd_9.2 rfl
noncomputable def dX1_readAnd_10 := zr_dX1_readAnd_10.1
noncomputable def zr_dX1_readAnd_11 := zo_61 (q := 12) zr_dX1_readAnd_10.2 rfl
noncomputable def dX1_readAnd_11 := zr_dX1_readAnd_11.1
noncomputable def zr_dX1_readAnd_12 := zo_28 (q := 13) zr_dX1_readAnd_11.2 rfl
noncomputable def dX1_readAnd_12 := zr_dX1_readAnd_12.1
noncomputable def zr_dX1_readAnd_13 := zo_17 (k := 160)  (q := 16) zr_dX1_readAnd_12.2 (by decide +kernel) rfl
noncomputable def dX1_readAnd_13 := zr_dX1_readAnd_13.1
noncomputable def zr_dX1_readAnd_16 := zo_162 (k := 42)  (q := 19) zr_dX1_readAnd_13.2 (by decide +kernel) rfl
noncomputable def dX1_readAnd_16 := zr_dX1_readAnd_16.1
noncomputable def zr_dX1_readAnd_19 := zo_42 (q := 20) zr_dX1_readAnd_16.2 rfl
noncomputable def dX1_readAnd_19 := zr_dX1_readAnd_19.1
noncomputable def zr_dX1_readAnd_20 := zo_180 (k := 45)  (q := 23) zr_dX1_readAnd_19.2 rfl rfl
noncomputable def dX1_readAnd_20 := zr_dX1_readAnd_20.1
noncomputable def zr_dX1_readAnd_23 := zo_16 (k := 104)  (q := 25) zr_dX1_readAnd_20.2 (by decide +kernel) rfl
noncomputable def dX1_readAnd_23 := zr_dX1_readAnd_23.1
noncomputable def zr_dX1_readAnd_25 := zo_160 (k := 33)  (q := 28) zr_dX1_readAnd_23.2 (by decide +kernel) rfl
noncomputable def dX1_readAnd_25 := zr_dX1_readAnd_25.1
noncomputable def zr_dX1_readAnd_28 := zo_42 (q := 29) zr_dX1_readAnd_25.2 rfl
noncomputable def dX1_readAnd_28 := zr_dX1_readAnd_28.1
noncomputable def zr_dX1_readAnd_29 := zo_182 (k := 42)  (q := 32) zr_dX1_readAnd_28.2 rfl rfl
noncomputable def dX1_readAnd_29 := zr_dX1_readAnd_29.1
noncomputable def zr_dX1_readAnd_32 := zo_42 (q := 33) zr_dX1_readAnd_29.2 rfl
noncomputable def dX1_readAnd_32 := zr_dX1_readAnd_32.1
noncomputable def zr_dX1_readAnd_33 := zo_27 (q := 34) zr_dX1_readAnd_32.2 rfl
noncomputable def dX1_readAnd_33 := zr_dX1_readAnd_33.1
noncomputable def zr_dX1_readAnd_34 := zo_182 (k := 62)  (q := 37) zr_dX1_readAnd_33.2 rfl rfl
noncomputable def dX1_readAnd_34 := zr_dX1_readAnd_34.1
noncomputable def zr_dX1_readAnd_37 := zo_154 (k := 5)  (q := 40) zr_dX1_readAnd_34.2 (by decide +kernel) rfl
noncomputable def dX1_readAnd_37 := zr_dX1_readAnd_37.1
noncomputable def zr_dX1_readAnd_40 := zo_3 (q := 41) zr_dX1_readAnd_37.2 rfl
noncomputable def dX1_readAnd_40 := zr_dX1_readAnd_40.1
noncomputable def zr_dX1_readAnd_41 := zo_172 (q := 42) zr_dX1_readAnd_40.2 rfl
noncomputable def dX1_readAnd_41 := zr_dX1_readAnd_41.1
noncomputable def zr_dX1_readAnd_42 := zo_42 (q := 43) zr_dX1_readAnd_41.2 rfl
noncomputable def dX1_readAnd_42 := zr_dX1_readAnd_42.1
noncomputable def zr_dX1_readAnd_43 := zo_180 (k := 15)  (q := 46) zr_dX1_readAnd_42.2 rfl rfl
noncomputable def dX1_readAnd_43 := zr_dX1_readAnd_43.1
noncomputable def zr_dX1_readAnd_46 := zo_17 (k := 20104)  (q := 49) zr_dX1_readAnd_43.2 (by decide +kernel) rfl
noncomputable def dX1_readAnd_46 := zr_dX1_readAnd_46.1
noncomputable def zr_dX1_readAnd_49 := zo_182 (k := 59)  (q := 52) zr_dX1_readAnd_46.2 rfl rfl
noncomputable def dX1_readAnd_49 := zr_dX1_readAnd_49.1
noncomputable def zr_dX1_readAnd_52 := zo_132 (k := 2) (o := 1)  (q := 55) zr_dX1_readAnd_49.2 rfl (by decide +kernel) rfl
noncomputable def dX1_readAnd_52 := zr_dX1_readAnd_52.1
noncomputable def zr_dX1_readAnd_55 := zo_167 (k := -43)  (q := 58) zr_dX1_readAnd_52.2 (by decide +kernel) rfl
noncomputable def dX1_readAnd_55 := zr_dX1_readAnd_55.1
noncomputable def zr_dX1_readAnd_58 := zo_4 (q := 59) zr_dX1_readAnd_55.2 rfl
noncomputable def dX1_readAnd_58 := zr_dX1_readAnd_58.1
noncomputable def zr_dX1_readAnd_59 := zo_172 (q := 60) zr_dX1_readAnd_58.2 rfl
noncomputable def dX1_readAnd_59 := zr_dX1_readAnd_59.1
theorem zs_dX1_readNot_0 : zsuf cX1_readNot 0 cX1_readNot.data.toList := rfl
noncomputable def zr_dX1_readNot_0 := zo_42 (q := 1) zs_dX1_readNot_0 rfl
noncomputable def dX1_readNot_0 := zr_dX1_readNot_0.1
noncomputable def zr_dX1_readNot_1 := zo_180 (k := 45)  (q := 4) zr_dX1_readNot_0.2 rfl rfl
noncomputable def dX1_readNot_1 := zr_dX1_readNot_1.1
noncomputable def zr_dX1_readNot_4 := zo_16 (k := 105)  (q := 6) zr_dX1_readNot_1.2 (by decide +kernel) rfl
noncomputable def dX1_readNot_4 := zr_dX1_readNot_4.1
noncomputable def zr_dX1_readNot_6 := zo_160 (k := 38)  (q := 9) zr_dX1_readNot_4.2 (by decide +kernel) rfl
noncomputable def dX1_readNot_6 := zr_dX1_readNot_6.1
noncomputable def zr_dX1_readNot_9 := zo_27 (q := 10) zr_dX1_readNot_6.2 rfl
noncomputable def dX1_readNot_9 := zr_dX1_readNot_9.1
noncomputable def zr_dX1_readNot_10 := zo_8 (q := 11) zr_dX1_readNot_9.2 rfl
noncomputable def dX1_readNot_10 := zr_dX1_readNot_10.1
noncomputable def zr_dX1_readNot_11 := zo_161 (k := 5)  (q := 14) zr_dX1_readNot_10.2 (by decide +kernel) rfl
noncomputable def dX1_readNot_11 := zr_dX1_readNot_11.1
noncomputable def zr_dX1_readNot_14 := zo_3 (q := 15) zr_dX1_readNot_11.2 rfl
noncomputable def dX1_readNot_14 := zr_dX1_readNot_14.1
noncomputable def zr_dX1_readNot_15 := zo_172 (q := 16) zr_dX1_readNot_14.2 rfl
noncomputable def dX1_readNot_15 := zr_dX1_readNot_15.1
noncomputable def zr_dX1_readNot_16 := zo_42 (q := 17) zr_dX1_readNot_15.2 rfl
noncomputable def dX1_readNot_16 := zr_dX1_readNot_16.1
noncomputable def zr_dX1_readNot_17 := zo_182 (k := 42)  (q := 20) zr_dX1_readNot_16.2 rfl rfl
noncomputable def dX1_readNot_17 := zr_dX1_readNot_17.1
noncomputable def zr_dX1_readNot_20 := zo_42 (q := 21) zr_dX1_readNot_17.2 rfl
noncomputable def dX1_readNot_20 := zr_dX1_readNot_20.1
noncomputable def zr_dX1_readNot_21 := zo_27 (q := 22) zr_dX1_readNot_20.2 rfl
noncomputable def dX1_readNot_21 := zr_dX1_readNot_21.1
noncomputable def zr_dX1_readNot_22 := zo_4 (q := 23) zr_dX1_readNot_21.2 rfl
noncomputable def dX1_readNot_22 := zr_dX1_readNot_22.1
noncomputable def zr_dX1_readNot_23 := zo_96 (q := 24) zr_dX1_readNot_22.2 rfl
noncomputable def dX1_readNot_23 := zr_dX1_readNot_23.1
noncomputable def zr_dX1_readNot_24 := zo_182 (k := 62)  (q := 27) zr_dX1_readNot_23.2 rfl rfl
noncomputable def dX1_readNot_24 := zr_dX1_readNot_24.1
noncomputable def zr_dX1_readNot_27 := zo_154 (k := 5)  (q := 30) zr_dX1_readNot_24.2 (by decide +kernel) rfl
noncomputable def dX1_readNot_27 := zr_dX1_readNot_27.1
noncomputable def zr_dX1_readNot_30 := zo_3 (q := 31) zr_dX1_readNot_27.2 rfl
noncomputable def dX1_readNot_30 := zr_dX1_readNot_30.1
noncomputable def zr_dX1_readNot_31 := zo_172 (q := 32) zr_dX1_readNot_30.2 rfl
noncomputable def dX1_readNot_31 := zr_dX1_readNot_31.1
noncomputable def zr_dX1_readNot_32 := zo_42 (q := 33) zr_dX1_readNot_31.2 rfl
noncomputable def dX1_readNot_32 := zr_dX1_readNot_32.1
noncomputable def zr_dX1_readNot_33 := zo_180 (k := 15)  (q := 36) zr_dX1_readNot_32.2 rfl rfl
noncomputable def dX1_readNot_33 := zr_dX1_readNot_33.1
noncomputable def zr_dX1_readNot_36 := zo_17 (k := 20105)  (q := 39) zr_dX1_readNot_33.2 (by decide +kernel) rfl
noncomputable def dX1_readNot_36 := zr_dX1_readNot_36.1
noncomputable def zr_dX1_readNot_39 := zo_182 (k := 59)  (q := 42) zr_dX1_readNot_36.2 rfl rfl
noncomputable def dX1_readNot_39 := zr_dX1_readNot_39.1
noncomputable def zr_dX1_readNot_42 := zo_4 (q := 43) zr_dX1_readNot_39.2 rfl
noncomputable def dX1_readNot_42 := zr_dX1_readNot_42.1
noncomputable def zr_dX1_readNot_43 := zo_172 (q := 44) zr_dX1_readNot_42.2 rfl
noncomputable def dX1_readNot_43 := zr_dX1_readNot_43.1
noncomputable def zr_dX1_readNot_44 := zo_42 (q := 45) zr_dX1_readNot_43.2 rfl
noncomputable def dX1_readNot_44 := zr_dX1_readNot_44.1
noncomputable def zr_dX1_readNot_45 := zo_27 (q := 46) zr_dX1_readNot_44.2 rfl
noncomputable def dX1_readNot_45 := zr_dX1_readNot_45.1
noncomputable def zr_dX1_readNot_46 := zo_182 (k := 65)  (q := 49) zr_dX1_readNot_45.2 rfl rfl
noncomputable def dX1_readNot_46 := zr_dX1_readNot_46.1
noncomputable def zr_dX1_readNot_49 := zo_154 (k := 5)  (q := 52) zr_dX1_readNot_46.2 (by decide +kernel) rfl
noncomputable def dX1_readNot_49 := zr_dX1_readNot_49.1
noncomputable def zr_dX1_readNot_52 := zo_3 (q := 53) zr_dX1_readNot_49.2 rfl
noncomputable def dX1_readNot_52 := zr_dX1_readNot_52.1
noncomputable def zr_dX1_readNot_53 := zo_172 (q := 54) zr_dX1_readNot_52.2 rfl
noncomputable def dX1_readNot_53 := zr_dX1_readNot_53.1
noncomputable def zr_dX1_readNot_54 := zo_42 (q := 55) zr_dX1_readNot_53.2 rfl
noncomputable def dX1_readNot_54 := zr_dX1_readNot_54.1
noncomputable def zr_dX1_readNot_55 := zo_180 (k := 45)  (q := 58) zr_dX1_readNot_54.2 rfl rfl
noncomputable def dX1_readNot_55 := zr_dX1_readNot_55.1
noncomputable def zr_dX1_readNot_58 := zo_16 (k := 60)  (q := 60) zr_dX1_readNot_55.2 (by decide +kernel) rfl
noncomputable def dX1_readNot_58 := zr_dX1_readNot_58.1
noncomputable def zr_dX1_readNot_60 := zo_159 (k := 14)  (q := 63) zr_dX1_readNot_58.2 (by decide +kernel) rfl
noncomputable def dX1_readNot_60 := zr_dX1_readNot_60.1
noncomputable def zr_dX1_readNot_63 := zo_42 (q := 64) zr_dX1_readNot_60.2 rfl
noncomputable def dX1_readNot_63 := zr_dX1_readNot_63.1
noncomputable def zr_dX1_readNot_64 := zo_180 (k := 45)  (q := 67) zr_dX1_readNot_63.2 rfl rfl
noncomputable def dX1_readNot_64 := zr_dX1_readNot_64.1
noncomputable def zr_dX1_readNot_67 := zo_16 (k := 61)  (q := 69) zr_dX1_readNot_64.2 (by decide +kernel) rfl
noncomputable def dX1_readNot_67 := zr_dX1_readNot_67.1
noncomputable def zr_dX1_readNot_69 := zo_159 (k := 5)  (q := 72) zr_dX1_readNot_67.2 (by decide +kernel) rfl
noncomputable def dX1_readNot_69 := zr_dX1_readNot_69.1
noncomputable def zr_dX1_readNot_72 := zo_4 (q := 73) zr_dX1_readNot_69.2 rfl
noncomputable def dX1_readNot_72 := zr_dX1_readNot_72.1
noncomputable def zr_dX1_readNot_73 := zo_172 (q := 74) zr_dX1_readNot_72.2 rfl
noncomputable def dX1_readNot_73 := zr_dX1_readNot_73.1
noncomputable def zr_dX1_readNot_74 := zo_42 (q := 75) zr_dX1_readNot_73.2 rfl
noncomputable def dX1_readNot_74 := zr_dX1_readNot_74.1
noncomputable def zr_dX1_readNot_75 := zo_180 (k := 45)  (q := 78) zr_dX1_readNot_74.2 rfl rfl
noncomputable def dX1_readNot_75 := zr_dX1_readNot_75.1
noncomputable def zr_dX1_readNot_78 := zo_61 (q := 79) zr_dX1_readNot_75.2 rfl
noncomputable def dX1_readNot_78 := zr_dX1_readNot_78.1
noncomputable def zr_dX1_readNot_79 := zo_42 (q := 80) zr_dX1_readNot_78.2 rfl
noncomputable def dX1_readNot_79 := zr_dX1_readNot_79.1
noncomputable def zr_dX1_readNot_80 := zo_182 (k := 42)  (q := 83) zr_dX1_readNot_79.2 rfl rfl
noncomputable def dX1_readNot_80 := zr_dX1_readNot_80.1
noncomputable def zr_dX1_readNot_83 := zo_42 (q := 84) zr_dX1_readNot_80.2 rfl
noncomputable def dX1_readNot_83 := zr_dX1_readNot_83.1
noncomputable def zr_dX1_readNot_84 := zo_27 (q := 85) zr_dX1_readNot_83.2 rfl
noncomputable def dX1_readNot_84 := zr_dX1_readNot_84.1
noncomputable def zr_dX1_readNot_85 := zo_182 (k := 65)  (q := 88) zr_dX1_readNot_84.2 rfl rfl
noncomputable def dX1_readNot_85 := zr_dX1_readNot_85.1
noncomputable def zr_dX1_readNot_88 := zo_154 (k := 5)  (q := 91) zr_dX1_readNot_85.2 (by decide +kernel) rfl
noncomputable def dX1_readNot_88 := zr_dX1_readNot_88.1
noncomputable def zr_dX1_readNot_91 := zo_3 (q := 92) zr_dX1_readNot_88.2 rfl
noncomputable def dX1_readNot_91 := zr_dX1_readNot_91.1
noncomputable def zr_dX1_readNot_92 := zo_172 (q := 93) zr_dX1_readNot_91.2 rfl
noncomputable def dX1_readNot_92 := zr_dX1_readNot_92.1
noncomputable def zr_dX1_readNot_93 := zo_42 (q := 94) zr_dX1_readNot_92.2 rfl
noncomputable def dX1_readNot_93 := zr_dX1_readNot_93.1
noncomputable def zr_dX1_readNot_94 := zo_180 (k := 15)  (q := 97) zr_dX1_readNot_93.2 rfl rfl
noncomputable def dX1_readNot_94 := zr_dX1_readNot_94.1
noncomputable def zr_dX1_readNot_97 := zo_17 (k := 20000)  (q := 100) zr_dX1_readNot_94.2 (by decide +kernel) rfl
noncomputable def dX1_readNot_97 := zr_dX1_readNot_97.1
noncomputable def zr_dX1_readNot_100 := zo_28 (q := 101) zr_dX1_readNot_97.2 rfl
noncomputable def dX1_readNot_100 := zr_dX1_readNot_100.1
noncomputable def zr_dX1_readNot_101 := zo_96 (q := 102) zr_dX1_readNot_100.2 rfl
noncomputable def dX1_readNot_101 := zr_dX1_readNot_101.1
noncomputable def zr_dX1_readNot_102 := zo_182 (k := 59)  (q := 105) zr_dX1_readNot_101.2 rfl rfl
noncomputable def dX1_readNot_102 := zr_dX1_readNot_102.1
noncomputable def zr_dX1_readNot_105 := zo_4 (q := 106) zr_dX1_readNot_102.2 rfl
noncomputable def dX1_readNot_105 := zr_dX1_readNot_105.1
noncomputable def zr_dX1_readNot_106 := zo_172 (q := 107) zr_dX1_readNot_105.2 rfl
noncomputable def dX1_readNot_106 := zr_dX1_readNot_106.1
theorem zs_dX1_readSum_0 : zsuf cX1_readSum 0 cX1_readSum.data.toList := rfl
noncomputable def zr_dX1_readSum_0 := zo_42 (q := 1) zs_dX1_readSum_0 rfl
noncomputable def dX1_readSum_0 := zr_dX1_readSum_0.1
noncomputable def zr_dX1_readSum_1 := zo_27 (q := 2) zr_dX1_readSum_0.2 rfl
noncomputable def dX1_readSum_1 := zr_dX1_readSum_1.1
noncomputable def zr_dX1_readSum_2 := zo_182 (k := 68)  (q := 5) zr_dX1_readSum_1.2 rfl rfl
noncomputable def dX1_readSum_2 := zr_dX1_readSum_2.1
noncomputable def zr_dX1_readSum_5 := zo_154 (k := 5)  (q := 8) zr_dX1_readSum_2.2 (by decide +kernel) rfl
noncomputable def dX1_readSum_5 := zr_dX1_readSum_5.1
noncomputable def zr_dX1_readSum_8 := zo_3 (q := 9) zr_dX1_readSum_5.2 rfl
noncomputable def dX1_readSum_8 := zr_dX1_readSum_8.1
noncomputable def zr_dX1_readSum_9 := zo_172 (q := 10) zr_dX1_readSum_8.2 rfl
noncomputable def dX1_readSum_9 := zr_dX1_readSum_9.1
noncomputable def zr_dX1_readSum_10 := zo_3 (q := 11) zr_dX1_readSum_9.2 rfl
noncomputable def dX1_readSum_10 := zr_dX1_readSum_10.1
noncomputable def zr_dX1_readSum_11 := zo_61 (q := 12) zr_dX1_readSum_10.2 rfl
noncomputable def dX1_readSum_11 := zr_dX1_readSum_11.1
noncomputable def zr_dX1_readSum_12 := zo_28 (q := 13) zr_dX1_readSum_11.2 rfl
noncomputable def dX1_readSum_12 := zr_dX1_readSum_12.1
noncomputable def zr_dX1_readSum_13 := zo_17 (k := 160)  (q := 16) zr_dX1_readSum_12.2 (by decide +kernel) rfl
noncomputable def dX1_readSum_13 := zr_dX1_readSum_13.1
noncomputable def zr_dX1_readSum_16 := zo_162 (k := 58)  (q := 19) zr_dX1_readSum_13.2 (by decide +kernel) rfl
noncomputable def dX1_readSum_16 := zr_dX1_readSum_16.1
noncomputable def zr_dX1_readSum_19 := zo_42 (q := 20) zr_dX1_readSum_16.2 rfl
noncomputable def dX1_readSum_19 := zr_dX1_readSum_19.1
noncomputable def zr_dX1_readSum_20 := zo_180 (k := 45)  (q := 23) zr_dX1_readSum_19.2 rfl rfl
noncomputable def dX1_readSum_20 := zr_dX1_readSum_20.1
noncomputable def zr_dX1_readSum_23 := zo_16 (k := 43)  (q := 25) zr_dX1_readSum_20.2 (by decide +kernel) rfl
noncomputable def dX1_readSum_23 := zr_dX1_readSum_23.1
noncomputable def zr_dX1_readSum_25 := zo_159 (k := 12)  (q := 28) zr_dX1_readSum_23.2 (by decide +kernel) rfl
noncomputable def dX1_readSum_25 := zr_dX1_readSum_25.1
noncomputable def zr_dX1_readSum_28 := zo_42 (q := 29) zr_dX1_readSum_25.2 rfl
noncomputable def dX1_readSum_28 := zr_dX1_readSum_28.1
noncomputable def zr_dX1_readSum_29 := zo_180 (k := 45)  (q := 32) zr_dX1_readSum_28.2 rfl rfl
noncomputable def dX1_readSum_29 := zr_dX1_readSum_29.1
noncomputable def zr_dX1_readSum_32 := zo_16 (k := 45)  (q := 34) zr_dX1_readSum_29.2 (by decide +kernel) rfl
noncomputable def dX1_readSum_32 := zr_dX1_readSum_32.1
noncomputable def zr_dX1_readSum_34 := zo_160 (k := 40)  (q := 37) zr_dX1_readSum_32.2 (by decide +kernel) rfl
noncomputable def dX1_readSum_34 := zr_dX1_readSum_34.1
noncomputable def zr_dX1_readSum_37 := zo_42 (q := 38) zr_dX1_readSum_34.2 rfl
noncomputable def dX1_readSum_37 := zr_dX1_readSum_37.1
noncomputable def zr_dX1_readSum_38 := zo_180 (k := 45)  (q := 41) zr_dX1_readSum_37.2 rfl rfl
noncomputable def dX1_readSum_38 := zr_dX1_readSum_38.1
noncomputable def zr_dX1_readSum_41 := zo_62 (q := 42) zr_dX1_readSum_38.2 rfl
noncomputable def dX1_readSum_41 := zr_dX1_readSum_41.1
noncomputable def zr_dX1_readSum_42 := zo_42 (q := 43) zr_dX1_readSum_41.2 rfl
noncomputable def dX1_readSum_42 := zr_dX1_readSum_42.1
noncomputable def zr_dX1_readSum_43 := zo_182 (k := 42)  (q := 46) zr_dX1_readSum_42.2 rfl rfl
noncomputable def dX1_readSum_43 := zr_dX1_readSum_43.1
noncomputable def zr_dX1_readSum_46 := zo_42 (q := 47) zr_dX1_readSum_43.2 rfl
noncomputable def dX1_readSum_46 := zr_dX1_readSum_46.1
noncomputable def zr_dX1_readSum_47 := zo_27 (q := 48) zr_dX1_readSum_46.2 rfl
noncomputable def dX1_readSum_47 := zr_dX1_readSum_47.1
noncomputable def zr_dX1_readSum_48 := zo_182 (k := 68)  (q := 51) zr_dX1_readSum_47.2 rfl rfl
noncomputable def dX1_readSum_48 := zr_dX1_readSum_48.1
noncomputable def zr_dX1_readSum_51 := zo_154 (k := 5)  (q := 54) zr_dX1_readSum_48.2 (by decide +kernel) rfl
noncomputable def dX1_readSum_51 := zr_dX1_readSum_51.1
noncomputable def zr_dX1_readSum_54 := zo_3 (q := 55) zr_dX1_readSum_51.2 rfl
noncomputable def dX1_readSum_54 := zr_dX1_readSum_54.1
noncomputable def zr_dX1_readSum_55 := zo_172 (q := 56) zr_dX1_readSum_54.2 rfl
noncomputable def dX1_readSum_55 := zr_dX1_readSum_55.1
noncomputable def zr_dX1_readSum_56 := zo_42 (q := 57) zr_dX1_readSum_55.2 rfl
noncomputable def dX1_readSum_56 := zr_dX1_readSum_56.1
noncomputable def zr_dX1_readSum_57 := zo_180 (k := 15)  (q := 60) zr_dX1_readSum_56.2 rfl rfl
noncomputable def dX1_readSum_57 := zr_dX1_readSum_57.1
noncomputable def zr_dX1_readSum_60 := zo_17 (k := 20000)  (q := 63) zr_dX1_readSum_57.2 (by decide +kernel) rfl
noncomputable def dX1_readSum_60 := zr_dX1_readSum_60.1
noncomputable def zr_dX1_readSum_63 := zo_29 (q := 64) zr_dX1_readSum_60.2 rfl
noncomputable def dX1_readSum_63 := zr_dX1_readSum_63.1
noncomputable def zr_dX1_readSum_64 := zo_96 (q := 65) zr_dX1_readSum_63.2 rfl
noncomputable def dX1_readSum_64 := zr_dX1_readSum_64.1
noncomputable def zr_dX1_readSum_65 := zo_182 (k := 59)  (q := 68) zr_dX1_readSum_64.2 rfl rfl
noncomputable def dX1_readSum_65 := zr_dX1_readSum_65.1
noncomputable def zr_dX1_readSum_68 := zo_132 (k := 2) (o := 1)  (q := 71) zr_dX1_readSum_65.2 rfl (by decide +kernel) rfl
noncomputable def dX1_readSum_68 := zr_dX1_readSum_68.1
noncomputable def zr_dX1_readSum_71 := zo_167 (k := -59)  (q := 74) zr_dX1_readSum_68.2 (by decide +kernel) rfl
noncomputable def dX1_readSum_71 := zr_dX1_readSum_71.1
noncomputable def zr_dX1_readSum_74 := zo_4 (q := 75) zr_dX1_readSum_71.2 rfl
noncomputable def dX1_readSum_74 := zr_dX1_readSum_74.1
noncomputable def zr_dX1_readSum_75 := zo_172 (q := 76) zr_dX1_readSum_74.2 rfl
noncomputable def dX1_readSum_75 := zr_dX1_readSum_75.1
theorem zs_dX1_readTerm_0 : zsuf cX1_readTerm 0 cX1_readTerm.data.toList := rfl
noncomputable def zr_dX1_readTerm_0 := zo_42 (q := 1) zs_dX1_readTerm_0 rfl
noncomputable def dX1_readTerm_0 := zr_dX1_readTerm_0.1
noncomputable def zr_dX1_readTerm_1 := zo_27 (q := 2) zr_dX1_readTerm_0.2 rfl
noncomputable def dX1_readTerm_1 := zr_dX1_readTerm_1.1
noncomputable def zr_dX1_readTerm_2 := zo_182 (k := 71)  (q := 5) zr_dX1_readTerm_1.2 rfl rfl
noncomputable def dX1_readTerm_2 := zr_dX1_readTerm_2.1
noncomputable def zr_dX1_readTerm_5 := zo_154 (k := 5)  (q := 8) zr_dX1_readTerm_2.2 (by decide +kernel) rfl
noncomputable def dX1_readTerm_5 := zr_dX1_readTerm_5.1
noncomputable def zr_dX1_readTerm_8 := zo_3 (q := 9) zr_dX1_readTerm_5.2 rfl
noncomputable def dX1_readTerm_8 := zr_dX1_readTerm_8.1
noncomputable def zr_dX1_readTerm_9 := zo_172 (q := 10) zr_dX1_readTerm_8.2 rfl
noncomputable def dX1_readTerm_9 := zr_dX1_readTerm_9.1
noncomputable def zr_dX1_readTerm_10 := zo_3 (q := 11) zr_dX1_readTerm_9.2 rfl
noncomputable def dX1_readTerm_10 := zr_dX1_readTerm_10.1
noncomputable def zr_dX1_readTerm_11 := zo_61 (q := 12) zr_dX1_readTerm_10.2 rfl
noncomputable def dX1_readTerm_11 := zr_dX1_readTerm_11.1
noncomputable def zr_dX1_readTerm_12 := zo_28 (q := 13) zr_dX1_readTerm_11.2 rfl
noncomputable def dX1_readTerm_12 := zr_dX1_readTerm_12.1
noncomputable def zr_dX1_readTerm_13 := zo_17 (k := 160)  (q := 16) zr_dX1_readTerm_12.2 (by decide +kernel) rfl
noncomputable def dX1_readTerm_13 := zr_dX1_readTerm_13.1
noncomputable def zr_dX1_readTerm_16 := zo_162 (k := 42)  (q := 19) zr_dX1_readTerm_13.2 (by decide +kernel) rfl
noncomputable def dX1_readTerm_16 := zr_dX1_readTerm_16.1
noncomputable def zr_dX1_readTerm_19 := zo_42 (q := 20) zr_dX1_readTerm_16.2 rfl
noncomputable def dX1_readTerm_19 := zr_dX1_readTerm_19.1
noncomputable def zr_dX1_readTerm_20 := zo_180 (k := 45)  (q := 23) zr_dX1_readTerm_19.2 rfl rfl
noncomputable def dX1_readTerm_20 := zr_dX1_readTerm_20.1
noncomputable def zr_dX1_readTerm_23 := zo_16 (k := 42)  (q := 25) zr_dX1_readTerm_20.2 (by decide +kernel) rfl
noncomputable def dX1_readTerm_23 := zr_dX1_readTerm_23.1
noncomputable def zr_dX1_readTerm_25 := zo_160 (k := 33)  (q := 28) zr_dX1_readTerm_23.2 (by decide +kernel) rfl
noncomputable def dX1_readTerm_25 := zr_dX1_readTerm_25.1
noncomputable def zr_dX1_readTerm_28 := zo_42 (q := 29) zr_dX1_readTerm_25.2 rfl
noncomputable def dX1_readTerm_28 := zr_dX1_readTerm_28.1
noncomputable def zr_dX1_readTerm_29 := zo_182 (k := 42)  (q := 32) zr_dX1_readTerm_28.2 rfl rfl
noncomputable def dX1_readTerm_29 := zr_dX1_readTerm_29.1
noncomputable def zr_dX1_readTerm_32 := zo_42 (q := 33) zr_dX1_readTerm_29.2 rfl
noncomputable def dX1_readTerm_32 := zr_dX1_readTerm_32.1
noncomputable def zr_dX1_readTerm_33 := zo_27 (q := 34) zr_dX1_readTerm_32.2 rfl
noncomputable def dX1_readTerm_33 := zr_dX1_readTerm_33.1
noncomputable def zr_dX1_readTerm_34 := zo_182 (k := 71)  (q := 37) zr_dX1_readTerm_33.2 rfl rfl
noncomputable def dX1_readTerm_34 := zr_dX1_readTerm_34.1
noncomputable def zr_dX1_readTerm_37 := zo_154 (k := 5)  (q := 40) zr_dX1_readTerm_34.2 (by decide +kernel) rfl
noncomputable def dX1_readTerm_37 := zr_dX1_readTerm_37.1
noncomputable def zr_dX1_readTerm_40 := zo_3 (q := 41) zr_dX1_readTerm_37.2 rfl
noncomputable def dX1_readTerm_40 := zr_dX1_readTerm_40.1
noncomputable def zr_dX1_readTerm_41 := zo_172 (q := 42) zr_dX1_readTerm_40.2 rfl
noncomputable def dX1_readTerm_41 := zr_dX1_readTerm_41.1
noncomputable def zr_dX1_readTerm_42 := zo_42 (q := 43) zr_dX1_readTerm_41.2 rfl
noncomputable def dX1_readTerm_42 := zr_dX1_readTerm_42.1
noncomputable def zr_dX1_readTerm_43 := zo_180 (k := 15)  (q := 46) zr_dX1_readTerm_42.2 rfl rfl
noncomputable def dX1_readTerm_43 := zr_dX1_readTerm_43.1
noncomputable def zr_dX1_readTerm_46 := zo_17 (k := 20042)  (q := 49) zr_dX1_readTerm_43.2 (by decide +kernel) rfl
noncomputable def dX1_readTerm_46 := zr_dX1_readTerm_46.1
noncomputable def zr_dX1_readTerm_49 := zo_182 (k := 59)  (q := 52) zr_dX1_readTerm_46.2 rfl rfl
noncomputable def dX1_readTerm_49 := zr_dX1_readTerm_49.1
noncomputable def zr_dX1_readTerm_52 := zo_132 (k := 2) (o := 1)  (q := 55) zr_dX1_readTerm_49.2 rfl (by decide +kernel) rfl
noncomputable def dX1_readTerm_52 := zr_dX1_readTerm_52.1
noncomputable def zr_dX1_readTerm_55 := zo_167 (k := -43)  (q := 58) zr_dX1_readTerm_52.2 (by decide +kernel) rfl
noncomputable def dX1_readTerm_55 := zr_dX1_readTerm_55.1
noncomputable def zr_dX1_readTerm_58 := zo_4 (q := 59) zr_dX1_readTerm_55.2 rfl
noncomputable def dX1_readTerm_58 := zr_dX1_readTerm_58.1
noncomputable def zr_dX1_readTerm_59 := zo_172 (q := 60) zr_dX1_readTerm_58.2 rfl
noncomputable def dX1_readTerm_59 := zr_dX1_readTerm_59.1
theorem zs_dX1_readOne_0 : zsuf cX1_readOne 0 cX1_readOne.data.toList := rfl
noncomputable def zr_dX1_readOne_0 := zo_42 (q := 1) zs_dX1_readOne_0 rfl
noncomputable def dX1_readOne_0 := zr_dX1_readOne_0.1
noncomputable def zr_dX1_readOne_1 := zo_180 (k := 45)  (q := 4) zr_dX1_readOne_0.2 rfl rfl
noncomputable def dX1_readOne_1 := zr_dX1_readOne_1.1
noncomputable def zr_dX1_readOne_4 := zo_5 (q := 5) zr_dX1_readOne_1.2 rfl
noncomputable def dX1_readOne_4 := zr_dX1_readOne_4.1
noncomputable def zr_dX1_readOne_5 := zo_159 (k := 11)  (q := 8) zr_dX1_readOne_4.2 (by decide +kernel) rfl
noncomputable def dX1_readOne_5 := zr_dX1_readOne_5.1
noncomputable def zr_dX1_readOne_8 := zo_42 (q := 9) zr_dX1_readOne_5.2 rfl
noncomputable def dX1_readOne_8 := zr_dX1_readOne_8.1
noncomputable def zr_dX1_readOne_9 := zo_180 (k := 45)  (q := 12) zr_dX1_readOne_8.2 rfl rfl
noncomputable def dX1_readOne_9 := zr_dX1_readOne_9.1
noncomputable def zr_dX1_readOne_12 := zo_6 (q := 13) zr_dX1_readOne_9.2 rfl
noncomputable def dX1_readOne_12 := zr_dX1_readOne_12.1
noncomputable def zr_dX1_readOne_13 := zo_160 (k := 39)  (q := 16) zr_dX1_readOne_12.2 (by decide +kernel) rfl
noncomputable def dX1_readOne_13 := zr_dX1_readOne_13.1
noncomputable def zr_dX1_readOne_16 := zo_42 (q := 17) zr_dX1_readOne_13.2 rfl
noncomputable def dX1_readOne_16 := zr_dX1_readOne_16.1
noncomputable def zr_dX1_readOne_17 := zo_180 (k := 15)  (q := 20) zr_dX1_readOne_16.2 rfl rfl
noncomputable def dX1_readOne_17 := zr_dX1_readOne_17.1
noncomputable def zr_dX1_readOne_20 := zo_42 (q := 21) zr_dX1_readOne_17.2 rfl
noncomputable def dX1_readOne_20 := zr_dX1_readOne_20.1
noncomputable def zr_dX1_readOne_21 := zo_180 (k := 45)  (q := 24) zr_dX1_readOne_20.2 rfl rfl
noncomputable def dX1_readOne_21 := zr_dX1_readOne_21.1
noncomputable def zr_dX1_readOne_24 := zo_5 (q := 25) zr_dX1_readOne_21.2 rfl
noncomputable def dX1_readOne_24 := zr_dX1_readOne_24.1
noncomputable def zr_dX1_readOne_25 := zo_160 (k := 10)  (q := 28) zr_dX1_readOne_24.2 (by decide +kernel) rfl
noncomputable def dX1_readOne_25 := zr_dX1_readOne_25.1
noncomputable def zr_dX1_readOne_28 := zo_42 (q := 29) zr_dX1_readOne_25.2 rfl
noncomputable def dX1_readOne_28 := zr_dX1_readOne_28.1
noncomputable def zr_dX1_readOne_29 := zo_180 (k := 74)  (q := 32) zr_dX1_readOne_28.2 rfl rfl
noncomputable def dX1_readOne_29 := zr_dX1_readOne_29.1
noncomputable def zr_dX1_readOne_32 := zo_167 (k := 11)  (q := 35) zr_dX1_readOne_29.2 (by decide +kernel) rfl
noncomputable def dX1_readOne_32 := zr_dX1_readOne_32.1
noncomputable def zr_dX1_readOne_35 := zo_17 (k := 10000)  (q := 38) zr_dX1_readOne_32.2 (by decide +kernel) rfl
noncomputable def dX1_readOne_35 := zr_dX1_readOne_35.1
noncomputable def zr_dX1_readOne_38 := zo_42 (q := 39) zr_dX1_readOne_35.2 rfl
noncomputable def dX1_readOne_38 := zr_dX1_readOne_38.1
noncomputable def zr_dX1_readOne_39 := zo_180 (k := 74)  (q := 42) zr_dX1_readOne_38.2 rfl rfl
noncomputable def dX1_readOne_39 := zr_dX1_readOne_39.1
noncomputable def zr_dX1_readOne_42 := zo_96 (q := 43) zr_dX1_readOne_39.2 rfl
noncomputable def dX1_readOne_42 := zr_dX1_readOne_42.1
noncomputable def zr_dX1_readOne_43 := zo_182 (k := 59)  (q := 46) zr_dX1_readOne_42.2 rfl rfl
noncomputable def dX1_readOne_43 := zr_dX1_readOne_43.1
noncomputable def zr_dX1_readOne_46 := zo_42 (q := 47) zr_dX1_readOne_43.2 rfl
noncomputable def dX1_readOne_46 := zr_dX1_readOne_46.1
noncomputable def zr_dX1_readOne_47 := zo_182 (k := 42)  (q := 50) zr_dX1_readOne_46.2 rfl rfl
noncomputable def dX1_readOne_47 := zr_dX1_readOne_47.1
noncomputable def zr_dX1_readOne_50 := zo_4 (q := 51) zr_dX1_readOne_47.2 rfl
noncomputable def dX1_readOne_50 := zr_dX1_readOne_50.1
noncomputable def zr_dX1_readOne_51 := zo_172 (q := 52) zr_dX1_readOne_50.2 rfl
noncomputable def dX1_readOne_51 := zr_dX1_readOne_51.1
noncomputable def zr_dX1_readOne_52 := zo_42 (q := 53) zr_dX1_readOne_51.2 rfl
noncomputable def dX1_readOne_52 := zr_dX1_readOne_52.1
noncomputable def zr_dX1_readOne_53 := zo_180 (k := 45)  (q := 56) zr_dX1_readOne_52.2 rfl rfl
noncomputable def dX1_readOne_53 := zr_dX1_readOne_53.1
noncomputable def zr_dX1_readOne_56 := zo_16 (k := 45)  (q := 58) zr_dX1_readOne_53.2 (by decide +kernel) rfl
noncomputable def dX1_readOne_56 := zr_dX1_readOne_56.1
noncomputable def zr_dX1_readOne_58 := zo_159 (k := 12)  (q := 61) zr_dX1_readOne_56.2 (by decide +kernel) rfl
noncomputable def dX1_readOne_58 := zr_dX1_readOne_58.1
noncomputable def zr_dX1_readOne_61 := zo_42 (q := 62) zr_dX1_readOne_58.2 rfl
noncomputable def dX1_readOne_61 := zr_dX1_readOne_61.1
noncomputable def zr_dX1_readOne_62 := zo_180 (k := 45)  (q := 65) zr_dX1_readOne_61.2 rfl rfl
noncomputable def dX1_readOne_62 := zr_dX1_readOne_62.1
noncomputable def zr_dX1_readOne_65 := zo_16 (k := 40)  (q := 67) zr_dX1_readOne_62.2 (by decide +kernel) rfl
noncomputable def dX1_readOne_65 := zr_dX1_readOne_65.1
noncomputable def zr_dX1_readOne_67 := zo_160 (k := 8)  (q := 70) zr_dX1_readOne_65.2 (by decide +kernel) rfl
noncomputable def dX1_readOne_67 := zr_dX1_readOne_67.1
noncomputable def zr_dX1_readOne_70 := zo_27 (q := 71) zr_dX1_readOne_67.2 rfl
noncomputable def dX1_readOne_70 := zr_dX1_readOne_70.1
noncomputable def zr_dX1_readOne_71 := zo_8 (q := 72) zr_dX1_readOne_70.2 rfl
noncomputable def dX1_readOne_71 := zr_dX1_readOne_71.1
noncomputable def zr_dX1_readOne_72 := zo_161 (k := 5)  (q := 75) zr_dX1_readOne_71.2 (by decide +kernel) rfl
noncomputable def dX1_readOne_72 := zr_dX1_readOne_72.1
noncomputable def zr_dX1_readOne_75 := zo_3 (q := 76) zr_dX1_readOne_72.2 rfl
noncomputable def dX1_readOne_75 := zr_dX1_readOne_75.1
noncomputable def zr_dX1_readOne_76 := zo_172 (q := 77) zr_dX1_readOne_75.2 rfl
noncomputable def dX1_readOne_76 := zr_dX1_readOne_76.1
noncomputable def zr_dX1_readOne_77 := zo_42 (q := 78) zr_dX1_readOne_76.2 rfl
noncomputable def dX1_readOne_77 := zr_dX1_readOne_77.1
noncomputable def zr_dX1_readOne_78 := zo_180 (k := 45)  (q := 81) zr_dX1_readOne_77.2 rfl rfl
noncomputable def dX1_readOne_78 := zr_dX1_readOne_78.1
noncomputable def zr_dX1_readOne_81 := zo_16 (k := 45)  (q := 83) zr_dX1_readOne_78.2 (by decide +kernel) rfl
noncomputable def dX1_readOne_81 := zr_dX1_readOne_81.1
noncomputable def zr_dX1_readOne_83 := zo_160 (k := 31)  (q := 86) zr_dX1_readOne_81.2 (by decide +kernel) rfl
noncomputable def dX1_readOne_83 := zr_dX1_readOne_83.1
noncomputable def zr_dX1_readOne_86 := zo_42 (q := 87) zr_dX1_readOne_83.2 rfl
noncomputable def dX1_readOne_86 := zr_dX1_readOne_86.1
noncomputable def zr_dX1_readOne_87 := zo_182 (k := 42)  (q := 90) zr_dX1_readOne_86.2 rfl rfl
noncomputable def dX1_readOne_87 := zr_dX1_readOne_87.1
noncomputable def zr_dX1_readOne_90 := zo_42 (q := 91) zr_dX1_readOne_87.2 rfl
noncomputable def dX1_readOne_90 := zr_dX1_readOne_90.1
noncomputable def zr_dX1_readOne_91 := zo_27 (q := 92) zr_dX1_readOne_90.2 rfl
noncomputable def dX1_readOne_91 := zr_dX1_readOne_91.1
noncomputable def zr_dX1_readOne_92 := zo_4 (q := 93) zr_dX1_readOne_91.2 rfl
noncomputable def dX1_readOne_92 := zr_dX1_readOne_92.1
noncomputable def zr_dX1_readOne_93 := zo_96 (q := 94) zr_dX1_readOne_92.2 rfl
noncomputable def dX1_readOne_93 := zr_dX1_readOne_93.1
noncomputable def zr_dX1_readOne_94 := zo_182 (k := 71)  (q := 97) zr_dX1_readOne_93.2 rfl rfl
noncomputable def dX1_readOne_94 := zr_dX1_readOne_94.1
noncomputable def zr_dX1_readOne_97 := zo_154 (k := 5)  (q := 100) zr_dX1_readOne_94.2 (by decide +kernel) rfl
noncomputable def dX1_readOne_97 := zr_dX1_readOne_97.1
noncomputable def zr_dX1_readOne_100 := zo_3 (q := 101) zr_dX1_readOne_97.2 rfl
noncomputable def dX1_readOne_100 := zr_dX1_readOne_100.1
noncomputable def zr_dX1_readOne_101 := zo_172 (q := 102) zr_dX1_readOne_100.2 rfl
noncomputable def dX1_readOne_101 := zr_dX1_readOne_101.1
noncomputable def zr_dX1_readOne_102 := zo_42 (q := 103) zr_dX1_readOne_101.2 rfl
noncomputable def dX1_readOne_102 := zr_dX1_readOne_102.1
noncomputable def zr_dX1_readOne_103 := zo_180 (k := 15)  (q := 106) zr_dX1_readOne_102.2 rfl rfl
noncomputable def dX1_readOne_103 := zr_dX1_readOne_103.1
noncomputable def zr_dX1_readOne_106 := zo_17 (k := 20106)  (q := 109) zr_dX1_readOne_103.2 (by decide +kernel) rfl
noncomputable def dX1_readOne_106 := zr_dX1_readOne_106.1
noncomputable def zr_dX1_readOne_109 := zo_182 (k := 59)  (q := 112) zr_dX1_readOne_106.2 rfl rfl
noncomputable def dX1_readOne_109 := zr_dX1_readOne_109.1
noncomputable def zr_dX1_readOne_112 := zo_4 (q := 113) zr_dX1_readOne_109.2 rfl
noncomputable def dX1_readOne_112 := zr_dX1_readOne_112.1
noncomputable def zr_dX1_readOne_113 := zo_172 (q := 114) zr_dX1_readOne_112.2 rfl
noncomputable def dX1_readOne_113 := zr_dX1_readOne_113.1
noncomputable def zr_dX1_readOne_114 := zo_42 (q := 115) zr_dX1_readOne_113.2 rfl
noncomputable def dX1_readOne_114 := zr_dX1_readOne_114.1
noncomputable def zr_dX1_readOne_115 := zo_182 (k := 42)  (q := 118) zr_dX1_readOne_114.2 rfl rfl
noncomputable def dX1_readOne_115 := zr_dX1_readOne_115.1
noncomputable def zr_dX1_readOne_118 := zo_42 (q := 119) zr_dX1_readOne_115.2 rfl
noncomputable def dX1_readOne_118 := zr_dX1_readOne_118.1
noncomputable def zr_dX1_readOne_119 := zo_27 (q := 120) zr_dX1_readOne_118.2 rfl
noncomputable def dX1_readOne_119 := zr_dX1_readOne_119.1
noncomputable def zr_dX1_readOne_120 := zo_4 (q := 121) zr_dX1_readOne_119.2 rfl
noncomputable def dX1_readOne_120 := zr_dX1_readOne_120.1
noncomputable def zr_dX1_readOne_121 := zo_96 (q := 122) zr_dX1_readOne_120.2 rfl
noncomputable def dX1_readOne_121 := zr_dX1_readOne_121.1
noncomputable def zr_dX1_readOne_122 := zo_182 (k := 48)  (q := 125) zr_dX1_readOne_121.2 rfl rfl
noncomputable def dX1_readOne_122 := zr_dX1_readOne_122.1
noncomputable def zr_dX1_readOne_125 := zo_153 (k := 12)  (q := 128) zr_dX1_readOne_122.2 (by decide +kernel) rfl
noncomputable def dX1_readOne_125 := zr_dX1_readOne_125.1
noncomputable def zr_dX1_readOne_128 := zo_42 (q := 129) zr_dX1_readOne_125.2 rfl
noncomputable def dX1_readOne_128 := zr_dX1_readOne_128.1
noncomputable def zr_dX1_readOne_129 := zo_180 (k := 45)  (q := 132) zr_dX1_readOne_128.2 rfl rfl
noncomputable def dX1_readOne_129 := zr_dX1_readOne_129.1
noncomputable def zr_dX1_readOne_132 := zo_16 (k := 41)  (q := 134) zr_dX1_readOne_129.2 (by decide +kernel) rfl
noncomputable def dX1_readOne_132 := zr_dX1_readOne_132.1
noncomputable def zr_dX1_readOne_134 := zo_159 (k := 5)  (q := 137) zr_dX1_readOne_132.2 (by decide +kernel) rfl
noncomputable def dX1_readOne_134 := zr_dX1_readOne_134.1
noncomputable def zr_dX1_readOne_137 := zo_3 (q := 138) zr_dX1_readOne_134.2 rfl
noncomputable def dX1_readOne_137 := zr_dX1_readOne_137.1
noncomputable def zr_dX1_readOne_138 := zo_172 (q := 139) zr_dX1_readOne_137.2 rfl
noncomputable def dX1_readOne_138 := zr_dX1_readOne_138.1
noncomputable def zr_dX1_readOne_139 := zo_42 (q := 140) zr_dX1_readOne_138.2 rfl
noncomputable def dX1_readOne_139 := zr_dX1_readOne_139.1
noncomputable def zr_dX1_readOne_140 := zo_182 (k := 42)  (q := 143) zr_dX1_readOne_139.2 rfl rfl
noncomputable def dX1_readOne_140 := zr_dX1_readOne_140.1
noncomputable def zr_dX1_readOne_143 := zo_4 (q := 144) zr_dX1_readOne_140.2 rfl
noncomputable def dX1_readOne_143 := zr_dX1_readOne_143.1
noncomputable def zr_dX1_readOne_144 := zo_172 (q := 145) zr_dX1_readOne_143.2 rfl
noncomputable def dX1_readOne_144 := zr_dX1_readOne_144.1
theorem zs_dX1_next_0 : zsuf cX1_next 0 cX1_next.data.toList := rfl
noncomputable def zr_dX1_next_0 := zo_42 (q := 1) zs_dX1_next_0 rfl
noncomputable def dX1_next_0 := zr_dX1_next_0.1
noncomputable def zr_dX1_next_1 := zo_180 (k := 23)  (q := 4) zr_dX1_next_0.2 rfl rfl
noncomputable def dX1_next_1 := zr_dX1_next_1.1
noncomputable def zr_dX1_next_4 := zo_42 (q := 5) zr_dX1_next_1.2 rfl
noncomputable def dX1_next_4 := zr_dX1_next_4.1
noncomputable def zr_dX1_next_5 := zo_180 (k := 19)  (q := 8) zr_dX1_next_4.2 rfl rfl
noncomputable def dX1_next_5 := zr_dX1_next_5.1
noncomputable def zr_dX1_next_8 := zo_162 (k := 44)  (q := 11) zr_dX1_next_5.2 (by decide +kernel) rfl
noncomputable def dX1_next_8 := zr_dX1_next_8.1
noncomputable def zr_dX1_next_11 := zo_42 (q := 12) zr_dX1_next_8.2 rfl
noncomputable def dX1_next_11 := zr_dX1_next_11.1
noncomputable def zr_dX1_next_12 := zo_180 (k := 9)  (q := 15) zr_dX1_next_11.2 rfl rfl
noncomputable def dX1_next_12 := zr_dX1_next_12.1
noncomputable def zr_dX1_next_15 := zo_42 (q := 16) zr_dX1_next_12.2 rfl
noncomputable def dX1_next_15 := zr_dX1_next_15.1
noncomputable def zr_dX1_next_16 := zo_180 (k := 23)  (q := 19) zr_dX1_next_15.2 rfl rfl
noncomputable def dX1_next_16 := zr_dX1_next_16.1
noncomputable def zr_dX1_next_19 := zo_46 (q := 20) zr_dX1_next_16.2 rfl
noncomputable def dX1_next_19 := zr_dX1_next_19.1
noncomputable def zr_dX1_next_20 := zo_16 (k := 32)  (q := 22) zr_dX1_next_19.2 (by decide +kernel) rfl
noncomputable def dX1_next_20 := zr_dX1_next_20.1
noncomputable def zr_dX1_next_22 := zo_159 (k := 17)  (q := 25) zr_dX1_next_20.2 (by decide +kernel) rfl
noncomputable def dX1_next_22 := zr_dX1_next_22.1
noncomputable def zr_dX1_next_25 := zo_42 (q := 26) zr_dX1_next_22.2 rfl
noncomputable def dX1_next_25 := zr_dX1_next_25.1
noncomputable def zr_dX1_next_26 := zo_180 (k := 9)  (q := 29) zr_dX1_next_25.2 rfl rfl
noncomputable def dX1_next_26 := zr_dX1_next_26.1
noncomputable def zr_dX1_next_29 := zo_42 (q := 30) zr_dX1_next_26.2 rfl
noncomputable def dX1_next_29 := zr_dX1_next_29.1
noncomputable def zr_dX1_next_30 := zo_180 (k := 23)  (q := 33) zr_dX1_next_29.2 rfl rfl
noncomputable def dX1_next_30 := zr_dX1_next_30.1
noncomputable def zr_dX1_next_33 := zo_46 (q := 34) zr_dX1_next_30.2 rfl
noncomputable def dX1_next_33 := zr_dX1_next_33.1
noncomputable def zr_dX1_next_34 := zo_16 (k := 10)  (q := 36) zr_dX1_next_33.2 (by decide +kernel) rfl
noncomputable def dX1_next_34 := zr_dX1_next_34.1
noncomputable def zr_dX1_next_36 := zo_160 (k := 16)  (q := 39) zr_dX1_next_34.2 (by decide +kernel) rfl
noncomputable def dX1_next_36 := zr_dX1_next_36.1
noncomputable def zr_dX1_next_39 := zo_42 (q := 40) zr_dX1_next_36.2 rfl
noncomputable def dX1_next_39 := zr_dX1_next_39.1
noncomputable def zr_dX1_next_40 := zo_89 (q := 41) zr_dX1_next_39.2 rfl
noncomputable def dX1_next_40 := zr_dX1_next_40.1
noncomputable def zr_dX1_next_41 := zo_180 (k := 23)  (q := 44) zr_dX1_next_40.2 rfl rfl
noncomputable def dX1_next_41 := zr_dX1_next_41.1
noncomputable def zr_dX1_next_44 := zo_4 (q := 45) zr_dX1_next_41.2 rfl
noncomputable def dX1_next_44 := zr_dX1_next_44.1
noncomputable def zr_dX1_next_45 := zo_96 (q := 46) zr_dX1_next_44.2 rfl
noncomputable def dX1_next_45 := zr_dX1_next_45.1
noncomputable def zr_dX1_next_46 := zo_181 (k := 23)  (q := 49) zr_dX1_next_45.2 rfl rfl
noncomputable def dX1_next_46 := zr_dX1_next_46.1
noncomputable def zr_dX1_next_49 := zo_167 (k := -49)  (q := 52) zr_dX1_next_46.2 (by decide +kernel) rfl
noncomputable def dX1_next_49 := zr_dX1_next_49.1
noncomputable def zr_dX1_next_52 := zo_42 (q := 53) zr_dX1_next_49.2 rfl
noncomputable def dX1_next_52 := zr_dX1_next_52.1
noncomputable def zr_dX1_next_53 := zo_42 (q := 54) zr_dX1_next_52.2 rfl
noncomputable def dX1_next_53 := zr_dX1_next_53.1
noncomputable def zr_dX1_next_54 := zo_180 (k := 23)  (q := 57) zr_dX1_next_53.2 rfl rfl
noncomputable def dX1_next_54 := zr_dX1_next_54.1
noncomputable def zr_dX1_next_57 := zo_181 (k := 39)  (q := 60) zr_dX1_next_54.2 rfl rfl
noncomputable def dX1_next_57 := zr_dX1_next_57.1
noncomputable def zr_dX1_next_60 := zo_42 (q := 61) zr_dX1_next_57.2 rfl
noncomputable def dX1_next_60 := zr_dX1_next_60.1
noncomputable def zr_dX1_next_61 := zo_180 (k := 23)  (q := 64) zr_dX1_next_60.2 rfl rfl
noncomputable def dX1_next_61 := zr_dX1_next_61.1
noncomputable def zr_dX1_next_64 := zo_42 (q := 65) zr_dX1_next_61.2 rfl
noncomputable def dX1_next_64 := zr_dX1_next_64.1
noncomputable def zr_dX1_next_65 := zo_180 (k := 19)  (q := 68) zr_dX1_next_64.2 rfl rfl
noncomputable def dX1_next_65 := zr_dX1_next_65.1
noncomputable def zr_dX1_next_68 := zo_161 (k := 11)  (q := 71) zr_dX1_next_65.2 (by decide +kernel) rfl
noncomputable def dX1_next_68 := zr_dX1_next_68.1
noncomputable def zr_dX1_next_71 := zo_42 (q := 72) zr_dX1_next_68.2 rfl
noncomputable def dX1_next_71 := zr_dX1_next_71.1
noncomputable def zr_dX1_next_72 := zo_3 (q := 73) zr_dX1_next_71.2 rfl
noncomputable def dX1_next_72 := zr_dX1_next_72.1
noncomputable def zr_dX1_next_73 := zo_181 (k := 45)  (q := 76) zr_dX1_next_72.2 rfl rfl
noncomputable def dX1_next_73 := zr_dX1_next_73.1
noncomputable def zr_dX1_next_76 := zo_167 (k := 84)  (q := 79) zr_dX1_next_73.2 (by decide +kernel) rfl
noncomputable def dX1_next_76 := zr_dX1_next_76.1
noncomputable def zr_dX1_next_79 := zo_42 (q := 80) zr_dX1_next_76.2 rfl
noncomputable def dX1_next_79 := zr_dX1_next_79.1
noncomputable def zr_dX1_next_80 := zo_42 (q := 81) zr_dX1_next_79.2 rfl
noncomputable def dX1_next_80 := zr_dX1_next_80.1
noncomputable def zr_dX1_next_81 := zo_180 (k := 23)  (q := 84) zr_dX1_next_80.2 rfl rfl
noncomputable def dX1_next_81 := zr_dX1_next_81.1
noncomputable def zr_dX1_next_84 := zo_182 (k := 77)  (q := 87) zr_dX1_next_81.2 rfl rfl
noncomputable def dX1_next_84 := zr_dX1_next_84.1
noncomputable def zr_dX1_next_87 := zo_153 (k := 10)  (q := 90) zr_dX1_next_84.2 (by decide +kernel) rfl
noncomputable def dX1_next_87 := zr_dX1_next_87.1
noncomputable def zr_dX1_next_90 := zo_42 (q := 91) zr_dX1_next_87.2 rfl
noncomputable def dX1_next_90 := zr_dX1_next_90.1
noncomputable def zr_dX1_next_91 := zo_182 (k := 80)  (q := 94) zr_dX1_next_90.2 rfl rfl
noncomputable def dX1_next_91 := zr_dX1_next_91.1
noncomputable def zr_dX1_next_94 := zo_167 (k := 66)  (q := 97) zr_dX1_next_91.2 (by decide +kernel) rfl
noncomputable def dX1_next_94 := zr_dX1_next_94.1
noncomputable def zr_dX1_next_97 := zo_42 (q := 98) zr_dX1_next_94.2 rfl
noncomputable def dX1_next_97 := zr_dX1_next_97.1
noncomputable def zr_dX1_next_98 := zo_42 (q := 99) zr_dX1_next_97.2 rfl
noncomputable def dX1_next_98 := zr_dX1_next_98.1
noncomputable def zr_dX1_next_99 := zo_180 (k := 23)  (q := 102) zr_dX1_next_98.2 rfl rfl
noncomputable def dX1_next_99 := zr_dX1_next_99.1
noncomputable def zr_dX1_next_102 := zo_182 (k := 83)  (q := 105) zr_dX1_next_99.2 rfl rfl
noncomputable def dX1_next_102 := zr_dX1_next_102.1
noncomputable def zr_dX1_next_105 := zo_153 (k := 10)  (q := 108) zr_dX1_next_102.2 (by decide +kernel) rfl
noncomputable def dX1_next_105 := zr_dX1_next_105.1
noncomputable def zr_dX1_next_108 := zo_42 (q := 109) zr_dX1_next_105.2 rfl
noncomputable def dX1_next_108 := zr_dX1_next_108.1
noncomputable def zr_dX1_next_109 := zo_182 (k := 86)  (q := 112) zr_dX1_next_108.2 rfl rfl
noncomputable def dX1_next_109 := zr_dX1_next_109.1
noncomputable def zr_dX1_next_112 := zo_167 (k := 48)  (q := 115) zr_dX1_next_109.2 (by decide +kernel) rfl
noncomputable def dX1_next_112 := zr_dX1_next_112.1
noncomputable def zr_dX1_next_115 := zo_42 (q := 116) zr_dX1_next_112.2 rfl
noncomputable def dX1_next_115 := zr_dX1_next_115.1
noncomputable def zr_dX1_next_116 := zo_18 (k := 89)  (q := 118) zr_dX1_next_115.2 rfl rfl
noncomputable def dX1_next_116 := zr_dX1_next_116.1
noncomputable def zr_dX1_next_118 := zo_42 (q := 119) zr_dX1_next_116.2 rfl
noncomputable def dX1_next_118 := zr_dX1_next_118.1
noncomputable def zr_dX1_next_119 := zo_180 (k := 9)  (q := 122) zr_dX1_next_118.2 rfl rfl
noncomputable def dX1_next_119 := zr_dX1_next_119.1
noncomputable def zr_dX1_next_122 := zo_42 (q := 123) zr_dX1_next_119.2 rfl
noncomputable def dX1_next_122 := zr_dX1_next_122.1
noncomputable def zr_dX1_next_123 := zo_180 (k := 23)  (q := 126) zr_dX1_next_122.2 rfl rfl
noncomputable def dX1_next_123 := zr_dX1_next_123.1
noncomputable def zr_dX1_next_126 := zo_46 (q := 127) zr_dX1_next_123.2 rfl
noncomputable def dX1_next_126 := zr_dX1_next_126.1
theorem zo_146 {c : ByteArray} {p q : Nat} {L : List UInt8} (h : zsuf c p (146 :: L)) (hq : p + 1 = q) : zD c p .i2c 1 ∧ zsuf c q L := zfin hq (Eq.trans (zbd (zu1 (v := 146) h rfl)) rfl) (zsuf_tl h)
noncomputable def zr_dX1_next_127 := zo_146 (q := 128) zr_dX1_next_126.2 rfl
noncomputable def dX1_next_127 := zr_dX1_next_127.1
noncomputable def zr_dX1_next_128 := zo_182 (k := 91)  (q := 131) zr_dX1_next_127.2 rfl rfl
noncomputable def dX1_next_128 := zr_dX1_next_128.1
noncomputable def zr_dX1_next_131 := zo_155 (k := 15)  (q := 134) zr_dX1_next_128.2 (by decide +kernel) rfl
noncomputable def dX1_next_131 := zr_dX1_next_131.1
noncomputable def zr_dX1_next_134 := zo_42 (q := 135) zr_dX1_next_131.2 rfl
noncomputable def dX1_next_134 := zr_dX1_next_134.1
noncomputable def zr_dX1_next_135 := zo_180 (k := 9)  (q := 138) zr_dX1_next_134.2 rfl rfl
noncomputable def dX1_next_135 := zr_dX1_next_135.1
noncomputable def zr_dX1_next_138 := zo_42 (q := 139) zr_dX1_next_135.2 rfl
noncomputable def dX1_next_138 := zr_dX1_next_138.1
noncomputable def zr_dX1_next_139 := zo_180 (k := 23)  (q := 142) zr_dX1_next_138.2 rfl rfl
noncomputable def dX1_next_139 := zr_dX1_next_139.1
noncomputable def zr_dX1_next_142 := zo_46 (q := 143) zr_dX1_next_139.2 rfl
noncomputable def dX1_next_142 := zr_dX1_next_142.1
noncomputable def zr_dX1_next_143 := zo_167 (k := 4)  (q := 146) zr_dX1_next_142.2 (by decide +kernel) rfl
noncomputable def dX1_next_143 := zr_dX1_next_143.1
noncomputable def zr_dX1_next_146 := zo_4 (q := 147) zr_dX1_next_143.2 rfl
noncomputable def dX1_next_146 := zr_dX1_next_146.1
noncomputable def zr_dX1_next_147 := zo_181 (k := 45)  (q := 150) zr_dX1_next_146.2 rfl rfl
noncomputable def dX1_next_147 := zr_dX1_next_147.1
noncomputable def zr_dX1_next_150 := zo_42 (q := 151) zr_dX1_next_147.2 rfl
noncomputable def dX1_next_150 := zr_dX1_next_150.1
noncomputable def zr_dX1_next_151 := zo_89 (q := 152) zr_dX1_next_150.2 rfl
noncomputable def dX1_next_151 := zr_dX1_next_151.1
noncomputable def zr_dX1_next_152 := zo_180 (k := 23)  (q := 155) zr_dX1_next_151.2 rfl rfl
noncomputable def dX1_next_152 := zr_dX1_next_152.1
noncomputable def zr_dX1_next_155 := zo_4 (q := 156) zr_dX1_next_152.2 rfl
noncomputable def dX1_next_155 := zr_dX1_next_155.1
noncomputable def zr_dX1_next_156 := zo_96 (q := 157) zr_dX1_next_155.2 rfl
noncomputable def dX1_next_156 := zr_dX1_next_156.1
noncomputable def zr_dX1_next_157 := zo_181 (k := 23)  (q := 160) zr_dX1_next_156.2 rfl rfl
noncomputable def dX1_next_157 := zr_dX1_next_157.1
noncomputable def zr_dX1_next_160 := zo_177 (q := 161) zr_dX1_next_157.2 rfl
noncomputable def dX1_next_160 := zr_dX1_next_160.1
theorem zs_dX1_nextWord_0 : zsuf cX1_nextWord 0 cX1_nextWord.data.toList := rfl
noncomputable def zr_dX1_nextWord_0 := zo_42 (q := 1) zs_dX1_nextWord_0 rfl
noncomputable def dX1_nextWord_0 := zr_dX1_nextWord_0.1
noncomputable def zr_dX1_nextWord_1 := zo_180 (k := 23)  (q := 4) zr_dX1_nextWord_0.2 rfl rfl
noncomputable def dX1_nextWord_1 := zr_dX1_nextWord_1.1
noncomputable def zr_dX1_nextWord_4 := zo_42 (q := 5) zr_dX1_nextWord_1.2 rfl
noncomputable def dX1_nextWord_4 := zr_dX1_nextWord_4.1
noncomputable def zr_dX1_nextWord_5 := zo_180 (k := 19)  (q := 8) zr_dX1_nextWord_4.2 rfl rfl
noncomputable def dX1_nextWord_5 := zr_dX1_nextWord_5.1
noncomputable def zr_dX1_nextWord_8 := zo_162 (k := 27)  (q := 11) zr_dX1_nextWord_5.2 (by decide +kernel) rfl
noncomputable def dX1_nextWord_8 := zr_dX1_nextWord_8.1
noncomputable def zr_dX1_nextWord_11 := zo_42 (q := 12) zr_dX1_nextWord_8.2 rfl
noncomputable def dX1_nextWord_11 := zr_dX1_nextWord_11.1
noncomputable def zr_dX1_nextWord_12 := zo_42 (q := 13) zr_dX1_nextWord_11.2 rfl
noncomputable def dX1_nextWord_12 := zr_dX1_nextWord_12.1
noncomputable def zr_dX1_nextWord_13 := zo_180 (k := 23)  (q := 16) zr_dX1_nextWord_12.2 rfl rfl
noncomputable def dX1_nextWord_13 := zr_dX1_nextWord_13.1
noncomputable def zr_dX1_nextWord_16 := zo_182 (k := 77)  (q := 19) zr_dX1_nextWord_13.2 rfl rfl
noncomputable def dX1_nextWord_16 := zr_dX1_nextWord_16.1
noncomputable def zr_dX1_nextWord_19 := zo_153 (k := 16)  (q := 22) zr_dX1_nextWord_16.2 (by decide +kernel) rfl
noncomputable def dX1_nextWord_19 := zr_dX1_nextWord_19.1
noncomputable def zr_dX1_nextWord_22 := zo_42 (q := 23) zr_dX1_nextWord_19.2 rfl
noncomputable def dX1_nextWord_22 := zr_dX1_nextWord_22.1
noncomputable def zr_dX1_nextWord_23 := zo_89 (q := 24) zr_dX1_nextWord_22.2 rfl
noncomputable def dX1_nextWord_23 := zr_dX1_nextWord_23.1
noncomputable def zr_dX1_nextWord_24 := zo_180 (k := 23)  (q := 27) zr_dX1_nextWord_23.2 rfl rfl
noncomputable def dX1_nextWord_24 := zr_dX1_nextWord_24.1
noncomputable def zr_dX1_nextWord_27 := zo_4 (q := 28) zr_dX1_nextWord_24.2 rfl
noncomputable def dX1_nextWord_27 := zr_dX1_nextWord_27.1
noncomputable def zr_dX1_nextWord_28 := zo_96 (q := 29) zr_dX1_nextWord_27.2 rfl
noncomputable def dX1_nextWord_28 := zr_dX1_nextWord_28.1
noncomputable def zr_dX1_nextWord_29 := zo_181 (k := 23)  (q := 32) zr_dX1_nextWord_28.2 rfl rfl
noncomputable def dX1_nextWord_29 := zr_dX1_nextWord_29.1
noncomputable def zr_dX1_nextWord_32 := zo_167 (k := -32)  (q := 35) zr_dX1_nextWord_29.2 (by decide +kernel) rfl
noncomputable def dX1_nextWord_32 := zr_dX1_nextWord_32.1
noncomputable def zr_dX1_nextWord_35 := zo_42 (q := 36) zr_dX1_nextWord_32.2 rfl
noncomputable def dX1_nextWord_35 := zr_dX1_nextWord_35.1
noncomputable def zr_dX1_nextWord_36 := zo_4 (q := 37) zr_dX1_nextWord_35.2 rfl
noncomputable def dX1_nextWord_36 := zr_dX1_nextWord_36.1
noncomputable def zr_dX1_nextWord_37 := zo_181 (k := 45)  (q := 40) zr_dX1_nextWord_36.2 rfl rfl
noncomputable def dX1_nextWord_37 := zr_dX1_nextWord_37.1
noncomputable def zr_dX1_nextWord_40 := zo_3 (q := 41) zr_dX1_nextWord_37.2 rfl
noncomputable def dX1_nextWord_40 := zr_dX1_nextWord_40.1
noncomputable def zr_dX1_nextWord_41 := zo_60 (q := 42) zr_dX1_nextWord_40.2 rfl
noncomputable def dX1_nextWord_41 := zr_dX1_nextWord_41.1
noncomputable def zr_dX1_nextWord_42 := zo_27 (q := 43) zr_dX1_nextWord_41.2 rfl
noncomputable def dX1_nextWord_42 := zr_dX1_nextWord_42.1
noncomputable def zr_dX1_nextWord_43 := zo_16 (k := 12)  (q := 45) zr_dX1_nextWord_42.2 (by decide +kernel) rfl
noncomputable def dX1_nextWord_43 := zr_dX1_nextWord_43.1
noncomputable def zr_dX1_nextWord_45 := zo_162 (k := 46)  (q := 48) zr_dX1_nextWord_43.2 (by decide +kernel) rfl
noncomputable def dX1_nextWord_45 := zr_dX1_nextWord_45.1
noncomputable def zr_dX1_nextWord_48 := zo_42 (q := 49) zr_dX1_nextWord_45.2 rfl
noncomputable def dX1_nextWord_48 := zr_dX1_nextWord_48.1
noncomputable def zr_dX1_nextWord_49 := zo_27 (q := 50) zr_dX1_nextWord_48.2 rfl
noncomputable def dX1_nextWord_49 := zr_dX1_nextWord_49.1
noncomputable def zr_dX1_nextWord_50 := zo_184 (k := 97)  (q := 53) zr_dX1_nextWord_49.2 rfl rfl
noncomputable def dX1_nextWord_50 := zr_dX1_nextWord_50.1
noncomputable def zr_dX1_nextWord_53 := zo_182 (k := 101)  (q := 56) zr_dX1_nextWord_50.2 rfl rfl
noncomputable def dX1_nextWord_53 := zr_dX1_nextWord_53.1
noncomputable def zr_dX1_nextWord_56 := zo_153 (k := 29)  (q := 59) zr_dX1_nextWord_53.2 (by decide +kernel) rfl
noncomputable def dX1_nextWord_56 := zr_dX1_nextWord_56.1
noncomputable def zr_dX1_nextWord_59 := zo_42 (q := 60) zr_dX1_nextWord_56.2 rfl
noncomputable def dX1_nextWord_59 := zr_dX1_nextWord_59.1
noncomputable def zr_dX1_nextWord_60 := zo_27 (q := 61) zr_dX1_nextWord_59.2 rfl
noncomputable def dX1_nextWord_60 := zr_dX1_nextWord_60.1
noncomputable def zr_dX1_nextWord_61 := zo_16 (k := 6)  (q := 63) zr_dX1_nextWord_60.2 (by decide +kernel) rfl
noncomputable def dX1_nextWord_61 := zr_dX1_nextWord_61.1
noncomputable def zr_dX1_nextWord_63 := zo_162 (k := 10)  (q := 66) zr_dX1_nextWord_61.2 (by decide +kernel) rfl
noncomputable def dX1_nextWord_63 := zr_dX1_nextWord_63.1
noncomputable def zr_dX1_nextWord_66 := zo_16 (k := 100)  (q := 68) zr_dX1_nextWord_63.2 (by decide +kernel) rfl
noncomputable def dX1_nextWord_66 := zr_dX1_nextWord_66.1
noncomputable def zr_dX1_nextWord_68 := zo_27 (q := 69) zr_dX1_nextWord_66.2 rfl
noncomputable def dX1_nextWord_68 := zr_dX1_nextWord_68.1
noncomputable def zr_dX1_nextWord_69 := zo_96 (q := 70) zr_dX1_nextWord_68.2 rfl
noncomputable def dX1_nextWord_69 := zr_dX1_nextWord_69.1
noncomputable def zr_dX1_nextWord_70 := zo_167 (k := 4)  (q := 73) zr_dX1_nextWord_69.2 (by decide +kernel) rfl
noncomputable def dX1_nextWord_70 := zr_dX1_nextWord_70.1
noncomputable def zr_dX1_nextWord_73 := zo_6 (q := 74) zr_dX1_nextWord_70.2 rfl
noncomputable def dX1_nextWord_73 := zr_dX1_nextWord_73.1
noncomputable def zr_dX1_nextWord_74 := zo_181 (k := 45)  (q := 77) zr_dX1_nextWord_73.2 rfl rfl
noncomputable def dX1_nextWord_74 := zr_dX1_nextWord_74.1
noncomputable def zr_dX1_nextWord_77 := zo_42 (q := 78) zr_dX1_nextWord_74.2 rfl
noncomputable def dX1_nextWord_77 := zr_dX1_nextWord_77.1
noncomputable def zr_dX1_nextWord_78 := zo_27 (q := 79) zr_dX1_nextWord_77.2 rfl
noncomputable def dX1_nextWord_78 := zr_dX1_nextWord_78.1
noncomputable def zr_dX1_nextWord_79 := zo_16 (k := 6)  (q := 81) zr_dX1_nextWord_78.2 (by decide +kernel) rfl
noncomputable def dX1_nextWord_79 := zr_dX1_nextWord_79.1
noncomputable def zr_dX1_nextWord_81 := zo_100 (q := 82) zr_dX1_nextWord_79.2 rfl
noncomputable def dX1_nextWord_81 := zr_dX1_nextWord_81.1
noncomputable def zr_dX1_nextWord_82 := zo_181 (k := 74)  (q := 85) zr_dX1_nextWord_81.2 rfl rfl
noncomputable def dX1_nextWord_82 := zr_dX1_nextWord_82.1
noncomputable def zr_dX1_nextWord_85 := zo_132 (k := 1) (o := 1)  (q := 88) zr_dX1_nextWord_82.2 rfl (by decide +kernel) rfl
noncomputable def dX1_nextWord_85 := zr_dX1_nextWord_85.1
noncomputable def zr_dX1_nextWord_88 := zo_167 (k := -46)  (q := 91) zr_dX1_nextWord_85.2 (by decide +kernel) rfl
noncomputable def dX1_nextWord_88 := zr_dX1_nextWord_88.1
noncomputable def zr_dX1_nextWord_91 := zo_177 (q := 92) zr_dX1_nextWord_88.2 rfl
noncomputable def dX1_nextWord_91 := zr_dX1_nextWord_91.1
theorem zs_dX1_nextNumber_0 : zsuf cX1_nextNumber 0 cX1_nextNumber.data.toList := rfl
noncomputable def zr_dX1_nextNumber_0 := zo_42 (q := 1) zs_dX1_nextNumber_0 rfl
noncomputable def dX1_nextNumber_0 := zr_dX1_nextNumber_0.1
noncomputable def zr_dX1_nextNumber_1 := zo_3 (q := 2) zr_dX1_nextNumber_0.2 rfl
noncomputable def dX1_nextNumber_1 := zr_dX1_nextNumber_1.1
noncomputable def zr_dX1_nextNumber_2 := zo_181 (k := 74)  (q := 5) zr_dX1_nextNumber_1.2 rfl rfl
noncomputable def dX1_nextNumber_2 := zr_dX1_nextNumber_2.1
noncomputable def zr_dX1_nextNumber_5 := zo_42 (q := 6) zr_dX1_nextNumber_2.2 rfl
noncomputable def dX1_nextNumber_5 := zr_dX1_nextNumber_5.1
noncomputable def zr_dX1_nextNumber_6 := zo_180 (k := 23)  (q := 9) zr_dX1_nextNumber_5.2 rfl rfl
noncomputable def dX1_nextNumber_6 := zr_dX1_nextNumber_6.1
noncomputable def zr_dX1_nextNumber_9 := zo_42 (q := 10) zr_dX1_nextNumber_6.2 rfl
noncomputable def dX1_nextNumber_9 := zr_dX1_nextNumber_9.1
noncomputable def zr_dX1_nextNumber_10 := zo_180 (k := 19)  (q := 13) zr_dX1_nextNumber_9.2 rfl rfl
noncomputable def dX1_nextNumber_10 := zr_dX1_nextNumber_10.1
noncomputable def zr_dX1_nextNumber_13 := zo_162 (k := 51)  (q := 16) zr_dX1_nextNumber_10.2 (by decide +kernel) rfl
noncomputable def dX1_nextNumber_13 := zr_dX1_nextNumber_13.1
noncomputable def zr_dX1_nextNumber_16 := zo_42 (q := 17) zr_dX1_nextNumber_13.2 rfl
noncomputable def dX1_nextNumber_16 := zr_dX1_nextNumber_16.1
noncomputable def zr_dX1_nextNumber_17 := zo_42 (q := 18) zr_dX1_nextNumber_16.2 rfl
noncomputable def dX1_nextNumber_17 := zr_dX1_nextNumber_17.1
noncomputable def zr_dX1_nextNumber_18 := zo_180 (k := 23)  (q := 21) zr_dX1_nextNumber_17.2 rfl rfl
noncomputable def dX1_nextNumber_18 := zr_dX1_nextNumber_18.1
noncomputable def zr_dX1_nextNumber_21 := zo_182 (k := 83)  (q := 24) zr_dX1_nextNumber_18.2 rfl rfl
noncomputable def dX1_nextNumber_21 := zr_dX1_nextNumber_21.1
noncomputable def zr_dX1_nextNumber_24 := zo_153 (k := 40)  (q := 27) zr_dX1_nextNumber_21.2 (by decide +kernel) rfl
noncomputable def dX1_nextNumber_24 := zr_dX1_nextNumber_24.1
noncomputable def zr_dX1_nextNumber_27 := zo_42 (q := 28) zr_dX1_nextNumber_24.2 rfl
noncomputable def dX1_nextNumber_27 := zr_dX1_nextNumber_27.1
noncomputable def zr_dX1_nextNumber_28 := zo_16 (k := 10)  (q := 30) zr_dX1_nextNumber_27.2 (by decide +kernel) rfl
noncomputable def dX1_nextNumber_28 := zr_dX1_nextNumber_28.1
noncomputable def zr_dX1_nextNumber_30 := zo_42 (q := 31) zr_dX1_nextNumber_28.2 rfl
noncomputable def dX1_nextNumber_30 := zr_dX1_nextNumber_30.1
noncomputable def zr_dX1_nextNumber_31 := zo_180 (k := 74)  (q := 34) zr_dX1_nextNumber_30.2 rfl rfl
noncomputable def dX1_nextNumber_31 := zr_dX1_nextNumber_31.1
noncomputable def zr_dX1_nextNumber_34 := zo_104 (q := 35) zr_dX1_nextNumber_31.2 rfl
noncomputable def dX1_nextNumber_34 := zr_dX1_nextNumber_34.1
noncomputable def zr_dX1_nextNumber_35 := zo_42 (q := 36) zr_dX1_nextNumber_34.2 rfl
noncomputable def dX1_nextNumber_35 := zr_dX1_nextNumber_35.1
noncomputable def zr_dX1_nextNumber_36 := zo_180 (k := 9)  (q := 39) zr_dX1_nextNumber_35.2 rfl rfl
noncomputable def dX1_nextNumber_36 := zr_dX1_nextNumber_36.1
noncomputable def zr_dX1_nextNumber_39 := zo_42 (q := 40) zr_dX1_nextNumber_36.2 rfl
noncomputable def dX1_nextNumber_39 := zr_dX1_nextNumber_39.1
noncomputable def zr_dX1_nextNumber_40 := zo_180 (k := 23)  (q := 43) zr_dX1_nextNumber_39.2 rfl rfl
noncomputable def dX1_nextNumber_40 := zr_dX1_nextNumber_40.1
noncomputable def zr_dX1_nextNumber_43 := zo_46 (q := 44) zr_dX1_nextNumber_40.2 rfl
noncomputable def dX1_nextNumber_43 := zr_dX1_nextNumber_43.1
noncomputable def zr_dX1_nextNumber_44 := zo_16 (k := 48)  (q := 46) zr_dX1_nextNumber_43.2 (by decide +kernel) rfl
noncomputable def dX1_nextNumber_44 := zr_dX1_nextNumber_44.1
noncomputable def zr_dX1_nextNumber_46 := zo_100 (q := 47) zr_dX1_nextNumber_44.2 rfl
noncomputable def dX1_nextNumber_46 := zr_dX1_nextNumber_46.1
noncomputable def zr_dX1_nextNumber_47 := zo_96 (q := 48) zr_dX1_nextNumber_46.2 rfl
noncomputable def dX1_nextNumber_47 := zr_dX1_nextNumber_47.1
noncomputable def zr_dX1_nextNumber_48 := zo_181 (k := 74)  (q := 51) zr_dX1_nextNumber_47.2 rfl rfl
noncomputable def dX1_nextNumber_48 := zr_dX1_nextNumber_48.1
noncomputable def zr_dX1_nextNumber_51 := zo_42 (q := 52) zr_dX1_nextNumber_48.2 rfl
noncomputable def dX1_nextNumber_51 := zr_dX1_nextNumber_51.1
noncomputable def zr_dX1_nextNumber_52 := zo_89 (q := 53) zr_dX1_nextNumber_51.2 rfl
noncomputable def dX1_nextNumber_52 := zr_dX1_nextNumber_52.1
noncomputable def zr_dX1_nextNumber_53 := zo_180 (k := 23)  (q := 56) zr_dX1_nextNumber_52.2 rfl rfl
noncomputable def dX1_nextNumber_53 := zr_dX1_nextNumber_53.1
noncomputable def zr_dX1_nextNumber_56 := zo_4 (q := 57) zr_dX1_nextNumber_53.2 rfl
noncomputable def dX1_nextNumber_56 := zr_dX1_nextNumber_56.1
noncomputable def zr_dX1_nextNumber_57 := zo_96 (q := 58) zr_dX1_nextNumber_56.2 rfl
noncomputable def dX1_nextNumber_57 := zr_dX1_nextNumber_57.1
noncomputable def zr_dX1_nextNumber_58 := zo_181 (k := 23)  (q := 61) zr_dX1_nextNumber_57.2 rfl rfl
noncomputable def dX1_nextNumber_58 := zr_dX1_nextNumber_58.1
noncomputable def zr_dX1_nextNumber_61 := zo_167 (k := -56)  (q := 64) zr_dX1_nextNumber_58.2 (by decide +kernel) rfl
noncomputable def dX1_nextNumber_61 := zr_dX1_nextNumber_61.1
noncomputable def zr_dX1_nextNumber_64 := zo_42 (q := 65) zr_dX1_nextNumber_61.2 rfl
noncomputable def dX1_nextNumber_64 := zr_dX1_nextNumber_64.1
noncomputable def zr_dX1_nextNumber_65 := zo_42 (q := 66) zr_dX1_nextNumber_64.2 rfl
noncomputable def dX1_nextNumber_65 := zr_dX1_nextNumber_65.1
noncomputable def zr_dX1_nextNumber_66 := zo_180 (k := 23)  (q := 69) zr_dX1_nextNumber_65.2 rfl rfl
noncomputable def dX1_nextNumber_66 := zr_dX1_nextNumber_66.1
noncomputable def zr_dX1_nextNumber_69 := zo_42 (q := 70) zr_dX1_nextNumber_66.2 rfl
noncomputable def dX1_nextNumber_69 := zr_dX1_nextNumber_69.1
noncomputable def zr_dX1_nextNumber_70 := zo_180 (k := 39)  (q := 73) zr_dX1_nextNumber_69.2 rfl rfl
noncomputable def dX1_nextNumber_70 := zr_dX1_nextNumber_70.1
noncomputable def zr_dX1_nextNumber_73 := zo_100 (q := 74) zr_dX1_nextNumber_70.2 rfl
noncomputable def dX1_nextNumber_73 := zr_dX1_nextNumber_73.1
noncomputable def zr_dX1_nextNumber_74 := zo_7 (q := 75) zr_dX1_nextNumber_73.2 rfl
noncomputable def dX1_nextNumber_74 := zr_dX1_nextNumber_74.1
theorem zo_164 {c : ByteArray} {p q : Nat} {x y : UInt8} {L : List UInt8} {k : Int} (h : zsuf c p (164 :: x :: y :: L)) (hk : Reader.signed 16 (x.toNat * 256 + y.toNat) = k) (hq : p + 3 = q) : zD c p (.if_icmp .le k) 3 ∧ zsuf c q L := zfin hq (Eq.trans (zbd (zu1 (v := 164) h rfl)) (Eq.trans (zbd (zs2 (zsuf_tl h) hk)) rfl)) (zsuf_tl (zsuf_tl (zsuf_tl h)))
noncomputable def zr_dX1_nextNumber_75 := zo_164 (k := 7)  (q := 78) zr_dX1_nextNumber_74.2 (by decide +kernel) rfl
noncomputable def dX1_nextNumber_75 := zr_dX1_nextNumber_75.1
noncomputable def zr_dX1_nextNumber_78 := zo_4 (q := 79) zr_dX1_nextNumber_75.2 rfl
noncomputable def dX1_nextNumber_78 := zr_dX1_nextNumber_78.1
noncomputable def zr_dX1_nextNumber_79 := zo_167 (k := 4)  (q := 82) zr_dX1_nextNumber_78.2 (by decide +kernel) rfl
noncomputable def dX1_nextNumber_79 := zr_dX1_nextNumber_79.1
noncomputable def zr_dX1_nextNumber_82 := zo_5 (q := 83) zr_dX1_nextNumber_79.2 rfl
noncomputable def dX1_nextNumber_82 := zr_dX1_nextNumber_82.1
noncomputable def zr_dX1_nextNumber_83 := zo_181 (k := 45)  (q := 86) zr_dX1_nextNumber_82.2 rfl rfl
noncomputable def dX1_nextNumber_83 := zr_dX1_nextNumber_83.1
noncomputable def zr_dX1_nextNumber_86 := zo_177 (q := 87) zr_dX1_nextNumber_83.2 rfl
noncomputable def dX1_nextNumber_86 := zr_dX1_nextNumber_86.1
theorem zs_dX1_isLetter_0 : zsuf cX1_isLetter 0 cX1_isLetter.data.toList := rfl
noncomputable def zr_dX1_isLetter_0 := zo_42 (q := 1) zs_dX1_isLetter_0 rfl
noncomputable def dX1_isLetter_0 := zr_dX1_isLetter_0.1
noncomputable def zr_dX1_isLetter_1 := zo_180 (k := 9)  (q := 4) zr_dX1_isLetter_0.2 rfl rfl
noncomputable def dX1_isLetter_1 := zr_dX1_isLetter_1.1
noncomputable def zr_dX1_isLetter_4 := zo_27 (q := 5) zr_dX1_isLetter_1.2 rfl
noncomputable def dX1_isLetter_4 := zr_dX1_isLetter_4.1
noncomputable def zr_dX1_isLetter_5 := zo_46 (q := 6) zr_dX1_isLetter_4.2 rfl
noncomputable def dX1_isLetter_5 := zr_dX1_isLetter_5.1
noncomputable def zr_dX1_isLetter_6 := zo_16 (k := 97)  (q := 8) zr_dX1_isLetter_5.2 (by decide +kernel) rfl
noncomputable def dX1_isLetter_6 := zr_dX1_isLetter_6.1
noncomputable def zr_dX1_isLetter_8 := zo_161 (k := 18)  (q := 11) zr_dX1_isLetter_6.2 (by decide +kernel) rfl
noncomputable def dX1_isLetter_8 := zr_dX1_isLetter_8.1
noncomputable def zr_dX1_isLetter_11 := zo_42 (q := 12) zr_dX1_isLetter_8.2 rfl
noncomputable def dX1_isLetter_11 := zr_dX1_isLetter_11.1
noncomputable def zr_dX1_isLetter_12 := zo_180 (k := 9)  (q := 15) zr_dX1_isLetter_11.2 rfl rfl
noncomputable def dX1_isLetter_12 := zr_dX1_isLetter_12.1
noncomputable def zr_dX1_isLetter_15 := zo_27 (q := 16) zr_dX1_isLetter_12.2 rfl
noncomputable def dX1_isLetter_15 := zr_dX1_isLetter_15.1
noncomputable def zr_dX1_isLetter_16 := zo_46 (q := 17) zr_dX1_isLetter_15.2 rfl
noncomputable def dX1_isLetter_16 := zr_dX1_isLetter_16.1
noncomputable def zr_dX1_isLetter_17 := zo_16 (k := 122)  (q := 19) zr_dX1_isLetter_16.2 (by decide +kernel) rfl
noncomputable def dX1_isLetter_17 := zr_dX1_isLetter_17.1
noncomputable def zr_dX1_isLetter_19 := zo_163 (k := 7)  (q := 22) zr_dX1_isLetter_17.2 (by decide +kernel) rfl
noncomputable def dX1_isLetter_19 := zr_dX1_isLetter_19.1
noncomputable def zr_dX1_isLetter_22 := zo_4 (q := 23) zr_dX1_isLetter_19.2 rfl
noncomputable def dX1_isLetter_22 := zr_dX1_isLetter_22.1
noncomputable def zr_dX1_isLetter_23 := zo_167 (k := 4)  (q := 26) zr_dX1_isLetter_22.2 (by decide +kernel) rfl
noncomputable def dX1_isLetter_23 := zr_dX1_isLetter_23.1
noncomputable def zr_dX1_isLetter_26 := zo_3 (q := 27) zr_dX1_isLetter_23.2 rfl
noncomputable def dX1_isLetter_26 := zr_dX1_isLetter_26.1
noncomputable def zr_dX1_isLetter_27 := zo_172 (q := 28) zr_dX1_isLetter_26.2 rfl
noncomputable def dX1_isLetter_27 := zr_dX1_isLetter_27.1
theorem zs_dX1_isDigit_0 : zsuf cX1_isDigit 0 cX1_isDigit.data.toList := rfl
noncomputable def zr_dX1_isDigit_0 := zo_42 (q := 1) zs_dX1_isDigit_0 rfl
noncomputable def dX1_isDigit_0 := zr_dX1_isDigit_0.1
noncomputable def zr_dX1_isDigit_1 := zo_180 (k := 9)  (q := 4) zr_dX1_isDigit_0.2 rfl rfl
noncomputable def dX1_isDigit_1 := zr_dX1_isDigit_1.1
noncomputable def zr_dX1_isDigit_4 := zo_27 (q := 5) zr_dX1_isDigit_1.2 rfl
noncomputable def dX1_isDigit_4 := zr_dX1_isDigit_4.1
noncomputable def zr_dX1_isDigit_5 := zo_46 (q := 6) zr_dX1_isDigit_4.2 rfl
noncomputable def dX1_isDigit_5 := zr_dX1_isDigit_5.1
noncomputable def zr_dX1_isDigit_6 := zo_16 (k := 48)  (q := 8) zr_dX1_isDigit_5.2 (by decide +kernel) rfl
noncomputable def dX1_isDigit_6 := zr_dX1_isDigit_6.1
noncomputable def zr_dX1_isDigit_8 := zo_161 (k := 18)  (q := 11) zr_dX1_isDigit_6.2 (by decide +kernel) rfl
noncomputable def dX1_isDigit_8 := zr_dX1_isDigit_8.1
noncomputable def zr_dX1_isDigit_11 := zo_42 (q := 12) zr_dX1_isDigit_8.2 rfl
noncomputable def dX1_isDigit_11 := zr_dX1_isDigit_11.1
noncomputable def zr_dX1_isDigit_12 := zo_180 (k := 9)  (q := 15) zr_dX1_isDigit_11.2 rfl rfl
noncomputable def dX1_isDigit_12 := zr_dX1_isDigit_12.1
noncomputable def zr_dX1_isDigit_15 := zo_27 (q := 16) zr_dX1_isDigit_12.2 rfl
noncomputable def dX1_isDigit_15 := zr_dX1_isDigit_15.1
noncomputable def zr_dX1_isDigit_16 := zo_46 (q := 17) zr_dX1_isDigit_15.2 rfl
noncomputable def dX1_isDigit_16 := zr_dX1_isDigit_16.1
noncomputable def zr_dX1_isDigit_17 := zo_16 (k := 57)  (q := 19) zr_dX1_isDigit_16.2 (by decide +kernel) rfl
noncomputable def dX1_isDigit_17 := zr_dX1_isDigit_17.1
noncomputable def zr_dX1_isDigit_19 := zo_163 (k := 7)  (q := 22) zr_dX1_isDigit_17.2 (by decide +kernel) rfl
noncomputable def dX1_isDigit_19 := zr_dX1_isDigit_19.1
noncomputable def zr_dX1_isDigit_22 := zo_4 (q := 23) zr_dX1_isDigit_19.2 rfl
noncomputable def dX1_isDigit_22 := zr_dX1_isDigit_22.1
noncomputable def zr_dX1_isDigit_23 := zo_167 (k := 4)  (q := 26) zr_dX1_isDigit_22.2 (by decide +kernel) rfl
noncomputable def dX1_isDigit_23 := zr_dX1_isDigit_23.1
noncomputable def zr_dX1_isDigit_26 := zo_3 (q := 27) zr_dX1_isDigit_23.2 rfl
noncomputable def dX1_isDigit_26 := zr_dX1_isDigit_26.1
noncomputable def zr_dX1_isDigit_27 := zo_172 (q := 28) zr_dX1_isDigit_26.2 rfl
noncomputable def dX1_isDigit_27 := zr_dX1_isDigit_27.1
theorem zs_dX1_isSpelled_0 : zsuf cX1_isSpelled 0 cX1_isSpelled.data.toList := rfl
noncomputable def zr_dX1_isSpelled_0 := zo_42 (q := 1) zs_dX1_isSpelled_0 rfl
noncomputable def dX1_isSpelled_0 := zr_dX1_isSpelled_0.1
noncomputable def zr_dX1_isSpelled_1 := zo_180 (k := 23)  (q := 4) zr_dX1_isSpelled_0.2 rfl rfl
noncomputable def dX1_isSpelled_1 := zr_dX1_isSpelled_1.1
noncomputable def zr_dX1_isSpelled_4 := zo_42 (q := 5) zr_dX1_isSpelled_1.2 rfl
noncomputable def dX1_isSpelled_4 := zr_dX1_isSpelled_4.1
noncomputable def zr_dX1_isSpelled_5 := zo_180 (k := 39)  (q := 8) zr_dX1_isSpelled_4.2 rfl rfl
noncomputable def dX1_isSpelled_5 := zr_dX1_isSpelled_5.1
noncomputable def zr_dX1_isSpelled_8 := zo_100 (q := 9) zr_dX1_isSpelled_5.2 rfl
noncomputable def dX1_isSpelled_8 := zr_dX1_isSpelled_8.1
noncomputable def zr_dX1_isSpelled_9 := zo_43 (q := 10) zr_dX1_isSpelled_8.2 rfl
noncomputable def dX1_isSpelled_9 := zr_dX1_isSpelled_9.1
noncomputable def zr_dX1_isSpelled_10 := zo_182 (k := 105)  (q := 13) zr_dX1_isSpelled_9.2 rfl rfl
noncomputable def dX1_isSpelled_10 := zr_dX1_isSpelled_10.1
noncomputable def zr_dX1_isSpelled_13 := zo_159 (k := 5)  (q := 16) zr_dX1_isSpelled_10.2 (by decide +kernel) rfl
noncomputable def dX1_isSpelled_13 := zr_dX1_isSpelled_13.1
noncomputable def zr_dX1_isSpelled_16 := zo_3 (q := 17) zr_dX1_isSpelled_13.2 rfl
noncomputable def dX1_isSpelled_16 := zr_dX1_isSpelled_16.1
noncomputable def zr_dX1_isSpelled_17 := zo_172 (q := 18) zr_dX1_isSpelled_16.2 rfl
noncomputable def dX1_isSpelled_17 := zr_dX1_isSpelled_17.1
noncomputable def zr_dX1_isSpelled_18 := zo_3 (q := 19) zr_dX1_isSpelled_17.2 rfl
noncomputable def dX1_isSpelled_18 := zr_dX1_isSpelled_18.1
noncomputable def zr_dX1_isSpelled_19 := zo_61 (q := 20) zr_dX1_isSpelled_18.2 rfl
noncomputable def dX1_isSpelled_19 := zr_dX1_isSpelled_19.1
noncomputable def zr_dX1_isSpelled_20 := zo_28 (q := 21) zr_dX1_isSpelled_19.2 rfl
noncomputable def dX1_isSpelled_20 := zr_dX1_isSpelled_20.1
noncomputable def zr_dX1_isSpelled_21 := zo_43 (q := 22) zr_dX1_isSpelled_20.2 rfl
noncomputable def dX1_isSpelled_21 := zr_dX1_isSpelled_21.1
noncomputable def zr_dX1_isSpelled_22 := zo_182 (k := 105)  (q := 25) zr_dX1_isSpelled_21.2 rfl rfl
noncomputable def dX1_isSpelled_22 := zr_dX1_isSpelled_22.1
noncomputable def zr_dX1_isSpelled_25 := zo_162 (k := 30)  (q := 28) zr_dX1_isSpelled_22.2 (by decide +kernel) rfl
noncomputable def dX1_isSpelled_25 := zr_dX1_isSpelled_25.1
noncomputable def zr_dX1_isSpelled_28 := zo_42 (q := 29) zr_dX1_isSpelled_25.2 rfl
noncomputable def dX1_isSpelled_28 := zr_dX1_isSpelled_28.1
noncomputable def zr_dX1_isSpelled_29 := zo_180 (k := 9)  (q := 32) zr_dX1_isSpelled_28.2 rfl rfl
noncomputable def dX1_isSpelled_29 := zr_dX1_isSpelled_29.1
noncomputable def zr_dX1_isSpelled_32 := zo_42 (q := 33) zr_dX1_isSpelled_29.2 rfl
noncomputable def dX1_isSpelled_32 := zr_dX1_isSpelled_32.1
noncomputable def zr_dX1_isSpelled_33 := zo_180 (k := 39)  (q := 36) zr_dX1_isSpelled_32.2 rfl rfl
noncomputable def dX1_isSpelled_33 := zr_dX1_isSpelled_33.1
noncomputable def zr_dX1_isSpelled_36 := zo_28 (q := 37) zr_dX1_isSpelled_33.2 rfl
noncomputable def dX1_isSpelled_36 := zr_dX1_isSpelled_36.1
noncomputable def zr_dX1_isSpelled_37 := zo_96 (q := 38) zr_dX1_isSpelled_36.2 rfl
noncomputable def dX1_isSpelled_37 := zr_dX1_isSpelled_37.1
noncomputable def zr_dX1_isSpelled_38 := zo_46 (q := 39) zr_dX1_isSpelled_37.2 rfl
noncomputable def dX1_isSpelled_38 := zr_dX1_isSpelled_38.1
noncomputable def zr_dX1_isSpelled_39 := zo_43 (q := 40) zr_dX1_isSpelled_38.2 rfl
noncomputable def dX1_isSpelled_39 := zr_dX1_isSpelled_39.1
noncomputable def zr_dX1_isSpelled_40 := zo_28 (q := 41) zr_dX1_isSpelled_39.2 rfl
noncomputable def dX1_isSpelled_40 := zr_dX1_isSpelled_40.1
noncomputable def zr_dX1_isSpelled_41 := zo_182 (k := 107)  (q := 44) zr_dX1_isSpelled_40.2 rfl rfl
noncomputable def dX1_isSpelled_41 := zr_dX1_isSpelled_41.1
noncomputable def zr_dX1_isSpelled_44 := zo_159 (k := 5)  (q := 47) zr_dX1_isSpelled_41.2 (by decide +kernel) rfl
noncomputable def dX1_isSpelled_44 := zr_dX1_isSpelled_44.1
noncomputable def zr_dX1_isSpelled_47 := zo_3 (q := 48) zr_dX1_isSpelled_44.2 rfl
noncomputable def dX1_isSpelled_47 := zr_dX1_isSpelled_47.1
noncomputable def zr_dX1_isSpelled_48 := zo_172 (q := 49) zr_dX1_isSpelled_47.2 rfl
noncomputable def dX1_isSpelled_48 := zr_dX1_isSpelled_48.1
noncomputable def zr_dX1_isSpelled_49 := zo_132 (k := 2) (o := 1)  (q := 52) zr_dX1_isSpelled_48.2 rfl (by decide +kernel) rfl
noncomputable def dX1_isSpelled_49 := zr_dX1_isSpelled_49.1
noncomputable def zr_dX1_isSpelled_52 := zo_167 (k := -32)  (q := 55) zr_dX1_isSpelled_49.2 (by decide +kernel) rfl
noncomputable def dX1_isSpelled_52 := zr_dX1_isSpelled_52.1
noncomputable def zr_dX1_isSpelled_55 := zo_4 (q := 56) zr_dX1_isSpelled_52.2 rfl
noncomputable def dX1_isSpelled_55 := zr_dX1_isSpelled_55.1
noncomputable def zr_dX1_isSpelled_56 := zo_172 (q := 57) zr_dX1_isSpelled_55.2 rfl
noncomputable def dX1_isSpelled_56 := zr_dX1_isSpelled_56.1
theorem zs_dX1_word_0 : zsuf cX1_word 0 cX1_word.data.toList := rfl
theorem zo_26 {c : ByteArray} {p q : Nat} {L : List UInt8} (h : zsuf c p (26 :: L)) (hq : p + 1 = q) : zD c p (.iload_n 0) 1 ∧ zsuf c q L := zfin hq (Eq.trans (zbd (zu1 (v := 26) h rfl)) rfl) (zsuf_tl h)
noncomputable def zr_dX1_word_0 := zo_26 (q := 1) zs_dX1_word_0 rfl
noncomputable def dX1_word_0 := zr_dX1_word_0.1
theorem dX1_word_1 : zD cX1_word 1 (.tableswitch 92 0 10 #[59, 62, 65, 68, 71, 74, 77, 80, 83, 86, 89]) 59 := by decide +kernel
noncomputable def zr_dX1_word_1 := zskip zr_dX1_word_0.2 59 (q := 60) rfl
noncomputable def zr_dX1_word_60 := zo_18 (k := 111)  (q := 62) zr_dX1_word_1 rfl rfl
noncomputable def dX1_word_60 := zr_dX1_word_60.1
theorem zo_176 {c : ByteArray} {p q : Nat} {L : List UInt8} (h : zsuf c p (176 :: L)) (hq : p + 1 = q) : zD c p .areturn 1 ∧ zsuf c q L := zfin hq (Eq.trans (zbd (zu1 (v := 176) h rfl)) rfl) (zsuf_tl h)
noncomputable def zr_dX1_word_62 := zo_176 (q := 63) zr_dX1_word_60.2 rfl
noncomputable def dX1_word_62 := zr_dX1_word_62.1
noncomputable def zr_dX1_word_63 := zo_18 (k := 113)  (q := 65) zr_dX1_word_62.2 rfl rfl
noncomputable def dX1_word_63 := zr_dX1_word_63.1
noncomputable def zr_dX1_word_65 := zo_176 (q := 66) zr_dX1_word_63.2 rfl
noncomputable def dX1_word_65 := zr_dX1_word_65.1
noncomputable def zr_dX1_word_66 := zo_18 (k := 115)  (q := 68) zr_dX1_word_65.2 rfl rfl
noncomputable def dX1_word_66 := zr_dX1_word_66.1
noncomputable def zr_dX1_word_68 := zo_176 (q := 69) zr_dX1_word_66.2 rfl
noncomputable def dX1_word_68 := zr_dX1_word_68.1
noncomputable def zr_dX1_word_69 := zo_18 (k := 117)  (q := 71) zr_dX1_word_68.2 rfl rfl
noncomputable def dX1_word_69 := zr_dX1_word_69.1
noncomputable def zr_dX1_word_71 := zo_176 (q := 72) zr_dX1_word_69.2 rfl
noncomputable def dX1_word_71 := zr_dX1_word_71.1
noncomputable def zr_dX1_word_72 := zo_18 (k := 119)  (q := 74) zr_dX1_word_71.2 rfl rfl
noncomputable def dX1_word_72 := zr_dX1_word_72.1
noncomputable def zr_dX1_word_74 := zo_176 (q := 75) zr_dX1_word_72.2 rfl
noncomputable def dX1_word_74 := zr_dX1_word_74.1
noncomputable def zr_dX1_word_75 := zo_18 (k := 121)  (q := 77) zr_dX1_word_74.2 rfl rfl
noncomputable def dX1_word_75 := zr_dX1_word_75.1
noncomputable def zr_dX1_word_77 := zo_176 (q := 78) zr_dX1_word_75.2 rfl
noncomputable def dX1_word_77 := zr_dX1_word_77.1
noncomputable def zr_dX1_word_78 := zo_18 (k := 123)  (q := 80) zr_dX1_word_77.2 rfl rfl
noncomputable def dX1_word_78 := zr_dX1_word_78.1
noncomputable def zr_dX1_word_80 := zo_176 (q := 81) zr_dX1_word_78.2 rfl
noncomputable def dX1_word_80 := zr_dX1_word_80.1
noncomputable def zr_dX1_word_81 := zo_18 (k := 125)  (q := 83) zr_dX1_word_80.2 rfl rfl
noncomputable def dX1_word_81 := zr_dX1_word_81.1
noncomputable def zr_dX1_word_83 := zo_176 (q := 84) zr_dX1_word_81.2 rfl
noncomputable def dX1_word_83 := zr_dX1_word_83.1
noncomputable def zr_dX1_word_84 := zo_18 (k := 127)  (q := 86) zr_dX1_word_83.2 rfl rfl
noncomputable def dX1_word_84 := zr_dX1_word_84.1
noncomputable def zr_dX1_word_86 := zo_176 (q := 87) zr_dX1_word_84.2 rfl
noncomputable def dX1_word_86 := zr_dX1_word_86.1
noncomputable def zr_dX1_word_87 := zo_18 (k := 129)  (q := 89) zr_dX1_word_86.2 rfl rfl
noncomputable def dX1_word_87 := zr_dX1_word_87.1
noncomputable def zr_dX1_word_89 := zo_176 (q := 90) zr_dX1_word_87.2 rfl
noncomputable def dX1_word_89 := zr_dX1_word_89.1
noncomputable def zr_dX1_word_90 := zo_18 (k := 131)  (q := 92) zr_dX1_word_89.2 rfl rfl
noncomputable def dX1_word_90 := zr_dX1_word_90.1
noncomputable def zr_dX1_word_92 := zo_176 (q := 93) zr_dX1_word_90.2 rfl
noncomputable def dX1_word_92 := zr_dX1_word_92.1
noncomputable def zr_dX1_word_93 := zo_18 (k := 133)  (q := 95) zr_dX1_word_92.2 rfl rfl
noncomputable def dX1_word_93 := zr_dX1_word_93.1
noncomputable def zr_dX1_word_95 := zo_176 (q := 96) zr_dX1_word_93.2 rfl
noncomputable def dX1_word_95 := zr_dX1_word_95.1
theorem zs_dX2_init_0 : zsuf cX2_init 0 cX2_init.data.toList := rfl
noncomputable def zr_dX2_init_0 := zo_42 (q := 1) zs_dX2_init_0 rfl
noncomputable def dX2_init_0 := zr_dX2_init_0.1
noncomputable def zr_dX2_init_1 := zo_183 (k := 3)  (q := 4) zr_dX2_init_0.2 rfl rfl
noncomputable def dX2_init_1 := zr_dX2_init_1.1
noncomputable def zr_dX2_init_4 := zo_42 (q := 5) zr_dX2_init_1.2 rfl
noncomputable def dX2_init_4 := zr_dX2_init_4.1
noncomputable def zr_dX2_init_5 := zo_7 (q := 6) zr_dX2_init_4.2 rfl
noncomputable def dX2_init_5 := zr_dX2_init_5.1
noncomputable def zr_dX2_init_6 := zo_16 (k := 40)  (q := 8) zr_dX2_init_5.2 (by decide +kernel) rfl
noncomputable def dX2_init_6 := zr_dX2_init_6.1
theorem dX2_init_8 : zD cX2_init 8 (.multianewarray 9 2) 4 := by decide +kernel
noncomputable def zr_dX2_init_8 := zskip zr_dX2_init_6.2 4 (q := 12) rfl
noncomputable def zr_dX2_init_12 := zo_181 (k := 11)  (q := 15) zr_dX2_init_8 rfl rfl
noncomputable def dX2_init_12 := zr_dX2_init_12.1
noncomputable def zr_dX2_init_15 := zo_42 (q := 16) zr_dX2_init_12.2 rfl
noncomputable def dX2_init_15 := zr_dX2_init_15.1
noncomputable def zr_dX2_init_16 := zo_7 (q := 17) zr_dX2_init_15.2 rfl
noncomputable def dX2_init_16 := zr_dX2_init_16.1
theorem dX2_init_17 : zD cX2_init 17 (.newarray .int) 2 := by decide +kernel
noncomputable def zr_dX2_init_17 := zskip zr_dX2_init_16.2 2 (q := 19) rfl
noncomputable def zr_dX2_init_19 := zo_181 (k := 16)  (q := 22) zr_dX2_init_17 rfl rfl
noncomputable def dX2_init_19 := zr_dX2_init_19.1
noncomputable def zr_dX2_init_22 := zo_42 (q := 23) zr_dX2_init_19.2 rfl
noncomputable def dX2_init_22 := zr_dX2_init_22.1
noncomputable def zr_dX2_init_23 := zo_7 (q := 24) zr_dX2_init_22.2 rfl
noncomputable def dX2_init_23 := zr_dX2_init_23.1
theorem dX2_init_24 : zD cX2_init 24 (.newarray .int) 2 := by decide +kernel
noncomputable def zr_dX2_init_24 := zskip zr_dX2_init_23.2 2 (q := 26) rfl
noncomputable def zr_dX2_init_26 := zo_181 (k := 20)  (q := 29) zr_dX2_init_24 rfl rfl
noncomputable def dX2_init_26 := zr_dX2_init_26.1
noncomputable def zr_dX2_init_29 := zo_42 (q := 30) zr_dX2_init_26.2 rfl
noncomputable def dX2_init_29 := zr_dX2_init_29.1
noncomputable def zr_dX2_init_30 := zo_180 (k := 16)  (q := 33) zr_dX2_init_29.2 rfl rfl
noncomputable def dX2_init_30 := zr_dX2_init_30.1
theorem zo_2 {c : ByteArray} {p q : Nat} {L : List UInt8} (h : zsuf c p (2 :: L)) (hq : p + 1 = q) : zD c p (.iconst (-1)) 1 ∧ zsuf c q L := zfin hq (Eq.trans (zbd (zu1 (v := 2) h rfl)) rfl) (zsuf_tl h)
noncomputable def zr_dX2_init_33 := zo_2 (q := 34) zr_dX2_init_30.2 rfl
noncomputable def dX2_init_33 := zr_dX2_init_33.1
noncomputable def zr_dX2_init_34 := zo_184 (k := 23)  (q := 37) zr_dX2_init_33.2 rfl rfl
noncomputable def dX2_init_34 := zr_dX2_init_34.1
noncomputable def zr_dX2_init_37 := zo_177 (q := 38) zr_dX2_init_34.2 rfl
noncomputable def dX2_init_37 := zr_dX2_init_37.1
theorem zs_dX2_isSheet_0 : zsuf cX2_isSheet 0 cX2_isSheet.data.toList := rfl
noncomputable def zr_dX2_isSheet_0 := zo_27 (q := 1) zs_dX2_isSheet_0 rfl
noncomputable def dX2_isSheet_0 := zr_dX2_isSheet_0.1
noncomputable def zr_dX2_isSheet_1 := zo_6 (q := 2) zr_dX2_isSheet_0.2 rfl
noncomputable def dX2_isSheet_1 := zr_dX2_isSheet_1.1
noncomputable def zr_dX2_isSheet_2 := zo_184 (k := 29)  (q := 5) zr_dX2_isSheet_1.2 rfl rfl
noncomputable def dX2_isSheet_2 := zr_dX2_isSheet_2.1
noncomputable def zr_dX2_isSheet_5 := zo_172 (q := 6) zr_dX2_isSheet_2.2 rfl
noncomputable def dX2_isSheet_5 := zr_dX2_isSheet_5.1
theorem zs_dX2_become_0 : zsuf cX2_become 0 cX2_become.data.toList := rfl
noncomputable def zr_dX2_become_0 := zo_42 (q := 1) zs_dX2_become_0 rfl
noncomputable def dX2_become_0 := zr_dX2_become_0.1
noncomputable def zr_dX2_become_1 := zo_180 (k := 16)  (q := 4) zr_dX2_become_0.2 rfl rfl
noncomputable def dX2_become_1 := zr_dX2_become_1.1
noncomputable def zr_dX2_become_4 := zo_27 (q := 5) zr_dX2_become_1.2 rfl
noncomputable def dX2_become_4 := zr_dX2_become_4.1
noncomputable def zr_dX2_become_5 := zo_28 (q := 6) zr_dX2_become_4.2 rfl
noncomputable def dX2_become_5 := zr_dX2_become_5.1
noncomputable def zr_dX2_become_6 := zo_79 (q := 7) zr_dX2_become_5.2 rfl
noncomputable def dX2_become_6 := zr_dX2_become_6.1
noncomputable def zr_dX2_become_7 := zo_42 (q := 8) zr_dX2_become_6.2 rfl
noncomputable def dX2_become_7 := zr_dX2_become_7.1
noncomputable def zr_dX2_become_8 := zo_180 (k := 20)  (q := 11) zr_dX2_become_7.2 rfl rfl
noncomputable def dX2_become_8 := zr_dX2_become_8.1
noncomputable def zr_dX2_become_11 := zo_27 (q := 12) zr_dX2_become_8.2 rfl
noncomputable def dX2_become_11 := zr_dX2_become_11.1
noncomputable def zr_dX2_become_12 := zo_29 (q := 13) zr_dX2_become_11.2 rfl
noncomputable def dX2_become_12 := zr_dX2_become_12.1
noncomputable def zr_dX2_become_13 := zo_79 (q := 14) zr_dX2_become_12.2 rfl
noncomputable def dX2_become_13 := zr_dX2_become_13.1
noncomputable def zr_dX2_become_14 := zo_42 (q := 15) zr_dX2_become_13.2 rfl
noncomputable def dX2_become_14 := zr_dX2_become_14.1
noncomputable def zr_dX2_become_15 := zo_180 (k := 11)  (q := 18) zr_dX2_become_14.2 rfl rfl
noncomputable def dX2_become_15 := zr_dX2_become_15.1
noncomputable def zr_dX2_become_18 := zo_27 (q := 19) zr_dX2_become_15.2 rfl
noncomputable def dX2_become_18 := zr_dX2_become_18.1
theorem zo_50 {c : ByteArray} {p q : Nat} {L : List UInt8} (h : zsuf c p (50 :: L)) (hq : p + 1 = q) : zD c p .aaload 1 ∧ zsuf c q L := zfin hq (Eq.trans (zbd (zu1 (v := 50) h rfl)) rfl) (zsuf_tl h)
noncomputable def zr_dX2_become_19 := zo_50 (q := 20) zr_dX2_become_18.2 rfl
noncomputable def dX2_become_19 := zr_dX2_become_19.1
noncomputable def zr_dX2_become_20 := zo_3 (q := 21) zr_dX2_become_19.2 rfl
noncomputable def dX2_become_20 := zr_dX2_become_20.1
noncomputable def zr_dX2_become_21 := zo_184 (k := 23)  (q := 24) zr_dX2_become_20.2 rfl rfl
noncomputable def dX2_become_21 := zr_dX2_become_21.1
noncomputable def zr_dX2_become_24 := zo_177 (q := 25) zr_dX2_become_21.2 rfl
noncomputable def dX2_become_24 := zr_dX2_become_24.1
theorem zs_dX2_store_0 : zsuf cX2_store 0 cX2_store.data.toList := rfl
noncomputable def zr_dX2_store_0 := zo_42 (q := 1) zs_dX2_store_0 rfl
noncomputable def dX2_store_0 := zr_dX2_store_0.1
noncomputable def zr_dX2_store_1 := zo_180 (k := 11)  (q := 4) zr_dX2_store_0.2 rfl rfl
noncomputable def dX2_store_1 := zr_dX2_store_1.1
noncomputable def zr_dX2_store_4 := zo_27 (q := 5) zr_dX2_store_1.2 rfl
noncomputable def dX2_store_4 := zr_dX2_store_4.1
noncomputable def zr_dX2_store_5 := zo_50 (q := 6) zr_dX2_store_4.2 rfl
noncomputable def dX2_store_5 := zr_dX2_store_5.1
noncomputable def zr_dX2_store_6 := zo_28 (q := 7) zr_dX2_store_5.2 rfl
noncomputable def dX2_store_6 := zr_dX2_store_6.1
noncomputable def zr_dX2_store_7 := zo_42 (q := 8) zr_dX2_store_6.2 rfl
noncomputable def dX2_store_7 := zr_dX2_store_7.1
noncomputable def zr_dX2_store_8 := zo_180 (k := 16)  (q := 11) zr_dX2_store_7.2 rfl rfl
noncomputable def dX2_store_8 := zr_dX2_store_8.1
noncomputable def zr_dX2_store_11 := zo_27 (q := 12) zr_dX2_store_8.2 rfl
noncomputable def dX2_store_11 := zr_dX2_store_11.1
noncomputable def zr_dX2_store_12 := zo_46 (q := 13) zr_dX2_store_11.2 rfl
noncomputable def dX2_store_12 := zr_dX2_store_12.1
noncomputable def zr_dX2_store_13 := zo_154 (k := 8)  (q := 16) zr_dX2_store_12.2 (by decide +kernel) rfl
noncomputable def dX2_store_13 := zr_dX2_store_13.1
noncomputable def zr_dX2_store_16 := zo_29 (q := 17) zr_dX2_store_13.2 rfl
noncomputable def dX2_store_16 := zr_dX2_store_16.1
theorem zo_145 {c : ByteArray} {p q : Nat} {L : List UInt8} (h : zsuf c p (145 :: L)) (hq : p + 1 = q) : zD c p .i2b 1 ∧ zsuf c q L := zfin hq (Eq.trans (zbd (zu1 (v := 145) h rfl)) rfl) (zsuf_tl h)
noncomputable def zr_dX2_store_17 := zo_145 (q := 18) zr_dX2_store_16.2 rfl
noncomputable def dX2_store_17 := zr_dX2_store_17.1
noncomputable def zr_dX2_store_18 := zo_167 (k := 19)  (q := 21) zr_dX2_store_17.2 (by decide +kernel) rfl
noncomputable def dX2_store_18 := zr_dX2_store_18.1
noncomputable def zr_dX2_store_21 := zo_42 (q := 22) zr_dX2_store_18.2 rfl
noncomputable def dX2_store_21 := zr_dX2_store_21.1
noncomputable def zr_dX2_store_22 := zo_180 (k := 16)  (q := 25) zr_dX2_store_21.2 rfl rfl
noncomputable def dX2_store_22 := zr_dX2_store_22.1
noncomputable def zr_dX2_store_25 := zo_27 (q := 26) zr_dX2_store_22.2 rfl
noncomputable def dX2_store_25 := zr_dX2_store_25.1
noncomputable def zr_dX2_store_26 := zo_46 (q := 27) zr_dX2_store_25.2 rfl
noncomputable def dX2_store_26 := zr_dX2_store_26.1
noncomputable def zr_dX2_store_27 := zo_4 (q := 28) zr_dX2_store_26.2 rfl
noncomputable def dX2_store_27 := zr_dX2_store_27.1
noncomputable def zr_dX2_store_28 := zo_160 (k := 8)  (q := 31) zr_dX2_store_27.2 (by decide +kernel) rfl
noncomputable def dX2_store_28 := zr_dX2_store_28.1
noncomputable def zr_dX2_store_31 := zo_29 (q := 32) zr_dX2_store_28.2 rfl
noncomputable def dX2_store_31 := zr_dX2_store_31.1
theorem zo_147 {c : ByteArray} {p q : Nat} {L : List UInt8} (h : zsuf c p (147 :: L)) (hq : p + 1 = q) : zD c p .i2s 1 ∧ zsuf c q L := zfin hq (Eq.trans (zbd (zu1 (v := 147) h rfl)) rfl) (zsuf_tl h)
noncomputable def zr_dX2_store_32 := zo_147 (q := 33) zr_dX2_store_31.2 rfl
noncomputable def dX2_store_32 := zr_dX2_store_32.1
noncomputable def zr_dX2_store_33 := zo_167 (k := 4)  (q := 36) zr_dX2_store_32.2 (by decide +kernel) rfl
noncomputable def dX2_store_33 := zr_dX2_store_33.1
noncomputable def zr_dX2_store_36 := zo_29 (q := 37) zr_dX2_store_33.2 rfl
noncomputable def dX2_store_36 := zr_dX2_store_36.1
noncomputable def zr_dX2_store_37 := zo_79 (q := 38) zr_dX2_store_36.2 rfl
noncomputable def dX2_store_37 := zr_dX2_store_37.1
noncomputable def zr_dX2_store_38 := zo_177 (q := 39) zr_dX2_store_37.2 rfl
noncomputable def dX2_store_38 := zr_dX2_store_38.1
theorem zs_dX2_holds_0 : zsuf cX2_holds 0 cX2_holds.data.toList := rfl
noncomputable def zr_dX2_holds_0 := zo_29 (q := 1) zs_dX2_holds_0 rfl
noncomputable def dX2_holds_0 := zr_dX2_holds_0.1
noncomputable def zr_dX2_holds_1 := zo_155 (k := 23)  (q := 4) zr_dX2_holds_0.2 (by decide +kernel) rfl
noncomputable def dX2_holds_1 := zr_dX2_holds_1.1
noncomputable def zr_dX2_holds_4 := zo_28 (q := 5) zr_dX2_holds_1.2 rfl
noncomputable def dX2_holds_4 := zr_dX2_holds_4.1
noncomputable def zr_dX2_holds_5 := zo_155 (k := 19)  (q := 8) zr_dX2_holds_4.2 (by decide +kernel) rfl
noncomputable def dX2_holds_5 := zr_dX2_holds_5.1
noncomputable def zr_dX2_holds_8 := zo_28 (q := 9) zr_dX2_holds_5.2 rfl
noncomputable def dX2_holds_8 := zr_dX2_holds_8.1
noncomputable def zr_dX2_holds_9 := zo_42 (q := 10) zr_dX2_holds_8.2 rfl
noncomputable def dX2_holds_9 := zr_dX2_holds_9.1
noncomputable def zr_dX2_holds_10 := zo_180 (k := 20)  (q := 13) zr_dX2_holds_9.2 rfl rfl
noncomputable def dX2_holds_10 := zr_dX2_holds_10.1
noncomputable def zr_dX2_holds_13 := zo_27 (q := 14) zr_dX2_holds_10.2 rfl
noncomputable def dX2_holds_13 := zr_dX2_holds_13.1
noncomputable def zr_dX2_holds_14 := zo_46 (q := 15) zr_dX2_holds_13.2 rfl
noncomputable def dX2_holds_14 := zr_dX2_holds_14.1
noncomputable def zr_dX2_holds_15 := zo_29 (q := 16) zr_dX2_holds_14.2 rfl
noncomputable def dX2_holds_15 := zr_dX2_holds_15.1
noncomputable def zr_dX2_holds_16 := zo_100 (q := 17) zr_dX2_holds_15.2 rfl
noncomputable def dX2_holds_16 := zr_dX2_holds_16.1
noncomputable def zr_dX2_holds_17 := zo_163 (k := 7)  (q := 20) zr_dX2_holds_16.2 (by decide +kernel) rfl
noncomputable def dX2_holds_17 := zr_dX2_holds_17.1
noncomputable def zr_dX2_holds_20 := zo_4 (q := 21) zr_dX2_holds_17.2 rfl
noncomputable def dX2_holds_20 := zr_dX2_holds_20.1
noncomputable def zr_dX2_holds_21 := zo_167 (k := 4)  (q := 24) zr_dX2_holds_20.2 (by decide +kernel) rfl
noncomputable def dX2_holds_21 := zr_dX2_holds_21.1
noncomputable def zr_dX2_holds_24 := zo_3 (q := 25) zr_dX2_holds_21.2 rfl
noncomputable def dX2_holds_24 := zr_dX2_holds_24.1
noncomputable def zr_dX2_holds_25 := zo_172 (q := 26) zr_dX2_holds_24.2 rfl
noncomputable def dX2_holds_25 := zr_dX2_holds_25.1
theorem zs_dX3_init_0 : zsuf cX3_init 0 cX3_init.data.toList := rfl
noncomputable def zr_dX3_init_0 := zo_42 (q := 1) zs_dX3_init_0 rfl
noncomputable def dX3_init_0 := zr_dX3_init_0.1
noncomputable def zr_dX3_init_1 := zo_183 (k := 3)  (q := 4) zr_dX3_init_0.2 rfl rfl
noncomputable def dX3_init_1 := zr_dX3_init_1.1
noncomputable def zr_dX3_init_4 := zo_42 (q := 5) zr_dX3_init_1.2 rfl
noncomputable def dX3_init_4 := zr_dX3_init_4.1
noncomputable def zr_dX3_init_5 := zo_16 (k := 6)  (q := 7) zr_dX3_init_4.2 (by decide +kernel) rfl
noncomputable def dX3_init_5 := zr_dX3_init_5.1
noncomputable def zr_dX3_init_7 := zo_17 (k := 160)  (q := 10) zr_dX3_init_5.2 (by decide +kernel) rfl
noncomputable def dX3_init_7 := zr_dX3_init_7.1
theorem dX3_init_10 : zD cX3_init 10 (.multianewarray 9 2) 4 := by decide +kernel
noncomputable def zr_dX3_init_10 := zskip zr_dX3_init_7.2 4 (q := 14) rfl
noncomputable def zr_dX3_init_14 := zo_181 (k := 11)  (q := 17) zr_dX3_init_10 rfl rfl
noncomputable def dX3_init_14 := zr_dX3_init_14.1
noncomputable def zr_dX3_init_17 := zo_42 (q := 18) zr_dX3_init_14.2 rfl
noncomputable def dX3_init_17 := zr_dX3_init_17.1
noncomputable def zr_dX3_init_18 := zo_16 (k := 6)  (q := 20) zr_dX3_init_17.2 (by decide +kernel) rfl
noncomputable def dX3_init_18 := zr_dX3_init_18.1
noncomputable def zr_dX3_init_20 := zo_6 (q := 21) zr_dX3_init_18.2 rfl
noncomputable def dX3_init_20 := zr_dX3_init_20.1
theorem dX3_init_21 : zD cX3_init 21 (.multianewarray 9 2) 4 := by decide +kernel
noncomputable def zr_dX3_init_21 := zskip zr_dX3_init_20.2 4 (q := 25) rfl
noncomputable def zr_dX3_init_25 := zo_181 (k := 16)  (q := 28) zr_dX3_init_21 rfl rfl
noncomputable def dX3_init_25 := zr_dX3_init_25.1
noncomputable def zr_dX3_init_28 := zo_42 (q := 29) zr_dX3_init_25.2 rfl
noncomputable def dX3_init_28 := zr_dX3_init_28.1
noncomputable def zr_dX3_init_29 := zo_16 (k := 32)  (q := 31) zr_dX3_init_28.2 (by decide +kernel) rfl
noncomputable def dX3_init_29 := zr_dX3_init_29.1
theorem dX3_init_31 : zD cX3_init 31 (.newarray .int) 2 := by decide +kernel
noncomputable def zr_dX3_init_31 := zskip zr_dX3_init_29.2 2 (q := 33) rfl
noncomputable def zr_dX3_init_33 := zo_181 (k := 19)  (q := 36) zr_dX3_init_31 rfl rfl
noncomputable def dX3_init_33 := zr_dX3_init_33.1
noncomputable def zr_dX3_init_36 := zo_177 (q := 37) zr_dX3_init_33.2 rfl
noncomputable def dX3_init_36 := zr_dX3_init_36.1
theorem zs_dX3_begin_0 : zsuf cX3_begin 0 cX3_begin.data.toList := rfl
noncomputable def zr_dX3_begin_0 := zo_42 (q := 1) zs_dX3_begin_0 rfl
noncomputable def dX3_begin_0 := zr_dX3_begin_0.1
noncomputable def zr_dX3_begin_1 := zo_3 (q := 2) zr_dX3_begin_0.2 rfl
noncomputable def dX3_begin_1 := zr_dX3_begin_1.1
noncomputable def zr_dX3_begin_2 := zo_181 (k := 23)  (q := 5) zr_dX3_begin_1.2 rfl rfl
noncomputable def dX3_begin_2 := zr_dX3_begin_2.1
noncomputable def zr_dX3_begin_5 := zo_177 (q := 6) zr_dX3_begin_2.2 rfl
noncomputable def dX3_begin_5 := zr_dX3_begin_5.1
theorem zs_dX3_write_0 : zsuf cX3_write 0 cX3_write.data.toList := rfl
noncomputable def zr_dX3_write_0 := zo_42 (q := 1) zs_dX3_write_0 rfl
noncomputable def dX3_write_0 := zr_dX3_write_0.1
noncomputable def zr_dX3_write_1 := zo_180 (k := 27)  (q := 4) zr_dX3_write_0.2 rfl rfl
noncomputable def dX3_write_1 := zr_dX3_write_1.1
noncomputable def zr_dX3_write_4 := zo_16 (k := 6)  (q := 6) zr_dX3_write_1.2 (by decide +kernel) rfl
noncomputable def dX3_write_4 := zr_dX3_write_4.1
noncomputable def zr_dX3_write_6 := zo_162 (k := 38)  (q := 9) zr_dX3_write_4.2 (by decide +kernel) rfl
noncomputable def dX3_write_6 := zr_dX3_write_6.1
noncomputable def zr_dX3_write_9 := zo_42 (q := 10) zr_dX3_write_6.2 rfl
noncomputable def dX3_write_9 := zr_dX3_write_9.1
noncomputable def zr_dX3_write_10 := zo_180 (k := 23)  (q := 13) zr_dX3_write_9.2 rfl rfl
noncomputable def dX3_write_10 := zr_dX3_write_10.1
noncomputable def zr_dX3_write_13 := zo_17 (k := 160)  (q := 16) zr_dX3_write_10.2 (by decide +kernel) rfl
noncomputable def dX3_write_13 := zr_dX3_write_13.1
noncomputable def zr_dX3_write_16 := zo_162 (k := 28)  (q := 19) zr_dX3_write_13.2 (by decide +kernel) rfl
noncomputable def dX3_write_16 := zr_dX3_write_16.1
noncomputable def zr_dX3_write_19 := zo_42 (q := 20) zr_dX3_write_16.2 rfl
noncomputable def dX3_write_19 := zr_dX3_write_19.1
noncomputable def zr_dX3_write_20 := zo_180 (k := 11)  (q := 23) zr_dX3_write_19.2 rfl rfl
noncomputable def dX3_write_20 := zr_dX3_write_20.1
noncomputable def zr_dX3_write_23 := zo_42 (q := 24) zr_dX3_write_20.2 rfl
noncomputable def dX3_write_23 := zr_dX3_write_23.1
noncomputable def zr_dX3_write_24 := zo_180 (k := 27)  (q := 27) zr_dX3_write_23.2 rfl rfl
noncomputable def dX3_write_24 := zr_dX3_write_24.1
noncomputable def zr_dX3_write_27 := zo_50 (q := 28) zr_dX3_write_24.2 rfl
noncomputable def dX3_write_27 := zr_dX3_write_27.1
noncomputable def zr_dX3_write_28 := zo_42 (q := 29) zr_dX3_write_27.2 rfl
noncomputable def dX3_write_28 := zr_dX3_write_28.1
noncomputable def zr_dX3_write_29 := zo_180 (k := 23)  (q := 32) zr_dX3_write_28.2 rfl rfl
noncomputable def dX3_write_29 := zr_dX3_write_29.1
noncomputable def zr_dX3_write_32 := zo_27 (q := 33) zr_dX3_write_29.2 rfl
noncomputable def dX3_write_32 := zr_dX3_write_32.1
noncomputable def zr_dX3_write_33 := zo_79 (q := 34) zr_dX3_write_32.2 rfl
noncomputable def dX3_write_33 := zr_dX3_write_33.1
noncomputable def zr_dX3_write_34 := zo_42 (q := 35) zr_dX3_write_33.2 rfl
noncomputable def dX3_write_34 := zr_dX3_write_34.1
noncomputable def zr_dX3_write_35 := zo_89 (q := 36) zr_dX3_write_34.2 rfl
noncomputable def dX3_write_35 := zr_dX3_write_35.1
noncomputable def zr_dX3_write_36 := zo_180 (k := 23)  (q := 39) zr_dX3_write_35.2 rfl rfl
noncomputable def dX3_write_36 := zr_dX3_write_36.1
noncomputable def zr_dX3_write_39 := zo_4 (q := 40) zr_dX3_write_36.2 rfl
noncomputable def dX3_write_39 := zr_dX3_write_39.1
noncomputable def zr_dX3_write_40 := zo_96 (q := 41) zr_dX3_write_39.2 rfl
noncomputable def dX3_write_40 := zr_dX3_write_40.1
noncomputable def zr_dX3_write_41 := zo_181 (k := 23)  (q := 44) zr_dX3_write_40.2 rfl rfl
noncomputable def dX3_write_41 := zr_dX3_write_41.1
noncomputable def zr_dX3_write_44 := zo_177 (q := 45) zr_dX3_write_41.2 rfl
noncomputable def dX3_write_44 := zr_dX3_write_44.1
theorem zs_dX3_endPart_0 : zsuf cX3_endPart 0 cX3_endPart.data.toList := rfl
noncomputable def zr_dX3_endPart_0 := zo_42 (q := 1) zs_dX3_endPart_0 rfl
noncomputable def dX3_endPart_0 := zr_dX3_endPart_0.1
noncomputable def zr_dX3_endPart_1 := zo_180 (k := 27)  (q := 4) zr_dX3_endPart_0.2 rfl rfl
noncomputable def dX3_endPart_1 := zr_dX3_endPart_1.1
noncomputable def zr_dX3_endPart_4 := zo_16 (k := 6)  (q := 6) zr_dX3_endPart_1.2 (by decide +kernel) rfl
noncomputable def dX3_endPart_4 := zr_dX3_endPart_4.1
noncomputable def zr_dX3_endPart_6 := zo_162 (k := 18)  (q := 9) zr_dX3_endPart_4.2 (by decide +kernel) rfl
noncomputable def dX3_endPart_6 := zr_dX3_endPart_6.1
noncomputable def zr_dX3_endPart_9 := zo_42 (q := 10) zr_dX3_endPart_6.2 rfl
noncomputable def dX3_endPart_9 := zr_dX3_endPart_9.1
noncomputable def zr_dX3_endPart_10 := zo_180 (k := 16)  (q := 13) zr_dX3_endPart_9.2 rfl rfl
noncomputable def dX3_endPart_10 := zr_dX3_endPart_10.1
noncomputable def zr_dX3_endPart_13 := zo_42 (q := 14) zr_dX3_endPart_10.2 rfl
noncomputable def dX3_endPart_13 := zr_dX3_endPart_13.1
noncomputable def zr_dX3_endPart_14 := zo_180 (k := 27)  (q := 17) zr_dX3_endPart_13.2 rfl rfl
noncomputable def dX3_endPart_14 := zr_dX3_endPart_14.1
noncomputable def zr_dX3_endPart_17 := zo_50 (q := 18) zr_dX3_endPart_14.2 rfl
noncomputable def dX3_endPart_17 := zr_dX3_endPart_17.1
noncomputable def zr_dX3_endPart_18 := zo_27 (q := 19) zr_dX3_endPart_17.2 rfl
noncomputable def dX3_endPart_18 := zr_dX3_endPart_18.1
noncomputable def zr_dX3_endPart_19 := zo_42 (q := 20) zr_dX3_endPart_18.2 rfl
noncomputable def dX3_endPart_19 := zr_dX3_endPart_19.1
noncomputable def zr_dX3_endPart_20 := zo_180 (k := 23)  (q := 23) zr_dX3_endPart_19.2 rfl rfl
noncomputable def dX3_endPart_20 := zr_dX3_endPart_20.1
noncomputable def zr_dX3_endPart_23 := zo_79 (q := 24) zr_dX3_endPart_20.2 rfl
noncomputable def dX3_endPart_23 := zr_dX3_endPart_23.1
noncomputable def zr_dX3_endPart_24 := zo_177 (q := 25) zr_dX3_endPart_23.2 rfl
noncomputable def dX3_endPart_24 := zr_dX3_endPart_24.1
theorem zs_dX3_keep_0 : zsuf cX3_keep 0 cX3_keep.data.toList := rfl
noncomputable def zr_dX3_keep_0 := zo_42 (q := 1) zs_dX3_keep_0 rfl
noncomputable def dX3_keep_0 := zr_dX3_keep_0.1
noncomputable def zr_dX3_keep_1 := zo_180 (k := 27)  (q := 4) zr_dX3_keep_0.2 rfl rfl
noncomputable def dX3_keep_1 := zr_dX3_keep_1.1
noncomputable def zr_dX3_keep_4 := zo_60 (q := 5) zr_dX3_keep_1.2 rfl
noncomputable def dX3_keep_4 := zr_dX3_keep_4.1
noncomputable def zr_dX3_keep_5 := zo_42 (q := 6) zr_dX3_keep_4.2 rfl
noncomputable def dX3_keep_5 := zr_dX3_keep_5.1
noncomputable def zr_dX3_keep_6 := zo_180 (k := 27)  (q := 9) zr_dX3_keep_5.2 rfl rfl
noncomputable def dX3_keep_6 := zr_dX3_keep_6.1
noncomputable def zr_dX3_keep_9 := zo_16 (k := 6)  (q := 11) zr_dX3_keep_6.2 (by decide +kernel) rfl
noncomputable def dX3_keep_9 := zr_dX3_keep_9.1
noncomputable def zr_dX3_keep_11 := zo_162 (k := 13)  (q := 14) zr_dX3_keep_9.2 (by decide +kernel) rfl
noncomputable def dX3_keep_11 := zr_dX3_keep_11.1
noncomputable def zr_dX3_keep_14 := zo_42 (q := 15) zr_dX3_keep_11.2 rfl
noncomputable def dX3_keep_14 := zr_dX3_keep_14.1
noncomputable def zr_dX3_keep_15 := zo_89 (q := 16) zr_dX3_keep_14.2 rfl
noncomputable def dX3_keep_15 := zr_dX3_keep_15.1
noncomputable def zr_dX3_keep_16 := zo_180 (k := 27)  (q := 19) zr_dX3_keep_15.2 rfl rfl
noncomputable def dX3_keep_16 := zr_dX3_keep_16.1
noncomputable def zr_dX3_keep_19 := zo_4 (q := 20) zr_dX3_keep_16.2 rfl
noncomputable def dX3_keep_19 := zr_dX3_keep_19.1
noncomputable def zr_dX3_keep_20 := zo_96 (q := 21) zr_dX3_keep_19.2 rfl
noncomputable def dX3_keep_20 := zr_dX3_keep_20.1
noncomputable def zr_dX3_keep_21 := zo_181 (k := 27)  (q := 24) zr_dX3_keep_20.2 rfl rfl
noncomputable def dX3_keep_21 := zr_dX3_keep_21.1
noncomputable def zr_dX3_keep_24 := zo_27 (q := 25) zr_dX3_keep_21.2 rfl
noncomputable def dX3_keep_24 := zr_dX3_keep_24.1
noncomputable def zr_dX3_keep_25 := zo_172 (q := 26) zr_dX3_keep_24.2 rfl
noncomputable def dX3_keep_25 := zr_dX3_keep_25.1
theorem zs_dX3_value_0 : zsuf cX3_value 0 cX3_value.data.toList := rfl
noncomputable def zr_dX3_value_0 := zo_27 (q := 1) zs_dX3_value_0 rfl
noncomputable def dX3_value_0 := zr_dX3_value_0.1
noncomputable def zr_dX3_value_1 := zo_155 (k := 11)  (q := 4) zr_dX3_value_0.2 (by decide +kernel) rfl
noncomputable def dX3_value_1 := zr_dX3_value_1.1
noncomputable def zr_dX3_value_4 := zo_27 (q := 5) zr_dX3_value_1.2 rfl
noncomputable def dX3_value_4 := zr_dX3_value_4.1
noncomputable def zr_dX3_value_5 := zo_42 (q := 6) zr_dX3_value_4.2 rfl
noncomputable def dX3_value_5 := zr_dX3_value_5.1
noncomputable def zr_dX3_value_6 := zo_180 (k := 27)  (q := 9) zr_dX3_value_5.2 rfl rfl
noncomputable def dX3_value_6 := zr_dX3_value_6.1
noncomputable def zr_dX3_value_9 := zo_161 (k := 5)  (q := 12) zr_dX3_value_6.2 (by decide +kernel) rfl
noncomputable def dX3_value_9 := zr_dX3_value_9.1
noncomputable def zr_dX3_value_12 := zo_3 (q := 13) zr_dX3_value_9.2 rfl
noncomputable def dX3_value_12 := zr_dX3_value_12.1
noncomputable def zr_dX3_value_13 := zo_172 (q := 14) zr_dX3_value_12.2 rfl
noncomputable def dX3_value_13 := zr_dX3_value_13.1
noncomputable def zr_dX3_value_14 := zo_28 (q := 15) zr_dX3_value_13.2 rfl
noncomputable def dX3_value_14 := zr_dX3_value_14.1
noncomputable def zr_dX3_value_15 := zo_154 (k := 7)  (q := 18) zr_dX3_value_14.2 (by decide +kernel) rfl
noncomputable def dX3_value_15 := zr_dX3_value_15.1
noncomputable def zr_dX3_value_18 := zo_3 (q := 19) zr_dX3_value_15.2 rfl
noncomputable def dX3_value_18 := zr_dX3_value_18.1
noncomputable def zr_dX3_value_19 := zo_167 (k := 13)  (q := 22) zr_dX3_value_18.2 (by decide +kernel) rfl
noncomputable def dX3_value_19 := zr_dX3_value_19.1
noncomputable def zr_dX3_value_22 := zo_42 (q := 23) zr_dX3_value_19.2 rfl
noncomputable def dX3_value_22 := zr_dX3_value_22.1
noncomputable def zr_dX3_value_23 := zo_180 (k := 16)  (q := 26) zr_dX3_value_22.2 rfl rfl
noncomputable def dX3_value_23 := zr_dX3_value_23.1
noncomputable def zr_dX3_value_26 := zo_27 (q := 27) zr_dX3_value_23.2 rfl
noncomputable def dX3_value_26 := zr_dX3_value_26.1
noncomputable def zr_dX3_value_27 := zo_50 (q := 28) zr_dX3_value_26.2 rfl
noncomputable def dX3_value_27 := zr_dX3_value_27.1
noncomputable def zr_dX3_value_28 := zo_28 (q := 29) zr_dX3_value_27.2 rfl
noncomputable def dX3_value_28 := zr_dX3_value_28.1
noncomputable def zr_dX3_value_29 := zo_4 (q := 30) zr_dX3_value_28.2 rfl
noncomputable def dX3_value_29 := zr_dX3_value_29.1
noncomputable def zr_dX3_value_30 := zo_100 (q := 31) zr_dX3_value_29.2 rfl
noncomputable def dX3_value_30 := zr_dX3_value_30.1
noncomputable def zr_dX3_value_31 := zo_46 (q := 32) zr_dX3_value_30.2 rfl
noncomputable def dX3_value_31 := zr_dX3_value_31.1
noncomputable def zr_dX3_value_32 := zo_54 (k := 4)  (q := 34) zr_dX3_value_31.2 rfl rfl
noncomputable def dX3_value_32 := zr_dX3_value_32.1
noncomputable def zr_dX3_value_34 := zo_3 (q := 35) zr_dX3_value_32.2 rfl
noncomputable def dX3_value_34 := zr_dX3_value_34.1
noncomputable def zr_dX3_value_35 := zo_54 (k := 5)  (q := 37) zr_dX3_value_34.2 rfl rfl
noncomputable def dX3_value_35 := zr_dX3_value_35.1
noncomputable def zr_dX3_value_37 := zo_21 (k := 4)  (q := 39) zr_dX3_value_35.2 rfl rfl
noncomputable def dX3_value_37 := zr_dX3_value_37.1
noncomputable def zr_dX3_value_39 := zo_54 (k := 6)  (q := 41) zr_dX3_value_37.2 rfl rfl
noncomputable def dX3_value_39 := zr_dX3_value_39.1
noncomputable def zr_dX3_value_41 := zo_21 (k := 6)  (q := 43) zr_dX3_value_39.2 rfl rfl
noncomputable def dX3_value_41 := zr_dX3_value_41.1
noncomputable def zr_dX3_value_43 := zo_42 (q := 44) zr_dX3_value_41.2 rfl
noncomputable def dX3_value_43 := zr_dX3_value_43.1
noncomputable def zr_dX3_value_44 := zo_180 (k := 16)  (q := 47) zr_dX3_value_43.2 rfl rfl
noncomputable def dX3_value_44 := zr_dX3_value_44.1
noncomputable def zr_dX3_value_47 := zo_27 (q := 48) zr_dX3_value_44.2 rfl
noncomputable def dX3_value_47 := zr_dX3_value_47.1
noncomputable def zr_dX3_value_48 := zo_50 (q := 49) zr_dX3_value_47.2 rfl
noncomputable def dX3_value_48 := zr_dX3_value_48.1
noncomputable def zr_dX3_value_49 := zo_28 (q := 50) zr_dX3_value_48.2 rfl
noncomputable def dX3_value_49 := zr_dX3_value_49.1
noncomputable def zr_dX3_value_50 := zo_46 (q := 51) zr_dX3_value_49.2 rfl
noncomputable def dX3_value_50 := zr_dX3_value_50.1
noncomputable def zr_dX3_value_51 := zo_162 (k := 161)  (q := 54) zr_dX3_value_50.2 (by decide +kernel) rfl
noncomputable def dX3_value_51 := zr_dX3_value_51.1
noncomputable def zr_dX3_value_54 := zo_42 (q := 55) zr_dX3_value_51.2 rfl
noncomputable def dX3_value_54 := zr_dX3_value_54.1
noncomputable def zr_dX3_value_55 := zo_180 (k := 11)  (q := 58) zr_dX3_value_54.2 rfl rfl
noncomputable def dX3_value_55 := zr_dX3_value_55.1
noncomputable def zr_dX3_value_58 := zo_27 (q := 59) zr_dX3_value_55.2 rfl
noncomputable def dX3_value_58 := zr_dX3_value_58.1
noncomputable def zr_dX3_value_59 := zo_50 (q := 60) zr_dX3_value_58.2 rfl
noncomputable def dX3_value_59 := zr_dX3_value_59.1
noncomputable def zr_dX3_value_60 := zo_21 (k := 6)  (q := 62) zr_dX3_value_59.2 rfl rfl
noncomputable def dX3_value_60 := zr_dX3_value_60.1
noncomputable def zr_dX3_value_62 := zo_46 (q := 63) zr_dX3_value_60.2 rfl
noncomputable def dX3_value_62 := zr_dX3_value_62.1
noncomputable def zr_dX3_value_63 := zo_54 (k := 7)  (q := 65) zr_dX3_value_62.2 rfl rfl
noncomputable def dX3_value_63 := zr_dX3_value_63.1
noncomputable def zr_dX3_value_65 := zo_21 (k := 7)  (q := 67) zr_dX3_value_63.2 rfl rfl
noncomputable def dX3_value_65 := zr_dX3_value_65.1
noncomputable def zr_dX3_value_67 := zo_17 (k := 20000)  (q := 70) zr_dX3_value_65.2 (by decide +kernel) rfl
noncomputable def dX3_value_67 := zr_dX3_value_67.1
noncomputable def zr_dX3_value_70 := zo_100 (q := 71) zr_dX3_value_67.2 rfl
noncomputable def dX3_value_70 := zr_dX3_value_70.1
noncomputable def zr_dX3_value_71 := zo_54 (k := 8)  (q := 73) zr_dX3_value_70.2 rfl rfl
noncomputable def dX3_value_71 := zr_dX3_value_71.1
noncomputable def zr_dX3_value_73 := zo_21 (k := 8)  (q := 75) zr_dX3_value_71.2 rfl rfl
noncomputable def dX3_value_73 := zr_dX3_value_73.1
theorem zo_156 {c : ByteArray} {p q : Nat} {x y : UInt8} {L : List UInt8} {k : Int} (h : zsuf c p (156 :: x :: y :: L)) (hk : Reader.signed 16 (x.toNat * 256 + y.toNat) = k) (hq : p + 3 = q) : zD c p (.ifCond .ge k) 3 ∧ zsuf c q L := zfin hq (Eq.trans (zbd (zu1 (v := 156) h rfl)) (Eq.trans (zbd (zs2 (zsuf_tl h) hk)) rfl)) (zsuf_tl (zsuf_tl (zsuf_tl h)))
noncomputable def zr_dX3_value_75 := zo_156 (k := 44)  (q := 78) zr_dX3_value_73.2 (by decide +kernel) rfl
noncomputable def dX3_value_75 := zr_dX3_value_75.1
noncomputable def zr_dX3_value_78 := zo_21 (k := 5)  (q := 80) zr_dX3_value_75.2 rfl rfl
noncomputable def dX3_value_78 := zr_dX3_value_78.1
noncomputable def zr_dX3_value_80 := zo_16 (k := 32)  (q := 82) zr_dX3_value_78.2 (by decide +kernel) rfl
noncomputable def dX3_value_80 := zr_dX3_value_80.1
noncomputable def zr_dX3_value_82 := zo_162 (k := 124)  (q := 85) zr_dX3_value_80.2 (by decide +kernel) rfl
noncomputable def dX3_value_82 := zr_dX3_value_82.1
noncomputable def zr_dX3_value_85 := zo_42 (q := 86) zr_dX3_value_82.2 rfl
noncomputable def dX3_value_85 := zr_dX3_value_85.1
noncomputable def zr_dX3_value_86 := zo_180 (k := 19)  (q := 89) zr_dX3_value_85.2 rfl rfl
noncomputable def dX3_value_86 := zr_dX3_value_86.1
noncomputable def zr_dX3_value_89 := zo_21 (k := 5)  (q := 91) zr_dX3_value_86.2 rfl rfl
noncomputable def dX3_value_89 := zr_dX3_value_89.1
noncomputable def zr_dX3_value_91 := zo_21 (k := 7)  (q := 93) zr_dX3_value_89.2 rfl rfl
noncomputable def dX3_value_91 := zr_dX3_value_91.1
noncomputable def zr_dX3_value_93 := zo_17 (k := 10000)  (q := 96) zr_dX3_value_91.2 (by decide +kernel) rfl
noncomputable def dX3_value_93 := zr_dX3_value_93.1
noncomputable def zr_dX3_value_96 := zo_162 (k := 8)  (q := 99) zr_dX3_value_93.2 (by decide +kernel) rfl
noncomputable def dX3_value_96 := zr_dX3_value_96.1
noncomputable def zr_dX3_value_99 := zo_21 (k := 7)  (q := 101) zr_dX3_value_96.2 rfl rfl
noncomputable def dX3_value_99 := zr_dX3_value_99.1
noncomputable def zr_dX3_value_101 := zo_167 (k := 11)  (q := 104) zr_dX3_value_99.2 (by decide +kernel) rfl
noncomputable def dX3_value_101 := zr_dX3_value_101.1
theorem zo_45 {c : ByteArray} {p q : Nat} {L : List UInt8} (h : zsuf c p (45 :: L)) (hq : p + 1 = q) : zD c p (.aload_n 3) 1 ∧ zsuf c q L := zfin hq (Eq.trans (zbd (zu1 (v := 45) h rfl)) rfl) (zsuf_tl h)
noncomputable def zr_dX3_value_104 := zo_45 (q := 105) zr_dX3_value_101.2 rfl
noncomputable def dX3_value_104 := zr_dX3_value_104.1
noncomputable def zr_dX3_value_105 := zo_21 (k := 7)  (q := 107) zr_dX3_value_104.2 rfl rfl
noncomputable def dX3_value_105 := zr_dX3_value_105.1
noncomputable def zr_dX3_value_107 := zo_17 (k := 10000)  (q := 110) zr_dX3_value_105.2 (by decide +kernel) rfl
noncomputable def dX3_value_107 := zr_dX3_value_107.1
noncomputable def zr_dX3_value_110 := zo_100 (q := 111) zr_dX3_value_107.2 rfl
noncomputable def dX3_value_110 := zr_dX3_value_110.1
noncomputable def zr_dX3_value_111 := zo_46 (q := 112) zr_dX3_value_110.2 rfl
noncomputable def dX3_value_111 := zr_dX3_value_111.1
noncomputable def zr_dX3_value_112 := zo_79 (q := 113) zr_dX3_value_111.2 rfl
noncomputable def dX3_value_112 := zr_dX3_value_112.1
noncomputable def zr_dX3_value_113 := zo_132 (k := 5) (o := 1)  (q := 116) zr_dX3_value_112.2 rfl (by decide +kernel) rfl
noncomputable def dX3_value_113 := zr_dX3_value_113.1
noncomputable def zr_dX3_value_116 := zo_167 (k := 90)  (q := 119) zr_dX3_value_113.2 (by decide +kernel) rfl
noncomputable def dX3_value_116 := zr_dX3_value_116.1
noncomputable def zr_dX3_value_119 := zo_21 (k := 8)  (q := 121) zr_dX3_value_116.2 rfl rfl
noncomputable def dX3_value_119 := zr_dX3_value_119.1
noncomputable def zr_dX3_value_121 := zo_16 (k := 105)  (q := 123) zr_dX3_value_119.2 (by decide +kernel) rfl
noncomputable def dX3_value_121 := zr_dX3_value_121.1
noncomputable def zr_dX3_value_123 := zo_159 (k := 10)  (q := 126) zr_dX3_value_121.2 (by decide +kernel) rfl
noncomputable def dX3_value_123 := zr_dX3_value_123.1
noncomputable def zr_dX3_value_126 := zo_21 (k := 8)  (q := 128) zr_dX3_value_123.2 rfl rfl
noncomputable def dX3_value_126 := zr_dX3_value_126.1
noncomputable def zr_dX3_value_128 := zo_16 (k := 106)  (q := 130) zr_dX3_value_126.2 (by decide +kernel) rfl
noncomputable def dX3_value_128 := zr_dX3_value_128.1
noncomputable def zr_dX3_value_130 := zo_160 (k := 35)  (q := 133) zr_dX3_value_128.2 (by decide +kernel) rfl
noncomputable def dX3_value_130 := zr_dX3_value_130.1
noncomputable def zr_dX3_value_133 := zo_21 (k := 5)  (q := 135) zr_dX3_value_130.2 rfl rfl
noncomputable def dX3_value_133 := zr_dX3_value_133.1
noncomputable def zr_dX3_value_135 := zo_4 (q := 136) zr_dX3_value_133.2 rfl
noncomputable def dX3_value_135 := zr_dX3_value_135.1
noncomputable def zr_dX3_value_136 := zo_161 (k := 70)  (q := 139) zr_dX3_value_135.2 (by decide +kernel) rfl
noncomputable def dX3_value_136 := zr_dX3_value_136.1
noncomputable def zr_dX3_value_139 := zo_42 (q := 140) zr_dX3_value_136.2 rfl
noncomputable def dX3_value_139 := zr_dX3_value_139.1
noncomputable def zr_dX3_value_140 := zo_180 (k := 19)  (q := 143) zr_dX3_value_139.2 rfl rfl
noncomputable def dX3_value_140 := zr_dX3_value_140.1
noncomputable def zr_dX3_value_143 := zo_21 (k := 5)  (q := 145) zr_dX3_value_140.2 rfl rfl
noncomputable def dX3_value_143 := zr_dX3_value_143.1
noncomputable def zr_dX3_value_145 := zo_4 (q := 146) zr_dX3_value_143.2 rfl
noncomputable def dX3_value_145 := zr_dX3_value_145.1
noncomputable def zr_dX3_value_146 := zo_100 (q := 147) zr_dX3_value_145.2 rfl
noncomputable def dX3_value_146 := zr_dX3_value_146.1
noncomputable def zr_dX3_value_147 := zo_21 (k := 8)  (q := 149) zr_dX3_value_146.2 rfl rfl
noncomputable def dX3_value_147 := zr_dX3_value_147.1
noncomputable def zr_dX3_value_149 := zo_42 (q := 150) zr_dX3_value_147.2 rfl
noncomputable def dX3_value_149 := zr_dX3_value_149.1
noncomputable def zr_dX3_value_150 := zo_180 (k := 19)  (q := 153) zr_dX3_value_149.2 rfl rfl
noncomputable def dX3_value_150 := zr_dX3_value_150.1
noncomputable def zr_dX3_value_153 := zo_21 (k := 5)  (q := 155) zr_dX3_value_150.2 rfl rfl
noncomputable def dX3_value_153 := zr_dX3_value_153.1
noncomputable def zr_dX3_value_155 := zo_4 (q := 156) zr_dX3_value_153.2 rfl
noncomputable def dX3_value_155 := zr_dX3_value_155.1
noncomputable def zr_dX3_value_156 := zo_100 (q := 157) zr_dX3_value_155.2 rfl
noncomputable def dX3_value_156 := zr_dX3_value_156.1
noncomputable def zr_dX3_value_157 := zo_46 (q := 158) zr_dX3_value_156.2 rfl
noncomputable def dX3_value_157 := zr_dX3_value_157.1
noncomputable def zr_dX3_value_158 := zo_184 (k := 32)  (q := 161) zr_dX3_value_157.2 rfl rfl
noncomputable def dX3_value_158 := zr_dX3_value_158.1
noncomputable def zr_dX3_value_161 := zo_79 (q := 162) zr_dX3_value_158.2 rfl
noncomputable def dX3_value_161 := zr_dX3_value_161.1
noncomputable def zr_dX3_value_162 := zo_167 (k := 44)  (q := 165) zr_dX3_value_161.2 (by decide +kernel) rfl
noncomputable def dX3_value_162 := zr_dX3_value_162.1
noncomputable def zr_dX3_value_165 := zo_21 (k := 5)  (q := 167) zr_dX3_value_162.2 rfl rfl
noncomputable def dX3_value_165 := zr_dX3_value_165.1
noncomputable def zr_dX3_value_167 := zo_5 (q := 168) zr_dX3_value_165.2 rfl
noncomputable def dX3_value_167 := zr_dX3_value_167.1
noncomputable def zr_dX3_value_168 := zo_161 (k := 38)  (q := 171) zr_dX3_value_167.2 (by decide +kernel) rfl
noncomputable def dX3_value_168 := zr_dX3_value_168.1
noncomputable def zr_dX3_value_171 := zo_42 (q := 172) zr_dX3_value_168.2 rfl
noncomputable def dX3_value_171 := zr_dX3_value_171.1
noncomputable def zr_dX3_value_172 := zo_180 (k := 19)  (q := 175) zr_dX3_value_171.2 rfl rfl
noncomputable def dX3_value_172 := zr_dX3_value_172.1
noncomputable def zr_dX3_value_175 := zo_21 (k := 5)  (q := 177) zr_dX3_value_172.2 rfl rfl
noncomputable def dX3_value_175 := zr_dX3_value_175.1
noncomputable def zr_dX3_value_177 := zo_5 (q := 178) zr_dX3_value_175.2 rfl
noncomputable def dX3_value_177 := zr_dX3_value_177.1
noncomputable def zr_dX3_value_178 := zo_100 (q := 179) zr_dX3_value_177.2 rfl
noncomputable def dX3_value_178 := zr_dX3_value_178.1
noncomputable def zr_dX3_value_179 := zo_21 (k := 8)  (q := 181) zr_dX3_value_178.2 rfl rfl
noncomputable def dX3_value_179 := zr_dX3_value_179.1
noncomputable def zr_dX3_value_181 := zo_42 (q := 182) zr_dX3_value_179.2 rfl
noncomputable def dX3_value_181 := zr_dX3_value_181.1
noncomputable def zr_dX3_value_182 := zo_180 (k := 19)  (q := 185) zr_dX3_value_181.2 rfl rfl
noncomputable def dX3_value_182 := zr_dX3_value_182.1
noncomputable def zr_dX3_value_185 := zo_21 (k := 5)  (q := 187) zr_dX3_value_182.2 rfl rfl
noncomputable def dX3_value_185 := zr_dX3_value_185.1
noncomputable def zr_dX3_value_187 := zo_5 (q := 188) zr_dX3_value_185.2 rfl
noncomputable def dX3_value_187 := zr_dX3_value_187.1
noncomputable def zr_dX3_value_188 := zo_100 (q := 189) zr_dX3_value_187.2 rfl
noncomputable def dX3_value_188 := zr_dX3_value_188.1
noncomputable def zr_dX3_value_189 := zo_46 (q := 190) zr_dX3_value_188.2 rfl
noncomputable def dX3_value_189 := zr_dX3_value_189.1
noncomputable def zr_dX3_value_190 := zo_42 (q := 191) zr_dX3_value_189.2 rfl
noncomputable def dX3_value_190 := zr_dX3_value_190.1
noncomputable def zr_dX3_value_191 := zo_180 (k := 19)  (q := 194) zr_dX3_value_190.2 rfl rfl
noncomputable def dX3_value_191 := zr_dX3_value_191.1
noncomputable def zr_dX3_value_194 := zo_21 (k := 5)  (q := 196) zr_dX3_value_191.2 rfl rfl
noncomputable def dX3_value_194 := zr_dX3_value_194.1
noncomputable def zr_dX3_value_196 := zo_4 (q := 197) zr_dX3_value_194.2 rfl
noncomputable def dX3_value_196 := zr_dX3_value_196.1
noncomputable def zr_dX3_value_197 := zo_100 (q := 198) zr_dX3_value_196.2 rfl
noncomputable def dX3_value_197 := zr_dX3_value_197.1
noncomputable def zr_dX3_value_198 := zo_46 (q := 199) zr_dX3_value_197.2 rfl
noncomputable def dX3_value_198 := zr_dX3_value_198.1
noncomputable def zr_dX3_value_199 := zo_184 (k := 36)  (q := 202) zr_dX3_value_198.2 rfl rfl
noncomputable def dX3_value_199 := zr_dX3_value_199.1
noncomputable def zr_dX3_value_202 := zo_79 (q := 203) zr_dX3_value_199.2 rfl
noncomputable def dX3_value_202 := zr_dX3_value_202.1
noncomputable def zr_dX3_value_203 := zo_132 (k := 5) (o := (-1))  (q := 206) zr_dX3_value_202.2 rfl (by decide +kernel) rfl
noncomputable def dX3_value_203 := zr_dX3_value_203.1
noncomputable def zr_dX3_value_206 := zo_132 (k := 6) (o := 1)  (q := 209) zr_dX3_value_203.2 rfl (by decide +kernel) rfl
noncomputable def dX3_value_206 := zr_dX3_value_206.1
noncomputable def zr_dX3_value_209 := zo_167 (k := -168)  (q := 212) zr_dX3_value_206.2 (by decide +kernel) rfl
noncomputable def dX3_value_209 := zr_dX3_value_209.1
noncomputable def zr_dX3_value_212 := zo_42 (q := 213) zr_dX3_value_209.2 rfl
noncomputable def dX3_value_212 := zr_dX3_value_212.1
noncomputable def zr_dX3_value_213 := zo_180 (k := 19)  (q := 216) zr_dX3_value_212.2 rfl rfl
noncomputable def dX3_value_213 := zr_dX3_value_213.1
noncomputable def zr_dX3_value_216 := zo_3 (q := 217) zr_dX3_value_213.2 rfl
noncomputable def dX3_value_216 := zr_dX3_value_216.1
noncomputable def zr_dX3_value_217 := zo_46 (q := 218) zr_dX3_value_216.2 rfl
noncomputable def dX3_value_217 := zr_dX3_value_217.1
noncomputable def zr_dX3_value_218 := zo_172 (q := 219) zr_dX3_value_217.2 rfl
noncomputable def dX3_value_218 := zr_dX3_value_218.1
theorem zs_dX3_one_0 : zsuf cX3_one 0 cX3_one.data.toList := rfl
noncomputable def zr_dX3_one_0 := zo_26 (q := 1) zs_dX3_one_0 rfl
noncomputable def dX3_one_0 := zr_dX3_one_0.1
noncomputable def zr_dX3_one_1 := zo_16 (k := 106)  (q := 3) zr_dX3_one_0.2 (by decide +kernel) rfl
noncomputable def dX3_one_1 := zr_dX3_one_1.1
noncomputable def zr_dX3_one_3 := zo_160 (k := 6)  (q := 6) zr_dX3_one_1.2 (by decide +kernel) rfl
noncomputable def dX3_one_3 := zr_dX3_one_3.1
noncomputable def zr_dX3_one_6 := zo_27 (q := 7) zr_dX3_one_3.2 rfl
noncomputable def dX3_one_6 := zr_dX3_one_6.1
theorem zo_116 {c : ByteArray} {p q : Nat} {L : List UInt8} (h : zsuf c p (116 :: L)) (hq : p + 1 = q) : zD c p .ineg 1 ∧ zsuf c q L := zfin hq (Eq.trans (zbd (zu1 (v := 116) h rfl)) rfl) (zsuf_tl h)
noncomputable def zr_dX3_one_7 := zo_116 (q := 8) zr_dX3_one_6.2 rfl
noncomputable def dX3_one_7 := zr_dX3_one_7.1
noncomputable def zr_dX3_one_8 := zo_172 (q := 9) zr_dX3_one_7.2 rfl
noncomputable def dX3_one_8 := zr_dX3_one_8.1
noncomputable def zr_dX3_one_9 := zo_27 (q := 10) zr_dX3_one_8.2 rfl
noncomputable def dX3_one_9 := zr_dX3_one_9.1
noncomputable def zr_dX3_one_10 := zo_154 (k := 7)  (q := 13) zr_dX3_one_9.2 (by decide +kernel) rfl
noncomputable def dX3_one_10 := zr_dX3_one_10.1
noncomputable def zr_dX3_one_13 := zo_4 (q := 14) zr_dX3_one_10.2 rfl
noncomputable def dX3_one_13 := zr_dX3_one_13.1
noncomputable def zr_dX3_one_14 := zo_167 (k := 4)  (q := 17) zr_dX3_one_13.2 (by decide +kernel) rfl
noncomputable def dX3_one_14 := zr_dX3_one_14.1
noncomputable def zr_dX3_one_17 := zo_3 (q := 18) zr_dX3_one_14.2 rfl
noncomputable def dX3_one_17 := zr_dX3_one_17.1
noncomputable def zr_dX3_one_18 := zo_172 (q := 19) zr_dX3_one_17.2 rfl
noncomputable def dX3_one_18 := zr_dX3_one_18.1
theorem zs_dX3_two_0 : zsuf cX3_two 0 cX3_two.data.toList := rfl
noncomputable def zr_dX3_two_0 := zo_26 (q := 1) zs_dX3_two_0 rfl
noncomputable def dX3_two_0 := zr_dX3_two_0.1
theorem dX3_two_1 : zD cX3_two 1 (.lookupswitch 107 #[(42, 67), (43, 59), (45, 63), (60, 71), (61, 82), (104, 93)]) 59 := by decide +kernel
noncomputable def zr_dX3_two_1 := zskip zr_dX3_two_0.2 59 (q := 60) rfl
noncomputable def zr_dX3_two_60 := zo_27 (q := 61) zr_dX3_two_1 rfl
noncomputable def dX3_two_60 := zr_dX3_two_60.1
noncomputable def zr_dX3_two_61 := zo_28 (q := 62) zr_dX3_two_60.2 rfl
noncomputable def dX3_two_61 := zr_dX3_two_61.1
noncomputable def zr_dX3_two_62 := zo_96 (q := 63) zr_dX3_two_61.2 rfl
noncomputable def dX3_two_62 := zr_dX3_two_62.1
noncomputable def zr_dX3_two_63 := zo_172 (q := 64) zr_dX3_two_62.2 rfl
noncomputable def dX3_two_63 := zr_dX3_two_63.1
noncomputable def zr_dX3_two_64 := zo_27 (q := 65) zr_dX3_two_63.2 rfl
noncomputable def dX3_two_64 := zr_dX3_two_64.1
noncomputable def zr_dX3_two_65 := zo_28 (q := 66) zr_dX3_two_64.2 rfl
noncomputable def dX3_two_65 := zr_dX3_two_65.1
noncomputable def zr_dX3_two_66 := zo_100 (q := 67) zr_dX3_two_65.2 rfl
noncomputable def dX3_two_66 := zr_dX3_two_66.1
noncomputable def zr_dX3_two_67 := zo_172 (q := 68) zr_dX3_two_66.2 rfl
noncomputable def dX3_two_67 := zr_dX3_two_67.1
noncomputable def zr_dX3_two_68 := zo_27 (q := 69) zr_dX3_two_67.2 rfl
noncomputable def dX3_two_68 := zr_dX3_two_68.1
noncomputable def zr_dX3_two_69 := zo_28 (q := 70) zr_dX3_two_68.2 rfl
noncomputable def dX3_two_69 := zr_dX3_two_69.1
noncomputable def zr_dX3_two_70 := zo_104 (q := 71) zr_dX3_two_69.2 rfl
noncomputable def dX3_two_70 := zr_dX3_two_70.1
noncomputable def zr_dX3_two_71 := zo_172 (q := 72) zr_dX3_two_70.2 rfl
noncomputable def dX3_two_71 := zr_dX3_two_71.1
noncomputable def zr_dX3_two_72 := zo_27 (q := 73) zr_dX3_two_71.2 rfl
noncomputable def dX3_two_72 := zr_dX3_two_72.1
noncomputable def zr_dX3_two_73 := zo_28 (q := 74) zr_dX3_two_72.2 rfl
noncomputable def dX3_two_73 := zr_dX3_two_73.1
noncomputable def zr_dX3_two_74 := zo_162 (k := 7)  (q := 77) zr_dX3_two_73.2 (by decide +kernel) rfl
noncomputable def dX3_two_74 := zr_dX3_two_74.1
noncomputable def zr_dX3_two_77 := zo_4 (q := 78) zr_dX3_two_74.2 rfl
noncomputable def dX3_two_77 := zr_dX3_two_77.1
noncomputable def zr_dX3_two_78 := zo_167 (k := 4)  (q := 81) zr_dX3_two_77.2 (by decide +kernel) rfl
noncomputable def dX3_two_78 := zr_dX3_two_78.1
noncomputable def zr_dX3_two_81 := zo_3 (q := 82) zr_dX3_two_78.2 rfl
noncomputable def dX3_two_81 := zr_dX3_two_81.1
noncomputable def zr_dX3_two_82 := zo_172 (q := 83) zr_dX3_two_81.2 rfl
noncomputable def dX3_two_82 := zr_dX3_two_82.1
noncomputable def zr_dX3_two_83 := zo_27 (q := 84) zr_dX3_two_82.2 rfl
noncomputable def dX3_two_83 := zr_dX3_two_83.1
noncomputable def zr_dX3_two_84 := zo_28 (q := 85) zr_dX3_two_83.2 rfl
noncomputable def dX3_two_84 := zr_dX3_two_84.1
noncomputable def zr_dX3_two_85 := zo_160 (k := 7)  (q := 88) zr_dX3_two_84.2 (by decide +kernel) rfl
noncomputable def dX3_two_85 := zr_dX3_two_85.1
noncomputable def zr_dX3_two_88 := zo_4 (q := 89) zr_dX3_two_85.2 rfl
noncomputable def dX3_two_88 := zr_dX3_two_88.1
noncomputable def zr_dX3_two_89 := zo_167 (k := 4)  (q := 92) zr_dX3_two_88.2 (by decide +kernel) rfl
noncomputable def dX3_two_89 := zr_dX3_two_89.1
noncomputable def zr_dX3_two_92 := zo_3 (q := 93) zr_dX3_two_89.2 rfl
noncomputable def dX3_two_92 := zr_dX3_two_92.1
noncomputable def zr_dX3_two_93 := zo_172 (q := 94) zr_dX3_two_92.2 rfl
noncomputable def dX3_two_93 := zr_dX3_two_93.1
noncomputable def zr_dX3_two_94 := zo_27 (q := 95) zr_dX3_two_93.2 rfl
noncomputable def dX3_two_94 := zr_dX3_two_94.1
noncomputable def zr_dX3_two_95 := zo_153 (k := 11)  (q := 98) zr_dX3_two_94.2 (by decide +kernel) rfl
noncomputable def dX3_two_95 := zr_dX3_two_95.1
noncomputable def zr_dX3_two_98 := zo_28 (q := 99) zr_dX3_two_95.2 rfl
noncomputable def dX3_two_98 := zr_dX3_two_98.1
noncomputable def zr_dX3_two_99 := zo_153 (k := 7)  (q := 102) zr_dX3_two_98.2 (by decide +kernel) rfl
noncomputable def dX3_two_99 := zr_dX3_two_99.1
noncomputable def zr_dX3_two_102 := zo_4 (q := 103) zr_dX3_two_99.2 rfl
noncomputable def dX3_two_102 := zr_dX3_two_102.1
noncomputable def zr_dX3_two_103 := zo_167 (k := 4)  (q := 106) zr_dX3_two_102.2 (by decide +kernel) rfl
noncomputable def dX3_two_103 := zr_dX3_two_103.1
noncomputable def zr_dX3_two_106 := zo_3 (q := 107) zr_dX3_two_103.2 rfl
noncomputable def dX3_two_106 := zr_dX3_two_106.1
noncomputable def zr_dX3_two_107 := zo_172 (q := 108) zr_dX3_two_106.2 rfl
noncomputable def dX3_two_107 := zr_dX3_two_107.1
noncomputable def zr_dX3_two_108 := zo_27 (q := 109) zr_dX3_two_107.2 rfl
noncomputable def dX3_two_108 := zr_dX3_two_108.1
noncomputable def zr_dX3_two_109 := zo_154 (k := 7)  (q := 112) zr_dX3_two_108.2 (by decide +kernel) rfl
noncomputable def dX3_two_109 := zr_dX3_two_109.1
noncomputable def zr_dX3_two_112 := zo_28 (q := 113) zr_dX3_two_109.2 rfl
noncomputable def dX3_two_112 := zr_dX3_two_112.1
noncomputable def zr_dX3_two_113 := zo_153 (k := 7)  (q := 116) zr_dX3_two_112.2 (by decide +kernel) rfl
noncomputable def dX3_two_113 := zr_dX3_two_113.1
noncomputable def zr_dX3_two_116 := zo_4 (q := 117) zr_dX3_two_113.2 rfl
noncomputable def dX3_two_116 := zr_dX3_two_116.1
noncomputable def zr_dX3_two_117 := zo_167 (k := 4)  (q := 120) zr_dX3_two_116.2 (by decide +kernel) rfl
noncomputable def dX3_two_117 := zr_dX3_two_117.1
noncomputable def zr_dX3_two_120 := zo_3 (q := 121) zr_dX3_two_117.2 rfl
noncomputable def dX3_two_120 := zr_dX3_two_120.1
noncomputable def zr_dX3_two_121 := zo_172 (q := 122) zr_dX3_two_120.2 rfl
noncomputable def dX3_two_121 := zr_dX3_two_121.1
theorem zs_dX4_init_0 : zsuf cX4_init 0 cX4_init.data.toList := rfl
noncomputable def zr_dX4_init_0 := zo_42 (q := 1) zs_dX4_init_0 rfl
noncomputable def dX4_init_0 := zr_dX4_init_0.1
noncomputable def zr_dX4_init_1 := zo_183 (k := 3)  (q := 4) zr_dX4_init_0.2 rfl rfl
noncomputable def dX4_init_1 := zr_dX4_init_1.1
noncomputable def zr_dX4_init_4 := zo_42 (q := 5) zr_dX4_init_1.2 rfl
noncomputable def dX4_init_4 := zr_dX4_init_4.1
noncomputable def zr_dX4_init_5 := zo_16 (k := 6)  (q := 7) zr_dX4_init_4.2 (by decide +kernel) rfl
noncomputable def dX4_init_5 := zr_dX4_init_5.1
noncomputable def zr_dX4_init_7 := zo_16 (k := 6)  (q := 9) zr_dX4_init_5.2 (by decide +kernel) rfl
noncomputable def dX4_init_7 := zr_dX4_init_7.1
theorem dX4_init_9 : zD cX4_init 9 (.multianewarray 9 2) 4 := by decide +kernel
noncomputable def zr_dX4_init_9 := zskip zr_dX4_init_7.2 4 (q := 13) rfl
noncomputable def zr_dX4_init_13 := zo_181 (k := 11)  (q := 16) zr_dX4_init_9 rfl rfl
noncomputable def dX4_init_13 := zr_dX4_init_13.1
noncomputable def zr_dX4_init_16 := zo_42 (q := 17) zr_dX4_init_13.2 rfl
noncomputable def dX4_init_16 := zr_dX4_init_16.1
noncomputable def zr_dX4_init_17 := zo_16 (k := 64)  (q := 19) zr_dX4_init_16.2 (by decide +kernel) rfl
noncomputable def dX4_init_17 := zr_dX4_init_17.1
theorem dX4_init_19 : zD cX4_init 19 (.newarray .int) 2 := by decide +kernel
noncomputable def zr_dX4_init_19 := zskip zr_dX4_init_17.2 2 (q := 21) rfl
noncomputable def zr_dX4_init_21 := zo_181 (k := 16)  (q := 24) zr_dX4_init_19 rfl rfl
noncomputable def dX4_init_21 := zr_dX4_init_21.1
noncomputable def zr_dX4_init_24 := zo_177 (q := 25) zr_dX4_init_21.2 rfl
noncomputable def dX4_init_24 := zr_dX4_init_24.1
theorem zs_dX4_solve_0 : zsuf cX4_solve 0 cX4_solve.data.toList := rfl
noncomputable def zr_dX4_solve_0 := zo_4 (q := 1) zs_dX4_solve_0 rfl
noncomputable def dX4_solve_0 := zr_dX4_solve_0.1
noncomputable def zr_dX4_solve_1 := zo_27 (q := 2) zr_dX4_solve_0.2 rfl
noncomputable def dX4_solve_1 := zr_dX4_solve_1.1
theorem zo_120 {c : ByteArray} {p q : Nat} {L : List UInt8} (h : zsuf c p (120 :: L)) (hq : p + 1 = q) : zD c p .ishl 1 ∧ zsuf c q L := zfin hq (Eq.trans (zbd (zu1 (v := 120) h rfl)) rfl) (zsuf_tl h)
noncomputable def zr_dX4_solve_2 := zo_120 (q := 3) zr_dX4_solve_1.2 rfl
noncomputable def dX4_solve_2 := zr_dX4_solve_2.1
noncomputable def zr_dX4_solve_3 := zo_4 (q := 4) zr_dX4_solve_2.2 rfl
noncomputable def dX4_solve_3 := zr_dX4_solve_3.1
noncomputable def zr_dX4_solve_4 := zo_100 (q := 5) zr_dX4_solve_3.2 rfl
noncomputable def dX4_solve_4 := zr_dX4_solve_4.1
noncomputable def zr_dX4_solve_5 := zo_62 (q := 6) zr_dX4_solve_4.2 rfl
noncomputable def dX4_solve_5 := zr_dX4_solve_5.1
noncomputable def zr_dX4_solve_6 := zo_42 (q := 7) zr_dX4_solve_5.2 rfl
noncomputable def dX4_solve_6 := zr_dX4_solve_6.1
noncomputable def zr_dX4_solve_7 := zo_180 (k := 16)  (q := 10) zr_dX4_solve_6.2 rfl rfl
noncomputable def dX4_solve_7 := zr_dX4_solve_7.1
noncomputable def zr_dX4_solve_10 := zo_29 (q := 11) zr_dX4_solve_7.2 rfl
noncomputable def dX4_solve_10 := zr_dX4_solve_10.1
noncomputable def zr_dX4_solve_11 := zo_3 (q := 12) zr_dX4_solve_10.2 rfl
noncomputable def dX4_solve_11 := zr_dX4_solve_11.1
noncomputable def zr_dX4_solve_12 := zo_79 (q := 13) zr_dX4_solve_11.2 rfl
noncomputable def dX4_solve_12 := zr_dX4_solve_12.1
noncomputable def zr_dX4_solve_13 := zo_29 (q := 14) zr_dX4_solve_12.2 rfl
noncomputable def dX4_solve_13 := zr_dX4_solve_13.1
noncomputable def zr_dX4_solve_14 := zo_4 (q := 15) zr_dX4_solve_13.2 rfl
noncomputable def dX4_solve_14 := zr_dX4_solve_14.1
noncomputable def zr_dX4_solve_15 := zo_100 (q := 16) zr_dX4_solve_14.2 rfl
noncomputable def dX4_solve_15 := zr_dX4_solve_15.1
noncomputable def zr_dX4_solve_16 := zo_54 (k := 4)  (q := 18) zr_dX4_solve_15.2 rfl rfl
noncomputable def dX4_solve_16 := zr_dX4_solve_16.1
noncomputable def zr_dX4_solve_18 := zo_21 (k := 4)  (q := 20) zr_dX4_solve_16.2 rfl rfl
noncomputable def dX4_solve_18 := zr_dX4_solve_18.1
noncomputable def zr_dX4_solve_20 := zo_155 (k := 133)  (q := 23) zr_dX4_solve_18.2 (by decide +kernel) rfl
noncomputable def dX4_solve_20 := zr_dX4_solve_20.1
noncomputable def zr_dX4_solve_23 := zo_21 (k := 4)  (q := 25) zr_dX4_solve_20.2 rfl rfl
noncomputable def dX4_solve_23 := zr_dX4_solve_23.1
noncomputable def zr_dX4_solve_25 := zo_184 (k := 20)  (q := 28) zr_dX4_solve_23.2 rfl rfl
noncomputable def dX4_solve_25 := zr_dX4_solve_25.1
noncomputable def zr_dX4_solve_28 := zo_54 (k := 5)  (q := 30) zr_dX4_solve_25.2 rfl rfl
noncomputable def dX4_solve_28 := zr_dX4_solve_28.1
noncomputable def zr_dX4_solve_30 := zo_28 (q := 31) zr_dX4_solve_28.2 rfl
noncomputable def dX4_solve_30 := zr_dX4_solve_30.1
noncomputable def zr_dX4_solve_31 := zo_153 (k := 14)  (q := 34) zr_dX4_solve_30.2 (by decide +kernel) rfl
noncomputable def dX4_solve_31 := zr_dX4_solve_31.1
noncomputable def zr_dX4_solve_34 := zo_21 (k := 5)  (q := 36) zr_dX4_solve_31.2 rfl rfl
noncomputable def dX4_solve_34 := zr_dX4_solve_34.1
noncomputable def zr_dX4_solve_36 := zo_5 (q := 37) zr_dX4_solve_34.2 rfl
noncomputable def dX4_solve_36 := zr_dX4_solve_36.1
noncomputable def zr_dX4_solve_37 := zo_112 (q := 38) zr_dX4_solve_36.2 rfl
noncomputable def dX4_solve_37 := zr_dX4_solve_37.1
noncomputable def zr_dX4_solve_38 := zo_154 (k := 7)  (q := 41) zr_dX4_solve_37.2 (by decide +kernel) rfl
noncomputable def dX4_solve_38 := zr_dX4_solve_38.1
noncomputable def zr_dX4_solve_41 := zo_4 (q := 42) zr_dX4_solve_38.2 rfl
noncomputable def dX4_solve_41 := zr_dX4_solve_41.1
noncomputable def zr_dX4_solve_42 := zo_167 (k := 4)  (q := 45) zr_dX4_solve_41.2 (by decide +kernel) rfl
noncomputable def dX4_solve_42 := zr_dX4_solve_42.1
noncomputable def zr_dX4_solve_45 := zo_3 (q := 46) zr_dX4_solve_42.2 rfl
noncomputable def dX4_solve_45 := zr_dX4_solve_45.1
noncomputable def zr_dX4_solve_46 := zo_54 (k := 6)  (q := 48) zr_dX4_solve_45.2 rfl rfl
noncomputable def dX4_solve_46 := zr_dX4_solve_46.1
noncomputable def zr_dX4_solve_48 := zo_4 (q := 49) zr_dX4_solve_46.2 rfl
noncomputable def dX4_solve_48 := zr_dX4_solve_48.1
noncomputable def zr_dX4_solve_49 := zo_54 (k := 7)  (q := 51) zr_dX4_solve_48.2 rfl rfl
noncomputable def dX4_solve_49 := zr_dX4_solve_49.1
noncomputable def zr_dX4_solve_51 := zo_3 (q := 52) zr_dX4_solve_49.2 rfl
noncomputable def dX4_solve_51 := zr_dX4_solve_51.1
noncomputable def zr_dX4_solve_52 := zo_54 (k := 8)  (q := 54) zr_dX4_solve_51.2 rfl rfl
noncomputable def dX4_solve_52 := zr_dX4_solve_52.1
noncomputable def zr_dX4_solve_54 := zo_3 (q := 55) zr_dX4_solve_52.2 rfl
noncomputable def dX4_solve_54 := zr_dX4_solve_54.1
noncomputable def zr_dX4_solve_55 := zo_54 (k := 9)  (q := 57) zr_dX4_solve_54.2 rfl rfl
noncomputable def dX4_solve_55 := zr_dX4_solve_55.1
noncomputable def zr_dX4_solve_57 := zo_21 (k := 9)  (q := 59) zr_dX4_solve_55.2 rfl rfl
noncomputable def dX4_solve_57 := zr_dX4_solve_57.1
noncomputable def zr_dX4_solve_59 := zo_27 (q := 60) zr_dX4_solve_57.2 rfl
noncomputable def dX4_solve_59 := zr_dX4_solve_59.1
noncomputable def zr_dX4_solve_60 := zo_162 (k := 78)  (q := 63) zr_dX4_solve_59.2 (by decide +kernel) rfl
noncomputable def dX4_solve_60 := zr_dX4_solve_60.1
noncomputable def zr_dX4_solve_63 := zo_21 (k := 4)  (q := 65) zr_dX4_solve_60.2 rfl rfl
noncomputable def dX4_solve_63 := zr_dX4_solve_63.1
noncomputable def zr_dX4_solve_65 := zo_21 (k := 9)  (q := 67) zr_dX4_solve_63.2 rfl rfl
noncomputable def dX4_solve_65 := zr_dX4_solve_65.1
theorem zo_122 {c : ByteArray} {p q : Nat} {L : List UInt8} (h : zsuf c p (122 :: L)) (hq : p + 1 = q) : zD c p .ishr 1 ∧ zsuf c q L := zfin hq (Eq.trans (zbd (zu1 (v := 122) h rfl)) rfl) (zsuf_tl h)
noncomputable def zr_dX4_solve_67 := zo_122 (q := 68) zr_dX4_solve_65.2 rfl
noncomputable def dX4_solve_67 := zr_dX4_solve_67.1
noncomputable def zr_dX4_solve_68 := zo_4 (q := 69) zr_dX4_solve_67.2 rfl
noncomputable def dX4_solve_68 := zr_dX4_solve_68.1
theorem zo_126 {c : ByteArray} {p q : Nat} {L : List UInt8} (h : zsuf c p (126 :: L)) (hq : p + 1 = q) : zD c p .iand 1 ∧ zsuf c q L := zfin hq (Eq.trans (zbd (zu1 (v := 126) h rfl)) rfl) (zsuf_tl h)
noncomputable def zr_dX4_solve_69 := zo_126 (q := 70) zr_dX4_solve_68.2 rfl
noncomputable def dX4_solve_69 := zr_dX4_solve_69.1
noncomputable def zr_dX4_solve_70 := zo_154 (k := 62)  (q := 73) zr_dX4_solve_69.2 (by decide +kernel) rfl
noncomputable def dX4_solve_70 := zr_dX4_solve_70.1
noncomputable def zr_dX4_solve_73 := zo_42 (q := 74) zr_dX4_solve_70.2 rfl
noncomputable def dX4_solve_73 := zr_dX4_solve_73.1
noncomputable def zr_dX4_solve_74 := zo_180 (k := 11)  (q := 77) zr_dX4_solve_73.2 rfl rfl
noncomputable def dX4_solve_74 := zr_dX4_solve_74.1
noncomputable def zr_dX4_solve_77 := zo_21 (k := 5)  (q := 79) zr_dX4_solve_74.2 rfl rfl
noncomputable def dX4_solve_77 := zr_dX4_solve_77.1
noncomputable def zr_dX4_solve_79 := zo_50 (q := 80) zr_dX4_solve_77.2 rfl
noncomputable def dX4_solve_79 := zr_dX4_solve_79.1
noncomputable def zr_dX4_solve_80 := zo_21 (k := 9)  (q := 82) zr_dX4_solve_79.2 rfl rfl
noncomputable def dX4_solve_80 := zr_dX4_solve_80.1
noncomputable def zr_dX4_solve_82 := zo_46 (q := 83) zr_dX4_solve_80.2 rfl
noncomputable def dX4_solve_82 := zr_dX4_solve_82.1
noncomputable def zr_dX4_solve_83 := zo_42 (q := 84) zr_dX4_solve_82.2 rfl
noncomputable def dX4_solve_83 := zr_dX4_solve_83.1
noncomputable def zr_dX4_solve_84 := zo_180 (k := 16)  (q := 87) zr_dX4_solve_83.2 rfl rfl
noncomputable def dX4_solve_84 := zr_dX4_solve_84.1
noncomputable def zr_dX4_solve_87 := zo_21 (k := 4)  (q := 89) zr_dX4_solve_84.2 rfl rfl
noncomputable def dX4_solve_87 := zr_dX4_solve_87.1
noncomputable def zr_dX4_solve_89 := zo_4 (q := 90) zr_dX4_solve_87.2 rfl
noncomputable def dX4_solve_89 := zr_dX4_solve_89.1
noncomputable def zr_dX4_solve_90 := zo_21 (k := 9)  (q := 92) zr_dX4_solve_89.2 rfl rfl
noncomputable def dX4_solve_90 := zr_dX4_solve_90.1
noncomputable def zr_dX4_solve_92 := zo_120 (q := 93) zr_dX4_solve_90.2 rfl
noncomputable def dX4_solve_92 := zr_dX4_solve_92.1
theorem zo_128 {c : ByteArray} {p q : Nat} {L : List UInt8} (h : zsuf c p (128 :: L)) (hq : p + 1 = q) : zD c p .ior 1 ∧ zsuf c q L := zfin hq (Eq.trans (zbd (zu1 (v := 128) h rfl)) rfl) (zsuf_tl h)
noncomputable def zr_dX4_solve_93 := zo_128 (q := 94) zr_dX4_solve_92.2 rfl
noncomputable def dX4_solve_93 := zr_dX4_solve_93.1
noncomputable def zr_dX4_solve_94 := zo_46 (q := 95) zr_dX4_solve_93.2 rfl
noncomputable def dX4_solve_94 := zr_dX4_solve_94.1
noncomputable def zr_dX4_solve_95 := zo_96 (q := 96) zr_dX4_solve_94.2 rfl
noncomputable def dX4_solve_95 := zr_dX4_solve_95.1
noncomputable def zr_dX4_solve_96 := zo_54 (k := 10)  (q := 98) zr_dX4_solve_95.2 rfl rfl
noncomputable def dX4_solve_96 := zr_dX4_solve_96.1
noncomputable def zr_dX4_solve_98 := zo_21 (k := 7)  (q := 100) zr_dX4_solve_96.2 rfl rfl
noncomputable def dX4_solve_98 := zr_dX4_solve_98.1
noncomputable def zr_dX4_solve_100 := zo_154 (k := 25)  (q := 103) zr_dX4_solve_98.2 (by decide +kernel) rfl
noncomputable def dX4_solve_100 := zr_dX4_solve_100.1
noncomputable def zr_dX4_solve_103 := zo_21 (k := 6)  (q := 105) zr_dX4_solve_100.2 rfl rfl
noncomputable def dX4_solve_103 := zr_dX4_solve_103.1
noncomputable def zr_dX4_solve_105 := zo_153 (k := 13)  (q := 108) zr_dX4_solve_103.2 (by decide +kernel) rfl
noncomputable def dX4_solve_105 := zr_dX4_solve_105.1
noncomputable def zr_dX4_solve_108 := zo_21 (k := 10)  (q := 110) zr_dX4_solve_105.2 rfl rfl
noncomputable def dX4_solve_108 := zr_dX4_solve_108.1
noncomputable def zr_dX4_solve_110 := zo_21 (k := 8)  (q := 112) zr_dX4_solve_108.2 rfl rfl
noncomputable def dX4_solve_110 := zr_dX4_solve_110.1
noncomputable def zr_dX4_solve_112 := zo_164 (k := 17)  (q := 115) zr_dX4_solve_110.2 (by decide +kernel) rfl
noncomputable def dX4_solve_112 := zr_dX4_solve_112.1
noncomputable def zr_dX4_solve_115 := zo_167 (k := 10)  (q := 118) zr_dX4_solve_112.2 (by decide +kernel) rfl
noncomputable def dX4_solve_115 := zr_dX4_solve_115.1
noncomputable def zr_dX4_solve_118 := zo_21 (k := 10)  (q := 120) zr_dX4_solve_115.2 rfl rfl
noncomputable def dX4_solve_118 := zr_dX4_solve_118.1
noncomputable def zr_dX4_solve_120 := zo_21 (k := 8)  (q := 122) zr_dX4_solve_118.2 rfl rfl
noncomputable def dX4_solve_120 := zr_dX4_solve_120.1
noncomputable def zr_dX4_solve_122 := zo_162 (k := 7)  (q := 125) zr_dX4_solve_120.2 (by decide +kernel) rfl
noncomputable def dX4_solve_122 := zr_dX4_solve_122.1
noncomputable def zr_dX4_solve_125 := zo_21 (k := 10)  (q := 127) zr_dX4_solve_122.2 rfl rfl
noncomputable def dX4_solve_125 := zr_dX4_solve_125.1
noncomputable def zr_dX4_solve_127 := zo_54 (k := 8)  (q := 129) zr_dX4_solve_125.2 rfl rfl
noncomputable def dX4_solve_127 := zr_dX4_solve_127.1
noncomputable def zr_dX4_solve_129 := zo_3 (q := 130) zr_dX4_solve_127.2 rfl
noncomputable def dX4_solve_129 := zr_dX4_solve_129.1
noncomputable def zr_dX4_solve_130 := zo_54 (k := 7)  (q := 132) zr_dX4_solve_129.2 rfl rfl
noncomputable def dX4_solve_130 := zr_dX4_solve_130.1
noncomputable def zr_dX4_solve_132 := zo_132 (k := 9) (o := 1)  (q := 135) zr_dX4_solve_130.2 rfl (by decide +kernel) rfl
noncomputable def dX4_solve_132 := zr_dX4_solve_132.1
noncomputable def zr_dX4_solve_135 := zo_167 (k := -78)  (q := 138) zr_dX4_solve_132.2 (by decide +kernel) rfl
noncomputable def dX4_solve_135 := zr_dX4_solve_135.1
noncomputable def zr_dX4_solve_138 := zo_42 (q := 139) zr_dX4_solve_135.2 rfl
noncomputable def dX4_solve_138 := zr_dX4_solve_138.1
noncomputable def zr_dX4_solve_139 := zo_180 (k := 16)  (q := 142) zr_dX4_solve_138.2 rfl rfl
noncomputable def dX4_solve_139 := zr_dX4_solve_139.1
noncomputable def zr_dX4_solve_142 := zo_21 (k := 4)  (q := 144) zr_dX4_solve_139.2 rfl rfl
noncomputable def dX4_solve_142 := zr_dX4_solve_142.1
noncomputable def zr_dX4_solve_144 := zo_21 (k := 8)  (q := 146) zr_dX4_solve_142.2 rfl rfl
noncomputable def dX4_solve_144 := zr_dX4_solve_144.1
noncomputable def zr_dX4_solve_146 := zo_79 (q := 147) zr_dX4_solve_144.2 rfl
noncomputable def dX4_solve_146 := zr_dX4_solve_146.1
noncomputable def zr_dX4_solve_147 := zo_132 (k := 4) (o := (-1))  (q := 150) zr_dX4_solve_146.2 rfl (by decide +kernel) rfl
noncomputable def dX4_solve_147 := zr_dX4_solve_147.1
noncomputable def zr_dX4_solve_150 := zo_167 (k := -132)  (q := 153) zr_dX4_solve_147.2 (by decide +kernel) rfl
noncomputable def dX4_solve_150 := zr_dX4_solve_150.1
noncomputable def zr_dX4_solve_153 := zo_177 (q := 154) zr_dX4_solve_150.2 rfl
noncomputable def dX4_solve_153 := zr_dX4_solve_153.1
theorem zs_dX4_total_0 : zsuf cX4_total 0 cX4_total.data.toList := rfl
noncomputable def zr_dX4_total_0 := zo_42 (q := 1) zs_dX4_total_0 rfl
noncomputable def dX4_total_0 := zr_dX4_total_0.1
noncomputable def zr_dX4_total_1 := zo_180 (k := 16)  (q := 4) zr_dX4_total_0.2 rfl rfl
noncomputable def dX4_total_1 := zr_dX4_total_1.1
noncomputable def zr_dX4_total_4 := zo_3 (q := 5) zr_dX4_total_1.2 rfl
noncomputable def dX4_total_4 := zr_dX4_total_4.1
noncomputable def zr_dX4_total_5 := zo_46 (q := 6) zr_dX4_total_4.2 rfl
noncomputable def dX4_total_5 := zr_dX4_total_5.1
noncomputable def zr_dX4_total_6 := zo_172 (q := 7) zr_dX4_total_5.2 rfl
noncomputable def dX4_total_6 := zr_dX4_total_6.1
theorem zs_dX4_chosen_0 : zsuf cX4_chosen 0 cX4_chosen.data.toList := rfl
noncomputable def zr_dX4_chosen_0 := zo_27 (q := 1) zs_dX4_chosen_0 rfl
noncomputable def dX4_chosen_0 := zr_dX4_chosen_0.1
noncomputable def zr_dX4_chosen_1 := zo_184 (k := 20)  (q := 4) zr_dX4_chosen_0.2 rfl rfl
noncomputable def dX4_chosen_1 := zr_dX4_chosen_1.1
noncomputable def zr_dX4_chosen_4 := zo_62 (q := 5) zr_dX4_chosen_1.2 rfl
noncomputable def dX4_chosen_4 := zr_dX4_chosen_4.1
noncomputable def zr_dX4_chosen_5 := zo_3 (q := 6) zr_dX4_chosen_4.2 rfl
noncomputable def dX4_chosen_5 := zr_dX4_chosen_5.1
noncomputable def zr_dX4_chosen_6 := zo_54 (k := 4)  (q := 8) zr_dX4_chosen_5.2 rfl rfl
noncomputable def dX4_chosen_6 := zr_dX4_chosen_6.1
noncomputable def zr_dX4_chosen_8 := zo_21 (k := 4)  (q := 10) zr_dX4_chosen_6.2 rfl rfl
noncomputable def dX4_chosen_8 := zr_dX4_chosen_8.1
noncomputable def zr_dX4_chosen_10 := zo_28 (q := 11) zr_dX4_chosen_8.2 rfl
noncomputable def dX4_chosen_10 := zr_dX4_chosen_10.1
noncomputable def zr_dX4_chosen_11 := zo_162 (k := 51)  (q := 14) zr_dX4_chosen_10.2 (by decide +kernel) rfl
noncomputable def dX4_chosen_11 := zr_dX4_chosen_11.1
noncomputable def zr_dX4_chosen_14 := zo_27 (q := 15) zr_dX4_chosen_11.2 rfl
noncomputable def dX4_chosen_14 := zr_dX4_chosen_14.1
noncomputable def zr_dX4_chosen_15 := zo_21 (k := 4)  (q := 17) zr_dX4_chosen_14.2 rfl rfl
noncomputable def dX4_chosen_15 := zr_dX4_chosen_15.1
noncomputable def zr_dX4_chosen_17 := zo_122 (q := 18) zr_dX4_chosen_15.2 rfl
noncomputable def dX4_chosen_17 := zr_dX4_chosen_17.1
noncomputable def zr_dX4_chosen_18 := zo_4 (q := 19) zr_dX4_chosen_17.2 rfl
noncomputable def dX4_chosen_18 := zr_dX4_chosen_18.1
noncomputable def zr_dX4_chosen_19 := zo_126 (q := 20) zr_dX4_chosen_18.2 rfl
noncomputable def dX4_chosen_19 := zr_dX4_chosen_19.1
noncomputable def zr_dX4_chosen_20 := zo_154 (k := 36)  (q := 23) zr_dX4_chosen_19.2 (by decide +kernel) rfl
noncomputable def dX4_chosen_20 := zr_dX4_chosen_20.1
noncomputable def zr_dX4_chosen_23 := zo_42 (q := 24) zr_dX4_chosen_20.2 rfl
noncomputable def dX4_chosen_23 := zr_dX4_chosen_23.1
noncomputable def zr_dX4_chosen_24 := zo_180 (k := 11)  (q := 27) zr_dX4_chosen_23.2 rfl rfl
noncomputable def dX4_chosen_24 := zr_dX4_chosen_24.1
noncomputable def zr_dX4_chosen_27 := zo_29 (q := 28) zr_dX4_chosen_24.2 rfl
noncomputable def dX4_chosen_27 := zr_dX4_chosen_27.1
noncomputable def zr_dX4_chosen_28 := zo_50 (q := 29) zr_dX4_chosen_27.2 rfl
noncomputable def dX4_chosen_28 := zr_dX4_chosen_28.1
noncomputable def zr_dX4_chosen_29 := zo_21 (k := 4)  (q := 31) zr_dX4_chosen_28.2 rfl rfl
noncomputable def dX4_chosen_29 := zr_dX4_chosen_29.1
noncomputable def zr_dX4_chosen_31 := zo_46 (q := 32) zr_dX4_chosen_29.2 rfl
noncomputable def dX4_chosen_31 := zr_dX4_chosen_31.1
noncomputable def zr_dX4_chosen_32 := zo_42 (q := 33) zr_dX4_chosen_31.2 rfl
noncomputable def dX4_chosen_32 := zr_dX4_chosen_32.1
noncomputable def zr_dX4_chosen_33 := zo_180 (k := 16)  (q := 36) zr_dX4_chosen_32.2 rfl rfl
noncomputable def dX4_chosen_33 := zr_dX4_chosen_33.1
noncomputable def zr_dX4_chosen_36 := zo_27 (q := 37) zr_dX4_chosen_33.2 rfl
noncomputable def dX4_chosen_36 := zr_dX4_chosen_36.1
noncomputable def zr_dX4_chosen_37 := zo_4 (q := 38) zr_dX4_chosen_36.2 rfl
noncomputable def dX4_chosen_37 := zr_dX4_chosen_37.1
noncomputable def zr_dX4_chosen_38 := zo_21 (k := 4)  (q := 40) zr_dX4_chosen_37.2 rfl rfl
noncomputable def dX4_chosen_38 := zr_dX4_chosen_38.1
noncomputable def zr_dX4_chosen_40 := zo_120 (q := 41) zr_dX4_chosen_38.2 rfl
noncomputable def dX4_chosen_40 := zr_dX4_chosen_40.1
noncomputable def zr_dX4_chosen_41 := zo_128 (q := 42) zr_dX4_chosen_40.2 rfl
noncomputable def dX4_chosen_41 := zr_dX4_chosen_41.1
noncomputable def zr_dX4_chosen_42 := zo_46 (q := 43) zr_dX4_chosen_41.2 rfl
noncomputable def dX4_chosen_42 := zr_dX4_chosen_42.1
noncomputable def zr_dX4_chosen_43 := zo_96 (q := 44) zr_dX4_chosen_42.2 rfl
noncomputable def dX4_chosen_43 := zr_dX4_chosen_43.1
noncomputable def zr_dX4_chosen_44 := zo_42 (q := 45) zr_dX4_chosen_43.2 rfl
noncomputable def dX4_chosen_44 := zr_dX4_chosen_44.1
noncomputable def zr_dX4_chosen_45 := zo_180 (k := 16)  (q := 48) zr_dX4_chosen_44.2 rfl rfl
noncomputable def dX4_chosen_45 := zr_dX4_chosen_45.1
noncomputable def zr_dX4_chosen_48 := zo_27 (q := 49) zr_dX4_chosen_45.2 rfl
noncomputable def dX4_chosen_48 := zr_dX4_chosen_48.1
noncomputable def zr_dX4_chosen_49 := zo_46 (q := 50) zr_dX4_chosen_48.2 rfl
noncomputable def dX4_chosen_49 := zr_dX4_chosen_49.1
noncomputable def zr_dX4_chosen_50 := zo_160 (k := 6)  (q := 53) zr_dX4_chosen_49.2 (by decide +kernel) rfl
noncomputable def dX4_chosen_50 := zr_dX4_chosen_50.1
noncomputable def zr_dX4_chosen_53 := zo_21 (k := 4)  (q := 55) zr_dX4_chosen_50.2 rfl rfl
noncomputable def dX4_chosen_53 := zr_dX4_chosen_53.1
noncomputable def zr_dX4_chosen_55 := zo_172 (q := 56) zr_dX4_chosen_53.2 rfl
noncomputable def dX4_chosen_55 := zr_dX4_chosen_55.1
noncomputable def zr_dX4_chosen_56 := zo_132 (k := 4) (o := 1)  (q := 59) zr_dX4_chosen_55.2 rfl (by decide +kernel) rfl
noncomputable def dX4_chosen_56 := zr_dX4_chosen_56.1
noncomputable def zr_dX4_chosen_59 := zo_167 (k := -51)  (q := 62) zr_dX4_chosen_56.2 (by decide +kernel) rfl
noncomputable def dX4_chosen_59 := zr_dX4_chosen_59.1
noncomputable def zr_dX4_chosen_62 := zo_2 (q := 63) zr_dX4_chosen_59.2 rfl
noncomputable def dX4_chosen_62 := zr_dX4_chosen_62.1
noncomputable def zr_dX4_chosen_63 := zo_172 (q := 64) zr_dX4_chosen_62.2 rfl
noncomputable def dX4_chosen_63 := zr_dX4_chosen_63.1
theorem zs_dX4_digits_0 : zsuf cX4_digits 0 cX4_digits.data.toList := rfl
noncomputable def zr_dX4_digits_0 := zo_3 (q := 1) zs_dX4_digits_0 rfl
noncomputable def dX4_digits_0 := zr_dX4_digits_0.1
noncomputable def zr_dX4_digits_1 := zo_61 (q := 2) zr_dX4_digits_0.2 rfl
noncomputable def dX4_digits_1 := zr_dX4_digits_1.1
noncomputable def zr_dX4_digits_2 := zo_3 (q := 3) zr_dX4_digits_1.2 rfl
noncomputable def dX4_digits_2 := zr_dX4_digits_2.1
noncomputable def zr_dX4_digits_3 := zo_62 (q := 4) zr_dX4_digits_2.2 rfl
noncomputable def dX4_digits_3 := zr_dX4_digits_3.1
noncomputable def zr_dX4_digits_4 := zo_3 (q := 5) zr_dX4_digits_3.2 rfl
noncomputable def dX4_digits_4 := zr_dX4_digits_4.1
noncomputable def zr_dX4_digits_5 := zo_54 (k := 4)  (q := 7) zr_dX4_digits_4.2 rfl rfl
noncomputable def dX4_digits_5 := zr_dX4_digits_5.1
noncomputable def zr_dX4_digits_7 := zo_21 (k := 4)  (q := 9) zr_dX4_digits_5.2 rfl rfl
noncomputable def dX4_digits_7 := zr_dX4_digits_7.1
noncomputable def zr_dX4_digits_9 := zo_27 (q := 10) zr_dX4_digits_7.2 rfl
noncomputable def dX4_digits_9 := zr_dX4_digits_9.1
noncomputable def zr_dX4_digits_10 := zo_162 (k := 41)  (q := 13) zr_dX4_digits_9.2 (by decide +kernel) rfl
noncomputable def dX4_digits_10 := zr_dX4_digits_10.1
noncomputable def zr_dX4_digits_13 := zo_42 (q := 14) zr_dX4_digits_10.2 rfl
noncomputable def dX4_digits_13 := zr_dX4_digits_13.1
noncomputable def zr_dX4_digits_14 := zo_28 (q := 15) zr_dX4_digits_13.2 rfl
noncomputable def dX4_digits_14 := zr_dX4_digits_14.1
noncomputable def zr_dX4_digits_15 := zo_27 (q := 16) zr_dX4_digits_14.2 rfl
noncomputable def dX4_digits_15 := zr_dX4_digits_15.1
noncomputable def zr_dX4_digits_16 := zo_182 (k := 26)  (q := 19) zr_dX4_digits_15.2 rfl rfl
noncomputable def dX4_digits_16 := zr_dX4_digits_16.1
noncomputable def zr_dX4_digits_19 := zo_54 (k := 5)  (q := 21) zr_dX4_digits_16.2 rfl rfl
noncomputable def dX4_digits_19 := zr_dX4_digits_19.1
noncomputable def zr_dX4_digits_21 := zo_21 (k := 5)  (q := 23) zr_dX4_digits_19.2 rfl rfl
noncomputable def dX4_digits_21 := zr_dX4_digits_21.1
noncomputable def zr_dX4_digits_23 := zo_156 (k := 5)  (q := 26) zr_dX4_digits_21.2 (by decide +kernel) rfl
noncomputable def dX4_digits_23 := zr_dX4_digits_23.1
noncomputable def zr_dX4_digits_26 := zo_2 (q := 27) zr_dX4_digits_23.2 rfl
noncomputable def dX4_digits_26 := zr_dX4_digits_26.1
noncomputable def zr_dX4_digits_27 := zo_172 (q := 28) zr_dX4_digits_26.2 rfl
noncomputable def dX4_digits_27 := zr_dX4_digits_27.1
noncomputable def zr_dX4_digits_28 := zo_16 (k := 10)  (q := 30) zr_dX4_digits_27.2 (by decide +kernel) rfl
noncomputable def dX4_digits_28 := zr_dX4_digits_28.1
noncomputable def zr_dX4_digits_30 := zo_29 (q := 31) zr_dX4_digits_28.2 rfl
noncomputable def dX4_digits_30 := zr_dX4_digits_30.1
noncomputable def zr_dX4_digits_31 := zo_104 (q := 32) zr_dX4_digits_30.2 rfl
noncomputable def dX4_digits_31 := zr_dX4_digits_31.1
noncomputable def zr_dX4_digits_32 := zo_21 (k := 5)  (q := 34) zr_dX4_digits_31.2 rfl rfl
noncomputable def dX4_digits_32 := zr_dX4_digits_32.1
noncomputable def zr_dX4_digits_34 := zo_96 (q := 35) zr_dX4_digits_32.2 rfl
noncomputable def dX4_digits_34 := zr_dX4_digits_34.1
noncomputable def zr_dX4_digits_35 := zo_4 (q := 36) zr_dX4_digits_34.2 rfl
noncomputable def dX4_digits_35 := zr_dX4_digits_35.1
noncomputable def zr_dX4_digits_36 := zo_96 (q := 37) zr_dX4_digits_35.2 rfl
noncomputable def dX4_digits_36 := zr_dX4_digits_36.1
noncomputable def zr_dX4_digits_37 := zo_62 (q := 38) zr_dX4_digits_36.2 rfl
noncomputable def dX4_digits_37 := zr_dX4_digits_37.1
noncomputable def zr_dX4_digits_38 := zo_28 (q := 39) zr_dX4_digits_37.2 rfl
noncomputable def dX4_digits_38 := zr_dX4_digits_38.1
noncomputable def zr_dX4_digits_39 := zo_4 (q := 40) zr_dX4_digits_38.2 rfl
noncomputable def dX4_digits_39 := zr_dX4_digits_39.1
noncomputable def zr_dX4_digits_40 := zo_21 (k := 5)  (q := 42) zr_dX4_digits_39.2 rfl rfl
noncomputable def dX4_digits_40 := zr_dX4_digits_40.1
noncomputable def zr_dX4_digits_42 := zo_120 (q := 43) zr_dX4_digits_40.2 rfl
noncomputable def dX4_digits_42 := zr_dX4_digits_42.1
noncomputable def zr_dX4_digits_43 := zo_128 (q := 44) zr_dX4_digits_42.2 rfl
noncomputable def dX4_digits_43 := zr_dX4_digits_43.1
noncomputable def zr_dX4_digits_44 := zo_61 (q := 45) zr_dX4_digits_43.2 rfl
noncomputable def dX4_digits_44 := zr_dX4_digits_44.1
noncomputable def zr_dX4_digits_45 := zo_132 (k := 4) (o := 1)  (q := 48) zr_dX4_digits_44.2 rfl (by decide +kernel) rfl
noncomputable def dX4_digits_45 := zr_dX4_digits_45.1
noncomputable def zr_dX4_digits_48 := zo_167 (k := -41)  (q := 51) zr_dX4_digits_45.2 (by decide +kernel) rfl
noncomputable def dX4_digits_48 := zr_dX4_digits_48.1
noncomputable def zr_dX4_digits_51 := zo_27 (q := 52) zr_dX4_digits_48.2 rfl
noncomputable def dX4_digits_51 := zr_dX4_digits_51.1
noncomputable def zr_dX4_digits_52 := zo_154 (k := 7)  (q := 55) zr_dX4_digits_51.2 (by decide +kernel) rfl
noncomputable def dX4_digits_52 := zr_dX4_digits_52.1
noncomputable def zr_dX4_digits_55 := zo_2 (q := 56) zr_dX4_digits_52.2 rfl
noncomputable def dX4_digits_55 := zr_dX4_digits_55.1
noncomputable def zr_dX4_digits_56 := zo_167 (k := 4)  (q := 59) zr_dX4_digits_55.2 (by decide +kernel) rfl
noncomputable def dX4_digits_56 := zr_dX4_digits_56.1
noncomputable def zr_dX4_digits_59 := zo_29 (q := 60) zr_dX4_digits_56.2 rfl
noncomputable def dX4_digits_59 := zr_dX4_digits_59.1
noncomputable def zr_dX4_digits_60 := zo_172 (q := 61) zr_dX4_digits_59.2 rfl
noncomputable def dX4_digits_60 := zr_dX4_digits_60.1
theorem zs_dX5_init_0 : zsuf cX5_init 0 cX5_init.data.toList := rfl
noncomputable def zr_dX5_init_0 := zo_42 (q := 1) zs_dX5_init_0 rfl
noncomputable def dX5_init_0 := zr_dX5_init_0.1
noncomputable def zr_dX5_init_1 := zo_183 (k := 1)  (q := 4) zr_dX5_init_0.2 rfl rfl
noncomputable def dX5_init_1 := zr_dX5_init_1.1
noncomputable def zr_dX5_init_4 := zo_42 (q := 5) zr_dX5_init_1.2 rfl
noncomputable def dX5_init_4 := zr_dX5_init_4.1
theorem zo_187 {c : ByteArray} {p q : Nat} {x y : UInt8} {L : List UInt8} {k : Nat} (h : zsuf c p (187 :: x :: y :: L)) (hk : x.toNat * 256 + y.toNat = k) (hq : p + 3 = q) : zD c p (.new k) 3 ∧ zsuf c q L := zfin hq (Eq.trans (zbd (zu1 (v := 187) h rfl)) (Eq.trans (zbd (zu2 (zsuf_tl h) hk)) rfl)) (zsuf_tl (zsuf_tl (zsuf_tl h)))
noncomputable def zr_dX5_init_5 := zo_187 (k := 7)  (q := 8) zr_dX5_init_4.2 rfl rfl
noncomputable def dX5_init_5 := zr_dX5_init_5.1
noncomputable def zr_dX5_init_8 := zo_89 (q := 9) zr_dX5_init_5.2 rfl
noncomputable def dX5_init_8 := zr_dX5_init_8.1
noncomputable def zr_dX5_init_9 := zo_183 (k := 9)  (q := 12) zr_dX5_init_8.2 rfl rfl
noncomputable def dX5_init_9 := zr_dX5_init_9.1
noncomputable def zr_dX5_init_12 := zo_181 (k := 10)  (q := 15) zr_dX5_init_9.2 rfl rfl
noncomputable def dX5_init_12 := zr_dX5_init_12.1
noncomputable def zr_dX5_init_15 := zo_42 (q := 16) zr_dX5_init_12.2 rfl
noncomputable def dX5_init_15 := zr_dX5_init_15.1
noncomputable def zr_dX5_init_16 := zo_187 (k := 16)  (q := 19) zr_dX5_init_15.2 rfl rfl
noncomputable def dX5_init_16 := zr_dX5_init_16.1
noncomputable def zr_dX5_init_19 := zo_89 (q := 20) zr_dX5_init_16.2 rfl
noncomputable def dX5_init_19 := zr_dX5_init_19.1
noncomputable def zr_dX5_init_20 := zo_42 (q := 21) zr_dX5_init_19.2 rfl
noncomputable def dX5_init_20 := zr_dX5_init_20.1
noncomputable def zr_dX5_init_21 := zo_180 (k := 10)  (q := 24) zr_dX5_init_20.2 rfl rfl
noncomputable def dX5_init_21 := zr_dX5_init_21.1
noncomputable def zr_dX5_init_24 := zo_183 (k := 18)  (q := 27) zr_dX5_init_21.2 rfl rfl
noncomputable def dX5_init_24 := zr_dX5_init_24.1
noncomputable def zr_dX5_init_27 := zo_181 (k := 21)  (q := 30) zr_dX5_init_24.2 rfl rfl
noncomputable def dX5_init_27 := zr_dX5_init_27.1
noncomputable def zr_dX5_init_30 := zo_42 (q := 31) zr_dX5_init_27.2 rfl
noncomputable def dX5_init_30 := zr_dX5_init_30.1
noncomputable def zr_dX5_init_31 := zo_187 (k := 25)  (q := 34) zr_dX5_init_30.2 rfl rfl
noncomputable def dX5_init_31 := zr_dX5_init_31.1
noncomputable def zr_dX5_init_34 := zo_89 (q := 35) zr_dX5_init_31.2 rfl
noncomputable def dX5_init_34 := zr_dX5_init_34.1
noncomputable def zr_dX5_init_35 := zo_42 (q := 36) zr_dX5_init_34.2 rfl
noncomputable def dX5_init_35 := zr_dX5_init_35.1
noncomputable def zr_dX5_init_36 := zo_180 (k := 10)  (q := 39) zr_dX5_init_35.2 rfl rfl
noncomputable def dX5_init_36 := zr_dX5_init_36.1
noncomputable def zr_dX5_init_39 := zo_183 (k := 27)  (q := 42) zr_dX5_init_36.2 rfl rfl
noncomputable def dX5_init_39 := zr_dX5_init_39.1
noncomputable def zr_dX5_init_42 := zo_181 (k := 28)  (q := 45) zr_dX5_init_39.2 rfl rfl
noncomputable def dX5_init_42 := zr_dX5_init_42.1
noncomputable def zr_dX5_init_45 := zo_42 (q := 46) zr_dX5_init_42.2 rfl
noncomputable def dX5_init_45 := zr_dX5_init_45.1
noncomputable def zr_dX5_init_46 := zo_187 (k := 25)  (q := 49) zr_dX5_init_45.2 rfl rfl
noncomputable def dX5_init_46 := zr_dX5_init_46.1
noncomputable def zr_dX5_init_49 := zo_89 (q := 50) zr_dX5_init_46.2 rfl
noncomputable def dX5_init_49 := zr_dX5_init_49.1
noncomputable def zr_dX5_init_50 := zo_42 (q := 51) zr_dX5_init_49.2 rfl
noncomputable def dX5_init_50 := zr_dX5_init_50.1
noncomputable def zr_dX5_init_51 := zo_180 (k := 10)  (q := 54) zr_dX5_init_50.2 rfl rfl
noncomputable def dX5_init_51 := zr_dX5_init_51.1
noncomputable def zr_dX5_init_54 := zo_183 (k := 27)  (q := 57) zr_dX5_init_51.2 rfl rfl
noncomputable def dX5_init_54 := zr_dX5_init_54.1
noncomputable def zr_dX5_init_57 := zo_181 (k := 32)  (q := 60) zr_dX5_init_54.2 rfl rfl
noncomputable def dX5_init_57 := zr_dX5_init_57.1
noncomputable def zr_dX5_init_60 := zo_42 (q := 61) zr_dX5_init_57.2 rfl
noncomputable def dX5_init_60 := zr_dX5_init_60.1
noncomputable def zr_dX5_init_61 := zo_187 (k := 25)  (q := 64) zr_dX5_init_60.2 rfl rfl
noncomputable def dX5_init_61 := zr_dX5_init_61.1
noncomputable def zr_dX5_init_64 := zo_89 (q := 65) zr_dX5_init_61.2 rfl
noncomputable def dX5_init_64 := zr_dX5_init_64.1
noncomputable def zr_dX5_init_65 := zo_42 (q := 66) zr_dX5_init_64.2 rfl
noncomputable def dX5_init_65 := zr_dX5_init_65.1
noncomputable def zr_dX5_init_66 := zo_180 (k := 10)  (q := 69) zr_dX5_init_65.2 rfl rfl
noncomputable def dX5_init_66 := zr_dX5_init_66.1
noncomputable def zr_dX5_init_69 := zo_183 (k := 27)  (q := 72) zr_dX5_init_66.2 rfl rfl
noncomputable def dX5_init_69 := zr_dX5_init_69.1
noncomputable def zr_dX5_init_72 := zo_181 (k := 35)  (q := 75) zr_dX5_init_69.2 rfl rfl
noncomputable def dX5_init_72 := zr_dX5_init_72.1
noncomputable def zr_dX5_init_75 := zo_42 (q := 76) zr_dX5_init_72.2 rfl
noncomputable def dX5_init_75 := zr_dX5_init_75.1
noncomputable def zr_dX5_init_76 := zo_187 (k := 38)  (q := 79) zr_dX5_init_75.2 rfl rfl
noncomputable def dX5_init_76 := zr_dX5_init_76.1
noncomputable def zr_dX5_init_79 := zo_89 (q := 80) zr_dX5_init_76.2 rfl
noncomputable def dX5_init_79 := zr_dX5_init_79.1
noncomputable def zr_dX5_init_80 := zo_183 (k := 40)  (q := 83) zr_dX5_init_79.2 rfl rfl
noncomputable def dX5_init_80 := zr_dX5_init_80.1
noncomputable def zr_dX5_init_83 := zo_181 (k := 41)  (q := 86) zr_dX5_init_80.2 rfl rfl
noncomputable def dX5_init_83 := zr_dX5_init_83.1
noncomputable def zr_dX5_init_86 := zo_42 (q := 87) zr_dX5_init_83.2 rfl
noncomputable def dX5_init_86 := zr_dX5_init_86.1
noncomputable def zr_dX5_init_87 := zo_187 (k := 45)  (q := 90) zr_dX5_init_86.2 rfl rfl
noncomputable def dX5_init_87 := zr_dX5_init_87.1
noncomputable def zr_dX5_init_90 := zo_89 (q := 91) zr_dX5_init_87.2 rfl
noncomputable def dX5_init_90 := zr_dX5_init_90.1
noncomputable def zr_dX5_init_91 := zo_183 (k := 47)  (q := 94) zr_dX5_init_90.2 rfl rfl
noncomputable def dX5_init_91 := zr_dX5_init_91.1
noncomputable def zr_dX5_init_94 := zo_181 (k := 48)  (q := 97) zr_dX5_init_91.2 rfl rfl
noncomputable def dX5_init_94 := zr_dX5_init_94.1
noncomputable def zr_dX5_init_97 := zo_3 (q := 98) zr_dX5_init_94.2 rfl
noncomputable def dX5_init_97 := zr_dX5_init_97.1
noncomputable def zr_dX5_init_98 := zo_60 (q := 99) zr_dX5_init_97.2 rfl
noncomputable def dX5_init_98 := zr_dX5_init_98.1
noncomputable def zr_dX5_init_99 := zo_27 (q := 100) zr_dX5_init_98.2 rfl
noncomputable def dX5_init_99 := zr_dX5_init_99.1
noncomputable def zr_dX5_init_100 := zo_18 (k := 52)  (q := 102) zr_dX5_init_99.2 rfl rfl
noncomputable def dX5_init_100 := zr_dX5_init_100.1
noncomputable def zr_dX5_init_102 := zo_182 (k := 54)  (q := 105) zr_dX5_init_100.2 rfl rfl
noncomputable def dX5_init_102 := zr_dX5_init_102.1
noncomputable def zr_dX5_init_105 := zo_162 (k := 22)  (q := 108) zr_dX5_init_102.2 (by decide +kernel) rfl
noncomputable def dX5_init_105 := zr_dX5_init_105.1
noncomputable def zr_dX5_init_108 := zo_42 (q := 109) zr_dX5_init_105.2 rfl
noncomputable def dX5_init_108 := zr_dX5_init_108.1
noncomputable def zr_dX5_init_109 := zo_180 (k := 21)  (q := 112) zr_dX5_init_108.2 rfl rfl
noncomputable def dX5_init_109 := zr_dX5_init_109.1
noncomputable def zr_dX5_init_112 := zo_18 (k := 52)  (q := 114) zr_dX5_init_109.2 rfl rfl
noncomputable def dX5_init_112 := zr_dX5_init_112.1
noncomputable def zr_dX5_init_114 := zo_27 (q := 115) zr_dX5_init_112.2 rfl
noncomputable def dX5_init_114 := zr_dX5_init_114.1
noncomputable def zr_dX5_init_115 := zo_182 (k := 60)  (q := 118) zr_dX5_init_114.2 rfl rfl
noncomputable def dX5_init_115 := zr_dX5_init_115.1
noncomputable def zr_dX5_init_118 := zo_182 (k := 64)  (q := 121) zr_dX5_init_115.2 rfl rfl
noncomputable def dX5_init_118 := zr_dX5_init_118.1
noncomputable def zr_dX5_init_121 := zo_132 (k := 1) (o := 1)  (q := 124) zr_dX5_init_118.2 rfl (by decide +kernel) rfl
noncomputable def dX5_init_121 := zr_dX5_init_121.1
noncomputable def zr_dX5_init_124 := zo_167 (k := -25)  (q := 127) zr_dX5_init_121.2 (by decide +kernel) rfl
noncomputable def dX5_init_124 := zr_dX5_init_124.1
noncomputable def zr_dX5_init_127 := zo_42 (q := 128) zr_dX5_init_124.2 rfl
noncomputable def dX5_init_127 := zr_dX5_init_127.1
noncomputable def zr_dX5_init_128 := zo_180 (k := 21)  (q := 131) zr_dX5_init_127.2 rfl rfl
noncomputable def dX5_init_128 := zr_dX5_init_128.1
noncomputable def zr_dX5_init_131 := zo_182 (k := 68)  (q := 134) zr_dX5_init_128.2 rfl rfl
noncomputable def dX5_init_131 := zr_dX5_init_131.1
theorem zo_87 {c : ByteArray} {p q : Nat} {L : List UInt8} (h : zsuf c p (87 :: L)) (hq : p + 1 = q) : zD c p .pop 1 ∧ zsuf c q L := zfin hq (Eq.trans (zbd (zu1 (v := 87) h rfl)) rfl) (zsuf_tl h)
noncomputable def zr_dX5_init_134 := zo_87 (q := 135) zr_dX5_init_131.2 rfl
noncomputable def dX5_init_134 := zr_dX5_init_134.1
noncomputable def zr_dX5_init_135 := zo_177 (q := 136) zr_dX5_init_134.2 rfl
noncomputable def dX5_init_135 := zr_dX5_init_135.1
theorem zs_dX5_count_0 : zsuf cX5_count 0 cX5_count.data.toList := rfl
noncomputable def zr_dX5_count_0 := zo_27 (q := 1) zs_dX5_count_0 rfl
noncomputable def dX5_count_0 := zr_dX5_count_0.1
theorem dX5_count_1 : zD cX5_count 1 (.tableswitch 75 0 4 #[35, 43, 51, 59, 67]) 35 := by decide +kernel
noncomputable def zr_dX5_count_1 := zskip zr_dX5_count_0.2 35 (q := 36) rfl
noncomputable def zr_dX5_count_36 := zo_42 (q := 37) zr_dX5_count_1 rfl
noncomputable def dX5_count_36 := zr_dX5_count_36.1
noncomputable def zr_dX5_count_37 := zo_180 (k := 28)  (q := 40) zr_dX5_count_36.2 rfl rfl
noncomputable def dX5_count_37 := zr_dX5_count_37.1
noncomputable def zr_dX5_count_40 := zo_180 (k := 71)  (q := 43) zr_dX5_count_37.2 rfl rfl
noncomputable def dX5_count_40 := zr_dX5_count_40.1
noncomputable def zr_dX5_count_43 := zo_172 (q := 44) zr_dX5_count_40.2 rfl
noncomputable def dX5_count_43 := zr_dX5_count_43.1
noncomputable def zr_dX5_count_44 := zo_42 (q := 45) zr_dX5_count_43.2 rfl
noncomputable def dX5_count_44 := zr_dX5_count_44.1
noncomputable def zr_dX5_count_45 := zo_180 (k := 28)  (q := 48) zr_dX5_count_44.2 rfl rfl
noncomputable def dX5_count_45 := zr_dX5_count_45.1
noncomputable def zr_dX5_count_48 := zo_180 (k := 75)  (q := 51) zr_dX5_count_45.2 rfl rfl
noncomputable def dX5_count_48 := zr_dX5_count_48.1
noncomputable def zr_dX5_count_51 := zo_172 (q := 52) zr_dX5_count_48.2 rfl
noncomputable def dX5_count_51 := zr_dX5_count_51.1
noncomputable def zr_dX5_count_52 := zo_42 (q := 53) zr_dX5_count_51.2 rfl
noncomputable def dX5_count_52 := zr_dX5_count_52.1
noncomputable def zr_dX5_count_53 := zo_180 (k := 10)  (q := 56) zr_dX5_count_52.2 rfl rfl
noncomputable def dX5_count_53 := zr_dX5_count_53.1
noncomputable def zr_dX5_count_56 := zo_180 (k := 78)  (q := 59) zr_dX5_count_53.2 rfl rfl
noncomputable def dX5_count_56 := zr_dX5_count_56.1
noncomputable def zr_dX5_count_59 := zo_172 (q := 60) zr_dX5_count_56.2 rfl
noncomputable def dX5_count_59 := zr_dX5_count_59.1
noncomputable def zr_dX5_count_60 := zo_42 (q := 61) zr_dX5_count_59.2 rfl
noncomputable def dX5_count_60 := zr_dX5_count_60.1
noncomputable def zr_dX5_count_61 := zo_180 (k := 28)  (q := 64) zr_dX5_count_60.2 rfl rfl
noncomputable def dX5_count_61 := zr_dX5_count_61.1
noncomputable def zr_dX5_count_64 := zo_180 (k := 81)  (q := 67) zr_dX5_count_61.2 rfl rfl
noncomputable def dX5_count_64 := zr_dX5_count_64.1
noncomputable def zr_dX5_count_67 := zo_172 (q := 68) zr_dX5_count_64.2 rfl
noncomputable def dX5_count_67 := zr_dX5_count_67.1
noncomputable def zr_dX5_count_68 := zo_42 (q := 69) zr_dX5_count_67.2 rfl
noncomputable def dX5_count_68 := zr_dX5_count_68.1
noncomputable def zr_dX5_count_69 := zo_180 (k := 21)  (q := 72) zr_dX5_count_68.2 rfl rfl
noncomputable def dX5_count_69 := zr_dX5_count_69.1
noncomputable def zr_dX5_count_72 := zo_180 (k := 84)  (q := 75) zr_dX5_count_69.2 rfl rfl
noncomputable def dX5_count_72 := zr_dX5_count_72.1
noncomputable def zr_dX5_count_75 := zo_172 (q := 76) zr_dX5_count_72.2 rfl
noncomputable def dX5_count_75 := zr_dX5_count_75.1
noncomputable def zr_dX5_count_76 := zo_16 (k := -2)  (q := 78) zr_dX5_count_75.2 (by decide +kernel) rfl
noncomputable def dX5_count_76 := zr_dX5_count_76.1
noncomputable def zr_dX5_count_78 := zo_172 (q := 79) zr_dX5_count_76.2 rfl
noncomputable def dX5_count_78 := zr_dX5_count_78.1
theorem zs_dX5_judge_0 : zsuf cX5_judge 0 cX5_judge.data.toList := rfl
noncomputable def zr_dX5_judge_0 := zo_27 (q := 1) zs_dX5_judge_0 rfl
noncomputable def dX5_judge_0 := zr_dX5_judge_0.1
noncomputable def zr_dX5_judge_1 := zo_16 (k := 20)  (q := 3) zr_dX5_judge_0.2 (by decide +kernel) rfl
noncomputable def dX5_judge_1 := zr_dX5_judge_1.1
noncomputable def zr_dX5_judge_3 := zo_184 (k := 86)  (q := 6) zr_dX5_judge_1.2 rfl rfl
noncomputable def dX5_judge_3 := zr_dX5_judge_3.1
noncomputable def zr_dX5_judge_6 := zo_154 (k := 6)  (q := 9) zr_dX5_judge_3.2 (by decide +kernel) rfl
noncomputable def dX5_judge_6 := zr_dX5_judge_6.1
noncomputable def zr_dX5_judge_9 := zo_16 (k := -2)  (q := 11) zr_dX5_judge_6.2 (by decide +kernel) rfl
noncomputable def dX5_judge_9 := zr_dX5_judge_9.1
noncomputable def zr_dX5_judge_11 := zo_172 (q := 12) zr_dX5_judge_9.2 rfl
noncomputable def dX5_judge_11 := zr_dX5_judge_11.1
noncomputable def zr_dX5_judge_12 := zo_42 (q := 13) zr_dX5_judge_11.2 rfl
noncomputable def dX5_judge_12 := zr_dX5_judge_12.1
noncomputable def zr_dX5_judge_13 := zo_180 (k := 28)  (q := 16) zr_dX5_judge_12.2 rfl rfl
noncomputable def dX5_judge_13 := zr_dX5_judge_13.1
noncomputable def zr_dX5_judge_16 := zo_27 (q := 17) zr_dX5_judge_13.2 rfl
noncomputable def dX5_judge_16 := zr_dX5_judge_16.1
noncomputable def zr_dX5_judge_17 := zo_182 (k := 90)  (q := 20) zr_dX5_judge_16.2 rfl rfl
noncomputable def dX5_judge_17 := zr_dX5_judge_17.1
noncomputable def zr_dX5_judge_20 := zo_172 (q := 21) zr_dX5_judge_17.2 rfl
noncomputable def dX5_judge_20 := zr_dX5_judge_20.1
theorem zs_dX5_shoe_0 : zsuf cX5_shoe 0 cX5_shoe.data.toList := rfl
noncomputable def zr_dX5_shoe_0 := zo_42 (q := 1) zs_dX5_shoe_0 rfl
noncomputable def dX5_shoe_0 := zr_dX5_shoe_0.1
noncomputable def zr_dX5_shoe_1 := zo_180 (k := 28)  (q := 4) zr_dX5_shoe_0.2 rfl rfl
noncomputable def dX5_shoe_1 := zr_dX5_shoe_1.1
noncomputable def zr_dX5_shoe_4 := zo_27 (q := 5) zr_dX5_shoe_1.2 rfl
noncomputable def dX5_shoe_4 := zr_dX5_shoe_4.1
noncomputable def zr_dX5_shoe_5 := zo_182 (k := 94)  (q := 8) zr_dX5_shoe_4.2 rfl rfl
noncomputable def dX5_shoe_5 := zr_dX5_shoe_5.1
noncomputable def zr_dX5_shoe_8 := zo_154 (k := 6)  (q := 11) zr_dX5_shoe_5.2 (by decide +kernel) rfl
noncomputable def dX5_shoe_8 := zr_dX5_shoe_8.1
noncomputable def zr_dX5_shoe_11 := zo_16 (k := -5)  (q := 13) zr_dX5_shoe_8.2 (by decide +kernel) rfl
noncomputable def dX5_shoe_11 := zr_dX5_shoe_11.1
noncomputable def zr_dX5_shoe_13 := zo_172 (q := 14) zr_dX5_shoe_11.2 rfl
noncomputable def dX5_shoe_13 := zr_dX5_shoe_13.1
noncomputable def zr_dX5_shoe_14 := zo_28 (q := 15) zr_dX5_shoe_13.2 rfl
noncomputable def dX5_shoe_14 := zr_dX5_shoe_14.1
noncomputable def zr_dX5_shoe_15 := zo_4 (q := 16) zr_dX5_shoe_14.2 rfl
noncomputable def dX5_shoe_15 := zr_dX5_shoe_15.1
noncomputable def zr_dX5_shoe_16 := zo_184 (k := 86)  (q := 19) zr_dX5_shoe_15.2 rfl rfl
noncomputable def dX5_shoe_16 := zr_dX5_shoe_16.1
noncomputable def zr_dX5_shoe_19 := zo_153 (k := 22)  (q := 22) zr_dX5_shoe_16.2 (by decide +kernel) rfl
noncomputable def dX5_shoe_19 := zr_dX5_shoe_19.1
noncomputable def zr_dX5_shoe_22 := zo_29 (q := 23) zr_dX5_shoe_19.2 rfl
noncomputable def dX5_shoe_22 := zr_dX5_shoe_22.1
noncomputable def zr_dX5_shoe_23 := zo_28 (q := 24) zr_dX5_shoe_22.2 rfl
noncomputable def dX5_shoe_23 := zr_dX5_shoe_23.1
noncomputable def zr_dX5_shoe_24 := zo_154 (k := 8)  (q := 27) zr_dX5_shoe_23.2 (by decide +kernel) rfl
noncomputable def dX5_shoe_24 := zr_dX5_shoe_24.1
noncomputable def zr_dX5_shoe_27 := zo_16 (k := 20)  (q := 29) zr_dX5_shoe_24.2 (by decide +kernel) rfl
noncomputable def dX5_shoe_27 := zr_dX5_shoe_27.1
noncomputable def zr_dX5_shoe_29 := zo_167 (k := 6)  (q := 32) zr_dX5_shoe_27.2 (by decide +kernel) rfl
noncomputable def dX5_shoe_29 := zr_dX5_shoe_29.1
noncomputable def zr_dX5_shoe_32 := zo_17 (k := 999)  (q := 35) zr_dX5_shoe_29.2 (by decide +kernel) rfl
noncomputable def dX5_shoe_32 := zr_dX5_shoe_32.1
noncomputable def zr_dX5_shoe_35 := zo_184 (k := 86)  (q := 38) zr_dX5_shoe_32.2 rfl rfl
noncomputable def dX5_shoe_35 := zr_dX5_shoe_35.1
noncomputable def zr_dX5_shoe_38 := zo_154 (k := 6)  (q := 41) zr_dX5_shoe_35.2 (by decide +kernel) rfl
noncomputable def dX5_shoe_38 := zr_dX5_shoe_38.1
noncomputable def zr_dX5_shoe_41 := zo_16 (k := -7)  (q := 43) zr_dX5_shoe_38.2 (by decide +kernel) rfl
noncomputable def dX5_shoe_41 := zr_dX5_shoe_41.1
noncomputable def zr_dX5_shoe_43 := zo_172 (q := 44) zr_dX5_shoe_41.2 rfl
noncomputable def dX5_shoe_43 := zr_dX5_shoe_43.1
noncomputable def zr_dX5_shoe_44 := zo_28 (q := 45) zr_dX5_shoe_43.2 rfl
noncomputable def dX5_shoe_44 := zr_dX5_shoe_44.1
noncomputable def zr_dX5_shoe_45 := zo_154 (k := 13)  (q := 48) zr_dX5_shoe_44.2 (by decide +kernel) rfl
noncomputable def dX5_shoe_45 := zr_dX5_shoe_45.1
noncomputable def zr_dX5_shoe_48 := zo_42 (q := 49) zr_dX5_shoe_45.2 rfl
noncomputable def dX5_shoe_48 := zr_dX5_shoe_48.1
noncomputable def zr_dX5_shoe_49 := zo_180 (k := 28)  (q := 52) zr_dX5_shoe_48.2 rfl rfl
noncomputable def dX5_shoe_49 := zr_dX5_shoe_49.1
noncomputable def zr_dX5_shoe_52 := zo_180 (k := 98)  (q := 55) zr_dX5_shoe_49.2 rfl rfl
noncomputable def dX5_shoe_52 := zr_dX5_shoe_52.1
noncomputable def zr_dX5_shoe_55 := zo_167 (k := 10)  (q := 58) zr_dX5_shoe_52.2 (by decide +kernel) rfl
noncomputable def dX5_shoe_55 := zr_dX5_shoe_55.1
noncomputable def zr_dX5_shoe_58 := zo_42 (q := 59) zr_dX5_shoe_55.2 rfl
noncomputable def dX5_shoe_58 := zr_dX5_shoe_58.1
noncomputable def zr_dX5_shoe_59 := zo_180 (k := 28)  (q := 62) zr_dX5_shoe_58.2 rfl rfl
noncomputable def dX5_shoe_59 := zr_dX5_shoe_59.1
noncomputable def zr_dX5_shoe_62 := zo_180 (k := 102)  (q := 65) zr_dX5_shoe_59.2 rfl rfl
noncomputable def dX5_shoe_62 := zr_dX5_shoe_62.1
theorem zo_58 {c : ByteArray} {p q : Nat} {x : UInt8} {L : List UInt8} {k : Nat} (h : zsuf c p (58 :: x :: L)) (hk : x.toNat = k) (hq : p + 2 = q) : zD c p (.astore k) 2 ∧ zsuf c q L := zfin hq (Eq.trans (zbd (zu1 (v := 58) h rfl)) (Eq.trans (zbd (zu1 (zsuf_tl h) hk)) rfl)) (zsuf_tl (zsuf_tl h))
noncomputable def zr_dX5_shoe_65 := zo_58 (k := 4)  (q := 67) zr_dX5_shoe_62.2 rfl rfl
noncomputable def dX5_shoe_65 := zr_dX5_shoe_65.1
theorem zo_25 {c : ByteArray} {p q : Nat} {x : UInt8} {L : List UInt8} {k : Nat} (h : zsuf c p (25 :: x :: L)) (hk : x.toNat = k) (hq : p + 2 = q) : zD c p (.aload k) 2 ∧ zsuf c q L := zfin hq (Eq.trans (zbd (zu1 (v := 25) h rfl)) (Eq.trans (zbd (zu1 (zsuf_tl h) hk)) rfl)) (zsuf_tl (zsuf_tl h))
noncomputable def zr_dX5_shoe_67 := zo_25 (k := 4)  (q := 69) zr_dX5_shoe_65.2 rfl rfl
noncomputable def dX5_shoe_67 := zr_dX5_shoe_67.1
noncomputable def zr_dX5_shoe_69 := zo_27 (q := 70) zr_dX5_shoe_67.2 rfl
noncomputable def dX5_shoe_69 := zr_dX5_shoe_69.1
noncomputable def zr_dX5_shoe_70 := zo_46 (q := 71) zr_dX5_shoe_69.2 rfl
noncomputable def dX5_shoe_70 := zr_dX5_shoe_70.1
noncomputable def zr_dX5_shoe_71 := zo_54 (k := 5)  (q := 73) zr_dX5_shoe_70.2 rfl rfl
noncomputable def dX5_shoe_71 := zr_dX5_shoe_71.1
noncomputable def zr_dX5_shoe_73 := zo_25 (k := 4)  (q := 75) zr_dX5_shoe_71.2 rfl rfl
noncomputable def dX5_shoe_73 := zr_dX5_shoe_73.1
noncomputable def zr_dX5_shoe_75 := zo_27 (q := 76) zr_dX5_shoe_73.2 rfl
noncomputable def dX5_shoe_75 := zr_dX5_shoe_75.1
noncomputable def zr_dX5_shoe_76 := zo_29 (q := 77) zr_dX5_shoe_75.2 rfl
noncomputable def dX5_shoe_76 := zr_dX5_shoe_76.1
noncomputable def zr_dX5_shoe_77 := zo_79 (q := 78) zr_dX5_shoe_76.2 rfl
noncomputable def dX5_shoe_77 := zr_dX5_shoe_77.1
noncomputable def zr_dX5_shoe_78 := zo_21 (k := 5)  (q := 80) zr_dX5_shoe_77.2 rfl rfl
noncomputable def dX5_shoe_78 := zr_dX5_shoe_78.1
noncomputable def zr_dX5_shoe_80 := zo_172 (q := 81) zr_dX5_shoe_78.2 rfl
noncomputable def dX5_shoe_80 := zr_dX5_shoe_80.1
theorem zs_dX5_bench_0 : zsuf cX5_bench 0 cX5_bench.data.toList := rfl
noncomputable def zr_dX5_bench_0 := zo_42 (q := 1) zs_dX5_bench_0 rfl
noncomputable def dX5_bench_0 := zr_dX5_bench_0.1
noncomputable def zr_dX5_bench_1 := zo_180 (k := 28)  (q := 4) zr_dX5_bench_0.2 rfl rfl
noncomputable def dX5_bench_1 := zr_dX5_bench_1.1
noncomputable def zr_dX5_bench_4 := zo_27 (q := 5) zr_dX5_bench_1.2 rfl
noncomputable def dX5_bench_4 := zr_dX5_bench_4.1
noncomputable def zr_dX5_bench_5 := zo_182 (k := 94)  (q := 8) zr_dX5_bench_4.2 rfl rfl
noncomputable def dX5_bench_5 := zr_dX5_bench_5.1
noncomputable def zr_dX5_bench_8 := zo_154 (k := 6)  (q := 11) zr_dX5_bench_5.2 (by decide +kernel) rfl
noncomputable def dX5_bench_8 := zr_dX5_bench_8.1
noncomputable def zr_dX5_bench_11 := zo_16 (k := -5)  (q := 13) zr_dX5_bench_8.2 (by decide +kernel) rfl
noncomputable def dX5_bench_11 := zr_dX5_bench_11.1
noncomputable def zr_dX5_bench_13 := zo_172 (q := 14) zr_dX5_bench_11.2 rfl
noncomputable def dX5_bench_13 := zr_dX5_bench_13.1
noncomputable def zr_dX5_bench_14 := zo_28 (q := 15) zr_dX5_bench_13.2 rfl
noncomputable def dX5_bench_14 := zr_dX5_bench_14.1
theorem dX5_bench_15 : zD cX5_bench 15 (.tableswitch 55 0 2 #[25, 35, 45]) 25 := by decide +kernel
noncomputable def zr_dX5_bench_15 := zskip zr_dX5_bench_14.2 25 (q := 40) rfl
noncomputable def zr_dX5_bench_40 := zo_42 (q := 41) zr_dX5_bench_15 rfl
noncomputable def dX5_bench_40 := zr_dX5_bench_40.1
noncomputable def zr_dX5_bench_41 := zo_180 (k := 28)  (q := 44) zr_dX5_bench_40.2 rfl rfl
noncomputable def dX5_bench_41 := zr_dX5_bench_41.1
noncomputable def zr_dX5_bench_44 := zo_180 (k := 98)  (q := 47) zr_dX5_bench_41.2 rfl rfl
noncomputable def dX5_bench_44 := zr_dX5_bench_44.1
noncomputable def zr_dX5_bench_47 := zo_27 (q := 48) zr_dX5_bench_44.2 rfl
noncomputable def dX5_bench_47 := zr_dX5_bench_47.1
noncomputable def zr_dX5_bench_48 := zo_46 (q := 49) zr_dX5_bench_47.2 rfl
noncomputable def dX5_bench_48 := zr_dX5_bench_48.1
noncomputable def zr_dX5_bench_49 := zo_172 (q := 50) zr_dX5_bench_48.2 rfl
noncomputable def dX5_bench_49 := zr_dX5_bench_49.1
noncomputable def zr_dX5_bench_50 := zo_42 (q := 51) zr_dX5_bench_49.2 rfl
noncomputable def dX5_bench_50 := zr_dX5_bench_50.1
noncomputable def zr_dX5_bench_51 := zo_180 (k := 28)  (q := 54) zr_dX5_bench_50.2 rfl rfl
noncomputable def dX5_bench_51 := zr_dX5_bench_51.1
noncomputable def zr_dX5_bench_54 := zo_180 (k := 102)  (q := 57) zr_dX5_bench_51.2 rfl rfl
noncomputable def dX5_bench_54 := zr_dX5_bench_54.1
noncomputable def zr_dX5_bench_57 := zo_27 (q := 58) zr_dX5_bench_54.2 rfl
noncomputable def dX5_bench_57 := zr_dX5_bench_57.1
noncomputable def zr_dX5_bench_58 := zo_46 (q := 59) zr_dX5_bench_57.2 rfl
noncomputable def dX5_bench_58 := zr_dX5_bench_58.1
noncomputable def zr_dX5_bench_59 := zo_172 (q := 60) zr_dX5_bench_58.2 rfl
noncomputable def dX5_bench_59 := zr_dX5_bench_59.1
noncomputable def zr_dX5_bench_60 := zo_42 (q := 61) zr_dX5_bench_59.2 rfl
noncomputable def dX5_bench_60 := zr_dX5_bench_60.1
noncomputable def zr_dX5_bench_61 := zo_180 (k := 28)  (q := 64) zr_dX5_bench_60.2 rfl rfl
noncomputable def dX5_bench_61 := zr_dX5_bench_61.1
noncomputable def zr_dX5_bench_64 := zo_180 (k := 105)  (q := 67) zr_dX5_bench_61.2 rfl rfl
noncomputable def dX5_bench_64 := zr_dX5_bench_64.1
noncomputable def zr_dX5_bench_67 := zo_27 (q := 68) zr_dX5_bench_64.2 rfl
noncomputable def dX5_bench_67 := zr_dX5_bench_67.1
noncomputable def zr_dX5_bench_68 := zo_46 (q := 69) zr_dX5_bench_67.2 rfl
noncomputable def dX5_bench_68 := zr_dX5_bench_68.1
noncomputable def zr_dX5_bench_69 := zo_172 (q := 70) zr_dX5_bench_68.2 rfl
noncomputable def dX5_bench_69 := zr_dX5_bench_69.1
noncomputable def zr_dX5_bench_70 := zo_16 (k := -7)  (q := 72) zr_dX5_bench_69.2 (by decide +kernel) rfl
noncomputable def dX5_bench_70 := zr_dX5_bench_70.1
noncomputable def zr_dX5_bench_72 := zo_172 (q := 73) zr_dX5_bench_70.2 rfl
noncomputable def dX5_bench_72 := zr_dX5_bench_72.1
theorem zs_dX5_feed_0 : zsuf cX5_feed 0 cX5_feed.data.toList := rfl
noncomputable def zr_dX5_feed_0 := zo_27 (q := 1) zs_dX5_feed_0 rfl
noncomputable def dX5_feed_0 := zr_dX5_feed_0.1
noncomputable def zr_dX5_feed_1 := zo_4 (q := 2) zr_dX5_feed_0.2 rfl
noncomputable def dX5_feed_1 := zr_dX5_feed_1.1
noncomputable def zr_dX5_feed_2 := zo_161 (k := 46)  (q := 5) zr_dX5_feed_1.2 (by decide +kernel) rfl
noncomputable def dX5_feed_2 := zr_dX5_feed_2.1
noncomputable def zr_dX5_feed_5 := zo_27 (q := 6) zr_dX5_feed_2.2 rfl
noncomputable def dX5_feed_5 := zr_dX5_feed_5.1
noncomputable def zr_dX5_feed_6 := zo_8 (q := 7) zr_dX5_feed_5.2 rfl
noncomputable def dX5_feed_6 := zr_dX5_feed_6.1
noncomputable def zr_dX5_feed_7 := zo_163 (k := 41)  (q := 10) zr_dX5_feed_6.2 (by decide +kernel) rfl
noncomputable def dX5_feed_7 := zr_dX5_feed_7.1
noncomputable def zr_dX5_feed_10 := zo_28 (q := 11) zr_dX5_feed_7.2 rfl
noncomputable def dX5_feed_10 := zr_dX5_feed_10.1
noncomputable def zr_dX5_feed_11 := zo_184 (k := 108)  (q := 14) zr_dX5_feed_10.2 rfl rfl
noncomputable def dX5_feed_11 := zr_dX5_feed_11.1
noncomputable def zr_dX5_feed_14 := zo_153 (k := 34)  (q := 17) zr_dX5_feed_11.2 (by decide +kernel) rfl
noncomputable def dX5_feed_14 := zr_dX5_feed_14.1
noncomputable def zr_dX5_feed_17 := zo_29 (q := 18) zr_dX5_feed_14.2 rfl
noncomputable def dX5_feed_17 := zr_dX5_feed_17.1
noncomputable def zr_dX5_feed_18 := zo_184 (k := 108)  (q := 21) zr_dX5_feed_17.2 rfl rfl
noncomputable def dX5_feed_18 := zr_dX5_feed_18.1
noncomputable def zr_dX5_feed_21 := zo_153 (k := 27)  (q := 24) zr_dX5_feed_18.2 (by decide +kernel) rfl
noncomputable def dX5_feed_21 := zr_dX5_feed_21.1
noncomputable def zr_dX5_feed_24 := zo_21 (k := 4)  (q := 26) zr_dX5_feed_21.2 rfl rfl
noncomputable def dX5_feed_24 := zr_dX5_feed_24.1
noncomputable def zr_dX5_feed_26 := zo_184 (k := 108)  (q := 29) zr_dX5_feed_24.2 rfl rfl
noncomputable def dX5_feed_26 := zr_dX5_feed_26.1
noncomputable def zr_dX5_feed_29 := zo_153 (k := 19)  (q := 32) zr_dX5_feed_26.2 (by decide +kernel) rfl
noncomputable def dX5_feed_29 := zr_dX5_feed_29.1
noncomputable def zr_dX5_feed_32 := zo_21 (k := 5)  (q := 34) zr_dX5_feed_29.2 rfl rfl
noncomputable def dX5_feed_32 := zr_dX5_feed_32.1
noncomputable def zr_dX5_feed_34 := zo_184 (k := 108)  (q := 37) zr_dX5_feed_32.2 rfl rfl
noncomputable def dX5_feed_34 := zr_dX5_feed_34.1
noncomputable def zr_dX5_feed_37 := zo_153 (k := 11)  (q := 40) zr_dX5_feed_34.2 (by decide +kernel) rfl
noncomputable def dX5_feed_37 := zr_dX5_feed_37.1
noncomputable def zr_dX5_feed_40 := zo_21 (k := 6)  (q := 42) zr_dX5_feed_37.2 rfl rfl
noncomputable def dX5_feed_40 := zr_dX5_feed_40.1
noncomputable def zr_dX5_feed_42 := zo_184 (k := 108)  (q := 45) zr_dX5_feed_40.2 rfl rfl
noncomputable def dX5_feed_42 := zr_dX5_feed_42.1
noncomputable def zr_dX5_feed_45 := zo_154 (k := 6)  (q := 48) zr_dX5_feed_42.2 (by decide +kernel) rfl
noncomputable def dX5_feed_45 := zr_dX5_feed_45.1
noncomputable def zr_dX5_feed_48 := zo_16 (k := -2)  (q := 50) zr_dX5_feed_45.2 (by decide +kernel) rfl
noncomputable def dX5_feed_48 := zr_dX5_feed_48.1
noncomputable def zr_dX5_feed_50 := zo_172 (q := 51) zr_dX5_feed_48.2 rfl
noncomputable def dX5_feed_50 := zr_dX5_feed_50.1
noncomputable def zr_dX5_feed_51 := zo_42 (q := 52) zr_dX5_feed_50.2 rfl
noncomputable def dX5_feed_51 := zr_dX5_feed_51.1
noncomputable def zr_dX5_feed_52 := zo_180 (k := 21)  (q := 55) zr_dX5_feed_51.2 rfl rfl
noncomputable def dX5_feed_52 := zr_dX5_feed_52.1
noncomputable def zr_dX5_feed_55 := zo_180 (k := 84)  (q := 58) zr_dX5_feed_52.2 rfl rfl
noncomputable def dX5_feed_55 := zr_dX5_feed_55.1
noncomputable def zr_dX5_feed_58 := zo_27 (q := 59) zr_dX5_feed_55.2 rfl
noncomputable def dX5_feed_58 := zr_dX5_feed_58.1
noncomputable def zr_dX5_feed_59 := zo_96 (q := 60) zr_dX5_feed_58.2 rfl
noncomputable def dX5_feed_59 := zr_dX5_feed_59.1
noncomputable def zr_dX5_feed_60 := zo_17 (k := 160)  (q := 63) zr_dX5_feed_59.2 (by decide +kernel) rfl
noncomputable def dX5_feed_60 := zr_dX5_feed_60.1
noncomputable def zr_dX5_feed_63 := zo_164 (k := 6)  (q := 66) zr_dX5_feed_60.2 (by decide +kernel) rfl
noncomputable def dX5_feed_63 := zr_dX5_feed_63.1
noncomputable def zr_dX5_feed_66 := zo_16 (k := -4)  (q := 68) zr_dX5_feed_63.2 (by decide +kernel) rfl
noncomputable def dX5_feed_66 := zr_dX5_feed_66.1
noncomputable def zr_dX5_feed_68 := zo_172 (q := 69) zr_dX5_feed_66.2 rfl
noncomputable def dX5_feed_68 := zr_dX5_feed_68.1
noncomputable def zr_dX5_feed_69 := zo_3 (q := 70) zr_dX5_feed_68.2 rfl
noncomputable def dX5_feed_69 := zr_dX5_feed_69.1
noncomputable def zr_dX5_feed_70 := zo_54 (k := 7)  (q := 72) zr_dX5_feed_69.2 rfl rfl
noncomputable def dX5_feed_70 := zr_dX5_feed_70.1
noncomputable def zr_dX5_feed_72 := zo_21 (k := 7)  (q := 74) zr_dX5_feed_70.2 rfl rfl
noncomputable def dX5_feed_72 := zr_dX5_feed_72.1
noncomputable def zr_dX5_feed_74 := zo_27 (q := 75) zr_dX5_feed_72.2 rfl
noncomputable def dX5_feed_74 := zr_dX5_feed_74.1
noncomputable def zr_dX5_feed_75 := zo_162 (k := 59)  (q := 78) zr_dX5_feed_74.2 (by decide +kernel) rfl
noncomputable def dX5_feed_75 := zr_dX5_feed_75.1
noncomputable def zr_dX5_feed_78 := zo_42 (q := 79) zr_dX5_feed_75.2 rfl
noncomputable def dX5_feed_78 := zr_dX5_feed_78.1
noncomputable def zr_dX5_feed_79 := zo_180 (k := 21)  (q := 82) zr_dX5_feed_78.2 rfl rfl
noncomputable def dX5_feed_79 := zr_dX5_feed_79.1
noncomputable def zr_dX5_feed_82 := zo_21 (k := 7)  (q := 84) zr_dX5_feed_79.2 rfl rfl
noncomputable def dX5_feed_82 := zr_dX5_feed_82.1
noncomputable def zr_dX5_feed_84 := zo_154 (k := 7)  (q := 87) zr_dX5_feed_82.2 (by decide +kernel) rfl
noncomputable def dX5_feed_84 := zr_dX5_feed_84.1
noncomputable def zr_dX5_feed_87 := zo_28 (q := 88) zr_dX5_feed_84.2 rfl
noncomputable def dX5_feed_87 := zr_dX5_feed_87.1
noncomputable def zr_dX5_feed_88 := zo_167 (k := 37)  (q := 91) zr_dX5_feed_87.2 (by decide +kernel) rfl
noncomputable def dX5_feed_88 := zr_dX5_feed_88.1
noncomputable def zr_dX5_feed_91 := zo_21 (k := 7)  (q := 93) zr_dX5_feed_88.2 rfl rfl
noncomputable def dX5_feed_91 := zr_dX5_feed_91.1
noncomputable def zr_dX5_feed_93 := zo_4 (q := 94) zr_dX5_feed_91.2 rfl
noncomputable def dX5_feed_93 := zr_dX5_feed_93.1
noncomputable def zr_dX5_feed_94 := zo_160 (k := 7)  (q := 97) zr_dX5_feed_93.2 (by decide +kernel) rfl
noncomputable def dX5_feed_94 := zr_dX5_feed_94.1
noncomputable def zr_dX5_feed_97 := zo_29 (q := 98) zr_dX5_feed_94.2 rfl
noncomputable def dX5_feed_97 := zr_dX5_feed_97.1
noncomputable def zr_dX5_feed_98 := zo_167 (k := 27)  (q := 101) zr_dX5_feed_97.2 (by decide +kernel) rfl
noncomputable def dX5_feed_98 := zr_dX5_feed_98.1
noncomputable def zr_dX5_feed_101 := zo_21 (k := 7)  (q := 103) zr_dX5_feed_98.2 rfl rfl
noncomputable def dX5_feed_101 := zr_dX5_feed_101.1
noncomputable def zr_dX5_feed_103 := zo_5 (q := 104) zr_dX5_feed_101.2 rfl
noncomputable def dX5_feed_103 := zr_dX5_feed_103.1
noncomputable def zr_dX5_feed_104 := zo_160 (k := 8)  (q := 107) zr_dX5_feed_103.2 (by decide +kernel) rfl
noncomputable def dX5_feed_104 := zr_dX5_feed_104.1
noncomputable def zr_dX5_feed_107 := zo_21 (k := 4)  (q := 109) zr_dX5_feed_104.2 rfl rfl
noncomputable def dX5_feed_107 := zr_dX5_feed_107.1
noncomputable def zr_dX5_feed_109 := zo_167 (k := 16)  (q := 112) zr_dX5_feed_107.2 (by decide +kernel) rfl
noncomputable def dX5_feed_109 := zr_dX5_feed_109.1
noncomputable def zr_dX5_feed_112 := zo_21 (k := 7)  (q := 114) zr_dX5_feed_109.2 rfl rfl
noncomputable def dX5_feed_112 := zr_dX5_feed_112.1
noncomputable def zr_dX5_feed_114 := zo_6 (q := 115) zr_dX5_feed_112.2 rfl
noncomputable def dX5_feed_114 := zr_dX5_feed_114.1
noncomputable def zr_dX5_feed_115 := zo_160 (k := 8)  (q := 118) zr_dX5_feed_114.2 (by decide +kernel) rfl
noncomputable def dX5_feed_115 := zr_dX5_feed_115.1
noncomputable def zr_dX5_feed_118 := zo_21 (k := 5)  (q := 120) zr_dX5_feed_115.2 rfl rfl
noncomputable def dX5_feed_118 := zr_dX5_feed_118.1
noncomputable def zr_dX5_feed_120 := zo_167 (k := 5)  (q := 123) zr_dX5_feed_118.2 (by decide +kernel) rfl
noncomputable def dX5_feed_120 := zr_dX5_feed_120.1
noncomputable def zr_dX5_feed_123 := zo_21 (k := 6)  (q := 125) zr_dX5_feed_120.2 rfl rfl
noncomputable def dX5_feed_123 := zr_dX5_feed_123.1
noncomputable def zr_dX5_feed_125 := zo_182 (k := 64)  (q := 128) zr_dX5_feed_123.2 rfl rfl
noncomputable def dX5_feed_125 := zr_dX5_feed_125.1
noncomputable def zr_dX5_feed_128 := zo_132 (k := 7) (o := 1)  (q := 131) zr_dX5_feed_125.2 rfl (by decide +kernel) rfl
noncomputable def dX5_feed_128 := zr_dX5_feed_128.1
noncomputable def zr_dX5_feed_131 := zo_167 (k := -59)  (q := 134) zr_dX5_feed_128.2 (by decide +kernel) rfl
noncomputable def dX5_feed_131 := zr_dX5_feed_131.1
noncomputable def zr_dX5_feed_134 := zo_42 (q := 135) zr_dX5_feed_131.2 rfl
noncomputable def dX5_feed_134 := zr_dX5_feed_134.1
noncomputable def zr_dX5_feed_135 := zo_180 (k := 21)  (q := 138) zr_dX5_feed_134.2 rfl rfl
noncomputable def dX5_feed_135 := zr_dX5_feed_135.1
noncomputable def zr_dX5_feed_138 := zo_180 (k := 84)  (q := 141) zr_dX5_feed_135.2 rfl rfl
noncomputable def dX5_feed_138 := zr_dX5_feed_138.1
noncomputable def zr_dX5_feed_141 := zo_172 (q := 142) zr_dX5_feed_138.2 rfl
noncomputable def dX5_feed_141 := zr_dX5_feed_141.1
theorem zs_dX5_text_0 : zsuf cX5_text 0 cX5_text.data.toList := rfl
noncomputable def zr_dX5_text_0 := zo_42 (q := 1) zs_dX5_text_0 rfl
noncomputable def dX5_text_0 := zr_dX5_text_0.1
noncomputable def zr_dX5_text_1 := zo_180 (k := 10)  (q := 4) zr_dX5_text_0.2 rfl rfl
noncomputable def dX5_text_1 := zr_dX5_text_1.1
noncomputable def zr_dX5_text_4 := zo_180 (k := 78)  (q := 7) zr_dX5_text_1.2 rfl rfl
noncomputable def dX5_text_4 := zr_dX5_text_4.1
noncomputable def zr_dX5_text_7 := zo_16 (k := 6)  (q := 9) zr_dX5_text_4.2 (by decide +kernel) rfl
noncomputable def dX5_text_7 := zr_dX5_text_7.1
noncomputable def zr_dX5_text_9 := zo_161 (k := 6)  (q := 12) zr_dX5_text_7.2 (by decide +kernel) rfl
noncomputable def dX5_text_9 := zr_dX5_text_9.1
noncomputable def zr_dX5_text_12 := zo_16 (k := -4)  (q := 14) zr_dX5_text_9.2 (by decide +kernel) rfl
noncomputable def dX5_text_12 := zr_dX5_text_12.1
noncomputable def zr_dX5_text_14 := zo_172 (q := 15) zr_dX5_text_12.2 rfl
noncomputable def dX5_text_14 := zr_dX5_text_14.1
noncomputable def zr_dX5_text_15 := zo_42 (q := 16) zr_dX5_text_14.2 rfl
noncomputable def dX5_text_15 := zr_dX5_text_15.1
noncomputable def zr_dX5_text_16 := zo_180 (k := 21)  (q := 19) zr_dX5_text_15.2 rfl rfl
noncomputable def dX5_text_16 := zr_dX5_text_16.1
noncomputable def zr_dX5_text_19 := zo_182 (k := 68)  (q := 22) zr_dX5_text_16.2 rfl rfl
noncomputable def dX5_text_19 := zr_dX5_text_19.1
noncomputable def zr_dX5_text_22 := zo_172 (q := 23) zr_dX5_text_19.2 rfl
noncomputable def dX5_text_22 := zr_dX5_text_22.1
theorem zs_dX5_force_0 : zsuf cX5_force 0 cX5_force.data.toList := rfl
noncomputable def zr_dX5_force_0 := zo_27 (q := 1) zs_dX5_force_0 rfl
noncomputable def dX5_force_0 := zr_dX5_force_0.1
noncomputable def zr_dX5_force_1 := zo_155 (k := 14)  (q := 4) zr_dX5_force_0.2 (by decide +kernel) rfl
noncomputable def dX5_force_1 := zr_dX5_force_1.1
noncomputable def zr_dX5_force_4 := zo_27 (q := 5) zr_dX5_force_1.2 rfl
noncomputable def dX5_force_4 := zr_dX5_force_4.1
noncomputable def zr_dX5_force_5 := zo_42 (q := 6) zr_dX5_force_4.2 rfl
noncomputable def dX5_force_5 := zr_dX5_force_5.1
noncomputable def zr_dX5_force_6 := zo_180 (k := 10)  (q := 9) zr_dX5_force_5.2 rfl rfl
noncomputable def dX5_force_6 := zr_dX5_force_6.1
noncomputable def zr_dX5_force_9 := zo_180 (k := 78)  (q := 12) zr_dX5_force_6.2 rfl rfl
noncomputable def dX5_force_9 := zr_dX5_force_9.1
noncomputable def zr_dX5_force_12 := zo_161 (k := 6)  (q := 15) zr_dX5_force_9.2 (by decide +kernel) rfl
noncomputable def dX5_force_12 := zr_dX5_force_12.1
noncomputable def zr_dX5_force_15 := zo_16 (k := -2)  (q := 17) zr_dX5_force_12.2 (by decide +kernel) rfl
noncomputable def dX5_force_15 := zr_dX5_force_15.1
noncomputable def zr_dX5_force_17 := zo_172 (q := 18) zr_dX5_force_15.2 rfl
noncomputable def dX5_force_17 := zr_dX5_force_17.1
noncomputable def zr_dX5_force_18 := zo_42 (q := 19) zr_dX5_force_17.2 rfl
noncomputable def dX5_force_18 := zr_dX5_force_18.1
noncomputable def zr_dX5_force_19 := zo_180 (k := 28)  (q := 22) zr_dX5_force_18.2 rfl rfl
noncomputable def dX5_force_19 := zr_dX5_force_19.1
noncomputable def zr_dX5_force_22 := zo_180 (k := 81)  (q := 25) zr_dX5_force_19.2 rfl rfl
noncomputable def dX5_force_22 := zr_dX5_force_22.1
noncomputable def zr_dX5_force_25 := zo_61 (q := 26) zr_dX5_force_22.2 rfl
noncomputable def dX5_force_25 := zr_dX5_force_25.1
noncomputable def zr_dX5_force_26 := zo_42 (q := 27) zr_dX5_force_25.2 rfl
noncomputable def dX5_force_26 := zr_dX5_force_26.1
noncomputable def zr_dX5_force_27 := zo_180 (k := 28)  (q := 30) zr_dX5_force_26.2 rfl rfl
noncomputable def dX5_force_27 := zr_dX5_force_27.1
noncomputable def zr_dX5_force_30 := zo_27 (q := 31) zr_dX5_force_27.2 rfl
noncomputable def dX5_force_30 := zr_dX5_force_30.1
noncomputable def zr_dX5_force_31 := zo_181 (k := 81)  (q := 34) zr_dX5_force_30.2 rfl rfl
noncomputable def dX5_force_31 := zr_dX5_force_31.1
noncomputable def zr_dX5_force_34 := zo_28 (q := 35) zr_dX5_force_31.2 rfl
noncomputable def dX5_force_34 := zr_dX5_force_34.1
noncomputable def zr_dX5_force_35 := zo_172 (q := 36) zr_dX5_force_34.2 rfl
noncomputable def dX5_force_35 := zr_dX5_force_35.1
theorem zs_dX5_asks_0 : zsuf cX5_asks 0 cX5_asks.data.toList := rfl
noncomputable def zr_dX5_asks_0 := zo_27 (q := 1) zs_dX5_asks_0 rfl
noncomputable def dX5_asks_0 := zr_dX5_asks_0.1
noncomputable def zr_dX5_asks_1 := zo_5 (q := 2) zr_dX5_asks_0.2 rfl
noncomputable def dX5_asks_1 := zr_dX5_asks_1.1
noncomputable def zr_dX5_asks_2 := zo_184 (k := 86)  (q := 5) zr_dX5_asks_1.2 rfl rfl
noncomputable def dX5_asks_2 := zr_dX5_asks_2.1
noncomputable def zr_dX5_asks_5 := zo_153 (k := 25)  (q := 8) zr_dX5_asks_2.2 (by decide +kernel) rfl
noncomputable def dX5_asks_5 := zr_dX5_asks_5.1
noncomputable def zr_dX5_asks_8 := zo_42 (q := 9) zr_dX5_asks_5.2 rfl
noncomputable def dX5_asks_8 := zr_dX5_asks_8.1
noncomputable def zr_dX5_asks_9 := zo_180 (k := 28)  (q := 12) zr_dX5_asks_8.2 rfl rfl
noncomputable def dX5_asks_9 := zr_dX5_asks_9.1
noncomputable def zr_dX5_asks_12 := zo_28 (q := 13) zr_dX5_asks_9.2 rfl
noncomputable def dX5_asks_12 := zr_dX5_asks_12.1
noncomputable def zr_dX5_asks_13 := zo_182 (k := 94)  (q := 16) zr_dX5_asks_12.2 rfl rfl
noncomputable def dX5_asks_13 := zr_dX5_asks_13.1
noncomputable def zr_dX5_asks_16 := zo_153 (k := 14)  (q := 19) zr_dX5_asks_13.2 (by decide +kernel) rfl
noncomputable def dX5_asks_16 := zr_dX5_asks_16.1
noncomputable def zr_dX5_asks_19 := zo_42 (q := 20) zr_dX5_asks_16.2 rfl
noncomputable def dX5_asks_19 := zr_dX5_asks_19.1
noncomputable def zr_dX5_asks_20 := zo_180 (k := 28)  (q := 23) zr_dX5_asks_19.2 rfl rfl
noncomputable def dX5_asks_20 := zr_dX5_asks_20.1
noncomputable def zr_dX5_asks_23 := zo_29 (q := 24) zr_dX5_asks_20.2 rfl
noncomputable def dX5_asks_23 := zr_dX5_asks_23.1
noncomputable def zr_dX5_asks_24 := zo_182 (k := 111)  (q := 27) zr_dX5_asks_23.2 rfl rfl
noncomputable def dX5_asks_24 := zr_dX5_asks_24.1
noncomputable def zr_dX5_asks_27 := zo_154 (k := 6)  (q := 30) zr_dX5_asks_24.2 (by decide +kernel) rfl
noncomputable def dX5_asks_27 := zr_dX5_asks_27.1
noncomputable def zr_dX5_asks_30 := zo_16 (k := -2)  (q := 32) zr_dX5_asks_27.2 (by decide +kernel) rfl
noncomputable def dX5_asks_30 := zr_dX5_asks_30.1
noncomputable def zr_dX5_asks_32 := zo_172 (q := 33) zr_dX5_asks_30.2 rfl
noncomputable def dX5_asks_32 := zr_dX5_asks_32.1
noncomputable def zr_dX5_asks_33 := zo_42 (q := 34) zr_dX5_asks_32.2 rfl
noncomputable def dX5_asks_33 := zr_dX5_asks_33.1
noncomputable def zr_dX5_asks_34 := zo_180 (k := 28)  (q := 37) zr_dX5_asks_33.2 rfl rfl
noncomputable def dX5_asks_34 := zr_dX5_asks_34.1
noncomputable def zr_dX5_asks_37 := zo_27 (q := 38) zr_dX5_asks_34.2 rfl
noncomputable def dX5_asks_37 := zr_dX5_asks_37.1
noncomputable def zr_dX5_asks_38 := zo_28 (q := 39) zr_dX5_asks_37.2 rfl
noncomputable def dX5_asks_38 := zr_dX5_asks_38.1
noncomputable def zr_dX5_asks_39 := zo_29 (q := 40) zr_dX5_asks_38.2 rfl
noncomputable def dX5_asks_39 := zr_dX5_asks_39.1
noncomputable def zr_dX5_asks_40 := zo_182 (k := 114)  (q := 43) zr_dX5_asks_39.2 rfl rfl
noncomputable def dX5_asks_40 := zr_dX5_asks_40.1
noncomputable def zr_dX5_asks_43 := zo_172 (q := 44) zr_dX5_asks_40.2 rfl
noncomputable def dX5_asks_43 := zr_dX5_asks_43.1
theorem zs_dX5_pebble_0 : zsuf cX5_pebble 0 cX5_pebble.data.toList := rfl
noncomputable def zr_dX5_pebble_0 := zo_27 (q := 1) zs_dX5_pebble_0 rfl
noncomputable def dX5_pebble_0 := zr_dX5_pebble_0.1
noncomputable def zr_dX5_pebble_1 := zo_16 (k := 59)  (q := 3) zr_dX5_pebble_0.2 (by decide +kernel) rfl
noncomputable def dX5_pebble_1 := zr_dX5_pebble_1.1
noncomputable def zr_dX5_pebble_3 := zo_184 (k := 86)  (q := 6) zr_dX5_pebble_1.2 rfl rfl
noncomputable def dX5_pebble_3 := zr_dX5_pebble_3.1
noncomputable def zr_dX5_pebble_6 := zo_153 (k := 13)  (q := 9) zr_dX5_pebble_3.2 (by decide +kernel) rfl
noncomputable def dX5_pebble_6 := zr_dX5_pebble_6.1
noncomputable def zr_dX5_pebble_9 := zo_28 (q := 10) zr_dX5_pebble_6.2 rfl
noncomputable def dX5_pebble_9 := zr_dX5_pebble_9.1
noncomputable def zr_dX5_pebble_10 := zo_17 (k := 9999)  (q := 13) zr_dX5_pebble_9.2 (by decide +kernel) rfl
noncomputable def dX5_pebble_10 := zr_dX5_pebble_10.1
noncomputable def zr_dX5_pebble_13 := zo_184 (k := 86)  (q := 16) zr_dX5_pebble_10.2 rfl rfl
noncomputable def dX5_pebble_13 := zr_dX5_pebble_13.1
noncomputable def zr_dX5_pebble_16 := zo_154 (k := 6)  (q := 19) zr_dX5_pebble_13.2 (by decide +kernel) rfl
noncomputable def dX5_pebble_16 := zr_dX5_pebble_16.1
noncomputable def zr_dX5_pebble_19 := zo_16 (k := -2)  (q := 21) zr_dX5_pebble_16.2 (by decide +kernel) rfl
noncomputable def dX5_pebble_19 := zr_dX5_pebble_19.1
noncomputable def zr_dX5_pebble_21 := zo_172 (q := 22) zr_dX5_pebble_19.2 rfl
noncomputable def dX5_pebble_21 := zr_dX5_pebble_21.1
noncomputable def zr_dX5_pebble_22 := zo_42 (q := 23) zr_dX5_pebble_21.2 rfl
noncomputable def dX5_pebble_22 := zr_dX5_pebble_22.1
noncomputable def zr_dX5_pebble_23 := zo_180 (k := 28)  (q := 26) zr_dX5_pebble_22.2 rfl rfl
noncomputable def dX5_pebble_23 := zr_dX5_pebble_23.1
noncomputable def zr_dX5_pebble_26 := zo_27 (q := 27) zr_dX5_pebble_23.2 rfl
noncomputable def dX5_pebble_26 := zr_dX5_pebble_26.1
noncomputable def zr_dX5_pebble_27 := zo_28 (q := 28) zr_dX5_pebble_26.2 rfl
noncomputable def dX5_pebble_27 := zr_dX5_pebble_27.1
noncomputable def zr_dX5_pebble_28 := zo_182 (k := 118)  (q := 31) zr_dX5_pebble_27.2 rfl rfl
noncomputable def dX5_pebble_28 := zr_dX5_pebble_28.1
noncomputable def zr_dX5_pebble_31 := zo_172 (q := 32) zr_dX5_pebble_28.2 rfl
noncomputable def dX5_pebble_31 := zr_dX5_pebble_31.1
theorem zs_dX5_put_0 : zsuf cX5_put 0 cX5_put.data.toList := rfl
noncomputable def zr_dX5_put_0 := zo_42 (q := 1) zs_dX5_put_0 rfl
noncomputable def dX5_put_0 := zr_dX5_put_0.1
noncomputable def zr_dX5_put_1 := zo_180 (k := 28)  (q := 4) zr_dX5_put_0.2 rfl rfl
noncomputable def dX5_put_1 := zr_dX5_put_1.1
noncomputable def zr_dX5_put_4 := zo_27 (q := 5) zr_dX5_put_1.2 rfl
noncomputable def dX5_put_4 := zr_dX5_put_4.1
noncomputable def zr_dX5_put_5 := zo_182 (k := 111)  (q := 8) zr_dX5_put_4.2 rfl rfl
noncomputable def dX5_put_5 := zr_dX5_put_5.1
noncomputable def zr_dX5_put_8 := zo_154 (k := 6)  (q := 11) zr_dX5_put_5.2 (by decide +kernel) rfl
noncomputable def dX5_put_8 := zr_dX5_put_8.1
noncomputable def zr_dX5_put_11 := zo_16 (k := -5)  (q := 13) zr_dX5_put_8.2 (by decide +kernel) rfl
noncomputable def dX5_put_11 := zr_dX5_put_11.1
noncomputable def zr_dX5_put_13 := zo_172 (q := 14) zr_dX5_put_11.2 rfl
noncomputable def dX5_put_13 := zr_dX5_put_13.1
noncomputable def zr_dX5_put_14 := zo_28 (q := 15) zr_dX5_put_13.2 rfl
noncomputable def dX5_put_14 := zr_dX5_put_14.1
noncomputable def zr_dX5_put_15 := zo_4 (q := 16) zr_dX5_put_14.2 rfl
noncomputable def dX5_put_15 := zr_dX5_put_15.1
noncomputable def zr_dX5_put_16 := zo_184 (k := 86)  (q := 19) zr_dX5_put_15.2 rfl rfl
noncomputable def dX5_put_16 := zr_dX5_put_16.1
noncomputable def zr_dX5_put_19 := zo_153 (k := 12)  (q := 22) zr_dX5_put_16.2 (by decide +kernel) rfl
noncomputable def dX5_put_19 := zr_dX5_put_19.1
noncomputable def zr_dX5_put_22 := zo_29 (q := 23) zr_dX5_put_19.2 rfl
noncomputable def dX5_put_22 := zr_dX5_put_22.1
noncomputable def zr_dX5_put_23 := zo_16 (k := 99)  (q := 25) zr_dX5_put_22.2 (by decide +kernel) rfl
noncomputable def dX5_put_23 := zr_dX5_put_23.1
noncomputable def zr_dX5_put_25 := zo_184 (k := 86)  (q := 28) zr_dX5_put_23.2 rfl rfl
noncomputable def dX5_put_25 := zr_dX5_put_25.1
noncomputable def zr_dX5_put_28 := zo_154 (k := 6)  (q := 31) zr_dX5_put_25.2 (by decide +kernel) rfl
noncomputable def dX5_put_28 := zr_dX5_put_28.1
noncomputable def zr_dX5_put_31 := zo_16 (k := -7)  (q := 33) zr_dX5_put_28.2 (by decide +kernel) rfl
noncomputable def dX5_put_31 := zr_dX5_put_31.1
noncomputable def zr_dX5_put_33 := zo_172 (q := 34) zr_dX5_put_31.2 rfl
noncomputable def dX5_put_33 := zr_dX5_put_33.1
noncomputable def zr_dX5_put_34 := zo_28 (q := 35) zr_dX5_put_33.2 rfl
noncomputable def dX5_put_34 := zr_dX5_put_34.1
noncomputable def zr_dX5_put_35 := zo_154 (k := 13)  (q := 38) zr_dX5_put_34.2 (by decide +kernel) rfl
noncomputable def dX5_put_35 := zr_dX5_put_35.1
noncomputable def zr_dX5_put_38 := zo_42 (q := 39) zr_dX5_put_35.2 rfl
noncomputable def dX5_put_38 := zr_dX5_put_38.1
noncomputable def zr_dX5_put_39 := zo_180 (k := 28)  (q := 42) zr_dX5_put_38.2 rfl rfl
noncomputable def dX5_put_39 := zr_dX5_put_39.1
noncomputable def zr_dX5_put_42 := zo_180 (k := 122)  (q := 45) zr_dX5_put_39.2 rfl rfl
noncomputable def dX5_put_42 := zr_dX5_put_42.1
noncomputable def zr_dX5_put_45 := zo_167 (k := 10)  (q := 48) zr_dX5_put_42.2 (by decide +kernel) rfl
noncomputable def dX5_put_45 := zr_dX5_put_45.1
noncomputable def zr_dX5_put_48 := zo_42 (q := 49) zr_dX5_put_45.2 rfl
noncomputable def dX5_put_48 := zr_dX5_put_48.1
noncomputable def zr_dX5_put_49 := zo_180 (k := 28)  (q := 52) zr_dX5_put_48.2 rfl rfl
noncomputable def dX5_put_49 := zr_dX5_put_49.1
noncomputable def zr_dX5_put_52 := zo_180 (k := 125)  (q := 55) zr_dX5_put_49.2 rfl rfl
noncomputable def dX5_put_52 := zr_dX5_put_52.1
noncomputable def zr_dX5_put_55 := zo_58 (k := 4)  (q := 57) zr_dX5_put_52.2 rfl rfl
noncomputable def dX5_put_55 := zr_dX5_put_55.1
noncomputable def zr_dX5_put_57 := zo_25 (k := 4)  (q := 59) zr_dX5_put_55.2 rfl rfl
noncomputable def dX5_put_57 := zr_dX5_put_57.1
noncomputable def zr_dX5_put_59 := zo_27 (q := 60) zr_dX5_put_57.2 rfl
noncomputable def dX5_put_59 := zr_dX5_put_59.1
noncomputable def zr_dX5_put_60 := zo_46 (q := 61) zr_dX5_put_59.2 rfl
noncomputable def dX5_put_60 := zr_dX5_put_60.1
noncomputable def zr_dX5_put_61 := zo_54 (k := 5)  (q := 63) zr_dX5_put_60.2 rfl rfl
noncomputable def dX5_put_61 := zr_dX5_put_61.1
noncomputable def zr_dX5_put_63 := zo_25 (k := 4)  (q := 65) zr_dX5_put_61.2 rfl rfl
noncomputable def dX5_put_63 := zr_dX5_put_63.1
noncomputable def zr_dX5_put_65 := zo_27 (q := 66) zr_dX5_put_63.2 rfl
noncomputable def dX5_put_65 := zr_dX5_put_65.1
noncomputable def zr_dX5_put_66 := zo_29 (q := 67) zr_dX5_put_65.2 rfl
noncomputable def dX5_put_66 := zr_dX5_put_66.1
noncomputable def zr_dX5_put_67 := zo_79 (q := 68) zr_dX5_put_66.2 rfl
noncomputable def dX5_put_67 := zr_dX5_put_67.1
noncomputable def zr_dX5_put_68 := zo_21 (k := 5)  (q := 70) zr_dX5_put_67.2 rfl rfl
noncomputable def dX5_put_68 := zr_dX5_put_68.1
noncomputable def zr_dX5_put_70 := zo_172 (q := 71) zr_dX5_put_68.2 rfl
noncomputable def dX5_put_70 := zr_dX5_put_70.1
theorem zs_dX5_told_0 : zsuf cX5_told 0 cX5_told.data.toList := rfl
noncomputable def zr_dX5_told_0 := zo_42 (q := 1) zs_dX5_told_0 rfl
noncomputable def dX5_told_0 := zr_dX5_told_0.1
noncomputable def zr_dX5_told_1 := zo_180 (k := 28)  (q := 4) zr_dX5_told_0.2 rfl rfl
noncomputable def dX5_told_1 := zr_dX5_told_1.1
noncomputable def zr_dX5_told_4 := zo_27 (q := 5) zr_dX5_told_1.2 rfl
noncomputable def dX5_told_4 := zr_dX5_told_4.1
noncomputable def zr_dX5_told_5 := zo_182 (k := 111)  (q := 8) zr_dX5_told_4.2 rfl rfl
noncomputable def dX5_told_5 := zr_dX5_told_5.1
noncomputable def zr_dX5_told_8 := zo_154 (k := 6)  (q := 11) zr_dX5_told_5.2 (by decide +kernel) rfl
noncomputable def dX5_told_8 := zr_dX5_told_8.1
noncomputable def zr_dX5_told_11 := zo_16 (k := -5)  (q := 13) zr_dX5_told_8.2 (by decide +kernel) rfl
noncomputable def dX5_told_11 := zr_dX5_told_11.1
noncomputable def zr_dX5_told_13 := zo_172 (q := 14) zr_dX5_told_11.2 rfl
noncomputable def dX5_told_13 := zr_dX5_told_13.1
noncomputable def zr_dX5_told_14 := zo_28 (q := 15) zr_dX5_told_13.2 rfl
noncomputable def dX5_told_14 := zr_dX5_told_14.1
theorem dX5_told_15 : zD cX5_told 15 (.tableswitch 90 0 4 #[33, 43, 53, 63, 73]) 33 := by decide +kernel
noncomputable def zr_dX5_told_15 := zskip zr_dX5_told_14.2 33 (q := 48) rfl
noncomputable def zr_dX5_told_48 := zo_42 (q := 49) zr_dX5_told_15 rfl
noncomputable def dX5_told_48 := zr_dX5_told_48.1
noncomputable def zr_dX5_told_49 := zo_180 (k := 28)  (q := 52) zr_dX5_told_48.2 rfl rfl
noncomputable def dX5_told_49 := zr_dX5_told_49.1
noncomputable def zr_dX5_told_52 := zo_180 (k := 128)  (q := 55) zr_dX5_told_49.2 rfl rfl
noncomputable def dX5_told_52 := zr_dX5_told_52.1
noncomputable def zr_dX5_told_55 := zo_27 (q := 56) zr_dX5_told_52.2 rfl
noncomputable def dX5_told_55 := zr_dX5_told_55.1
noncomputable def zr_dX5_told_56 := zo_46 (q := 57) zr_dX5_told_55.2 rfl
noncomputable def dX5_told_56 := zr_dX5_told_56.1
noncomputable def zr_dX5_told_57 := zo_172 (q := 58) zr_dX5_told_56.2 rfl
noncomputable def dX5_told_57 := zr_dX5_told_57.1
noncomputable def zr_dX5_told_58 := zo_42 (q := 59) zr_dX5_told_57.2 rfl
noncomputable def dX5_told_58 := zr_dX5_told_58.1
noncomputable def zr_dX5_told_59 := zo_180 (k := 28)  (q := 62) zr_dX5_told_58.2 rfl rfl
noncomputable def dX5_told_59 := zr_dX5_told_59.1
noncomputable def zr_dX5_told_62 := zo_180 (k := 131)  (q := 65) zr_dX5_told_59.2 rfl rfl
noncomputable def dX5_told_62 := zr_dX5_told_62.1
noncomputable def zr_dX5_told_65 := zo_27 (q := 66) zr_dX5_told_62.2 rfl
noncomputable def dX5_told_65 := zr_dX5_told_65.1
noncomputable def zr_dX5_told_66 := zo_46 (q := 67) zr_dX5_told_65.2 rfl
noncomputable def dX5_told_66 := zr_dX5_told_66.1
noncomputable def zr_dX5_told_67 := zo_172 (q := 68) zr_dX5_told_66.2 rfl
noncomputable def dX5_told_67 := zr_dX5_told_67.1
noncomputable def zr_dX5_told_68 := zo_42 (q := 69) zr_dX5_told_67.2 rfl
noncomputable def dX5_told_68 := zr_dX5_told_68.1
noncomputable def zr_dX5_told_69 := zo_180 (k := 28)  (q := 72) zr_dX5_told_68.2 rfl rfl
noncomputable def dX5_told_69 := zr_dX5_told_69.1
noncomputable def zr_dX5_told_72 := zo_180 (k := 122)  (q := 75) zr_dX5_told_69.2 rfl rfl
noncomputable def dX5_told_72 := zr_dX5_told_72.1
noncomputable def zr_dX5_told_75 := zo_27 (q := 76) zr_dX5_told_72.2 rfl
noncomputable def dX5_told_75 := zr_dX5_told_75.1
noncomputable def zr_dX5_told_76 := zo_46 (q := 77) zr_dX5_told_75.2 rfl
noncomputable def dX5_told_76 := zr_dX5_told_76.1
noncomputable def zr_dX5_told_77 := zo_172 (q := 78) zr_dX5_told_76.2 rfl
noncomputable def dX5_told_77 := zr_dX5_told_77.1
noncomputable def zr_dX5_told_78 := zo_42 (q := 79) zr_dX5_told_77.2 rfl
noncomputable def dX5_told_78 := zr_dX5_told_78.1
noncomputable def zr_dX5_told_79 := zo_180 (k := 28)  (q := 82) zr_dX5_told_78.2 rfl rfl
noncomputable def dX5_told_79 := zr_dX5_told_79.1
noncomputable def zr_dX5_told_82 := zo_180 (k := 125)  (q := 85) zr_dX5_told_79.2 rfl rfl
noncomputable def dX5_told_82 := zr_dX5_told_82.1
noncomputable def zr_dX5_told_85 := zo_27 (q := 86) zr_dX5_told_82.2 rfl
noncomputable def dX5_told_85 := zr_dX5_told_85.1
noncomputable def zr_dX5_told_86 := zo_46 (q := 87) zr_dX5_told_85.2 rfl
noncomputable def dX5_told_86 := zr_dX5_told_86.1
noncomputable def zr_dX5_told_87 := zo_172 (q := 88) zr_dX5_told_86.2 rfl
noncomputable def dX5_told_87 := zr_dX5_told_87.1
noncomputable def zr_dX5_told_88 := zo_42 (q := 89) zr_dX5_told_87.2 rfl
noncomputable def dX5_told_88 := zr_dX5_told_88.1
noncomputable def zr_dX5_told_89 := zo_180 (k := 28)  (q := 92) zr_dX5_told_88.2 rfl rfl
noncomputable def dX5_told_89 := zr_dX5_told_89.1
noncomputable def zr_dX5_told_92 := zo_27 (q := 93) zr_dX5_told_89.2 rfl
noncomputable def dX5_told_92 := zr_dX5_told_92.1
noncomputable def zr_dX5_told_93 := zo_182 (k := 134)  (q := 96) zr_dX5_told_92.2 rfl rfl
noncomputable def dX5_told_93 := zr_dX5_told_93.1
noncomputable def zr_dX5_told_96 := zo_153 (k := 7)  (q := 99) zr_dX5_told_93.2 (by decide +kernel) rfl
noncomputable def dX5_told_96 := zr_dX5_told_96.1
noncomputable def zr_dX5_told_99 := zo_4 (q := 100) zr_dX5_told_96.2 rfl
noncomputable def dX5_told_99 := zr_dX5_told_99.1
noncomputable def zr_dX5_told_100 := zo_167 (k := 4)  (q := 103) zr_dX5_told_99.2 (by decide +kernel) rfl
noncomputable def dX5_told_100 := zr_dX5_told_100.1
noncomputable def zr_dX5_told_103 := zo_3 (q := 104) zr_dX5_told_100.2 rfl
noncomputable def dX5_told_103 := zr_dX5_told_103.1
noncomputable def zr_dX5_told_104 := zo_172 (q := 105) zr_dX5_told_103.2 rfl
noncomputable def dX5_told_104 := zr_dX5_told_104.1
noncomputable def zr_dX5_told_105 := zo_16 (k := -7)  (q := 107) zr_dX5_told_104.2 (by decide +kernel) rfl
noncomputable def dX5_told_105 := zr_dX5_told_105.1
noncomputable def zr_dX5_told_107 := zo_172 (q := 108) zr_dX5_told_105.2 rfl
noncomputable def dX5_told_107 := zr_dX5_told_107.1
theorem zs_dX5_walk_0 : zsuf cX5_walk 0 cX5_walk.data.toList := rfl
noncomputable def zr_dX5_walk_0 := zo_42 (q := 1) zs_dX5_walk_0 rfl
noncomputable def dX5_walk_0 := zr_dX5_walk_0.1
noncomputable def zr_dX5_walk_1 := zo_180 (k := 28)  (q := 4) zr_dX5_walk_0.2 rfl rfl
noncomputable def dX5_walk_1 := zr_dX5_walk_1.1
noncomputable def zr_dX5_walk_4 := zo_27 (q := 5) zr_dX5_walk_1.2 rfl
noncomputable def dX5_walk_4 := zr_dX5_walk_4.1
noncomputable def zr_dX5_walk_5 := zo_28 (q := 6) zr_dX5_walk_4.2 rfl
noncomputable def dX5_walk_5 := zr_dX5_walk_5.1
noncomputable def zr_dX5_walk_6 := zo_182 (k := 137)  (q := 9) zr_dX5_walk_5.2 rfl rfl
noncomputable def dX5_walk_6 := zr_dX5_walk_6.1
noncomputable def zr_dX5_walk_9 := zo_154 (k := 6)  (q := 12) zr_dX5_walk_6.2 (by decide +kernel) rfl
noncomputable def dX5_walk_9 := zr_dX5_walk_9.1
noncomputable def zr_dX5_walk_12 := zo_16 (k := -5)  (q := 14) zr_dX5_walk_9.2 (by decide +kernel) rfl
noncomputable def dX5_walk_12 := zr_dX5_walk_12.1
noncomputable def zr_dX5_walk_14 := zo_172 (q := 15) zr_dX5_walk_12.2 rfl
noncomputable def dX5_walk_14 := zr_dX5_walk_14.1
noncomputable def zr_dX5_walk_15 := zo_29 (q := 16) zr_dX5_walk_14.2 rfl
noncomputable def dX5_walk_15 := zr_dX5_walk_15.1
noncomputable def zr_dX5_walk_16 := zo_16 (k := 60)  (q := 18) zr_dX5_walk_15.2 (by decide +kernel) rfl
noncomputable def dX5_walk_16 := zr_dX5_walk_16.1
noncomputable def zr_dX5_walk_18 := zo_184 (k := 86)  (q := 21) zr_dX5_walk_16.2 rfl rfl
noncomputable def dX5_walk_18 := zr_dX5_walk_18.1
noncomputable def zr_dX5_walk_21 := zo_154 (k := 6)  (q := 24) zr_dX5_walk_18.2 (by decide +kernel) rfl
noncomputable def dX5_walk_21 := zr_dX5_walk_21.1
noncomputable def zr_dX5_walk_24 := zo_16 (k := -7)  (q := 26) zr_dX5_walk_21.2 (by decide +kernel) rfl
noncomputable def dX5_walk_24 := zr_dX5_walk_24.1
noncomputable def zr_dX5_walk_26 := zo_172 (q := 27) zr_dX5_walk_24.2 rfl
noncomputable def dX5_walk_26 := zr_dX5_walk_26.1
noncomputable def zr_dX5_walk_27 := zo_42 (q := 28) zr_dX5_walk_26.2 rfl
noncomputable def dX5_walk_27 := zr_dX5_walk_27.1
noncomputable def zr_dX5_walk_28 := zo_180 (k := 28)  (q := 31) zr_dX5_walk_27.2 rfl rfl
noncomputable def dX5_walk_28 := zr_dX5_walk_28.1
noncomputable def zr_dX5_walk_31 := zo_180 (k := 102)  (q := 34) zr_dX5_walk_28.2 rfl rfl
noncomputable def dX5_walk_31 := zr_dX5_walk_31.1
noncomputable def zr_dX5_walk_34 := zo_27 (q := 35) zr_dX5_walk_31.2 rfl
noncomputable def dX5_walk_34 := zr_dX5_walk_34.1
noncomputable def zr_dX5_walk_35 := zo_46 (q := 36) zr_dX5_walk_34.2 rfl
noncomputable def dX5_walk_35 := zr_dX5_walk_35.1
noncomputable def zr_dX5_walk_36 := zo_29 (q := 37) zr_dX5_walk_35.2 rfl
noncomputable def dX5_walk_36 := zr_dX5_walk_36.1
noncomputable def zr_dX5_walk_37 := zo_96 (q := 38) zr_dX5_walk_36.2 rfl
noncomputable def dX5_walk_37 := zr_dX5_walk_37.1
noncomputable def zr_dX5_walk_38 := zo_17 (k := 999)  (q := 41) zr_dX5_walk_37.2 (by decide +kernel) rfl
noncomputable def dX5_walk_38 := zr_dX5_walk_38.1
noncomputable def zr_dX5_walk_41 := zo_164 (k := 6)  (q := 44) zr_dX5_walk_38.2 (by decide +kernel) rfl
noncomputable def dX5_walk_41 := zr_dX5_walk_41.1
noncomputable def zr_dX5_walk_44 := zo_16 (k := -4)  (q := 46) zr_dX5_walk_41.2 (by decide +kernel) rfl
noncomputable def dX5_walk_44 := zr_dX5_walk_44.1
noncomputable def zr_dX5_walk_46 := zo_172 (q := 47) zr_dX5_walk_44.2 rfl
noncomputable def dX5_walk_46 := zr_dX5_walk_46.1
noncomputable def zr_dX5_walk_47 := zo_42 (q := 48) zr_dX5_walk_46.2 rfl
noncomputable def dX5_walk_47 := zr_dX5_walk_47.1
noncomputable def zr_dX5_walk_48 := zo_180 (k := 28)  (q := 51) zr_dX5_walk_47.2 rfl rfl
noncomputable def dX5_walk_48 := zr_dX5_walk_48.1
noncomputable def zr_dX5_walk_51 := zo_27 (q := 52) zr_dX5_walk_48.2 rfl
noncomputable def dX5_walk_51 := zr_dX5_walk_51.1
noncomputable def zr_dX5_walk_52 := zo_28 (q := 53) zr_dX5_walk_51.2 rfl
noncomputable def dX5_walk_52 := zr_dX5_walk_52.1
noncomputable def zr_dX5_walk_53 := zo_29 (q := 54) zr_dX5_walk_52.2 rfl
noncomputable def dX5_walk_53 := zr_dX5_walk_53.1
noncomputable def zr_dX5_walk_54 := zo_182 (k := 140)  (q := 57) zr_dX5_walk_53.2 rfl rfl
noncomputable def dX5_walk_54 := zr_dX5_walk_54.1
noncomputable def zr_dX5_walk_57 := zo_172 (q := 58) zr_dX5_walk_54.2 rfl
noncomputable def dX5_walk_57 := zr_dX5_walk_57.1
theorem zs_dX5_hear_0 : zsuf cX5_hear 0 cX5_hear.data.toList := rfl
noncomputable def zr_dX5_hear_0 := zo_42 (q := 1) zs_dX5_hear_0 rfl
noncomputable def dX5_hear_0 := zr_dX5_hear_0.1
noncomputable def zr_dX5_hear_1 := zo_180 (k := 28)  (q := 4) zr_dX5_hear_0.2 rfl rfl
noncomputable def dX5_hear_1 := zr_dX5_hear_1.1
noncomputable def zr_dX5_hear_4 := zo_27 (q := 5) zr_dX5_hear_1.2 rfl
noncomputable def dX5_hear_4 := zr_dX5_hear_4.1
noncomputable def zr_dX5_hear_5 := zo_28 (q := 6) zr_dX5_hear_4.2 rfl
noncomputable def dX5_hear_5 := zr_dX5_hear_5.1
noncomputable def zr_dX5_hear_6 := zo_182 (k := 137)  (q := 9) zr_dX5_hear_5.2 rfl rfl
noncomputable def dX5_hear_6 := zr_dX5_hear_6.1
noncomputable def zr_dX5_hear_9 := zo_154 (k := 6)  (q := 12) zr_dX5_hear_6.2 (by decide +kernel) rfl
noncomputable def dX5_hear_9 := zr_dX5_hear_9.1
noncomputable def zr_dX5_hear_12 := zo_16 (k := -5)  (q := 14) zr_dX5_hear_9.2 (by decide +kernel) rfl
noncomputable def dX5_hear_12 := zr_dX5_hear_12.1
noncomputable def zr_dX5_hear_14 := zo_172 (q := 15) zr_dX5_hear_12.2 rfl
noncomputable def dX5_hear_14 := zr_dX5_hear_14.1
noncomputable def zr_dX5_hear_15 := zo_29 (q := 16) zr_dX5_hear_14.2 rfl
noncomputable def dX5_hear_15 := zr_dX5_hear_15.1
noncomputable def zr_dX5_hear_16 := zo_16 (k := 60)  (q := 18) zr_dX5_hear_15.2 (by decide +kernel) rfl
noncomputable def dX5_hear_16 := zr_dX5_hear_16.1
noncomputable def zr_dX5_hear_18 := zo_184 (k := 86)  (q := 21) zr_dX5_hear_16.2 rfl rfl
noncomputable def dX5_hear_18 := zr_dX5_hear_18.1
noncomputable def zr_dX5_hear_21 := zo_153 (k := 12)  (q := 24) zr_dX5_hear_18.2 (by decide +kernel) rfl
noncomputable def dX5_hear_21 := zr_dX5_hear_21.1
noncomputable def zr_dX5_hear_24 := zo_21 (k := 4)  (q := 26) zr_dX5_hear_21.2 rfl rfl
noncomputable def dX5_hear_24 := zr_dX5_hear_24.1
noncomputable def zr_dX5_hear_26 := zo_6 (q := 27) zr_dX5_hear_24.2 rfl
noncomputable def dX5_hear_26 := zr_dX5_hear_26.1
noncomputable def zr_dX5_hear_27 := zo_184 (k := 86)  (q := 30) zr_dX5_hear_26.2 rfl rfl
noncomputable def dX5_hear_27 := zr_dX5_hear_27.1
noncomputable def zr_dX5_hear_30 := zo_154 (k := 6)  (q := 33) zr_dX5_hear_27.2 (by decide +kernel) rfl
noncomputable def dX5_hear_30 := zr_dX5_hear_30.1
noncomputable def zr_dX5_hear_33 := zo_16 (k := -7)  (q := 35) zr_dX5_hear_30.2 (by decide +kernel) rfl
noncomputable def dX5_hear_33 := zr_dX5_hear_33.1
noncomputable def zr_dX5_hear_35 := zo_172 (q := 36) zr_dX5_hear_33.2 rfl
noncomputable def dX5_hear_35 := zr_dX5_hear_35.1
noncomputable def zr_dX5_hear_36 := zo_42 (q := 37) zr_dX5_hear_35.2 rfl
noncomputable def dX5_hear_36 := zr_dX5_hear_36.1
noncomputable def zr_dX5_hear_37 := zo_182 (k := 143)  (q := 40) zr_dX5_hear_36.2 rfl rfl
noncomputable def dX5_hear_37 := zr_dX5_hear_37.1
noncomputable def zr_dX5_hear_40 := zo_42 (q := 41) zr_dX5_hear_37.2 rfl
noncomputable def dX5_hear_40 := zr_dX5_hear_40.1
noncomputable def zr_dX5_hear_41 := zo_180 (k := 32)  (q := 44) zr_dX5_hear_40.2 rfl rfl
noncomputable def dX5_hear_41 := zr_dX5_hear_41.1
noncomputable def zr_dX5_hear_44 := zo_27 (q := 45) zr_dX5_hear_41.2 rfl
noncomputable def dX5_hear_44 := zr_dX5_hear_44.1
noncomputable def zr_dX5_hear_45 := zo_28 (q := 46) zr_dX5_hear_44.2 rfl
noncomputable def dX5_hear_45 := zr_dX5_hear_45.1
