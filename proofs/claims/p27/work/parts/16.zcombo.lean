/-! rows that come together again and again, in one -/
section ZCOMBO
variable {p : Program} {l : Launch} {e : Env} {R : Room} {s : State} {m : MethodId} {args : Array Value} {below : List Frame} {meth : Method} {c : Code} {H : Heap} {locs : List Loc} {cells slots : Nat} {Q : State → Prop}
variable {cc : ByteArray} {pc : Nat} {ls : Array Slot} {rest : List Value} {D : va_G} {cl : List vw_C} {A : Nat → Prop} {a : Nat} {tys : List (ClassId × FieldType)} {ws : va_W} {H0 : Heap}
theorem vpn {k n : Nat} (h : k < n) (hn : Nat.ble n 2147483647 = true) : vp_in (nI k) n := vp_in_nI h (Nat.lt_succ_of_le (Nat.le_of_ble_eq_true hn))
/-- a field of an object that stands in a local -/
theorem g_aget (hexec : p.tables.exec = Jvm.exec) (hb : c.code = cc) {k0 : Fin 4} {i0 : Nat} (d1 : decode cc pc = .ok (.aload_n k0, 1)) (hi0 : (k0 : Nat) = i0) (hl0 : ls[i0]? = some (.val (.ref a))) {own ref C : String} {T : u_T} {N ci index : Nat} {Ts : List Cond} (hts : ∀ w ∈ Ts, w.before args s = true) (hin : ∀ w ∈ u_ws C T N, w ∈ Ts) (hown : s.vm.findClass own = some m.cls) (hK : va_K D cl tys s) (hP : va_P D cl ws H) (q0 : Nat) {fs : List Value} (he : ws[q0]? = some (a, .inr (ci, fs))) (hc : cl[ci]? = some (C, T, N)) (k : Nat) (hk : k < N) (hlink : (Cond.fieldLink own index ref (T k).2.1 (T k).2.2.1).before args s = true) (hsame : ∀ x, s.fieldFound? (T k).1 (T k).2.1 (T k).2.2.1 = some x → s.fieldFound? ref (T k).2.1 (T k).2.2.1 = some x) {v : Value} (hv : fs[k]? = some v) (hdg : decode cc (pc + 1) = .ok (.getfield index, 3))
    (kk : W p l e R s m args below meth c H locs cells slots Q (F0 m (pc + 4) ls (v :: rest))) : W p l e R s m args below meth c H locs cells slots Q (F0 m pc ls rest) :=
  lv_aload_n hexec hb d1 hi0 hl0 (va_get hexec hb hts hin hown hK hP q0 he hc k hk hlink hsame hv hdg kk)
/-- a number of an array, at a place told as a number from 0 on -/
theorem g_iald (hexec : p.tables.exec = Jvm.exec) (hb : c.code = cc) (hK : va_K D cl tys s) (hP : va_P D cl ws H) (q0 t0 : Nat) {cA : ClassId} {n : Nat} {f : Nat → Int32} (ha : ws[q0]? = some (a, .inl (cA, n, .inl f))) (ht : tys[t0]? = some (cA, .int)) {k : Nat} {y : Int32} (h : k < n) (hn : Nat.ble n 2147483647 = true) (hy : f k = y) (hdg : decode cc pc = .ok (.iaload, 1))
    (kk : W p l e R s m args below meth c H locs cells slots Q (F0 m (pc + 1) ls (.int y :: rest))) : W p l e R s m args below meth c H locs cells slots Q (F0 m pc ls (.int (nI k) :: .ref a :: rest)) := by
  refine va_iald hexec hb hK hP q0 t0 ha ht (vpn h hn) hdg ?_
  rw [nI_clamp (Nat.lt_succ_of_le (Nat.le_trans (Nat.le_of_lt h) (Nat.le_of_ble_eq_true hn))), hy]
  exact kk
/-- a number into an array, at a place told as a number from 0 on -/
theorem g_iast (hexec : p.tables.exec = Jvm.exec) (hb : c.code = cc) (hK : va_K D cl tys s) (hP : va_P D cl ws H) (hD : va_D A ws) (hS : va_S A H0 H locs) (q0 t0 : Nat) {cA : ClassId} {n : Nat} {f : Nat → Int32} (ha : ws[q0]? = some (a, .inl (cA, n, .inl f))) (ht : tys[t0]? = some (cA, .int)) {k : Nat} {x : Int32} (h : k < n) (hn : Nat.ble n 2147483647 = true) (hdg : decode cc pc = .ok (.iastore, 1))
    (kk : ∀ (H1 : Heap) (locs1 : List Loc), va_P D cl (ws.set q0 (a, .inl (cA, n, .inl (upd f k x)))) H1 → va_D A (ws.set q0 (a, .inl (cA, n, .inl (upd f k x)))) → va_S A H0 H1 locs1 → W p l e R s m args below meth c H1 locs1 cells slots Q (F0 m (pc + 1) ls rest)) : W p l e R s m args below meth c H locs cells slots Q (F0 m pc ls (.int x :: .int (nI k) :: .ref a :: rest)) := by
  refine va_iast hexec hb hK hP hD hS q0 t0 ha ht (vpn h hn) hdg (fun H1 locs1 h1 h2 h3 => ?_)
  rw [nI_clamp (Nat.lt_succ_of_le (Nat.le_trans (Nat.le_of_lt h) (Nat.le_of_ble_eq_true hn)))] at h1 h2
  exact kk H1 locs1 h1 h2 h3
/-- one number of the script, of the call's seven -/
theorem lx_arg (hexec : p.tables.exec = Jvm.exec) (hb : c.code = cc) {b L : Nat} {xs : Nat → Int32} (hX : va_X b L xs s H0) (hbl : b < H0.size) (hbA : ¬ A b) (hS : va_S A H0 H locs) {i7 k nL : Nat} {v : Int32} {lv : List (Nat × Value)} (hi : 7 * i7 + 7 ≤ L) (hL : L ≤ 3584) (hk : Nat.ble k 6 = true) (hv : v = xs (7 * i7 + k)) (hl : lv_has ls nL lv) (q0 q3 : Nat) {k0 k3 : Fin 4} {i0 i3 : Nat} (d1 : decode cc pc = .ok (.aload_n k0, 1)) (e0 : (k0 : Nat) = i0) (h0 : lv[q0]? = some (i0, .ref b)) (d2 : decode cc (pc + 1) = .ok (.iload_n k3, 1)) (e3 : (k3 : Nat) = i3) (h3 : lv[q3]? = some (i3, .int (nI (7 * i7)))) {n : Int} (d3 : decode cc (pc + 2) = .ok (.iconst n, 1)) (hn : Int32.ofInt n = nI k) (d4 : decode cc (pc + 3) = .ok (.iadd, 1)) (d5 : decode cc (pc + 4) = .ok (.iaload, 1))
    (kk : W p l e R s m args below meth c H locs cells slots Q (F0 m (pc + 5) ls (.int v :: rest))) : W p l e R s m args below meth c H locs cells slots Q (F0 m pc ls rest) := by
  have hk6 := Nat.le_of_ble_eq_true hk
  refine lv_aload_n hexec hb d1 e0 (lv_at hl q0 h0) ?_
  refine lv_iload_n hexec hb d2 e3 (lv_at hl q3 h3) ?_
  refine lv_iconst hexec hb d3 hn ?_
  refine lv_iadd hexec hb d4 ?_
  refine g_topi (y := nI (7 * i7 + k)) (nI_add (7 * i7) k) ?_
  refine va_sld hexec hb hX hbl hbA hS (i := nI (7 * i7 + k)) (vp_in_nI (by omega) (by omega)) d5 ?_
  refine g_topi (y := v) (by rw [nI_clamp (by omega)]; exact hv.symm) ?_
  exact kk
theorem lx_argb (hexec : p.tables.exec = Jvm.exec) (hb : c.code = cc) {b L : Nat} {xs : Nat → Int32} (hX : va_X b L xs s H0) (hbl : b < H0.size) (hbA : ¬ A b) (hS : va_S A H0 H locs) {i7 k nL : Nat} {v : Int32} {lv : List (Nat × Value)} (hi : 7 * i7 + 7 ≤ L) (hL : L ≤ 3584) (hk : Nat.ble k 6 = true) (hv : v = xs (7 * i7 + k)) (hl : lv_has ls nL lv) (q0 q3 : Nat) {k0 k3 : Fin 4} {i0 i3 : Nat} (d1 : decode cc pc = .ok (.aload_n k0, 1)) (e0 : (k0 : Nat) = i0) (h0 : lv[q0]? = some (i0, .ref b)) (d2 : decode cc (pc + 1) = .ok (.iload_n k3, 1)) (e3 : (k3 : Nat) = i3) (h3 : lv[q3]? = some (i3, .int (nI (7 * i7)))) {n : Int} (d3 : decode cc (pc + 2) = .ok (.bipush n, 2)) (hn : (Int8.ofInt n).toInt32 = nI k) (d4 : decode cc (pc + 4) = .ok (.iadd, 1)) (d5 : decode cc (pc + 5) = .ok (.iaload, 1))
    (kk : W p l e R s m args below meth c H locs cells slots Q (F0 m (pc + 6) ls (.int v :: rest))) : W p l e R s m args below meth c H locs cells slots Q (F0 m pc ls rest) := by
  have hk6 := Nat.le_of_ble_eq_true hk
  refine lv_aload_n hexec hb d1 e0 (lv_at hl q0 h0) ?_
  refine lv_iload_n hexec hb d2 e3 (lv_at hl q3 h3) ?_
  refine lv_bipush hexec hb d3 hn ?_
  refine lv_iadd hexec hb d4 ?_
  refine g_topi (y := nI (7 * i7 + k)) (nI_add (7 * i7) k) ?_
  refine va_sld hexec hb hX hbl hbA hS (i := nI (7 * i7 + k)) (vp_in_nI (by omega) (by omega)) d5 ?_
  refine g_topi (y := v) (by rw [nI_clamp (by omega)]; exact hv.symm) ?_
  exact kk
end ZCOMBO
