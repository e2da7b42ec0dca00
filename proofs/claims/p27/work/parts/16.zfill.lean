section GIAP
variable {p : Program} {l : Launch} {e : Env} {R : Room} {s : State} {m : MethodId} {args : Array Value} {below : List Frame} {meth : Method} {c : Code} {H : Heap} {locs : List Loc} {cells slots : Nat} {Q : State → Prop}
variable {cc : ByteArray} {pc : Nat} {ls : Array Slot} {rest : List Value} {D : va_G} {cl : List vw_C} {A : Nat → Prop} {a : Nat} {tys : List (ClassId × FieldType)} {ws : va_W} {H0 : Heap}
/-- the next place of a list that is laid place by place -/
theorem g_iastP (hexec : p.tables.exec = Jvm.exec) (hb : c.code = cc) (hK : va_K D cl tys s) (hP : va_P D cl ws H) (hD : va_D A ws) (hS : va_S A H0 H locs) (q0 t0 : Nat) {cA : ClassId} {n : Nat} {t : List Int32} {k : Nat} (ha : ws[q0]? = some (a, .inl (cA, n, .inl (gPf t k)))) (ht : tys[t0]? = some (cA, .int)) {i : Int32} {x : Int32} (hk : i.toNatClampNeg = k) (hxk : t.getD k 0 = x) (hin : vp_in i n) (hdg : decode cc pc = .ok (.iastore, 1))
    (kk : ∀ (H1 : Heap) (locs1 : List Loc), va_P D cl (ws.set q0 (a, .inl (cA, n, .inl (gPf t (k + 1))))) H1 → va_D A (ws.set q0 (a, .inl (cA, n, .inl (gPf t (k + 1))))) → va_S A H0 H1 locs1 → W p l e R s m args below meth c H1 locs1 cells slots Q (F0 m (pc + 1) ls rest)) : W p l e R s m args below meth c H locs cells slots Q (F0 m pc ls (.int x :: .int i :: .ref a :: rest)) := by
  have e9 : upd (gPf t k) i.toNatClampNeg x = gPf t (k + 1) := by rw [hk]; exact gPf_step hxk
  exact va_iast hexec hb hK hP hD hS q0 t0 ha ht hin hdg (fun H1 locs1 h1 h2 h3 => kk H1 locs1 (e9 ▸ h1) (e9 ▸ h2) h3)
end GIAP
