/-! the first law's text, what is read from it -/
/-- the first k of a list, 0 behind -/
noncomputable def gPf (t : List Int32) (k : Nat) : Nat → Int32 := fun j => if j < k then t.getD j 0 else 0
theorem gPf_0 (t : List Int32) : gPf t 0 = fun _ => 0 := rfl
theorem gPf_step {t : List Int32} {k : Nat} {x : Int32} (h : t.getD k 0 = x) : upd (gPf t k) k x = gPf t (k + 1) := by
  funext j
  by_cases e : j = k
  · subst e
    rw [pk_us]
    show x = if j < j + 1 then t.getD j 0 else 0
    rw [if_pos (Nat.lt_succ_self j), h]
  · rw [pk_un e]
    show (if j < k then t.getD j 0 else 0) = if j < k + 1 then t.getD j 0 else 0
    by_cases c : j < k
    · rw [if_pos c, if_pos (by omega)]
    · rw [if_neg c, if_neg (by omega)]
noncomputable def tB : List Int32 := gByt.getD 13 []
noncomputable def tC : List Int32 := [10000, 10001, 20045, 1, 30]
noncomputable def tE : List Int32 := [3, 4, 5]
