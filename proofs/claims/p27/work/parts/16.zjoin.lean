/-! calls: the callee's cells picked once; the caller's other cells by a mask -/
noncomputable def zms : List Bool → va_W → va_W
  | [], _ => []
  | _ :: _, [] => []
  | b :: m, x :: w => match b with
    | true => x :: zms m w
    | false => zms m w
theorem zms_at : ∀ (m : List Bool) (w : va_W) (k : Nat) (q : Nat × va_E), (zms m w)[k]? = some q → ∃ j : Nat, w[j]? = some q ∧ m[j]? = some true
  | [], w, k, q, h => by rw [zms] at h; simp at h
  | b :: m, [], k, q, h => by rw [zms] at h; simp at h
  | true :: m, x :: w, 0, q, h => ⟨0, h, rfl⟩
  | true :: m, x :: w, k + 1, q, h => by
    obtain ⟨j, h1, h2⟩ := zms_at m w k q h
    exact ⟨j + 1, h1, h2⟩
  | false :: m, x :: w, k, q, h => by
    obtain ⟨j, h1, h2⟩ := zms_at m w k q h
    exact ⟨j + 1, h1, h2⟩
theorem zms_D {A : Nat → Prop} : ∀ (m : List Bool) (w : va_W), va_D A w → va_D A (zms m w)
  | [], w, h => by rw [zms]; exact ⟨fun i j p q z => by simp at z, fun k q z => by simp at z⟩
  | b :: m, [], h => by rw [zms]; exact h
  | true :: m, x :: w, h => by
    have ht : va_D A w := ⟨fun i j p q h1 h2 h3 => Nat.succ.inj (h.1 (i + 1) (j + 1) p q h1 h2 h3), fun k q h1 => h.2 (k + 1) q h1⟩
    have hi := zms_D m w ht
    have hx : ∀ (k : Nat) (q : Nat × va_E), (zms m w)[k]? = some q → ¬ x.1 = q.1 := fun k q h1 z => by
      obtain ⟨j, h2, -⟩ := zms_at m w k q h1
      exact absurd (h.1 0 (j + 1) x q rfl h2 z) (by omega)
    show va_D A (x :: zms m w)
    refine ⟨fun i j p q h1 h2 h3 => ?_, fun k q h1 => ?_⟩
    · cases i with
      | zero =>
        cases j with
        | zero => rfl
        | succ j =>
          cases h1
          exact absurd h3 (hx j q h2)
      | succ i =>
        cases j with
        | zero =>
          cases h2
          exact absurd h3.symm (hx i p h1)
        | succ j => rw [hi.1 i j p q h1 h2 h3]
    · cases k with
      | zero => cases h1; exact h.2 0 x rfl
      | succ k => exact hi.2 k q h1
  | false :: m, x :: w, h => zms_D m w ⟨fun i j p q h1 h2 h3 => Nat.succ.inj (h.1 (i + 1) (j + 1) p q h1 h2 h3), fun k q h1 => h.2 (k + 1) q h1⟩
theorem zpk_at {ws : va_W} {is : List Nat} {k : Nat} {q : Nat × va_E} (h : (is.filterMap (fun i => ws[i]?))[k]? = some q) : ∃ i, i ∈ is ∧ ws[i]? = some q := by
  obtain ⟨i, h1, h2⟩ := List.mem_filterMap.mp (List.mem_of_getElem? h)
  exact ⟨i, h1, h2⟩
theorem zpk_D {A : Nat → Prop} {ws : va_W} (hD : va_D A ws) : ∀ (is : List Nat), va_nd is = true → va_D A (is.filterMap (fun i => ws[i]?))
  | [], _ => ⟨fun i j p q z => by simp at z, fun k q z => by simp at z⟩
  | a :: is, hn => by
    simp only [va_nd, Bool.and_eq_true, decide_eq_true_eq] at hn
    have hi := zpk_D hD is hn.2
    rw [List.filterMap_cons]
    cases ha : ws[a]? with
    | none => exact hi
    | some x =>
      have hx : ∀ (k : Nat) (q : Nat × va_E), (is.filterMap (fun i => ws[i]?))[k]? = some q → ¬ x.1 = q.1 := fun k q h1 z => by
        obtain ⟨j, h2, h3⟩ := zpk_at h1
        have e := hD.1 a j x q ha h3 z
        subst e
        exact hn.1 h2
      refine ⟨fun i j p q h1 h2 h3 => ?_, fun k q h1 => ?_⟩
      · cases i with
        | zero =>
          cases j with
          | zero => rfl
          | succ j =>
            cases h1
            exact absurd h3 (hx j q h2)
        | succ i =>
          cases j with
          | zero =>
            cases h2
            exact absurd h3.symm (hx i p h1)
          | succ j => rw [hi.1 i j p q h1 h2 h3]
      · cases k with
        | zero => cases h1; exact hD.2 a x ha
        | succ k => exact hi.2 k q h1
theorem gPre_ofF (is : List Nat) {G : gG} {av : List Value} {ws wc : va_W} {s U : State} {H : Heap} {A : Nat → Prop} (hU : U.heap = H) (hW : s.WarmedH U.vm) (hK : gK G s) (hP : va_P G.1 vwCl ws H) (hD : va_D A ws) (hn : va_nd is = true) (hC : is.filterMap (fun i => ws[i]?) = wc) : gPre G av wc H.size av.toArray U := by
  subst hC
  exact gPre_of hU hW hK (hP.sub is rfl) (zpk_D hD is hn)
theorem gPreE_ofF (is : List Nat) {G : gG} {E : gS} {av : List Value} {ws wc : va_W} {s U : State} {H : Heap} {A : Nat → Prop} {locs : List Loc} (hU : U.heap = H) (hW : s.WarmedH U.vm) (hK : gK G s) (hP : va_P G.1 vwCl ws H) (hD : va_D A ws) (hn : va_nd is = true) (hC : is.filterMap (fun i => ws[i]?) = wc) (hE : gE E A s s.heap) (hS : va_S A s.heap H locs) (hA : ∀ q : Nat, s.heap.size ≤ q → A q) : gPreE G E av wc H.size av.toArray U := by
  subst hC
  exact gPreE_of hU hW hK (hP.sub is rfl) (zpk_D hD is hn) hE hS (gFree2 hD hS hA is)
theorem zJoin {A0 A1 : Nat → Prop} {D : va_G} {cl : List vw_C} {ws w1 : va_W} {H H1 H9 : Heap} (hP : va_P D cl ws H) (hD : va_D A0 ws) (isC : List Nat) (mask : List Bool) (hA1 : A1 = va_A (isC.filterMap (fun i => ws[i]?)) H.size) (hk : ∀ q : Nat, q < H.size → ¬ A1 q → H1[q]? = H[q]?) (hF : ∀ q, A1 q → A0 q) (ht : H9 = H1) (hP1 : va_P D cl w1 H9) (hD1 : va_D A1 w1) (hm : isC.all (fun i => !(mask.getD i false)) = true) : va_P D cl (zms mask ws ++ w1) H1 ∧ va_D A0 (zms mask ws ++ w1) := by
  subst ht
  have key : ∀ (k : Nat) (q : Nat × va_E), (zms mask ws)[k]? = some q → va_at D cl q H ∧ ¬ A1 q.1 := fun k q h => by
    obtain ⟨j, h1, h2⟩ := zms_at mask ws k q h
    refine ⟨hP j q h1, fun z => ?_⟩
    rw [hA1] at z
    rcases z with ⟨k2, e, h3⟩ | h3
    · obtain ⟨i, h4, h5⟩ := zpk_at h3
      have e2 : i = j := hD.1 i j (q.1, e) q h5 h1 rfl
      subst e2
      have h6 := List.all_eq_true.mp hm i h4
      rw [List.getD_eq_getElem?_getD, h2] at h6
      exact absurd h6 (by decide)
    · exact absurd (hP j q h1).lt (Nat.not_lt.mpr h3)
  refine ⟨va_P.app (fun k q h => ((key k q h).1).kept (hk q.1 (key k q h).1.lt (key k q h).2)) hP1, va_D.app (zms_D mask ws hD) (hD1.weaken (fun k q _ h => hF q.1 h)) (fun i j p q h1 h2 z => (key i p h1).2 (by rw [z]; exact hD1.2 j q h2))⟩
/-- a callee that leaves its cells as they were -/
theorem zKeep {A0 A1 : Nat → Prop} {D : va_G} {cl : List vw_C} {ws w1 : va_W} {H H1 H9 : Heap} (hP : va_P D cl ws H) (hD : va_D A0 ws) (isC : List Nat) (hA1 : A1 = va_A (isC.filterMap (fun i => ws[i]?)) H.size) (hk : ∀ q : Nat, q < H.size → ¬ A1 q → H1[q]? = H[q]?) (ht : H9 = H1) (hP1 : va_P D cl w1 H9) (hw : isC.filterMap (fun i => ws[i]?) = w1) : va_P D cl ws H1 := by
  subst ht
  subst hw
  intro k q hq
  by_cases hx : q ∈ isC.filterMap (fun i => ws[i]?)
  · obtain ⟨j, hj⟩ := List.mem_iff_getElem?.mp hx
    exact hP1 j q hj
  · have hl := (hP k q hq).lt
    refine (hP k q hq).kept (hk q.1 hl ?_)
    intro z
    rw [hA1] at z
    rcases z with ⟨j, e, hj⟩ | h
    · obtain ⟨i, h4, h5⟩ := zpk_at hj
      have e2 : i = k := hD.1 i k (q.1, e) q h5 hq rfl
      subst e2
      exact hx (List.mem_filterMap.mpr ⟨i, h4, hq⟩)
    · exact absurd hl (Nat.not_lt.mpr h)
/-! behind a call each cell at its place -/
noncomputable def zfl : List Nat → va_W → va_W → va_W
  | [], w, _ => w
  | _ :: _, [], _ => []
  | 0 :: p, x :: w, v => x :: zfl p w v
  | (j + 1) :: p, x :: w, v => (v[j]?).getD x :: zfl p w v
theorem zfl_at : ∀ (p : List Nat) (w v : va_W) (k : Nat) (q : Nat × va_E), (zfl p w v)[k]? = some q → (w[k]? = some q ∧ p.getD k 0 = 0) ∨ ∃ (j : Nat) (x : Nat × va_E), p[k]? = some (j + 1) ∧ (v[j]?).getD x = q
  | [], w, v, k, q, h => Or.inl ⟨by rw [zfl] at h; exact h, by simp⟩
  | a :: p, [], v, k, q, h => by
    have e : zfl (a :: p) [] v = [] := by cases a <;> rfl
    rw [e] at h
    simp at h
  | 0 :: p, x :: w, v, 0, q, h => Or.inl ⟨h, rfl⟩
  | 0 :: p, x :: w, v, k + 1, q, h => zfl_at p w v k q h
  | (j + 1) :: p, x :: w, v, 0, q, h => Or.inr ⟨j, x, rfl, Option.some.inj h⟩
  | (j + 1) :: p, x :: w, v, k + 1, q, h => zfl_at p w v k q h
def zfok (pat isC : List Nat) : Bool := isC.all (fun i => pat.getD i 0 != 0) && (List.range pat.length).all (fun k => pat.getD k 0 == 0 || isC[pat.getD k 0 - 1]? == some k)
theorem zFill {A0 A1 : Nat → Prop} {D : va_G} {cl : List vw_C} {ws w1 : va_W} {H H1 H9 : Heap} (hP : va_P D cl ws H) (hD : va_D A0 ws) (isC pat : List Nat) (hA1 : A1 = va_A (isC.filterMap (fun i => ws[i]?)) H.size) (hk : ∀ q : Nat, q < H.size → ¬ A1 q → H1[q]? = H[q]?) (hF : ∀ q, A1 q → A0 q) (ht : H9 = H1) (hP1 : va_P D cl w1 H9) (hD1 : va_D A1 w1) (hl : w1.length = isC.length) (hm : zfok pat isC = true) : va_P D cl (zfl pat ws w1) H1 ∧ va_D A0 (zfl pat ws w1) := by
  subst ht
  unfold zfok at hm
  rw [Bool.and_eq_true] at hm
  obtain ⟨m1, m2⟩ := hm
  have kept : ∀ (k : Nat) (q : Nat × va_E), ws[k]? = some q → pat.getD k 0 = 0 → va_at D cl q H ∧ ¬ A1 q.1 := fun k q h1 h2 => by
    refine ⟨hP k q h1, fun z => ?_⟩
    rw [hA1] at z
    rcases z with ⟨k2, e, h3⟩ | h3
    · obtain ⟨i, h4, h5⟩ := zpk_at h3
      have e2 : i = k := hD.1 i k (q.1, e) q h5 h1 rfl
      subst e2
      have h6 := List.all_eq_true.mp m1 i h4
      rw [h2] at h6
      exact absurd h6 (by decide)
    · exact absurd (hP k q h1).lt (Nat.not_lt.mpr h3)
  have key : ∀ (k : Nat) (q : Nat × va_E), (zfl pat ws w1)[k]? = some q → (ws[k]? = some q ∧ va_at D cl q H ∧ ¬ A1 q.1) ∨ ∃ j, w1[j]? = some q ∧ isC[j]? = some k := fun k q h => by
    rcases zfl_at pat ws w1 k q h with ⟨h1, h2⟩ | ⟨j, x, h1, h2⟩
    · exact Or.inl ⟨h1, kept k q h1 h2⟩
    · refine Or.inr ⟨j, ?_⟩
      have hlt : k < pat.length := (List.getElem?_eq_some_iff.mp h1).1
      have h3 := List.all_eq_true.mp m2 k (List.mem_range.mpr hlt)
      have h4 : pat.getD k 0 = j + 1 := by rw [List.getD_eq_getElem?_getD, h1]; rfl
      rw [h4, Bool.or_eq_true] at h3
      have h5 : isC[j]? = some k := by
        rcases h3 with z | z
        · exact absurd (eq_of_beq z) (by omega)
        · exact eq_of_beq z
      have h6 : j < w1.length := by rw [hl]; exact (List.getElem?_eq_some_iff.mp h5).1
      rw [List.getElem?_eq_getElem h6] at h2 ⊢
      exact ⟨congrArg some h2, h5⟩
  refine ⟨fun k q h => ?_, fun i j p q h1 h2 h3 => ?_, fun k q h => ?_⟩
  · rcases key k q h with ⟨-, h2, h3⟩ | ⟨j, h2, -⟩
    · exact h2.kept (hk q.1 h2.lt h3)
    · exact hP1 j q h2
  · rcases key i p h1 with ⟨a1, a2, a3⟩ | ⟨a, a1, a2⟩
    · rcases key j q h2 with ⟨b1, b2, b3⟩ | ⟨b, b1, b2⟩
      · exact hD.1 i j p q a1 b1 h3
      · exact absurd (hD1.2 b q b1) (by rw [← h3]; exact a3)
    · rcases key j q h2 with ⟨b1, b2, b3⟩ | ⟨b, b1, b2⟩
      · exact absurd (hD1.2 a p a1) (by rw [h3]; exact b3)
      · have e := hD1.1 a b p q a1 b1 h3
        subst e
        exact Option.some.inj (a2.symm.trans b2)
  · rcases key k q h with ⟨h1, -, -⟩ | ⟨j, h2, -⟩
    · exact hD.2 k q h1
    · exact hF q.1 (hD1.2 j q h2)
section ZCALL2
variable {p : Program} {l : Launch} {e : Env} {R : Room} {s : State} {m : MethodId} {args : Array Value} {below : List Frame} {meth : Method} {c : Code} {H : Heap} {locs : List Loc} {cells slots : Nat} {Q : State → Prop}
variable {pc : Nat} {ls : Array Slot} {rest st0 : List Value} {a : Array Value} {A0 A1 : Nat → Prop} {H0 : Heap} {mc ms : Nat} {ws : va_W}
theorem z_calli {S : Type} {post : Int32 → S → Prop} {B : S → State → Prop} {v : Int32} (is : List Nat) (hv : ∀ (r : Int32) (u : S), post r u → r = v) (hr : va_Run p l e R s m args below meth c H locs cells slots mc ms (F0 m pc ls st0) rest (va_Qi post B A1 a) A1) (hS : va_S A0 H0 H locs) (hD : va_D A0 ws) (hA : ∀ q : Nat, H0.size ≤ q → A0 q) (hA1 : A1 = va_A (is.filterMap (fun i => ws[i]?)) H.size)
    (kk : ∀ (u : S) (t : State) (H1 : Heap) (locs1 : List Loc), t.heap = H1 → s.vm.Alike t.vm → B u t → H.size ≤ H1.size → (∀ q : Nat, q < H.size → ¬ A1 q → H1[q]? = H[q]?) → (∀ q, A1 q → A0 q) → A1 = va_A (is.filterMap (fun i => ws[i]?)) H.size → va_S A0 H0 H1 locs1 → W p l e R s m args below meth c H1 locs1 (cells + mc) (slots + ms) Q (F0 m (pc + 3) ls (.int v :: rest))) : W p l e R s m args below meth c H locs cells slots Q (F0 m pc ls st0) := by
  have hF : ∀ q, A1 q → A0 q := by rw [hA1]; exact gFree2 hD hS hA is
  exact g_calli hv hr hS (fun q _ h => hF q h) hF (fun u t H1 locs1 h1 h2 h3 h4 h5 h6 => kk u t H1 locs1 h1 h2 h3 h4 h5 hF hA1 h6)
theorem z_calll {S : Type} {post : Int64 → S → Prop} {B : S → State → Prop} {v : Int64} (is : List Nat) (hv : ∀ (r : Int64) (u : S), post r u → r = v) (hr : va_Run p l e R s m args below meth c H locs cells slots mc ms (F0 m pc ls st0) rest (va_Ql post B A1 a) A1) (hS : va_S A0 H0 H locs) (hD : va_D A0 ws) (hA : ∀ q : Nat, H0.size ≤ q → A0 q) (hA1 : A1 = va_A (is.filterMap (fun i => ws[i]?)) H.size)
    (kk : ∀ (u : S) (t : State) (H1 : Heap) (locs1 : List Loc), t.heap = H1 → s.vm.Alike t.vm → B u t → H.size ≤ H1.size → (∀ q : Nat, q < H.size → ¬ A1 q → H1[q]? = H[q]?) → (∀ q, A1 q → A0 q) → A1 = va_A (is.filterMap (fun i => ws[i]?)) H.size → va_S A0 H0 H1 locs1 → W p l e R s m args below meth c H1 locs1 (cells + mc) (slots + ms) Q (F0 m (pc + 3) ls (.long v :: rest))) : W p l e R s m args below meth c H locs cells slots Q (F0 m pc ls st0) := by
  have hF : ∀ q, A1 q → A0 q := by rw [hA1]; exact gFree2 hD hS hA is
  exact g_calll hv hr hS (fun q _ h => hF q h) hF (fun u t H1 locs1 h1 h2 h3 h4 h5 h6 => kk u t H1 locs1 h1 h2 h3 h4 h5 hF hA1 h6)
theorem z_callp {S : Type} {post : Int32 → S → Prop} {B : S → State → Prop} (is : List Nat) (hr : va_Run p l e R s m args below meth c H locs cells slots mc ms (F0 m pc ls st0) rest (va_Qi post B A1 a) A1) (hS : va_S A0 H0 H locs) (hD : va_D A0 ws) (hA : ∀ q : Nat, H0.size ≤ q → A0 q) (hA1 : A1 = va_A (is.filterMap (fun i => ws[i]?)) H.size)
    (kk : ∀ (r : Int32) (u : S) (t : State) (H1 : Heap) (locs1 : List Loc), t.heap = H1 → s.vm.Alike t.vm → post r u → B u t → H.size ≤ H1.size → (∀ q : Nat, q < H.size → ¬ A1 q → H1[q]? = H[q]?) → (∀ q, A1 q → A0 q) → A1 = va_A (is.filterMap (fun i => ws[i]?)) H.size → va_S A0 H0 H1 locs1 → W p l e R s m args below meth c H1 locs1 (cells + mc) (slots + ms) Q (F0 m (pc + 3) ls (.int r :: rest))) : W p l e R s m args below meth c H locs cells slots Q (F0 m pc ls st0) := by
  have hF : ∀ q, A1 q → A0 q := by rw [hA1]; exact gFree2 hD hS hA is
  exact va_calli hr hS (fun q _ h => hF q h) hF (fun r u t H1 locs1 h1 h2 h3 h4 h5 h6 h7 => kk r u t H1 locs1 h1 h2 h3 h4 h5 h6 hF hA1 h7)
theorem z_callv {S : Type} {post : S → Prop} {B : S → State → Prop} (is : List Nat) (hr : va_Run p l e R s m args below meth c H locs cells slots mc ms (F0 m pc ls st0) rest (va_Qv post B A1 a) A1) (hS : va_S A0 H0 H locs) (hD : va_D A0 ws) (hA : ∀ q : Nat, H0.size ≤ q → A0 q) (hA1 : A1 = va_A (is.filterMap (fun i => ws[i]?)) H.size)
    (kk : ∀ (u : S) (t : State) (H1 : Heap) (locs1 : List Loc), t.heap = H1 → s.vm.Alike t.vm → post u → B u t → H.size ≤ H1.size → (∀ q : Nat, q < H.size → ¬ A1 q → H1[q]? = H[q]?) → (∀ q, A1 q → A0 q) → A1 = va_A (is.filterMap (fun i => ws[i]?)) H.size → va_S A0 H0 H1 locs1 → W p l e R s m args below meth c H1 locs1 (cells + mc) (slots + ms) Q (F0 m (pc + 3) ls rest)) : W p l e R s m args below meth c H locs cells slots Q (F0 m pc ls st0) := by
  have hF : ∀ q, A1 q → A0 q := by rw [hA1]; exact gFree2 hD hS hA is
  exact va_callv hr hS (fun q _ h => hF q h) hF (fun u t H1 locs1 h1 h2 h3 h4 h5 h6 h7 => kk u t H1 locs1 h1 h2 h3 h4 h5 h6 hF hA1 h7)
end ZCALL2
