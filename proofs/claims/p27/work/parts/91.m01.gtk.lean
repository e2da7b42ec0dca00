theorem tk_0 {tX mX tM vM : Int32} (h : tkM tX mX tM vM) (e : tX = 0) : tM = 0 := by
  subst e
  rcases h with ⟨a, b⟩ | ⟨a, b⟩ | ⟨a, b, c⟩ | ⟨a, b, c⟩ | ⟨a, b, c⟩ | ⟨a, b, c⟩ | ⟨a, b, c⟩ | ⟨a, b⟩ | ⟨a, b⟩ | ⟨a, b⟩ | ⟨a, b⟩
  · exact b
  · exact absurd a (by decide)
  · exact absurd a (by decide)
  · exact absurd a (by decide)
  · exact absurd a (by decide)
  · exact absurd a (by decide)
  · exact absurd a (by decide)
  · exact absurd a (by decide)
  · exact absurd a (by decide)
  · exact absurd a (by decide)
  · rw [← a] at b; exact absurd b (by decide)
theorem tk_1 {tX mX tM vM : Int32} (h : tkM tX mX tM vM) (e : tX = 1) : tM = (-1) := by
  subst e
  rcases h with ⟨a, b⟩ | ⟨a, b⟩ | ⟨a, b, c⟩ | ⟨a, b, c⟩ | ⟨a, b, c⟩ | ⟨a, b, c⟩ | ⟨a, b, c⟩ | ⟨a, b⟩ | ⟨a, b⟩ | ⟨a, b⟩ | ⟨a, b⟩
  · exact absurd a (by decide)
  · exact b
  · exact absurd a (by decide)
  · exact absurd a (by decide)
  · exact absurd a (by decide)
  · exact absurd a (by decide)
  · exact absurd a (by decide)
  · exact absurd a (by decide)
  · exact absurd a (by decide)
  · exact absurd a (by decide)
  · rw [← a] at b; exact absurd b (by decide)
theorem tk_2 {tX mX tM vM : Int32} (h : tkM tX mX tM vM) (e : tX = 2) : tM = 1 ∧ vM = mX := by
  subst e
  rcases h with ⟨a, b⟩ | ⟨a, b⟩ | ⟨a, b, c⟩ | ⟨a, b, c⟩ | ⟨a, b, c⟩ | ⟨a, b, c⟩ | ⟨a, b, c⟩ | ⟨a, b⟩ | ⟨a, b⟩ | ⟨a, b⟩ | ⟨a, b⟩
  · exact absurd a (by decide)
  · exact absurd a (by decide)
  · exact ⟨b, c⟩
  · exact absurd a (by decide)
  · exact absurd a (by decide)
  · exact absurd a (by decide)
  · exact absurd a (by decide)
  · exact absurd a (by decide)
  · exact absurd a (by decide)
  · exact absurd a (by decide)
  · rw [← a] at b; exact absurd b (by decide)
theorem tk_3 {tX mX tM vM : Int32} (h : tkM tX mX tM vM) (e : tX = 3) : tM = 2 ∧ vM = mX := by
  subst e
  rcases h with ⟨a, b⟩ | ⟨a, b⟩ | ⟨a, b, c⟩ | ⟨a, b, c⟩ | ⟨a, b, c⟩ | ⟨a, b, c⟩ | ⟨a, b, c⟩ | ⟨a, b⟩ | ⟨a, b⟩ | ⟨a, b⟩ | ⟨a, b⟩
  · exact absurd a (by decide)
  · exact absurd a (by decide)
  · exact absurd a (by decide)
  · exact ⟨b, c⟩
  · exact absurd a (by decide)
  · exact absurd a (by decide)
  · exact absurd a (by decide)
  · exact absurd a (by decide)
  · exact absurd a (by decide)
  · exact absurd a (by decide)
  · rw [← a] at b; exact absurd b (by decide)
theorem tk_100 {tX mX tM vM : Int32} (h : tkM tX mX tM vM) (e : tX = 100) : tM = 3 ∧ vM = 0 := by
  subst e
  rcases h with ⟨a, b⟩ | ⟨a, b⟩ | ⟨a, b, c⟩ | ⟨a, b, c⟩ | ⟨a, b, c⟩ | ⟨a, b, c⟩ | ⟨a, b, c⟩ | ⟨a, b⟩ | ⟨a, b⟩ | ⟨a, b⟩ | ⟨a, b⟩
  · exact absurd a (by decide)
  · exact absurd a (by decide)
  · exact absurd a (by decide)
  · exact absurd a (by decide)
  · exact ⟨b, c⟩
  · exact absurd a (by decide)
  · exact absurd a (by decide)
  · exact absurd a (by decide)
  · exact absurd a (by decide)
  · exact absurd a (by decide)
  · rw [← a] at b; exact absurd b (by decide)
theorem tk_101 {tX mX tM vM : Int32} (h : tkM tX mX tM vM) (e : tX = 101) : tM = 3 ∧ vM = 1 := by
  subst e
  rcases h with ⟨a, b⟩ | ⟨a, b⟩ | ⟨a, b, c⟩ | ⟨a, b, c⟩ | ⟨a, b, c⟩ | ⟨a, b, c⟩ | ⟨a, b, c⟩ | ⟨a, b⟩ | ⟨a, b⟩ | ⟨a, b⟩ | ⟨a, b⟩
  · exact absurd a (by decide)
  · exact absurd a (by decide)
  · exact absurd a (by decide)
  · exact absurd a (by decide)
  · exact absurd a (by decide)
  · exact ⟨b, c⟩
  · exact absurd a (by decide)
  · exact absurd a (by decide)
  · exact absurd a (by decide)
  · exact absurd a (by decide)
  · rw [← a] at b; exact absurd b (by decide)
theorem tk_102 {tX mX tM vM : Int32} (h : tkM tX mX tM vM) (e : tX = 102) : tM = 3 ∧ vM = 2 := by
  subst e
  rcases h with ⟨a, b⟩ | ⟨a, b⟩ | ⟨a, b, c⟩ | ⟨a, b, c⟩ | ⟨a, b, c⟩ | ⟨a, b, c⟩ | ⟨a, b, c⟩ | ⟨a, b⟩ | ⟨a, b⟩ | ⟨a, b⟩ | ⟨a, b⟩
  · exact absurd a (by decide)
  · exact absurd a (by decide)
  · exact absurd a (by decide)
  · exact absurd a (by decide)
  · exact absurd a (by decide)
  · exact absurd a (by decide)
  · exact ⟨b, c⟩
  · exact absurd a (by decide)
  · exact absurd a (by decide)
  · exact absurd a (by decide)
  · rw [← a] at b; exact absurd b (by decide)
theorem tk_103 {tX mX tM vM : Int32} (h : tkM tX mX tM vM) (e : tX = 103) : tM = 4 := by
  subst e
  rcases h with ⟨a, b⟩ | ⟨a, b⟩ | ⟨a, b, c⟩ | ⟨a, b, c⟩ | ⟨a, b, c⟩ | ⟨a, b, c⟩ | ⟨a, b, c⟩ | ⟨a, b⟩ | ⟨a, b⟩ | ⟨a, b⟩ | ⟨a, b⟩
  · exact absurd a (by decide)
  · exact absurd a (by decide)
  · exact absurd a (by decide)
  · exact absurd a (by decide)
  · exact absurd a (by decide)
  · exact absurd a (by decide)
  · exact absurd a (by decide)
  · exact b
  · exact absurd a (by decide)
  · exact absurd a (by decide)
  · rw [← a] at b; exact absurd b (by decide)
theorem tk_104 {tX mX tM vM : Int32} (h : tkM tX mX tM vM) (e : tX = 104) : tM = 5 := by
  subst e
  rcases h with ⟨a, b⟩ | ⟨a, b⟩ | ⟨a, b, c⟩ | ⟨a, b, c⟩ | ⟨a, b, c⟩ | ⟨a, b, c⟩ | ⟨a, b, c⟩ | ⟨a, b⟩ | ⟨a, b⟩ | ⟨a, b⟩ | ⟨a, b⟩
  · exact absurd a (by decide)
  · exact absurd a (by decide)
  · exact absurd a (by decide)
  · exact absurd a (by decide)
  · exact absurd a (by decide)
  · exact absurd a (by decide)
  · exact absurd a (by decide)
  · exact absurd a (by decide)
  · exact b
  · exact absurd a (by decide)
  · rw [← a] at b; exact absurd b (by decide)
theorem tk_105 {tX mX tM vM : Int32} (h : tkM tX mX tM vM) (e : tX = 105) : tM = 6 := by
  subst e
  rcases h with ⟨a, b⟩ | ⟨a, b⟩ | ⟨a, b, c⟩ | ⟨a, b, c⟩ | ⟨a, b, c⟩ | ⟨a, b, c⟩ | ⟨a, b, c⟩ | ⟨a, b⟩ | ⟨a, b⟩ | ⟨a, b⟩ | ⟨a, b⟩
  · exact absurd a (by decide)
  · exact absurd a (by decide)
  · exact absurd a (by decide)
  · exact absurd a (by decide)
  · exact absurd a (by decide)
  · exact absurd a (by decide)
  · exact absurd a (by decide)
  · exact absurd a (by decide)
  · exact absurd a (by decide)
  · exact b
  · rw [← a] at b; exact absurd b (by decide)
theorem tk_40 {tX mX tM vM : Int32} (h : tkM tX mX tM vM) (e : tX = 40) : tM = 40 := by
  subst e
  rcases h with ⟨a, b⟩ | ⟨a, b⟩ | ⟨a, b, c⟩ | ⟨a, b, c⟩ | ⟨a, b, c⟩ | ⟨a, b, c⟩ | ⟨a, b, c⟩ | ⟨a, b⟩ | ⟨a, b⟩ | ⟨a, b⟩ | ⟨a, b⟩
  · exact absurd a (by decide)
  · exact absurd a (by decide)
  · exact absurd a (by decide)
  · exact absurd a (by decide)
  · exact absurd a (by decide)
  · exact absurd a (by decide)
  · exact absurd a (by decide)
  · exact absurd a (by decide)
  · exact absurd a (by decide)
  · exact absurd a (by decide)
  · exact a.symm
theorem tk_41 {tX mX tM vM : Int32} (h : tkM tX mX tM vM) (e : tX = 41) : tM = 41 := by
  subst e
  rcases h with ⟨a, b⟩ | ⟨a, b⟩ | ⟨a, b, c⟩ | ⟨a, b, c⟩ | ⟨a, b, c⟩ | ⟨a, b, c⟩ | ⟨a, b, c⟩ | ⟨a, b⟩ | ⟨a, b⟩ | ⟨a, b⟩ | ⟨a, b⟩
  · exact absurd a (by decide)
  · exact absurd a (by decide)
  · exact absurd a (by decide)
  · exact absurd a (by decide)
  · exact absurd a (by decide)
  · exact absurd a (by decide)
  · exact absurd a (by decide)
  · exact absurd a (by decide)
  · exact absurd a (by decide)
  · exact absurd a (by decide)
  · exact a.symm
theorem tk_59 {tX mX tM vM : Int32} (h : tkM tX mX tM vM) (e : tX = 59) : tM = 59 := by
  subst e
  rcases h with ⟨a, b⟩ | ⟨a, b⟩ | ⟨a, b, c⟩ | ⟨a, b, c⟩ | ⟨a, b, c⟩ | ⟨a, b, c⟩ | ⟨a, b, c⟩ | ⟨a, b⟩ | ⟨a, b⟩ | ⟨a, b⟩ | ⟨a, b⟩
  · exact absurd a (by decide)
  · exact absurd a (by decide)
  · exact absurd a (by decide)
  · exact absurd a (by decide)
  · exact absurd a (by decide)
  · exact absurd a (by decide)
  · exact absurd a (by decide)
  · exact absurd a (by decide)
  · exact absurd a (by decide)
  · exact absurd a (by decide)
  · exact a.symm
theorem tk_43 {tX mX tM vM : Int32} (h : tkM tX mX tM vM) (e : tX = 43) : tM = 43 := by
  subst e
  rcases h with ⟨a, b⟩ | ⟨a, b⟩ | ⟨a, b, c⟩ | ⟨a, b, c⟩ | ⟨a, b, c⟩ | ⟨a, b, c⟩ | ⟨a, b, c⟩ | ⟨a, b⟩ | ⟨a, b⟩ | ⟨a, b⟩ | ⟨a, b⟩
  · exact absurd a (by decide)
  · exact absurd a (by decide)
  · exact absurd a (by decide)
  · exact absurd a (by decide)
  · exact absurd a (by decide)
  · exact absurd a (by decide)
  · exact absurd a (by decide)
  · exact absurd a (by decide)
  · exact absurd a (by decide)
  · exact absurd a (by decide)
  · exact a.symm
theorem tk_45 {tX mX tM vM : Int32} (h : tkM tX mX tM vM) (e : tX = 45) : tM = 45 := by
  subst e
  rcases h with ⟨a, b⟩ | ⟨a, b⟩ | ⟨a, b, c⟩ | ⟨a, b, c⟩ | ⟨a, b, c⟩ | ⟨a, b, c⟩ | ⟨a, b, c⟩ | ⟨a, b⟩ | ⟨a, b⟩ | ⟨a, b⟩ | ⟨a, b⟩
  · exact absurd a (by decide)
  · exact absurd a (by decide)
  · exact absurd a (by decide)
  · exact absurd a (by decide)
  · exact absurd a (by decide)
  · exact absurd a (by decide)
  · exact absurd a (by decide)
  · exact absurd a (by decide)
  · exact absurd a (by decide)
  · exact absurd a (by decide)
  · exact a.symm
theorem tk_42 {tX mX tM vM : Int32} (h : tkM tX mX tM vM) (e : tX = 42) : tM = 42 := by
  subst e
  rcases h with ⟨a, b⟩ | ⟨a, b⟩ | ⟨a, b, c⟩ | ⟨a, b, c⟩ | ⟨a, b, c⟩ | ⟨a, b, c⟩ | ⟨a, b, c⟩ | ⟨a, b⟩ | ⟨a, b⟩ | ⟨a, b⟩ | ⟨a, b⟩
  · exact absurd a (by decide)
  · exact absurd a (by decide)
  · exact absurd a (by decide)
  · exact absurd a (by decide)
  · exact absurd a (by decide)
  · exact absurd a (by decide)
  · exact absurd a (by decide)
  · exact absurd a (by decide)
  · exact absurd a (by decide)
  · exact absurd a (by decide)
  · exact a.symm
theorem tk_60 {tX mX tM vM : Int32} (h : tkM tX mX tM vM) (e : tX = 60) : tM = 60 := by
  subst e
  rcases h with ⟨a, b⟩ | ⟨a, b⟩ | ⟨a, b, c⟩ | ⟨a, b, c⟩ | ⟨a, b, c⟩ | ⟨a, b, c⟩ | ⟨a, b, c⟩ | ⟨a, b⟩ | ⟨a, b⟩ | ⟨a, b⟩ | ⟨a, b⟩
  · exact absurd a (by decide)
  · exact absurd a (by decide)
  · exact absurd a (by decide)
  · exact absurd a (by decide)
  · exact absurd a (by decide)
  · exact absurd a (by decide)
  · exact absurd a (by decide)
  · exact absurd a (by decide)
  · exact absurd a (by decide)
  · exact absurd a (by decide)
  · exact a.symm
theorem tk_61 {tX mX tM vM : Int32} (h : tkM tX mX tM vM) (e : tX = 61) : tM = 61 := by
  subst e
  rcases h with ⟨a, b⟩ | ⟨a, b⟩ | ⟨a, b, c⟩ | ⟨a, b, c⟩ | ⟨a, b, c⟩ | ⟨a, b, c⟩ | ⟨a, b, c⟩ | ⟨a, b⟩ | ⟨a, b⟩ | ⟨a, b⟩ | ⟨a, b⟩
  · exact absurd a (by decide)
  · exact absurd a (by decide)
  · exact absurd a (by decide)
  · exact absurd a (by decide)
  · exact absurd a (by decide)
  · exact absurd a (by decide)
  · exact absurd a (by decide)
  · exact absurd a (by decide)
  · exact absurd a (by decide)
  · exact absurd a (by decide)
  · exact a.symm
theorem tk_or {tX mX tM vM : Int32} (h : tkM tX mX tM vM) : tX = 0 ∨ tX = 1 ∨ tX = 2 ∨ tX = 3 ∨ tX = 100 ∨ tX = 101 ∨ tX = 102 ∨ tX = 103 ∨ tX = 104 ∨ tX = 105 ∨ tX = 40 ∨ tX = 41 ∨ tX = 59 ∨ tX = 43 ∨ tX = 45 ∨ tX = 42 ∨ tX = 60 ∨ tX = 61 := by
  rcases h with ⟨a, b⟩ | ⟨a, b⟩ | ⟨a, b, c⟩ | ⟨a, b, c⟩ | ⟨a, b, c⟩ | ⟨a, b, c⟩ | ⟨a, b, c⟩ | ⟨a, b⟩ | ⟨a, b⟩ | ⟨a, b⟩ | ⟨a, b⟩
  · exact Or.inl a
  · exact Or.inr (Or.inl a)
  · exact Or.inr (Or.inr (Or.inl a))
  · exact Or.inr (Or.inr (Or.inr (Or.inl a)))
  · exact Or.inr (Or.inr (Or.inr (Or.inr (Or.inl a))))
  · exact Or.inr (Or.inr (Or.inr (Or.inr (Or.inr (Or.inl a)))))
  · exact Or.inr (Or.inr (Or.inr (Or.inr (Or.inr (Or.inr (Or.inl a))))))
  · exact Or.inr (Or.inr (Or.inr (Or.inr (Or.inr (Or.inr (Or.inr (Or.inl a)))))))
  · exact Or.inr (Or.inr (Or.inr (Or.inr (Or.inr (Or.inr (Or.inr (Or.inr (Or.inl a))))))))
  · exact Or.inr (Or.inr (Or.inr (Or.inr (Or.inr (Or.inr (Or.inr (Or.inr (Or.inr (Or.inl a)))))))))
  · rcases b with b | b | b | b | b | b | b | b
    · exact Or.inr (Or.inr (Or.inr (Or.inr (Or.inr (Or.inr (Or.inr (Or.inr (Or.inr (Or.inr (Or.inl (a.trans b)))))))))))
    · exact Or.inr (Or.inr (Or.inr (Or.inr (Or.inr (Or.inr (Or.inr (Or.inr (Or.inr (Or.inr (Or.inr (Or.inl (a.trans b))))))))))))
    · exact Or.inr (Or.inr (Or.inr (Or.inr (Or.inr (Or.inr (Or.inr (Or.inr (Or.inr (Or.inr (Or.inr (Or.inr (Or.inl (a.trans b)))))))))))))
    · exact Or.inr (Or.inr (Or.inr (Or.inr (Or.inr (Or.inr (Or.inr (Or.inr (Or.inr (Or.inr (Or.inr (Or.inr (Or.inr (Or.inl (a.trans b))))))))))))))
    · exact Or.inr (Or.inr (Or.inr (Or.inr (Or.inr (Or.inr (Or.inr (Or.inr (Or.inr (Or.inr (Or.inr (Or.inr (Or.inr (Or.inr (Or.inl (a.trans b)))))))))))))))
    · exact Or.inr (Or.inr (Or.inr (Or.inr (Or.inr (Or.inr (Or.inr (Or.inr (Or.inr (Or.inr (Or.inr (Or.inr (Or.inr (Or.inr (Or.inr (Or.inl (a.trans b))))))))))))))))
    · exact Or.inr (Or.inr (Or.inr (Or.inr (Or.inr (Or.inr (Or.inr (Or.inr (Or.inr (Or.inr (Or.inr (Or.inr (Or.inr (Or.inr (Or.inr (Or.inr (Or.inl (a.trans b)))))))))))))))))
    · exact Or.inr (Or.inr (Or.inr (Or.inr (Or.inr (Or.inr (Or.inr (Or.inr (Or.inr (Or.inr (Or.inr (Or.inr (Or.inr (Or.inr (Or.inr (Or.inr (Or.inr (a.trans b)))))))))))))))))
noncomputable def sgX (t : Int32) : Int32 := if t = 103 then 11 else if t = 104 then 12 else if t = 60 then 14 else if t = 61 then 15 else if t = 43 then 16 else if t = 45 then 17 else if t = 42 then 18 else -1
theorem tk_sg {tX mX tM vM : Int32} (h : tkM tX mX tM vM) : m_X6_signOf tM = sgX tX := by
  rcases tk_or h with e | e | e | e | e | e | e | e | e | e | e | e | e | e | e | e | e | e
  · have b := tk_0 h e; subst e; rw [b]; decide
  · have b := tk_1 h e; subst e; rw [b]; decide
  · have b := (tk_2 h e).1; subst e; rw [b]; decide
  · have b := (tk_3 h e).1; subst e; rw [b]; decide
  · have b := (tk_100 h e).1; subst e; rw [b]; decide
  · have b := (tk_101 h e).1; subst e; rw [b]; decide
  · have b := (tk_102 h e).1; subst e; rw [b]; decide
  · have b := tk_103 h e; subst e; rw [b]; decide
  · have b := tk_104 h e; subst e; rw [b]; decide
  · have b := tk_105 h e; subst e; rw [b]; decide
  · have b := tk_40 h e; subst e; rw [b]; decide
  · have b := tk_41 h e; subst e; rw [b]; decide
  · have b := tk_59 h e; subst e; rw [b]; decide
  · have b := tk_43 h e; subst e; rw [b]; decide
  · have b := tk_45 h e; subst e; rw [b]; decide
  · have b := tk_42 h e; subst e; rw [b]; decide
  · have b := tk_60 h e; subst e; rw [b]; decide
  · have b := tk_61 h e; subst e; rw [b]; decide
theorem tk_want {tX mX tM vM : Int32} (h : tkM tX mX tM vM) (n2 : ¬ tX = 2) (n3 : ¬ tX = 3) (n45 : ¬ tX = 45) (n40 : ¬ tX = 40) : ¬ tM = 1 ∧ ¬ tM = 2 ∧ ¬ tM = 45 ∧ ¬ tM = 40 ∧ (tM = 6 → tX = 105) := by
  rcases tk_or h with e | e | e | e | e | e | e | e | e | e | e | e | e | e | e | e | e | e
  · have b := tk_0 h e; rw [b]; exact ⟨by decide, by decide, by decide, by decide, fun z => absurd z (by decide)⟩
  · have b := tk_1 h e; rw [b]; exact ⟨by decide, by decide, by decide, by decide, fun z => absurd z (by decide)⟩
  · have b := (tk_2 h e).1; exact absurd e n2
  · have b := (tk_3 h e).1; exact absurd e n3
  · have b := (tk_100 h e).1; rw [b]; exact ⟨by decide, by decide, by decide, by decide, fun z => absurd z (by decide)⟩
  · have b := (tk_101 h e).1; rw [b]; exact ⟨by decide, by decide, by decide, by decide, fun z => absurd z (by decide)⟩
  · have b := (tk_102 h e).1; rw [b]; exact ⟨by decide, by decide, by decide, by decide, fun z => absurd z (by decide)⟩
  · have b := tk_103 h e; rw [b]; exact ⟨by decide, by decide, by decide, by decide, fun z => absurd z (by decide)⟩
  · have b := tk_104 h e; rw [b]; exact ⟨by decide, by decide, by decide, by decide, fun z => absurd z (by decide)⟩
  · have b := tk_105 h e; rw [b]; exact ⟨by decide, by decide, by decide, by decide, fun z => e⟩
  · have b := tk_40 h e; exact absurd e n40
  · have b := tk_41 h e; rw [b]; exact ⟨by decide, by decide, by decide, by decide, fun z => absurd z (by decide)⟩
  · have b := tk_59 h e; rw [b]; exact ⟨by decide, by decide, by decide, by decide, fun z => absurd z (by decide)⟩
  · have b := tk_43 h e; rw [b]; exact ⟨by decide, by decide, by decide, by decide, fun z => absurd z (by decide)⟩
  · have b := tk_45 h e; exact absurd e n45
  · have b := tk_42 h e; rw [b]; exact ⟨by decide, by decide, by decide, by decide, fun z => absurd z (by decide)⟩
  · have b := tk_60 h e; rw [b]; exact ⟨by decide, by decide, by decide, by decide, fun z => absurd z (by decide)⟩
  · have b := tk_61 h e; rw [b]; exact ⟨by decide, by decide, by decide, by decide, fun z => absurd z (by decide)⟩
theorem tk_nend {tX mX tM vM : Int32} (h : tkM tX mX tM vM) (n41 : ¬ tX = 41) (n59 : ¬ tX = 59) : ¬ tM = 41 ∧ ¬ tM = 59 := by
  rcases tk_or h with e | e | e | e | e | e | e | e | e | e | e | e | e | e | e | e | e | e
  · have b := tk_0 h e; rw [b]; exact ⟨by decide, by decide⟩
  · have b := tk_1 h e; rw [b]; exact ⟨by decide, by decide⟩
  · have b := (tk_2 h e).1; rw [b]; exact ⟨by decide, by decide⟩
  · have b := (tk_3 h e).1; rw [b]; exact ⟨by decide, by decide⟩
  · have b := (tk_100 h e).1; rw [b]; exact ⟨by decide, by decide⟩
  · have b := (tk_101 h e).1; rw [b]; exact ⟨by decide, by decide⟩
  · have b := (tk_102 h e).1; rw [b]; exact ⟨by decide, by decide⟩
  · have b := tk_103 h e; rw [b]; exact ⟨by decide, by decide⟩
  · have b := tk_104 h e; rw [b]; exact ⟨by decide, by decide⟩
  · have b := tk_105 h e; rw [b]; exact ⟨by decide, by decide⟩
  · have b := tk_40 h e; rw [b]; exact ⟨by decide, by decide⟩
  · have b := tk_41 h e; exact absurd e n41
  · have b := tk_59 h e; exact absurd e n59
  · have b := tk_43 h e; rw [b]; exact ⟨by decide, by decide⟩
  · have b := tk_45 h e; rw [b]; exact ⟨by decide, by decide⟩
  · have b := tk_42 h e; rw [b]; exact ⟨by decide, by decide⟩
  · have b := tk_60 h e; rw [b]; exact ⟨by decide, by decide⟩
  · have b := tk_61 h e; rw [b]; exact ⟨by decide, by decide⟩
theorem sgX_none {t : Int32} (a1 : ¬ t = 103) (a2 : ¬ t = 104) (a3 : ¬ t = 60) (a4 : ¬ t = 61) (a5 : ¬ t = 43) (a6 : ¬ t = 45) (a7 : ¬ t = 42) : sgX t = -1 := by
  unfold sgX
  rw [if_neg a1, if_neg a2, if_neg a3, if_neg a4, if_neg a5, if_neg a6, if_neg a7]
theorem tk_key0 {tX mX tM vM : Int32} (h : tkM tX mX tM vM) : tX = 100 ↔ (tM = 3 ∧ vM = 0) := by
  refine ⟨fun e => tk_100 h e, fun e => ?_⟩
  rcases tk_or h with e2 | e2 | e2 | e2 | e2 | e2 | e2 | e2 | e2 | e2 | e2 | e2 | e2 | e2 | e2 | e2 | e2 | e2
  · have b := tk_0 h e2; rw [e.1] at b; exact absurd b (by decide)
  · have b := tk_1 h e2; rw [e.1] at b; exact absurd b (by decide)
  · have b := (tk_2 h e2).1; rw [e.1] at b; exact absurd b (by decide)
  · have b := (tk_3 h e2).1; rw [e.1] at b; exact absurd b (by decide)
  · exact e2
  · have b := (tk_101 h e2).2; rw [e.2] at b; exact absurd b (by decide)
  · have b := (tk_102 h e2).2; rw [e.2] at b; exact absurd b (by decide)
  · have b := tk_103 h e2; rw [e.1] at b; exact absurd b (by decide)
  · have b := tk_104 h e2; rw [e.1] at b; exact absurd b (by decide)
  · have b := tk_105 h e2; rw [e.1] at b; exact absurd b (by decide)
  · have b := tk_40 h e2; rw [e.1] at b; exact absurd b (by decide)
  · have b := tk_41 h e2; rw [e.1] at b; exact absurd b (by decide)
  · have b := tk_59 h e2; rw [e.1] at b; exact absurd b (by decide)
  · have b := tk_43 h e2; rw [e.1] at b; exact absurd b (by decide)
  · have b := tk_45 h e2; rw [e.1] at b; exact absurd b (by decide)
  · have b := tk_42 h e2; rw [e.1] at b; exact absurd b (by decide)
  · have b := tk_60 h e2; rw [e.1] at b; exact absurd b (by decide)
  · have b := tk_61 h e2; rw [e.1] at b; exact absurd b (by decide)
theorem tk_key1 {tX mX tM vM : Int32} (h : tkM tX mX tM vM) : tX = 101 ↔ (tM = 3 ∧ vM = 1) := by
  refine ⟨fun e => tk_101 h e, fun e => ?_⟩
  rcases tk_or h with e2 | e2 | e2 | e2 | e2 | e2 | e2 | e2 | e2 | e2 | e2 | e2 | e2 | e2 | e2 | e2 | e2 | e2
  · have b := tk_0 h e2; rw [e.1] at b; exact absurd b (by decide)
  · have b := tk_1 h e2; rw [e.1] at b; exact absurd b (by decide)
  · have b := (tk_2 h e2).1; rw [e.1] at b; exact absurd b (by decide)
  · have b := (tk_3 h e2).1; rw [e.1] at b; exact absurd b (by decide)
  · have b := (tk_100 h e2).2; rw [e.2] at b; exact absurd b (by decide)
  · exact e2
  · have b := (tk_102 h e2).2; rw [e.2] at b; exact absurd b (by decide)
  · have b := tk_103 h e2; rw [e.1] at b; exact absurd b (by decide)
  · have b := tk_104 h e2; rw [e.1] at b; exact absurd b (by decide)
  · have b := tk_105 h e2; rw [e.1] at b; exact absurd b (by decide)
  · have b := tk_40 h e2; rw [e.1] at b; exact absurd b (by decide)
  · have b := tk_41 h e2; rw [e.1] at b; exact absurd b (by decide)
  · have b := tk_59 h e2; rw [e.1] at b; exact absurd b (by decide)
  · have b := tk_43 h e2; rw [e.1] at b; exact absurd b (by decide)
  · have b := tk_45 h e2; rw [e.1] at b; exact absurd b (by decide)
  · have b := tk_42 h e2; rw [e.1] at b; exact absurd b (by decide)
  · have b := tk_60 h e2; rw [e.1] at b; exact absurd b (by decide)
  · have b := tk_61 h e2; rw [e.1] at b; exact absurd b (by decide)
theorem tk_key2 {tX mX tM vM : Int32} (h : tkM tX mX tM vM) : tX = 102 ↔ (tM = 3 ∧ vM = 2) := by
  refine ⟨fun e => tk_102 h e, fun e => ?_⟩
  rcases tk_or h with e2 | e2 | e2 | e2 | e2 | e2 | e2 | e2 | e2 | e2 | e2 | e2 | e2 | e2 | e2 | e2 | e2 | e2
  · have b := tk_0 h e2; rw [e.1] at b; exact absurd b (by decide)
  · have b := tk_1 h e2; rw [e.1] at b; exact absurd b (by decide)
  · have b := (tk_2 h e2).1; rw [e.1] at b; exact absurd b (by decide)
  · have b := (tk_3 h e2).1; rw [e.1] at b; exact absurd b (by decide)
  · have b := (tk_100 h e2).2; rw [e.2] at b; exact absurd b (by decide)
  · have b := (tk_101 h e2).2; rw [e.2] at b; exact absurd b (by decide)
  · exact e2
  · have b := tk_103 h e2; rw [e.1] at b; exact absurd b (by decide)
  · have b := tk_104 h e2; rw [e.1] at b; exact absurd b (by decide)
  · have b := tk_105 h e2; rw [e.1] at b; exact absurd b (by decide)
  · have b := tk_40 h e2; rw [e.1] at b; exact absurd b (by decide)
  · have b := tk_41 h e2; rw [e.1] at b; exact absurd b (by decide)
  · have b := tk_59 h e2; rw [e.1] at b; exact absurd b (by decide)
  · have b := tk_43 h e2; rw [e.1] at b; exact absurd b (by decide)
  · have b := tk_45 h e2; rw [e.1] at b; exact absurd b (by decide)
  · have b := tk_42 h e2; rw [e.1] at b; exact absurd b (by decide)
  · have b := tk_60 h e2; rw [e.1] at b; exact absurd b (by decide)
  · have b := tk_61 h e2; rw [e.1] at b; exact absurd b (by decide)
theorem tk_zero {tX mX tM vM : Int32} (h : tkM tX mX tM vM) : tX = 0 ↔ tM = 0 := by
  refine ⟨fun e => tk_0 h e, fun e => ?_⟩
  rcases tk_or h with e2 | e2 | e2 | e2 | e2 | e2 | e2 | e2 | e2 | e2 | e2 | e2 | e2 | e2 | e2 | e2 | e2 | e2
  · exact e2
  · have b := tk_1 h e2; rw [e] at b; exact absurd b (by decide)
  · have b := (tk_2 h e2).1; rw [e] at b; exact absurd b (by decide)
  · have b := (tk_3 h e2).1; rw [e] at b; exact absurd b (by decide)
  · have b := (tk_100 h e2).1; rw [e] at b; exact absurd b (by decide)
  · have b := (tk_101 h e2).1; rw [e] at b; exact absurd b (by decide)
  · have b := (tk_102 h e2).1; rw [e] at b; exact absurd b (by decide)
  · have b := tk_103 h e2; rw [e] at b; exact absurd b (by decide)
  · have b := tk_104 h e2; rw [e] at b; exact absurd b (by decide)
  · have b := tk_105 h e2; rw [e] at b; exact absurd b (by decide)
  · have b := tk_40 h e2; rw [e] at b; exact absurd b (by decide)
  · have b := tk_41 h e2; rw [e] at b; exact absurd b (by decide)
  · have b := tk_59 h e2; rw [e] at b; exact absurd b (by decide)
  · have b := tk_43 h e2; rw [e] at b; exact absurd b (by decide)
  · have b := tk_45 h e2; rw [e] at b; exact absurd b (by decide)
  · have b := tk_42 h e2; rw [e] at b; exact absurd b (by decide)
  · have b := tk_60 h e2; rw [e] at b; exact absurd b (by decide)
  · have b := tk_61 h e2; rw [e] at b; exact absurd b (by decide)
