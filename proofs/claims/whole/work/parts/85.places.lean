/-- the model's piece of a place of the desk -/
def pcD (M : Mem) (p : Int) : Int := if p / 28 = 0 then p % 28 else if p % 28 = 26 then 398 + p / 28 else if p % 28 = 27 then 410 + p / 28 else if 10 ≤ M 60 (p / 28) then 339 + 5 * (p / 28 - 1) + p % 28 else 27 + 26 * (p / 28 - 1) + p % 28
/-- a place that can be asked for -/
def vpD (M : Mem) (p : Int) : Prop := (0 ≤ p ∧ p < 364) ∧ ((p / 28 = 0 ∧ p % 28 ≤ 26) ∨ (1 ≤ p / 28 ∧ (26 ≤ p % 28 ∨ (M 60 (p / 28) < 10 ∧ p % 28 < 26) ∨ (10 ≤ M 60 (p / 28) ∧ p % 28 < 5))))
theorem pcD_rng {M : Mem} {p : Int} (h : vpD M p) : 0 ≤ pcD M p ∧ pcD M p < 423 := by
  obtain ⟨h1, h2⟩ := h
  unfold pcD
  generalize M 60 (p / 28) = g at h2 ⊢
  repeat' split
  all_goals omega
theorem pcD_inj {M : Mem} {p p' : Int} (h : vpD M p) (h' : vpD M p') (e : pcD M p = pcD M p') : p = p' := by
  obtain ⟨h1, h2⟩ := h
  obtain ⟨h3, h4⟩ := h'
  unfold pcD at e
  by_cases ho : p / 28 = p' / 28
  · rw [← ho] at h4 e
    generalize M 60 (p / 28) = g at h2 h4 e
    have hq : p % 28 = p' % 28 := by
      revert e
      repeat' split
      all_goals omega
    omega
  · generalize M 60 (p / 28) = g at h2 e
    generalize M 60 (p' / 28) = g' at h4 e
    exfalso
    revert e
    repeat' split
    all_goals omega
