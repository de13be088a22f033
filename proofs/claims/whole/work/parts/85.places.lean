/-- the model's piece of a place of the desk -/
def pcD (M : Mem) (p : Int) : Int := if p / 28 = 0 then p % 28 else if p % 28 = 26 then 398 + p / 28 else if p % 28 = 27 then 410 + p / 28 else if 10 ≤ M 60 (p / 28) then 339 + 5 * (p / 28 - 1) + p % 28 else 27 + 26 * (p / 28 - 1) + p % 28
/-- a place that can be asked for -/
def vpD (M : Mem) (p : Int) : Prop := (0 ≤ p ∧ p < 364) ∧ ((p / 28 = 0 ∧ p % 28 ≤ 26) ∨ (1 ≤ p / 28 ∧ (26 ≤ p % 28 ∨ (M 60 (p / 28) < 10 ∧ p % 28 < 26) ∨ (10 ≤ M 60 (p / 28) ∧ p % 28 < 5))))
theorem pcD_rng {M : Mem} {p : Int} (h : vpD M p) : 0 ≤ pcD M p ∧ pcD M p < 423 := by
  obtain ⟨h1, h2⟩ := h
  unfold pcD
  generalize M 60 (p / 28) = g at h2 ⊢
  repeat' split
  all_goals omega
theorem pcD_inj {M : Mem} {p p' : Int} (h : vpD M p) (h' : vpD M p') (e : pcD M p = pcD M p') : p = p' := by
  obtain ⟨h1, h2⟩ := h
  obtain ⟨h3, h4⟩ := h'
  unfold pcD at e
  by_cases ho : p / 28 = p' / 28
  · rw [← ho] at h4 e
    generalize M 60 (p / 28) = g at h2 h4 e
    have hq : p % 28 = p' % 28 := by
      revert e
      repeat' split
      all_goals omega
    omega
  · generalize M 60 (p / 28) = g at h2 e
    generalize M 60 (p' / 28) = g' at h4 e
    exfalso
    revert e
    repeat' split
    all_goals omega
/-- the two lists of requests are alike -/
def RQL (M : Mem) : Prop := M 55 21 = M 9 3 ∧ M 55 24 = M 9 4 ∧ (M 9 3 ≤ 300 ∧ 0 ≤ M 9 3) ∧ ∀ k, 0 ≤ k → k < M 9 3 → vpD M (M 11 k) ∧ M 72 k = pcD M (M 11 k) ∧ M 73 k = M 12 k
theorem sort_pc {M : Mem} {p : Int} (h : vpD M p) : sortM (pcD M p) = sortD M (p / 28) (p % 28) := by
  obtain ⟨a1, a2⟩ := h
  unfold pcD sortD sortM
  generalize M 60 (p / 28) = g at a2 ⊢
  repeat' split
  all_goals omega
theorem who_pc {M : Mem} {p : Int} (h : vpD M p) : whoM (pcD M p) = if p / 28 = 0 then p % 28 else p / 28 := by
  obtain ⟨a1, a2⟩ := h
  unfold pcD whoM
  generalize M 60 (p / 28) = g at a2 ⊢
  repeat' split
  all_goals omega
theorem part_pc {M : Mem} {p : Int} (h : vpD M p) : partM (pcD M p) = if p / 28 = 0 ∨ 26 ≤ p % 28 then 0 else p % 28 := by
  obtain ⟨a1, a2⟩ := h
  unfold pcD partM
  generalize M 60 (p / 28) = g at a2 ⊢
  repeat' split
  all_goals omega
theorem req_eq {M : Mem} (h : RQL M) {k w : Int} : (if 0 ≤ k ∧ k < M 9 3 then reqD M k w else -1) = reqM M k w := by
  obtain ⟨h1, h2, h3, h4⟩ := h
  unfold reqM
  rw [h1]
  by_cases hk : 0 ≤ k ∧ k < M 9 3
  · obtain ⟨a1, a3, a4⟩ := h4 k hk.1 hk.2
    rw [if_pos hk, a3, a4, sort_pc a1, who_pc a1, part_pc a1]
    unfold reqD
    by_cases w0 : w = 0
    · rw [if_pos w0, if_pos (⟨hk, by omega⟩ : (0 ≤ k ∧ k < M 9 3) ∧ 0 ≤ w ∧ w < 4), if_pos w0]
    by_cases w1 : w = 1
    · rw [if_neg w0, if_pos w1, if_pos (⟨hk, by omega⟩ : (0 ≤ k ∧ k < M 9 3) ∧ 0 ≤ w ∧ w < 4), if_neg w0, if_neg (show ¬ w = 3 by omega), if_pos w1]
    by_cases w2 : w = 2
    · rw [if_neg w0, if_neg w1, if_pos w2, if_pos (⟨hk, by omega⟩ : (0 ≤ k ∧ k < M 9 3) ∧ 0 ≤ w ∧ w < 4), if_neg w0, if_neg (show ¬ w = 3 by omega), if_neg w1]
    by_cases w3 : w = 3
    · rw [if_neg w0, if_neg w1, if_neg w2, if_pos w3, if_pos (⟨hk, by omega⟩ : (0 ≤ k ∧ k < M 9 3) ∧ 0 ≤ w ∧ w < 4), if_neg w0, if_pos w3]
    · rw [if_neg w0, if_neg w1, if_neg w2, if_neg w3, if_neg (show ¬ ((0 ≤ k ∧ k < M 9 3) ∧ 0 ≤ w ∧ w < 4) by omega)]
  · rw [if_neg hk, if_neg (fun e => hk e.1)]
