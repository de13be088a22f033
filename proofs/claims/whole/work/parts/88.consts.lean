/-- the kind of a constant's step -/
def conK (s : SD) : Prop := s.1 = 137 → (0 ≤ s.2.2.2.2.1 ∧ s.2.2.2.2.1 < 4) ∨ s.2.2.2.2.1 = 17
theorem conK_n {s : SD} (h : ¬ s.1 = 137) : conK s := fun e => absurd e h
theorem Comp_con {N : List ND} {S : List SD} : ∀ {f i j a b : Nat}, Comp N S f i j a b → ∀ (p : Nat) (s : SD), a ≤ p → p < b → S[p]? = some s → conK s := by
  intro f
  induction f with
  | zero => intro i j a b h; exact h.elim
  | succ f ih =>
    intro i j a b h p s hp1 hp2 hs
    rcases h with ⟨x, s', rfl, rfl, -, h2, h3⟩ | ⟨rfl, rfl, -, h2, -, h4⟩ | ⟨j1, b1, x, s', rfl, rfl, h1, -, h3, h4⟩ | ⟨m, q, j1, b1, x, s', rfl, rfl, h1, h2, -, h4, h5⟩ | ⟨m, q, j1, b1, t, rfl, rfl, h0, h1, h2, h3, -, h5⟩ | ⟨m1, m2, q1, q2, j1, b1, rfl, rfl, h1, h2, h3, h4, h5, -, h7⟩
    · have hp : p = a := by omega
      subst hp
      rw [h2] at hs; cases hs
      obtain ⟨t, v, -, h9 | h9 | h9⟩ := h3
      · rw [h9.2.2.2]
        intro _
        show (0 ≤ tkind t ∧ tkind t < 4) ∨ tkind t = 17
        unfold tkind
        repeat' split
        all_goals omega
      · rw [h9.2]; exact conK_n (by show ¬ (143 : Int) = 137; decide)
      · rw [h9.2]; exact conK_n (by show ¬ (143 : Int) = 137; decide)
    · rcases (show p = a ∨ p = a + 1 by omega) with rfl | rfl
      · rw [h2] at hs; cases hs; intro _; exact Or.inl ⟨by show (0 : Int) ≤ 0; decide, by show (0 : Int) < 4; decide⟩
      · rw [h4] at hs; cases hs; exact conK_n (by show ¬ (148 : Int) = 137; decide)
    · have l1 := Comp_lt h1
      by_cases hpb : p = b1
      · subst hpb
        rw [h3] at hs; cases hs
        obtain ⟨u, v, -, h9 | h9 | h9 | h9 | ⟨t, ht, -, -, h9⟩⟩ := h4
        · rw [h9.2]; exact conK_n (by show ¬ (144 : Int) = 137; decide)
        · rw [h9.2]; exact conK_n (by show ¬ (142 : Int) = 137; decide)
        · rw [h9.2]; exact conK_n (by show ¬ (141 : Int) = 137; decide)
        · rw [h9.2]; exact conK_n (by show ¬ (146 : Int) = 137; decide)
        · rw [h9]; exact conK_n (uc_one ht).2.2.1
      · exact ih h1 p s hp1 (by omega) hs
    · have l1 := Comp_lt h1; have l2 := Comp_lt h2
      by_cases hpb : p = b1
      · subst hpb
        rw [h4] at hs; cases hs
        obtain ⟨t, -, h9 | h9⟩ := h5
        · rw [h9.2]; exact conK_n (by show ¬ (145 : Int) = 137; decide)
        · rw [h9.2.2.2]; exact conK_n (tc_149 h9.1).2
      · by_cases hpq : p < q
        · exact ih h1 p s hp1 hpq hs
        · exact ih h2 p s (by omega) (by omega) hs
    · have l1 := Comp_lt h1; have l2 := Comp_lt h3
      by_cases hpb : p = b1
      · subst hpb
        rw [h5] at hs; cases hs
        exact conK_n (tc_149 (t := t) (by rcases h0 with rfl | rfl <;> decide)).2
      · by_cases hpq : p = q
        · subst hpq
          rw [h2] at hs; cases hs
          refine conK_n ?_
          show ¬ (if t = 44 then (151 : Int) else 152) = 137
          split <;> omega
        · by_cases hpl : p < q
          · exact ih h1 p s hp1 hpl hs
          · exact ih h3 p s (by omega) (by omega) hs
    · have l1 := Comp_lt h1; have l2 := Comp_lt h3; have l3 := Comp_lt h5
      by_cases hpb : p = b1
      · subst hpb
        rw [h7] at hs; cases hs
        exact conK_n (by show ¬ (149 : Int) = 137; decide)
      · by_cases hpq : p = q1
        · subst hpq
          rw [h2] at hs; cases hs
          exact conK_n (by show ¬ (151 : Int) = 137; decide)
        · by_cases hpr : p = q2
          · subst hpr
            rw [h4] at hs; cases hs
            exact conK_n (by show ¬ (150 : Int) = 137; decide)
          · by_cases hpl : p < q1
            · exact ih h1 p s hp1 hpl hs
            · by_cases hpm : p < q2
              · exact ih h3 p s (by omega) hpm hs
              · exact ih h5 p s (by omega) (by omega) hs
