/-- a step at p is well made: its operands are earlier steps, its skips lead forward, to e at the most -/
def sOK (p e : Int) (s : SD) : Prop := (s.1 = 137 ∧ s.2.1 = 0 ∧ s.2.2.1 = 0) ∨ (s.1 = 143 ∧ s.2.1 = 0)
  ∨ ((s.1 = 144 ∨ s.1 = 142 ∨ s.1 = 141 ∨ s.1 = 146 ∨ (s.1 = 148 ∧ s.2.2.1 = 0) ∨ ∃ t, (t = 27 ∨ t = 28 ∨ t = 32 ∨ t = 33) ∧ s.1 = ucode t ∧ s.2.2.1 = 0) ∧ 0 ≤ s.2.1 ∧ s.2.1 < p)
  ∨ ((s.1 = 150 ∨ s.1 = 151 ∨ s.1 = 152) ∧ (0 ≤ s.2.1 ∧ s.2.1 < p) ∧ p < s.2.2.1 ∧ s.2.2.1 ≤ e)
  ∨ (s.1 = 149 ∧ (0 ≤ s.2.1 ∧ s.2.1 < p) ∧ (0 ≤ s.2.2.1 ∧ s.2.2.1 < p) ∧ 0 ≤ s.2.2.2.1 ∧ s.2.2.2.1 < p)
  ∨ ((s.1 = 145 ∨ ∃ t, 0 < bdV t ∧ s.1 = tcode t) ∧ (0 ≤ s.2.1 ∧ s.2.1 < p) ∧ 0 ≤ s.2.2.1 ∧ s.2.2.1 < p)
theorem Comp_sOK {N : List ND} {S : List SD} {e : Int} : ∀ {f i j a b : Nat}, Comp N S f i j a b → (b : Int) ≤ e → ∀ p : Nat, a ≤ p → p < b → ∃ s, S[p]? = some s ∧ sOK p e s := by
  intro f
  induction f with
  | zero => intro i j a b h; exact h.elim
  | succ f ih =>
    intro i j a b h he p hp1 hp2
    rcases h with ⟨x, s, rfl, rfl, -, h2, h3⟩ | ⟨rfl, rfl, -, h2, -, h4⟩ | ⟨j1, b1, x, s, rfl, rfl, h1, -, h3, h4⟩ | ⟨m, q, j1, b1, x, s, rfl, rfl, h1, h2, -, h4, h5⟩ | ⟨m, q, j1, b1, t, rfl, rfl, h0, h1, h2, h3, -, h5⟩ | ⟨m1, m2, q1, q2, j1, b1, rfl, rfl, h1, h2, h3, h4, h5, -, h7⟩
    · have hp : p = a := by omega
      subst hp
      obtain ⟨t, v, -, h9 | h9 | h9⟩ := h3
      · exact ⟨s, h2, by rw [h9.2.2.2]; exact Or.inl ⟨rfl, rfl, rfl⟩⟩
      · exact ⟨s, h2, by rw [h9.2]; exact Or.inr (Or.inl ⟨rfl, rfl⟩)⟩
      · exact ⟨s, h2, by rw [h9.2]; exact Or.inr (Or.inl ⟨rfl, rfl⟩)⟩
    · rcases (show p = a ∨ p = a + 1 by omega) with rfl | rfl
      · exact ⟨_, h2, Or.inl ⟨rfl, rfl, rfl⟩⟩
      · refine ⟨_, h4, Or.inr (Or.inr (Or.inl ⟨Or.inr (Or.inr (Or.inr (Or.inr (Or.inl ⟨rfl, rfl⟩)))), ?_⟩))⟩
        show 0 ≤ (a : Int) ∧ (a : Int) < ((a + 1 : Nat) : Int)
        omega
    · have l1 := Comp_lt h1
      by_cases hpb : p = b1
      · subst hpb
        obtain ⟨u, v, -, h9 | h9 | h9 | h9 | ⟨t, ht, -, -, h9⟩⟩ := h4
        · exact ⟨s, h3, by rw [h9.2]; exact Or.inr (Or.inr (Or.inl ⟨Or.inl rfl, by show 0 ≤ (p : Int) - 1 ∧ (p : Int) - 1 < p; omega⟩))⟩
        · exact ⟨s, h3, by rw [h9.2]; exact Or.inr (Or.inr (Or.inl ⟨Or.inr (Or.inl rfl), by show 0 ≤ (p : Int) - 1 ∧ (p : Int) - 1 < p; omega⟩))⟩
        · exact ⟨s, h3, by rw [h9.2]; exact Or.inr (Or.inr (Or.inl ⟨Or.inr (Or.inr (Or.inl rfl)), by show 0 ≤ (p : Int) - 1 ∧ (p : Int) - 1 < p; omega⟩))⟩
        · exact ⟨s, h3, by rw [h9.2]; exact Or.inr (Or.inr (Or.inl ⟨Or.inr (Or.inr (Or.inr (Or.inl rfl))), by show 0 ≤ (p : Int) - 1 ∧ (p : Int) - 1 < p; omega⟩))⟩
        · exact ⟨s, h3, by rw [h9]; exact Or.inr (Or.inr (Or.inl ⟨Or.inr (Or.inr (Or.inr (Or.inr (Or.inr ⟨t, ht, rfl, rfl⟩)))), by show 0 ≤ (p : Int) - 1 ∧ (p : Int) - 1 < p; omega⟩))⟩
      · exact ih h1 (by omega) p hp1 (by omega)
    · have l1 := Comp_lt h1; have l2 := Comp_lt h2
      by_cases hpb : p = b1
      · subst hpb
        have hb : (0 ≤ (q : Int) - 1 ∧ (q : Int) - 1 < p) ∧ 0 ≤ (p : Int) - 1 ∧ (p : Int) - 1 < p := by omega
        obtain ⟨t, -, h9 | h9⟩ := h5
        · exact ⟨s, h4, by rw [h9.2]; exact Or.inr (Or.inr (Or.inr (Or.inr (Or.inr ⟨Or.inl rfl, hb⟩))))⟩
        · exact ⟨s, h4, by rw [h9.2.2.2]; exact Or.inr (Or.inr (Or.inr (Or.inr (Or.inr ⟨Or.inr ⟨t, h9.1, rfl⟩, hb⟩))))⟩
      · by_cases hpq : p < q
        · exact ih h1 (by omega) p hp1 hpq
        · exact ih h2 (by omega) p (by omega) (by omega)
    · have l1 := Comp_lt h1; have l2 := Comp_lt h3
      by_cases hpb : p = b1
      · subst hpb
        have hb : (0 ≤ (q : Int) - 1 ∧ (q : Int) - 1 < p) ∧ 0 ≤ (p : Int) - 1 ∧ (p : Int) - 1 < p := by omega
        exact ⟨_, h5, Or.inr (Or.inr (Or.inr (Or.inr (Or.inr ⟨Or.inr ⟨t, by rcases h0 with rfl | rfl <;> decide, rfl⟩, hb⟩))))⟩
      · by_cases hpq : p = q
        · subst hpq
          refine ⟨_, h2, Or.inr (Or.inr (Or.inr (Or.inl ⟨?_, ?_, ?_, ?_⟩)))⟩
          · show (if t = 44 then (151 : Int) else 152) = 150 ∨ (if t = 44 then (151 : Int) else 152) = 151 ∨ (if t = 44 then (151 : Int) else 152) = 152
            split <;> omega
          · show 0 ≤ (p : Int) - 1 ∧ (p : Int) - 1 < p
            omega
          · show (p : Int) < b1
            omega
          · show (b1 : Int) ≤ e
            omega
        · by_cases hpl : p < q
          · exact ih h1 (by omega) p hp1 hpl
          · exact ih h3 (by omega) p (by omega) (by omega)
    · have l1 := Comp_lt h1; have l2 := Comp_lt h3; have l3 := Comp_lt h5
      by_cases hpb : p = b1
      · subst hpb
        refine ⟨_, h7, Or.inr (Or.inr (Or.inr (Or.inr (Or.inl ⟨rfl, ?_, ?_, ?_⟩))))⟩
        · show 0 ≤ (q1 : Int) - 1 ∧ (q1 : Int) - 1 < p
          omega
        · show 0 ≤ (q2 : Int) - 1 ∧ (q2 : Int) - 1 < p
          omega
        · show 0 ≤ (p : Int) - 1 ∧ (p : Int) - 1 < p
          omega
      · by_cases hpq : p = q1
        · subst hpq
          refine ⟨_, h2, Or.inr (Or.inr (Or.inr (Or.inl ⟨Or.inr (Or.inl rfl), ?_, ?_, ?_⟩)))⟩
          · show 0 ≤ (p : Int) - 1 ∧ (p : Int) - 1 < p
            omega
          · show (p : Int) < (q2 : Int) + 1
            omega
          · show (q2 : Int) + 1 ≤ e
            omega
        · by_cases hpr : p = q2
          · subst hpr
            refine ⟨_, h4, Or.inr (Or.inr (Or.inr (Or.inl ⟨Or.inl rfl, ?_, ?_, ?_⟩)))⟩
            · show 0 ≤ (q1 : Int) - 1 ∧ (q1 : Int) - 1 < p
              omega
            · show (p : Int) < b1
              omega
            · show (b1 : Int) ≤ e
              omega
          · by_cases hpl : p < q1
            · exact ih h1 (by omega) p hp1 hpl
            · by_cases hpm : p < q2
              · exact ih h3 (by omega) p (by omega) hpm
              · exact ih h5 (by omega) p (by omega) (by omega)
