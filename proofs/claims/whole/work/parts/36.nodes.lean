theorem getD_in {n : Int} {O : List Int} (h : allO n O) {j : Nat} (hj : j < O.length) : 0 ≤ O.getD j 0 ∧ O.getD j 0 < n := by
  have : O.getD j 0 ∈ O := by
    rw [List.getD_eq_getElem?_getD, List.getElem?_eq_getElem hj]
    exact List.getElem_mem hj
  exact h _ this
theorem pP_drop {P : List (Int × Int)} (h : ∀ p ∈ P, pOK p) (k : Nat) : ∀ p ∈ P.drop k, pOK p := fun p hp => h p (List.mem_of_mem_drop hp)
theorem good_dot {m t1 v1 k k' : Int} {S S' : PSt} (hv : t1 = 7 → 0 ≤ v1 ∧ v1 < 26) (hi : invS m k 0 S) (h : goodS S) (h2 : dotS t1 v1 k S = some (k', S')) : goodS S' := by
  obtain ⟨N, O, P, o, a, cl⟩ := S
  obtain ⟨h3, h4, h5⟩ := h
  obtain ⟨i1, _⟩ := hi
  unfold dotS at h2
  simp only [] at h2
  split at h2
  · cases h2
  · cases h2
    have hx := getD_in h4 (j := 0) (by omega)
    refine ⟨allN_add h3 ?_, allO_new (allO_drop h4 1), h5⟩
    unfold ndOK nodeO
    simp only
    by_cases h7 : t1 = 7
    · rw [if_pos h7]
      exact ⟨by omega, fun _ => ⟨hx, by omega⟩, fun e => by omega, fun e => by omega, fun e => hv h7, fun e => by omega, fun e => by omega⟩
    · rw [if_neg h7]
      exact ⟨by omega, fun _ => ⟨hx, by omega⟩, fun e => by omega, fun e => by omega, fun e => by omega, fun e => by omega, fun e => by omega⟩
theorem good_of {m t1 v1 k k' : Int} {S S' : PSt} (hv : t1 = 8 → 0 ≤ v1 ∧ v1 < 6) (hi : invS m k 0 S) (h : goodS S) (h2 : ofS t1 v1 k S = some (k', S')) : goodS S' := by
  obtain ⟨N, O, P, o, a, cl⟩ := S
  obtain ⟨h3, h4, h5⟩ := h
  obtain ⟨i1, _⟩ := hi
  unfold ofS at h2
  simp only [] at h2
  split at h2
  · cases h2
  · cases h2
    have hx := getD_in h4 (j := 0) (by omega)
    refine ⟨allN_add h3 ?_, allO_new (allO_drop h4 1), h5⟩
    unfold ndOK nodeO
    simp only
    exact ⟨by omega, fun _ => ⟨hx, by omega⟩, fun e => by omega, fun e => by omega, fun e => by omega, fun e => hv (by omega), fun e => by omega⟩
