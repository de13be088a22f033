theorem good_sq {k k' : Int} {S S' : PSt} (h : goodS S) (h2 : sqS k S = some (k', S')) : goodS S' := by
  obtain ⟨N, O, P, o, a, cl⟩ := S
  obtain ⟨h3, h4, h5⟩ := h
  unfold sqS at h2
  simp only [] at h2
  split at h2
  · cases h2
  · cases h2
    exact ⟨h3, h4, pP_cons ⟨by decide, by decide⟩ h5⟩
theorem good_ask {k k' : Int} {S S' : PSt} (h : goodS S) (h2 : askS k S = some (k', S')) : goodS S' := by
  obtain ⟨N, O, P, o, a, cl⟩ := S
  obtain ⟨h3, h4, h5⟩ := h
  unfold askS at h2
  simp only [] at h2
  split at h2
  · cases h2
  · cases h2
    exact ⟨h3, h4, pP_cons ⟨by decide, by decide⟩ h5⟩
theorem good_col {k k' : Int} {S S' : PSt} (h : goodS S) (h2 : colS k S = some (k', S')) : goodS S' := by
  obtain ⟨N, O, P, o, a, cl⟩ := S
  obtain ⟨h3, h4, h5⟩ := h
  unfold colS at h2
  simp only [] at h2
  split at h2
  · cases h2
  · cases h2
    exact ⟨h3, h4, pP_cons ⟨fun e => absurd (show (100 : Int) < 26 from e) (by decide), fun e => absurd (show (26 : Int) = 64 from e) (by decide)⟩ (pP_drop h5 1)⟩
theorem good_bin {t k k' : Int} {S S' : PSt} (h : goodS S) (h2 : binS t k S = some (k', S')) : goodS S' := by
  obtain ⟨N, O, P, o, a, cl⟩ := S
  obtain ⟨h3, h4, h5⟩ := h
  unfold binS at h2
  simp only [] at h2
  split at h2
  · cases h2
  · rename_i hb
    have hb2 : ¬ bdV t = 0 := fun e => hb (Or.inl e)
    have hb3 : 0 < bdV t := by have : 0 ≤ bdV t := (by unfold bdV; grind (splits := 40)); omega
    obtain ⟨h7, h8, h9⟩ := nodeO_bd hb3
    cases h2
    exact ⟨h3, h4, pP_cons ⟨fun e => by have e' : 100 < t := e; omega, fun e => by have e' : t = 64 := e; omega⟩ h5⟩
