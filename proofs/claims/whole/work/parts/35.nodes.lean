theorem good_leaf {t t1 v k k' : Int} {S S' : PSt} (ht : 1 ≤ t ∧ t ≤ 7) (hv : t = 7 → 0 ≤ v ∧ v < 26) (h : goodS S) (h2 : leafS t t1 v k S = some (k', S')) : goodS S' := by
  obtain ⟨N, O, P, o, a, cl⟩ := S
  obtain ⟨h3, h4, h5⟩ := h
  unfold leafS at h2
  simp only [] at h2
  split at h2
  · cases h2
  · cases h2
    refine ⟨allN_add h3 ?_, allO_new h4, h5⟩
    unfold ndOK nodeO
    simp only
    exact ⟨by omega, fun e => by omega, fun e => by omega, fun e => by omega, fun e => hv (by omega), fun e => by omega, fun e => by omega⟩
theorem pP_cons {x : Int × Int} {P : List (Int × Int)} (hx : pOK x) (h : ∀ p ∈ P, pOK p) : ∀ p ∈ x :: P, pOK p := by
  intro p hp
  rcases List.mem_cons.mp hp with rfl | hp
  · exact hx
  · exact h p hp
theorem good_before {t t1 t2 t3 t4 v1 k k' : Int} {S S' : PSt} (ht : t ≤ 47) (hv : 8 ≤ t1 → t1 ≤ 12 → 0 ≤ v1 ∧ v1 < 6) (h : goodS S) (h2 : beforeS t t1 t2 t3 t4 v1 k S = some (k', S')) : goodS S' := by
  obtain ⟨N, O, P, o, a, cl⟩ := S
  obtain ⟨h3, h4, h5⟩ := h
  unfold beforeS castS at h2
  simp only [] at h2
  split at h2
  · cases h2
    exact ⟨h3, h4, pP_cons ⟨fun _ => by show 100 + t ≤ 147; omega, fun e => by have e' : 100 + t = 64 := e; omega⟩ h5⟩
  split at h2
  · cases h2
  split at h2
  · split at h2
    · cases h2
    · cases h2
      exact ⟨h3, h4, pP_cons ⟨by decide, by decide⟩ h5⟩
  · have hv1 := hv (by omega) (by omega)
    split at h2
    · split at h2
      · cases h2
      · cases h2
        exact ⟨h3, h4, pP_cons ⟨fun e => absurd (show (100 : Int) < 64 from e) (by decide), fun _ => by show 0 ≤ castK t1 v1 true ∧ castK t1 v1 true < 17; unfold castK; simp only [if_pos]; split <;> omega⟩ h5⟩
    · split at h2
      · cases h2
      · cases h2
        exact ⟨h3, h4, pP_cons ⟨fun e => absurd (show (100 : Int) < 64 from e) (by decide), fun _ => by show 0 ≤ castK t1 v1 false ∧ castK t1 v1 false < 17; unfold castK; simp; split <;> omega⟩ h5⟩
