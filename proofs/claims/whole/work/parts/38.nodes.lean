theorem good_close {m t k k' : Int} {S S' : PSt} (hi : invS m k 0 S) (h : goodS S) (h2 : closeS t k S = some (k', S')) : goodS S' := by
  obtain ⟨N, O, P, o, a, cl⟩ := S
  obtain ⟨h3, h4, h5⟩ := h
  obtain ⟨i1, _⟩ := hi
  unfold closeS at h2
  simp only [] at h2
  by_cases ht : topP P = (if t = 21 then 20 else 22)
  · rw [if_neg (fun e => e ht)] at h2
    by_cases h23 : t = 23
    · rw [if_pos h23] at h2
      rw [if_neg (by omega)] at ht
      obtain ⟨kk, PP, rfl⟩ := topP_cons ht (by decide)
      have h22 : arW 22 = 1 := by decide
      rw [arP_c] at i1
      cases h2
      have hx := getD_in h4 (j := 1) (by omega)
      have hy := getD_in h4 (j := 0) (by omega)
      refine ⟨allN_add h3 ?_, allO_new (allO_drop h4 2), pP_drop h5 1⟩
      unfold ndOK nodeO
      simp only
      exact ⟨by omega, fun _ => ⟨hx, by omega⟩, fun e => by omega, fun e => by omega, fun e => by omega, fun e => by omega, fun e => by omega⟩
    · rw [if_neg h23] at h2
      cases h2
      exact ⟨h3, h4, pP_drop h5 1⟩
  · rw [if_pos ht] at h2
    cases h2
theorem good_redS {m least k : Int} {S : PSt} (hi : invS m k 0 S) (h : goodS S) : goodS (redS least S) := by
  obtain ⟨N, O, P, o, a, cl⟩ := S
  exact good_red h (by have := hi.1; omega)
theorem good_behind {m t t1 v1 k k' : Int} {S S' : PSt} (hv7 : t1 = 7 → 0 ≤ v1 ∧ v1 < 26) (hv8 : t1 = 8 → 0 ≤ v1 ∧ v1 < 6) (hi : invS m k 0 S) (h : goodS S) (h2 : behindS t t1 v1 k S = some (k', S')) : goodS S' := by
  unfold behindS at h2
  split at h2
  · exact good_dot hv7 hi h h2
  split at h2
  · exact good_sq h h2
  split at h2
  · exact good_close (invS_red hi) (good_redS hi h) h2
  split at h2
  · exact good_ask (good_redS hi h) h2
  split at h2
  · exact good_col (good_redS hi h) h2
  split at h2
  · exact good_of hv8 (invS_red hi) (good_redS hi h) h2
  · exact good_bin (good_redS hi h) h2
