theorem bdV_in9 {t : Int} (h : 0 < bdV t) : 27 ≤ t ∧ t ≤ 47 := by unfold bdV at h; grind (splits := 40)
theorem tc_149n : ∀ n : Nat, n < 48 → 27 ≤ n → ¬ tcode (n : Int) = 149 ∧ ¬ tcode (n : Int) = 137 := by decide +kernel
theorem tc_149 {t : Int} (h : 0 < bdV t) : ¬ tcode t = 149 ∧ ¬ tcode t = 137 := by
  have h9 := bdV_in9 h
  obtain ⟨n, rfl⟩ := Int.eq_ofNat_of_zero_le (show 0 ≤ t by omega)
  exact tc_149n n (by omega) (by omega)
theorem uc_one {t : Int} (h : t = 27 ∨ t = 28 ∨ t = 32 ∨ t = 33) : oneC (ucode t) ∧ ¬ ucode t = 149 ∧ ¬ ucode t = 137 ∧ ¬ ucode t = 146 ∧ ¬ ucode t = 141 ∧ ¬ ucode t = 142 := by
  rcases h with rfl | rfl | rfl | rfl <;> (unfold oneC; decide)
theorem wtH_of {M : Mem} {e : Nat} {S : List SD} (hs : stp e M S) (h48 : S.length ≤ 48) (hok : ∀ p : Nat, p < S.length → ∃ s, S[p]? = some s ∧ sOK p S.length s) (hcon : ∀ (p : Nat) (s : SD), S[p]? = some s → s.1 = 137 → vK M s.2.2.2.2.1) : wtH M e := by
  obtain ⟨s1, s2⟩ := hs
  refine ⟨by omega, fun i K h0 h1 hA hB => ?_⟩
  obtain ⟨p, rfl⟩ := Int.eq_ofNat_of_zero_le h0
  obtain ⟨s, hp, hk⟩ := hok p (by omega)
  obtain ⟨c1, c2, c3, c4, c5⟩ := s2 p s hp
  have hcp := hcon p s hp
  have hl : (p : Int) < 48 := by omega
  unfold stK
  rw [c1, c2, c3, c4]
  have hK137 : s.1 = 137 → vK M (K p) := fun h => by rw [hB p (Int.le_refl _), (c5 h).1]; exact hcp h
  rcases hk with ⟨k1, k2, k3⟩ | ⟨k1, k2⟩ | ⟨k1, k2⟩ | ⟨k1, k2, k3⟩ | ⟨k1, k2, k3, k4⟩ | ⟨k1, k2, k3⟩
  · refine ⟨by omega, fun h => absurd (Or.inl k1) h, fun h => by omega, fun h => ?_, hK137⟩
    exact absurd h (by unfold oneC; omega)
  · refine ⟨by omega, fun h => absurd (by unfold oneC; omega) h, fun h => by omega, fun h => ?_, hK137⟩
    exact absurd h (by unfold oneC; omega)
  · have ho : oneC s.1 ∧ ¬ s.1 = 149 := by
      rcases k1 with k1 | k1 | k1 | k1 | k1 | ⟨t, ht, k1, -⟩
      · exact ⟨by unfold oneC; omega, by omega⟩
      · exact ⟨by unfold oneC; omega, by omega⟩
      · exact ⟨by unfold oneC; omega, by omega⟩
      · exact ⟨by unfold oneC; omega, by omega⟩
      · exact ⟨by unfold oneC; omega, by omega⟩
      · have := uc_one ht; rw [k1]; exact ⟨this.1, this.2.1⟩
    exact ⟨by omega, fun h => absurd ho.1 h, fun h => absurd h ho.2, fun _ => Or.inr (hA _ k2.1 k2.2), hK137⟩
  · have ho : oneC s.1 := by unfold oneC; omega
    exact ⟨by omega, fun h => absurd ho h, fun h => by omega, fun _ => Or.inr (hA _ k2.1 k2.2), hK137⟩
  · exact ⟨by omega, fun _ => ⟨by omega, hA _ k3.1 k3.2⟩, fun _ => ⟨by omega, hA _ k4.1 k4.2⟩, fun _ => Or.inr (hA _ k2.1 k2.2), hK137⟩
  · have h149 : ¬ s.1 = 149 := by
      rcases k1 with k1 | ⟨t, ht, k1⟩
      · omega
      · rw [k1]; exact (tc_149 ht).1
    exact ⟨by omega, fun _ => ⟨by omega, hA _ k3.1 k3.2⟩, fun h => absurd h h149, fun _ => Or.inr (hA _ k2.1 k2.2), hK137⟩
