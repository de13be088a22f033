theorem eith_vK {M : Mem} {b c : Int} (hb : vK M b) (hc : vK M c) : eithV M b c = -1 ∨ vK M (eithV M b c) := by
  have h := @comV_r b c
  unfold eithV
  split
  · exact Or.inr hb
  · split
    · exact Or.inr (vK_c (by omega))
    · split
      · split
        · exact Or.inr hc
        · exact Or.inr hb
      · exact Or.inl rfl
theorem v58_vK {M : Mem} (hI : TI M) {n : Int} (hn : 0 ≤ n ∧ n < 27) : M 58 n = -1 ∨ vK M (M 58 n) := by
  by_cases h : M 58 n = -1
  · exact Or.inl h
  · exact Or.inr (Or.inl (hI.2.2.2.2.2.2.2.2.2.2.2.2.1 n hn.1 hn.2 h))
theorem elem_vK {M : Mem} {a : Int} (ha : vK M a) (h : 10 ≤ a ∧ a < 17) : vK M (elemM a) := by
  have h8 := vK_e ha
  refine Or.inl (isKindB_t.mpr ?_)
  unfold elemM
  split <;> omega
/-- the kind that the model tells of a node is a kind that is there, null's, or none -/
theorem kchk_vK {M : Mem} {o v a b c : Int} (hI : TI M) (h1 : 1 ≤ o) (hv : o = 7 ∨ o = 60 → 0 ≤ v ∧ v < 26) (ha : 8 ≤ o → vK M a) (hb : o = 65 → vK M b) (hc : o = 65 → vK M c) : kchk M o v a b c = -1 ∨ vK M (kchk M o v a b c) := by
  have r1 := @comV_r a b
  have r2 := @comV_r a 0
  have h3 : vK M 3 := vK_c (by omega)
  have h0 : vK M 0 := vK_c (by omega)
  unfold kchk
  by_cases c1 : o = 1 ∨ o = 2 ∨ o = 3
  · rw [if_pos c1]; exact Or.inr (vK_c (by omega))
  rw [if_neg c1]
  by_cases c2 : o < 8
  · rw [if_pos c2]
    split
    · exact Or.inr h3
    split
    · exact Or.inr (Or.inr rfl)
    split
    · exact v58_vK hI (by omega)
    · have := hv (by omega); exact v58_vK hI (by omega)
  rw [if_neg c2]
  have ha9 := ha (by omega)
  by_cases c3 : 100 < o
  · rw [if_pos c3]
    split
    · exact ite_vK (fun _ => h3)
    split
    · exact Or.inr (vK_c (by omega))
    · exact Or.inl rfl
  rw [if_neg c3]
  by_cases c4 : o = 60
  · rw [if_pos c4]
    split
    · exact foF_vK hI (hv (Or.inr c4)) 6 _ (by omega)
    · exact Or.inl rfl
  rw [if_neg c4]
  by_cases c5 : o = 61
  · rw [if_pos c5]; exact ite_vK (fun _ => h0)
  rw [if_neg c5]
  by_cases c6 : o = 63
  · rw [if_pos c6]; exact ite_vK (fun _ => h3)
  rw [if_neg c6]
  by_cases c7 : o = 64
  · rw [if_pos c7]; exact ite_vK (fun h => Or.inl h.1)
  rw [if_neg c7]
  by_cases c8 : o = 62
  · rw [if_pos c8]; exact ite_vK (fun h => elem_vK ha9 h.1)
  rw [if_neg c8]
  by_cases c9 : o = 65
  · rw [if_pos c9]
    split
    · exact eith_vK (hb c9) (hc c9)
    · exact Or.inl rfl
  rw [if_neg c9]
  split
  · exact ite_vK (fun _ => h3)
  split
  · exact ite_vK (fun _ => h3)
  split
  · exact Or.inr h3
  split
  · exact Or.inl rfl
  split
  · exact Or.inr h3
  split
  · exact Or.inr (vK_c (by omega))
  · exact Or.inr (vK_c (by omega))
