theorem ite_rng {p : Prop} [Decidable p] {k : Int} (h : p → -1 ≤ k ∧ k < 18) : -1 ≤ (if p then k else -1) ∧ (if p then k else -1) < 18 := by
  split
  · rename_i h9; exact h h9
  · omega
theorem kchk_rng {M : Mem} {o v a b c : Int} (hI : TI M) (h1 : 1 ≤ o) (hv : o = 7 ∨ o = 60 → 0 ≤ v ∧ v < 26) (hb : o = 65 → 0 ≤ b ∧ b < 18) (hc : o = 65 → 0 ≤ c ∧ c < 18) : -1 ≤ kchk M o v a b c ∧ kchk M o v a b c < 18 := by
  have r1 := @comV_r a b
  have r2 := @comV_r a 0
  have h58 := hI.2.2.2.2.2.2.2.1
  unfold kchk
  by_cases c1 : o = 1 ∨ o = 2 ∨ o = 3
  · rw [if_pos c1]; omega
  rw [if_neg c1]
  by_cases c2 : o < 8
  · rw [if_pos c2]
    split
    · omega
    split
    · omega
    split
    · have := h58 26 (by omega) (by omega); omega
    · have h9 := hv (by omega); have := h58 v (by omega) (by omega); omega
  rw [if_neg c2]
  by_cases c3 : 100 < o
  · rw [if_pos c3]
    split
    · exact ite_rng (fun _ => by omega)
    split
    · omega
    · omega
  rw [if_neg c3]
  by_cases c4 : o = 60
  · rw [if_pos c4]
    split
    · have h9 := hv (Or.inr c4)
      have := fieldM_rng hI.2.2.2.2.1 hI.2.2.2.2.2.2.1 (c := a - 4) (name := v) (by omega) h9
      omega
    · omega
  rw [if_neg c4]
  by_cases c5 : o = 61
  · rw [if_pos c5]; exact ite_rng (fun _ => by omega)
  rw [if_neg c5]
  by_cases c6 : o = 63
  · rw [if_pos c6]; exact ite_rng (fun _ => by omega)
  rw [if_neg c6]
  by_cases c7 : o = 64
  · rw [if_pos c7]
    exact ite_rng (fun h => by have h9 := isKindB_t.mp h.1; have h8 := hI.1; omega)
  rw [if_neg c7]
  by_cases c8 : o = 62
  · rw [if_pos c8]; exact ite_rng (fun h => by have := elemM_rng h.1; omega)
  rw [if_neg c8]
  by_cases c9 : o = 65
  · rw [if_pos c9]
    have hb9 := hb c9
    have hc9 := hc c9
    have r3 := @comV_r b c
    split
    · unfold eithV
      repeat' split
      all_goals omega
    · omega
  rw [if_neg c9]
  split
  · exact ite_rng (fun _ => by omega)
  split
  · exact ite_rng (fun _ => by omega)
  split
  · omega
  split
  · omega
  split
  · omega
  split
  · omega
  · omega
/-- a parsed memory: its nodes can be told their kinds one after another -/
theorem chH_of {M : Mem} {N : List ND} (hI : TI M) (hn : M 55 28 = N.length) (hk : ndk M N) (ha : allN N) (hb : ∀ x ∈ N, x.1 ≤ 133) (h32 : N.length ≤ 32) : chH M := by
  refine ⟨by omega, hI.2.2.2.2.1, hI.1, fun n K h0 h1 hK => ?_⟩
  have hi : n.toNat < N.length := by omega
  have hx : N[n.toNat]? = some N[n.toNat] := List.getElem?_eq_getElem hi
  have hg := ha _ _ hx
  have hbx := hb _ (List.getElem_mem hi)
  obtain ⟨k1, k2, k3, k4, k5⟩ := hk n.toNat hi
  rw [List.getD_eq_getElem?_getD, hx, Option.getD_some, Int.toNat_of_nonneg h0] at k1 k2 k3 k4 k5
  generalize N[n.toNat] = x at hg hbx k1 k2 k3 k4 k5
  obtain ⟨g1, g2, g3, g4, g5, g6, g7⟩ := hg
  rw [Int.toNat_of_nonneg h0] at g2 g4
  rw [← k1] at g1 g2 g3 g4 g5 g6 g7 hbx
  rw [← k2] at g2
  rw [← k3] at g2 g3
  rw [← k4] at g4
  rw [← k5] at g5 g6 g7
  unfold nodeO at g1
  have hw : M 76 n = 7 ∨ M 76 n = 60 → 0 ≤ w32 (M 80 n) ∧ w32 (M 80 n) < 26 := by
    intro h
    have h9 := g5 h
    rw [w32_id (by omega)]
    exact h9
  have hkc : kcH M K n := by
    refine ⟨⟨g1.1, hbx⟩, hw, fun h => ?_, fun h => ?_, fun h => ?_⟩
    · have h9 := g2 h
      exact ⟨by omega, hK _ h9.1.1 h9.1.2⟩
    · have h9 := g2 h.1
      have h8 := g3 (by omega)
      exact ⟨by omega, hK _ h8 h9.2⟩
    · have h9 := g4 h
      exact ⟨by omega, hK _ h9.1 h9.2⟩
  have hr := kchk_rng (M := M) (o := M 76 n) (v := w32 (M 80 n)) (a := K (M 77 n)) (b := K (M 78 n)) (c := K (M 79 n)) hI g1.1 hw (fun h => by
    have h9 := g2 (by omega)
    have h8 := g3 (by omega)
    exact hK _ h8 h9.2) (fun h => by
    have h9 := g4 h
    exact hK _ h9.1 h9.2)
  exact ⟨hkc, hr.2, hr.1⟩
