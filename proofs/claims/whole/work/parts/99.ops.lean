/-- the desk's outcome of a step is the model's of a node -/
def rlR (W : Mem) (R R' : Int × Int) : Prop := (R.1 = 0 ∧ R' = R) ∨ (R.1 = 1 ∧ vpD W R.2 ∧ R' = (1, pcD W R.2)) ∨ (R.1 = 2 ∧ R' = R)
/-- what the desk knows is what the model knows -/
def KRA (W A : Mem) : Prop := agM W A ∧ ∀ p, vpD W p → (kbD W p = 1 ↔ ¬ A 71 (pcD W p) = 0)
section OP
variable {W A : Mem} {k ka kb kc a b v p q o : Int}
theorem rl_0 {y : Int} : rlR W (0, y) (0, y) := Or.inl ⟨rfl, rfl⟩
theorem rl_2 {y : Int} : rlR W (2, y) (2, y) := Or.inr (Or.inr ⟨rfl, rfl⟩)
theorem rl_0' {x y : Int} (h : x = y) : rlR W (0, x) (0, y) := by rw [h]; exact rl_0
theorem nr_2 {y : Int} : nrK k (2, y) = (2, y) := if_neg (by show ¬ (2 : Int) = 0; decide)
theorem nr_1 {y : Int} : nrK k (1, y) = (1, y) := if_neg (by show ¬ (1 : Int) = 0; decide)
theorem nr_v {y : Int} : nrK k (0, y) = (0, if k = 0 then w32 y else y) := if_pos rfl
theorem nr_ok {y : Int} (h : validB W k y = true) : nrK k (0, y) = (0, y) := by
  rw [nr_v]
  by_cases e : k = 0
  · rw [if_pos e]
    rw [e, val_0] at h
    rw [← of_decide_eq_true h]
  · rw [if_neg e]
theorem rl_need (hK : KRA W A) (hv : vpD W p) (hq : pcD W p = q) {x y : Int} (hxy : W 8 p = x) (hy : x = y) (hk : validB W k y = true) : rlR W (ndR W p) (nrK k (needF A q y)) := by
  have h := hK.2 p hv
  rw [hq] at h
  unfold ndR needF
  by_cases h1 : kbD W p = 1
  · rw [if_pos h1, if_neg (h.mp h1), nr_ok hk, hxy, hy]; exact rl_0
  · have h2 : A 71 q = 0 := Classical.byContradiction fun h9 => h1 (h.mpr h9)
    rw [if_neg h1, if_pos h2, nr_1, ← hq]
    exact Or.inr (Or.inl ⟨rfl, hv, rfl⟩)
theorem op_var (hT : RT W) (hC : CI W) (hK : KRA W A) (hn : 0 ≤ v ∧ v ≤ 26) (hk : k = W 58 v) (h0 : 0 ≤ k) : rlR W (ndR W (28 * 0 + v)) (nrK k (needF A v (A 59 v))) := by
  rw [show 28 * 0 + v = v by omega, hK.1.2.2.2.2.1]
  have hvp : vpD W v := ⟨by omega, Or.inl (by omega)⟩
  refine rl_need hK hvp ?_ rfl (hT.2.2.2.2.1 v hn.1 (by omega)) ?_
  · unfold pcD; rw [if_pos (by omega)]; omega
  · rw [hk]; exact (hC.2.2.2.2.1 v hn.1 (by omega)).1 (by omega)
theorem pc_f {g : Int} (ho : 1 ≤ o ∧ o ≤ 12) (hp : 0 ≤ p ∧ p < 26) (hk : g = W 60 o) (h : g < 10) : vpD W (28 * o + p) ∧ pcD W (28 * o + p) = pieceM 1 o p := by
  have e1 : (28 * o + p) / 28 = o := by omega
  have e2 : (28 * o + p) % 28 = p := by omega
  refine ⟨⟨by omega, Or.inr ⟨by omega, Or.inr (Or.inl ?_)⟩⟩, ?_⟩
  · rw [e1, e2, ← hk]; omega
  · unfold pcD pieceM
    rw [e1, e2, ← hk, if_neg (by omega), if_neg (by omega), if_neg (by omega), if_neg (by omega)]
    rfl
theorem pc_e (ho : 1 ≤ o ∧ o ≤ 12) (hp : 0 ≤ p ∧ p < 5) (h : 10 ≤ W 60 o) : vpD W (28 * o + p) ∧ pcD W (28 * o + p) = pieceM 2 o p := by
  have e1 : (28 * o + p) / 28 = o := by omega
  have e2 : (28 * o + p) % 28 = p := by omega
  refine ⟨⟨by omega, Or.inr ⟨by omega, Or.inr (Or.inr ?_)⟩⟩, ?_⟩
  · rw [e1, e2]; omega
  · unfold pcD pieceM
    rw [e1, e2, if_neg (by omega), if_neg (by omega), if_neg (by omega), if_pos (by omega)]
    rfl
theorem pc_l (ho : 1 ≤ o ∧ o ≤ 12) : vpD W (28 * o + 26) ∧ pcD W (28 * o + 26) = pieceM 3 o 0 := by
  have e1 : (28 * o + 26) / 28 = o := by omega
  have e2 : (28 * o + 26) % 28 = 26 := by omega
  refine ⟨⟨by omega, Or.inr ⟨by omega, Or.inl (by omega)⟩⟩, ?_⟩
  unfold pcD pieceM
  rw [e1, e2, if_neg (by omega), if_pos rfl]
  rfl
theorem pc_c (ho : 1 ≤ o ∧ o ≤ 12) : vpD W (28 * o + 27) ∧ pcD W (28 * o + 27) = pieceM 4 o 0 := by
  have e1 : (28 * o + 27) / 28 = o := by omega
  have e2 : (28 * o + 27) % 28 = 27 := by omega
  refine ⟨⟨by omega, Or.inr ⟨by omega, Or.inl (by omega)⟩⟩, ?_⟩
  unfold pcD pieceM
  rw [e1, e2, if_neg (by omega), if_neg (by omega), if_pos rfl]
  rfl
theorem op_field (hT : RT W) (hI : TI W) (hC : CI W) (hK : KRA W A) (hka : 4 ≤ ka ∧ ka < 10) (hv : 0 ≤ v ∧ v < 26) (hk : k = fieldM W (ka - 4) v) (h0 : 0 ≤ k) (ha : validB W ka a = true) : rlR W (partR W (w32 a) v) (nrK k (intoF A 60 v (w32 a) b)) := by
  have hr := valid_in hI hka.1 ha
  have h12 := hI.2.1
  rw [w32_id (by omega)]
  unfold partR intoF
  by_cases hz : a = 0
  · rw [if_pos hz, if_pos hz, nr_2]; exact rl_2
  rw [if_neg hz, if_neg hz, if_pos rfl]
  obtain ⟨d1, d2, d3⟩ := due_field hI hC hka hv ha hz (by omega)
  have hp := pc_f (W := W) (o := a) (p := v) (by omega) hv rfl d2
  rw [hK.1.2.2.2.2.2.2.2]
  refine rl_need hK hp.1 hp.2 rfl (hT.2.2.2.2.2.1 a v d1.1 (by omega) hv.1 hv.2) ?_
  have h9 := (hC.2.2.2.2.2 a v d1.1 (by omega) hv.1 hv.2).1 (by omega)
  rw [d3, ← hk] at h9
  exact h9
theorem op_len (hT : RT W) (hI : TI W) (hK : KRA W A) (hka : 10 ≤ ka ∧ ka < 17) (ha : validB W ka a = true) : rlR W (partR W (w32 a) 26) (nrK 0 (intoF A 61 v (w32 a) b)) := by
  have hr := valid_in hI (by omega) ha
  have h12 := hI.2.1
  rw [w32_id (by omega)]
  unfold partR intoF
  by_cases hz : a = 0
  · rw [if_pos hz, if_pos hz, nr_2]; exact rl_2
  rw [if_neg hz, if_neg hz, if_neg (show ¬ (61 : Int) = 60 by decide), if_pos (show (61 : Int) = 61 from rfl)]
  have hp := pc_l (W := W) (o := a) (by omega)
  have h61 := hI.2.2.2.2.2.2.2.2.2.2.1 a hr.1 (by omega)
  rw [hK.1.2.2.2.2.2.2.1]
  have h9 := rl_need (k := 0) hK hp.1 hp.2 rfl (hT.2.2.2.2.2.2 a (by omega) (by omega)).1 (by rw [val_0]; exact decide_eq_true (w32_id (by omega)).symm)
  exact h9
theorem op_idx (hT : RT W) (hI : TI W) (hC : CI W) (hK : KRA W A) (hka : 10 ≤ ka ∧ ka < 17) (hk : k = elemM ka) (ha : validB W ka a = true) : rlR W (elmR W (w32 a) b) (nrK k (intoF A 62 v (w32 a) b)) := by
  have hr := valid_in hI (by omega) ha
  have h12 := hI.2.1
  rw [w32_id (by omega)]
  unfold elmR intoF
  by_cases hz : a = 0
  · rw [if_pos hz, if_pos hz, nr_2]; exact rl_2
  rw [if_neg hz, if_neg hz, if_neg (show ¬ (62 : Int) = 60 by decide), if_neg (show ¬ (62 : Int) = 61 by decide)]
  have hp := pc_l (W := W) (o := a) (by omega)
  have h61 := hI.2.2.2.2.2.2.2.2.2.2.1 a hr.1 (by omega)
  have hkn := hK.2 _ hp.1
  rw [hp.2] at hkn
  rw [hK.1.2.2.2.2.2.2.1, hK.1.2.2.2.2.2.2.2, (hT.2.2.2.2.2.2 a (by omega) (by omega)).1]
  by_cases h1 : kbD W (28 * a + 26) = 1
  · rw [if_pos h1, if_neg (hkn.mp h1)]
    by_cases h2 : b < 0 ∨ W 61 a ≤ b
    · rw [if_pos h2, if_pos h2, nr_2]; exact rl_2
    · rw [if_neg h2, if_neg h2, w32_id (by omega)]
      obtain ⟨d1, d2, d3⟩ := due_elem hI hC (n := b) hka (by omega) ha hz
      have hp2 := pc_e (W := W) (o := a) (p := b) (by omega) (by omega) (by omega)
      refine rl_need hK hp2.1 hp2.2 rfl (hT.2.2.2.2.2.1 a b d1.1 (by omega) (by omega) (by omega)) ?_
      have hel : ¬ elemM ka = -1 := by unfold elemM; split <;> omega
      have h9 := (hC.2.2.2.2.2 a b d1.1 (by omega) (by omega) (by omega)).1 (by rw [d3]; exact hel)
      rw [d3, ← hk] at h9
      exact h9
  · have h2 : A 71 (pieceM 3 a 0) = 0 := Classical.byContradiction fun h9 => h1 (hkn.mpr h9)
    rw [if_neg h1, if_pos h2, nr_1, ← hp.2]
    exact Or.inr (Or.inl ⟨rfl, hp.1, rfl⟩)
theorem op_ins {e : Nat} {i : Int} (hI : TI W) (hK : KRA W A) (hka : 4 ≤ ka) (h25 : W (25 + 9 * e) (W (22 + 9 * e) i) = ka) (hv : 0 ≤ v ∧ v < 6) (ha : validB W ka a = true) : rlR W (insR W e i (w32 a) (4 + v)) (nrK 3 (fitF A 63 v a ka)) := by
  have hr := valid_in hI hka ha
  have h12 := hI.2.1
  rw [w32_id (by omega)]
  unfold insR fitF toK
  rw [h25, if_pos rfl, if_neg (show ¬ 4 + v < 4 by omega), agM_suits hK.1, hK.1.2.2.2.2.2.1, w32_id (by omega), if_pos rfl]
  by_cases hz : a = 0
  · rw [if_pos hz, if_pos (Or.inl hz), if_pos hz, nr_v]; exact rl_0
  rw [if_neg hz]
  by_cases hs : suitsB W ka (4 + v) = true
  · rw [if_pos hs, if_pos (Or.inr hs), if_neg hz, nr_v]; exact rl_0
  rw [if_neg hs, if_neg (show ¬ (a = 0 ∨ suitsB W ka (4 + v) = true) from fun h => h.elim hz hs)]
  have hp := pc_c (W := W) (o := a) (by omega)
  have hkn := hK.2 _ hp.1
  rw [hp.2] at hkn
  by_cases h1 : kbD W (28 * a + 27) = 1
  · rw [if_pos h1, if_neg (hkn.mp h1), if_pos rfl, nr_v]; exact rl_0
  · have h2 : A 71 (pieceM 4 a 0) = 0 := Classical.byContradiction fun h9 => h1 (hkn.mpr h9)
    rw [if_neg h1, if_pos h2, nr_1, ← hp.2]
    exact Or.inr (Or.inl ⟨rfl, hp.1, rfl⟩)
theorem op_cast {e : Nat} {i : Int} (hI : TI W) (hK : KRA W A) (h25 : W (25 + 9 * e) (W (22 + 9 * e) i) = ka) (hv : 0 ≤ k ∧ k < 17) (hka : 4 ≤ k → 4 ≤ ka) (ha : validB W ka a = true) : rlR W (cstR W e i a k) (nrK k (fitF A 64 k a ka)) := by
  have h12 := hI.2.1
  unfold cstR fitF toK
  rw [h25, if_neg (show ¬ (64 : Int) = 63 by decide), agM_suits hK.1, hK.1.2.2.2.2.2.1]
  by_cases h4 : k < 4
  · rw [if_pos h4, if_pos (show reB k = false by unfold reB; exact decide_eq_false (by omega)), nr_v]
    rcases (show k = 0 ∨ k = 1 ∨ k = 2 ∨ k = 3 by omega) with rfl | rfl | rfl | rfl
    · refine rl_0' ?_
      show w32 a = w32 (w32 a)
      exact (w32_id (w32_in a)).symm
    · exact rl_0' rfl
    · refine rl_0' ?_
      show w32 a % 65536 = o_land a 65535
      exact (cast_ch a).symm
    · exact rl_0' rfl
  · have hka4 := hka (by omega)
    have hr := valid_in hI hka4 ha
    rw [if_neg h4, if_neg (show ¬ reB k = false by unfold reB; rw [decide_eq_false_iff_not]; omega), w32_id (by omega)]
    by_cases hs : a = 0 ∨ suitsB W ka k = true
    · rw [if_pos hs, if_pos hs, if_neg (show ¬ (64 : Int) = 63 by decide), nr_v, if_neg (by omega)]
      exact rl_0
    rw [if_neg hs, if_neg hs]
    have hz : ¬ a = 0 := fun h => hs (Or.inl h)
    have hp := pc_c (W := W) (o := a) (by omega)
    have hkn := hK.2 _ hp.1
    rw [hp.2] at hkn
    by_cases h1 : kbD W (28 * a + 27) = 1
    · rw [if_pos h1, if_neg (hkn.mp h1)]
      by_cases h3 : suitsB W (W 60 a) k = true
      · rw [if_pos h3, if_neg (show ¬ (64 : Int) = 63 by decide), nr_v, if_neg (by omega)]; exact rl_0
      · rw [if_neg h3, if_neg (show ¬ (64 : Int) = 63 by decide), nr_2]; exact rl_2
    · have h2 : A 71 (pieceM 4 a 0) = 0 := Classical.byContradiction fun h9 => h1 (hkn.mpr h9)
      rw [if_neg h1, if_pos h2, nr_1, ← hp.2]
      exact Or.inr (Or.inl ⟨rfl, hp.1, rfl⟩)
end OP
