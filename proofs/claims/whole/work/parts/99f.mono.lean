/-- a later memory, in which more is known -/
def moD (e : Nat) (W W2 : Mem) : Prop := (∀ c, 20 + 9 * e ≤ c → c ≤ 25 + 9 * e → W2 c = W c) ∧ W2 8 = W 8 ∧ agM W W2 ∧ RCx W2 e ∧ ∀ p, 0 ≤ p → p < 364 → kbD W p = 1 → kbD W2 p = 1
section MO
variable {e : Nat} {W W2 : Mem} {V : Int → Int} {q : Int}
theorem stpH_mono (hm : moD e W W2) (h : stpH (wv e W V q) e q) : stpH (wv e W2 V q) e q := by
  obtain ⟨hc, h8, hg, hR, hk⟩ := hm
  obtain ⟨hT, hI, hC, hL, he⟩ := hR
  have ec : ∀ c, 20 + 9 * e ≤ c → c ≤ 25 + 9 * e → wv e W2 V q c = wv e W V q c := fun c h1 h2 => by
    rw [wv_c (by omega) (by omega), wv_c (by omega) (by omega), hc c h1 h2]
  have e26 : wv e W2 V q (26 + 9 * e) = wv e W V q (26 + 9 * e) := by rw [wv_26, wv_26]
  have e55 : wv e W2 V q 55 5 = wv e W V q 55 5 := by
    rw [wv_c (c := 55) (by omega) (by omega), wv_c (c := 55) (by omega) (by omega)]; exact hg.1.2.1
  have e0 : wv e W2 V q 55 0 = wv e W V q 55 0 := by
    rw [wv_c (c := 55) (by omega) (by omega), wv_c (c := 55) (by omega) (by omega)]; exact hg.1.1
  have ev : vK (wv e W2 V q) = vK (wv e W V q) := by funext k; unfold vK; rw [e0]
  have e9 : wv e W2 V q 9 = W2 9 := wv_c (by omega) (by omega)
  obtain ⟨a1, a2, a3, a4, a5⟩ := h
  unfold stpH
  rw [ec (21 + 9 * e) (by omega) (by omega), ec (22 + 9 * e) (by omega) (by omega), ec (23 + 9 * e) (by omega) (by omega), ec (24 + 9 * e) (by omega) (by omega), ec (25 + 9 * e) (by omega) (by omega), e26, e55, ev, e9]
  exact ⟨RT_t (wv_agT he) hT, TI_t (wv_agT he) hI, a3, hL, a5⟩
theorem nd_mono (hm : moD e W W2) {p : Int} (hp : 0 ≤ p ∧ p < 364) (h : ¬ (ndR W p).1 = 1) : ndR W2 p = ndR W p := by
  by_cases hk : kbD W p = 1
  · rw [ndR_t hk, ndR_t (hm.2.2.2.2 p hp.1 hp.2 hk), hm.2.1]
  · rw [ndR_f hk] at h; exact absurd rfl h
theorem stY_mono (hm : moD e W W2) (hR : RCx W e) (hh : stpH (wv e W V q) e q) (h1 : ¬ (stpY W e V q).1 = 1) : stpY W2 e V q = stpY W e V q := by
  have he := hR.2.2.2.2
  have hT := hR.1
  have hI := hR.2.1
  have h12 := hI.2.1
  obtain ⟨hc, h8, hg, hR2, hkn⟩ := hm
  have hm : moD e W W2 := ⟨hc, h8, hg, hR2, hkn⟩
  have f1 : wv e W V q (21 + 9 * e) = W (21 + 9 * e) := wv_c (by omega) (by omega)
  have f2 : wv e W V q (22 + 9 * e) = W (22 + 9 * e) := wv_c (by omega) (by omega)
  have f3 : wv e W V q (23 + 9 * e) = W (23 + 9 * e) := wv_c (by omega) (by omega)
  have f4 : wv e W V q (24 + 9 * e) = W (24 + 9 * e) := wv_c (by omega) (by omega)
  have f5 : wv e W V q (25 + 9 * e) = W (25 + 9 * e) := wv_c (by omega) (by omega)
  have f6 : wv e W V q (26 + 9 * e) = V := wv_26
  have f7 : wv e W V q 55 = W 55 := wv_c (by omega) (by omega)
  unfold stpH at hh
  rw [f1, f2, f3, f4, f5, f6, f7] at hh
  obtain ⟨-, -, hq, -, hf, h143, h144, h142, h145, h141, h146, -, -, -⟩ := hh
  have g1 := hc (21 + 9 * e) (by omega) (by omega)
  have g2 := hc (22 + 9 * e) (by omega) (by omega)
  have g3 := hc (23 + 9 * e) (by omega) (by omega)
  have g4 := hc (24 + 9 * e) (by omega) (by omega)
  have g5 := hc (25 + 9 * e) (by omega) (by omega)
  have gs := agM_suits hg
  have g60 : W2 60 = W 60 := hg.2.2.2.2.2.1
  have part : ∀ o x, (0 ≤ o ∧ o ≤ 12) → (0 ≤ x ∧ x < 28) → ¬ (partR W o x).1 = 1 → partR W2 o x = partR W o x := fun o x ho hx h => by
    unfold partR at h ⊢
    by_cases hz : o = 0
    · rw [if_pos hz, if_pos hz]
    · rw [if_neg hz] at h
      rw [if_neg hz, if_neg hz]
      exact nd_mono hm (by omega) h
  by_cases c1 : W (21 + 9 * e) q = 137
  · rw [stY_137 c1, stY_137 (by rw [g1]; exact c1)]
  by_cases c2 : W (21 + 9 * e) q = 143
  · rw [stY_143 c2] at h1 ⊢
    rw [stY_143 (by rw [g1]; exact c2), g3]
    have := h143 c2
    exact nd_mono hm (by omega) h1
  by_cases c3 : W (21 + 9 * e) q = 144
  · rw [stY_144 c3] at h1 ⊢
    rw [stY_144 (by rw [g1]; exact c3), g2, g3]
    have := h144 c3
    exact part _ _ (by omega) (by omega) h1
  by_cases c4 : W (21 + 9 * e) q = 142
  · rw [stY_142 c4] at h1 ⊢
    rw [stY_142 (by rw [g1]; exact c4), g2]
    have := h142 c4
    exact part _ _ (by omega) (by omega) h1
  by_cases c5 : W (21 + 9 * e) q = 145
  · rw [stY_145 c5] at h1 ⊢
    rw [stY_145 (by rw [g1]; exact c5), g2, g3]
    have ho := h145 c5
    generalize w32 (V (W (22 + 9 * e) q)) = o at ho h1 ⊢
    generalize V (W (23 + 9 * e) q) = x at h1 ⊢
    unfold elmR at h1 ⊢
    rw [h8]
    by_cases hz : o = 0
    · rw [if_pos hz, if_pos hz]
    rw [if_neg hz] at h1
    rw [if_neg hz, if_neg hz]
    by_cases hk : kbD W (28 * o + 26) = 1
    · rw [if_pos hk] at h1
      rw [if_pos hk, if_pos (hkn _ (by omega) (by omega) hk)]
      by_cases hx : x < 0 ∨ W 8 (28 * o + 26) ≤ x
      · rw [if_pos hx, if_pos hx]
      · rw [if_neg hx] at h1
        rw [if_neg hx, if_neg hx]
        have e61 := (hT.2.2.2.2.2.2 o (by omega) (by omega)).1
        have h61 := hI.2.2.2.2.2.2.2.2.2.2.1 o (by omega) (by omega)
        rw [w32_id (by omega)] at h1 ⊢
        exact nd_mono hm (by omega) h1
    · rw [if_neg hk] at h1; exact absurd rfl h1
  by_cases c6 : W (21 + 9 * e) q = 141
  · rw [stY_141 c6] at h1 ⊢
    rw [stY_141 (by rw [g1]; exact c6), g2, g3]
    have ho := (h141 c6).1
    generalize w32 (V (W (22 + 9 * e) q)) = o at ho h1 ⊢
    unfold insR at h1 ⊢
    rw [g5, g2, gs, g60]
    by_cases hz : o = 0
    · rw [if_pos hz, if_pos hz]
    rw [if_neg hz] at h1
    rw [if_neg hz, if_neg hz]
    by_cases hs : suitsB W (W (25 + 9 * e) (W (22 + 9 * e) q)) (W (23 + 9 * e) q) = true
    · rw [if_pos hs, if_pos hs]
    rw [if_neg hs] at h1
    rw [if_neg hs, if_neg hs]
    by_cases hk : kbD W (28 * o + 27) = 1
    · rw [if_pos hk, if_pos (hkn _ (by omega) (by omega) hk)]
    · rw [if_neg hk] at h1; exact absurd rfl h1
  by_cases c7 : W (21 + 9 * e) q = 146
  · rw [stY_146 c7] at h1 ⊢
    rw [stY_146 (by rw [g1]; exact c7), g2, g3]
    have ho := (h146 c7).1
    generalize V (W (22 + 9 * e) q) = x at ho h1 ⊢
    unfold cstR at h1 ⊢
    rw [g5, g2, gs, g60]
    by_cases hr : reB (W (23 + 9 * e) q) = false
    · rw [if_pos hr, if_pos hr]
    have hx := ho (by simpa using hr)
    rw [if_neg hr] at h1
    rw [if_neg hr, if_neg hr]
    by_cases hs : x = 0 ∨ suitsB W (W (25 + 9 * e) (W (22 + 9 * e) q)) (W (23 + 9 * e) q) = true
    · rw [if_pos hs, if_pos hs]
    rw [if_neg hs] at h1
    rw [if_neg hs, if_neg hs]
    rw [w32_id (show -2147483648 ≤ x ∧ x < 2147483648 by omega)] at h1 ⊢
    by_cases hk : kbD W (28 * x + 27) = 1
    · rw [if_pos hk, if_pos (hkn _ (by omega) (by omega) hk)]
    · rw [if_neg hk] at h1; exact absurd rfl h1
  by_cases c8 : W (21 + 9 * e) q = 149
  · rw [stY_149 c8, stY_149 (by rw [g1]; exact c8), g2, g3, g4]
  by_cases c9 : W (21 + 9 * e) q = 150
  · rw [stY_150 c9, stY_150 (by rw [g1]; exact c9), g3]
  by_cases d1 : W (21 + 9 * e) q = 151
  · rw [stY_151 d1, stY_151 (by rw [g1]; exact d1), g2, g3]
  by_cases d2 : W (21 + 9 * e) q = 152
  · rw [stY_152 d2, stY_152 (by rw [g1]; exact d2), g2, g3]
  have hn : ¬ (W (21 + 9 * e) q = 137 ∨ W (21 + 9 * e) q = 143 ∨ W (21 + 9 * e) q = 144 ∨ W (21 + 9 * e) q = 142 ∨ W (21 + 9 * e) q = 145 ∨ W (21 + 9 * e) q = 141 ∨ W (21 + 9 * e) q = 146 ∨ W (21 + 9 * e) q = 149 ∨ W (21 + 9 * e) q = 150 ∨ W (21 + 9 * e) q = 151 ∨ W (21 + 9 * e) q = 152) := by
    rintro (h | h | h | h | h | h | h | h | h | h | h)
    · exact c1 h
    · exact c2 h
    · exact c3 h
    · exact c4 h
    · exact c5 h
    · exact c6 h
    · exact c7 h
    · exact c8 h
    · exact c9 h
    · exact d1 h
    · exact d2 h
  rw [stY_two rfl hn, stY_two (c := W (21 + 9 * e) q) (by rw [g1]) hn, g2, g3, g5]
/-- steps that were done can be done again when more is known -/
theorem pS_mono (hm : moD e W W2) (hR : RCx W e) {L : Int} : ∀ {n : Nat} {V V' : Int → Int} {q q' : Int}, pS W e L n V q V' q' → pS W2 e L n V q V' q' := by
  intro n
  induction n with
  | zero => intro V V' q q' h; exact h
  | succ n ih =>
    intro V V' q q' h
    obtain ⟨h1, h2, h3⟩ := h
    have e1 : stpY W2 e V q = stpY W e V q := stY_mono hm hR h2 (by rcases h3 with ⟨h3, -⟩ | ⟨h3, -⟩ <;> omega)
    refine ⟨h1, stpH_mono hm h2, ?_⟩
    rw [e1]
    rcases h3 with ⟨h3, h4⟩ | ⟨h3, h4⟩
    · exact Or.inl ⟨h3, ih h4⟩
    · exact Or.inr ⟨h3, ih h4⟩
end MO
