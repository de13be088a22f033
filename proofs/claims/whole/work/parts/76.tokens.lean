theorem before_v {t t2 t3 t4 v v' k : Int} {S : PSt} : beforeS t 0 t2 t3 t4 v k S = beforeS t 0 t2 t3 t4 v' k S := by
  obtain ⟨N, O, P, o, a, cl⟩ := S
  simp [beforeS]
theorem behind_v {t v v' k : Int} {S : PSt} : behindS t 0 v k S = behindS t 0 v' k S := by
  unfold behindS
  have e1 : ∀ S : PSt, dotS 0 v k S = dotS 0 v' k S := by
    rintro ⟨N, O, P, o, a, cl⟩
    simp [dotS]
  have e2 : ∀ S : PSt, ofS 0 v k S = ofS 0 v' k S := by
    rintro ⟨N, O, P, o, a, cl⟩
    simp [ofS]
  rw [e1 S, e2 (redS 7 S)]
/-- one token: values count where there are tokens alone -/
theorem stepS_cg {T T' W W' : Int → Int} {k e : Int} {S : PSt} (hT : ∀ j, 0 ≤ j → T j = T' j) (hW : ∀ j, 0 ≤ j → ¬ T j = 0 → W j = W' j) (hk : 0 ≤ k) (hn : ¬ T k = 0) : stepS T W k e S = stepS T' W' k e S := by
  unfold stepS
  rw [← hT k hk, ← hT (k + 1) (by omega), ← hT (k + 2) (by omega), ← hT (k + 3) (by omega), ← hT (k + 4) (by omega), hW k hk hn]
  by_cases h1 : T (k + 1) = 0
  · rw [h1, before_v (v := W (k + 1)) (v' := W' (k + 1)), behind_v (v := W (k + 1)) (v' := W' (k + 1))]
  · rw [hW (k + 1) (by omega) h1]
theorem parseL_cg {T T' W W' : Int → Int} {n : Int} (hT : ∀ j, 0 ≤ j → T j = T' j) (hW : ∀ j, 0 ≤ j → ¬ T j = 0 → W j = W' j) (hn : ∀ j, 0 ≤ j → j < n → ¬ T j = 0) : ∀ (f : Nat) (m k e : Int) (S : PSt), 0 ≤ k → (e = 0 ∨ e = 1) → invS m k e S → parseL T W n f k e S = parseL T' W' n f k e S := by
  intro f
  induction f with
  | zero => intro m k e S _ _ _; rfl
  | succ f ih =>
    intro m k e S hk he hi
    by_cases h : k < n
    · have hs := stepS_cg (e := e) (S := S) hT hW hk (hn k hk h)
      cases hr : stepS T W k e S with
      | none => rw [parseL_bad h hr, parseL_bad h (hs.symm.trans hr)]
      | some r =>
        obtain ⟨k', e', S'⟩ := r
        rw [parseL_s h hr, parseL_s h (hs.symm.trans hr)]
        obtain ⟨s1, s2, s3⟩ := invS_step he hi hr
        exact ih (m + 1) k' e' S' (by omega) s2 s3
    · rw [parseL_out h, parseL_out h]
theorem invS_0 : invS 0 0 1 (([], [], [], 0, 0, 0) : PSt) := by
  refine ⟨rfl, Nat.le_refl _, ?_, ?_, ?_, ?_⟩ <;> simp
theorem tkn_TF {L : List (Int × Int)} (hv : ∀ x ∈ L, tokV x.1 x.2) : tkn (TF L) L.length := by
  refine ⟨fun k h0 h1 => ?_, fun k hk => if_neg (by omega)⟩
  have h := hv _ (tk_mem ⟨h0, h1⟩)
  unfold TF
  rw [if_pos ⟨h0, h1⟩]
  have h9 : okt (tkt L k) := h.1
  have h8 : 1 ≤ tkt L k := h.2.1
  unfold okt at h9
  omega
theorem tokOK_TF {L : List (Int × Int)} (hv : ∀ x ∈ L, tokV x.1 x.2) : tokOK (TF L) (WF L) L.length := by
  have ht := tkn_TF hv
  intro k hk
  by_cases h1 : k < L.length
  · have h := hv _ (tk_mem ⟨hk, h1⟩)
    have e1 : TF L k = tkt L k := if_pos ⟨hk, h1⟩
    have e2 : WF L k = tkv L k := if_pos ⟨hk, h1⟩
    rw [e1, e2]
    have h9 := ht.1 k hk h1
    rw [e1] at h9
    exact ⟨fun _ => h9, h.2.2.1, h.2.2.2.1⟩
  · rw [ht.2 k (by omega)]
    exact ⟨fun h => absurd h h1, fun h => absurd h (by omega), fun h => absurd h (by omega)⟩
/-- the parser over the model's own tokens = the parser over the list -/
theorem parseF_lex {M : Mem} {L : List (Int × Int)} {w : Int} (h24 : L.length ≤ 24) (hv : ∀ x ∈ L, tokV x.1 x.2) : parseF (lexM M L w) = parseL (TF L) (WF L) L.length 24 0 1 ([], [], [], 0, 0, 0) := by
  unfold parseF
  rw [lexM_n]
  have ht := tkn_TF hv
  symm
  refine parseL_cg ?_ ?_ ?_ 24 0 0 1 _ (by omega) (Or.inr rfl) invS_0
  · intro j hj
    unfold TF tkA
    rw [lexM_n]
    by_cases h : j < L.length
    · rw [if_pos ⟨hj, h⟩, if_pos h]
      show tkt L j = lexM M L w 74 j
      unfold lexM
      rw [if_neg (by omega), if_neg (by omega), if_pos ⟨rfl, hj, h, by omega⟩]
    · rw [if_neg (by omega), if_neg h]
  · intro j hj h0
    by_cases h : j < L.length
    · show WF L j = lexM M L w 75 j
      unfold WF lexM
      rw [if_pos ⟨hj, h⟩, if_neg (by omega), if_neg (by omega), if_neg (by omega), if_pos ⟨rfl, hj, h, by omega⟩]
    · exact absurd (ht.2 j (by omega)) h0
  · intro j hj h
    have := ht.1 j hj h
    omega
/-- the model's parser finds what the desk's reader finds -/
theorem parse_desc {M : Mem} {F : List (Int × Int) × Int} {w : Int} (hg : gdF F) (hv : ∀ x ∈ F.1, tokV x.1 x.2) : (dfF F = none → parseF (lexM M F.1 w) = none) ∧ ∀ N S, dfF F = some (N, S) → ∃ o a c, parseF (lexM M F.1 w) = some (N, [tp N], [], o, a, c) := by
  have e : dfF F = descF (TF F.1) (WF F.1) := if_pos hg
  have h24 : F.1.length ≤ 24 := hg.2
  rw [e, parseF_lex h24 hv]
  exact desc_parse (tkn_TF hv) (by omega)
/-- the nodes that a text gives are good -/
theorem desc_good {F : List (Int × Int) × Int} {N : List ND} {S : List SD} (hg : gdF F) (hv : ∀ x ∈ F.1, tokV x.1 x.2) (h : dfF F = some (N, S)) : allN N := by
  have e : dfF F = descF (TF F.1) (WF F.1) := if_pos hg
  have h24 : F.1.length ≤ 24 := hg.2
  obtain ⟨o, a, c, h2⟩ := (desc_parse (W := WF F.1) (tkn_TF hv) (show 0 ≤ (F.1.length : Int) ∧ (F.1.length : Int) ≤ 24 by omega)).2 N S (e.symm.trans h)
  have hg0 : goodS (([], [], [], 0, 0, 0) : PSt) := ⟨fun i y hy => by simp at hy, fun x hx => by simp at hx, fun p hp => by simp at hp⟩
  exact (good_parse (tokOK_TF hv) (by omega) (Or.inr rfl) invS_0 hg0 h2).1.1
