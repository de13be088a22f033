section SY
variable {T W : Int → Int} {n : Int}
/-- what is told of a bracket -/
def encP (T W : Int → Int) (n lo f : Int) (A : Option PSt) (O : List Int) (P : List (Int × Int)) : DS → Prop
  | (k, N, _, o, a, c) => (lo ≤ k ∧ k ≤ n) ∧ c = 0 ∧ A = (if f = 20 then runS T W n k 0 (N, tp N :: O, P, o, a, 0) else runS T W n k 0 (N ++ [(62, O.getD 0 0, tp N, -1, 0)], (N.length : Int) :: O.drop 1, P, o, a, 0))
theorem y_encl {b k o a f c : Int} {N : List ND} {S : List SD} {O : List Int} {P : List (Int × Int)} {R : DS → Option DS} (hT : tkn T n) (hR : Y0 T W n b R) (hb : 5 * (n - k) + 5 ≤ b) (h0 : 0 ≤ k) (hn : k ≤ n) (hfc : (f = 20 ∧ c = 21) ∨ (f = 22 ∧ c = 23)) (ho : ¬ 6 < o + 1) :
    res (runS T W n k 1 (N, O, (f, 0) :: P, o + 1, a, 0)) (enclD T R c (k, N, S, o, a, 0)) (encP T W n (k + 1) f (runS T W n k 1 (N, O, (f, 0) :: P, o + 1, a, 0)) O P) := by
  simp only [enclD]
  rw [if_neg ho]
  have hfl : fl 1 ((f, 0) :: P) := fl_c (by rcases hfc with ⟨rfl, _⟩ | ⟨rfl, _⟩ <;> decide) (by rcases hfc with ⟨rfl, _⟩ | ⟨rfl, _⟩ <;> decide)
  have hnr : ¬ redB 0 f = true := by rcases hfc with ⟨rfl, _⟩ | ⟨rfl, _⟩ <;> decide
  have h1 := hR k N S (o + 1) a O ((f, 0) :: P) hb h0 hn hfl
  cases hE : R (k, N, S, o + 1, a, 0) with
  | none => exact res_n (h1.1 hE)
  | some σ =>
    obtain ⟨k2, N2, S2, o2, a2, c2⟩ := σ
    obtain ⟨g1, g2, g3, g4⟩ := h1.2 _ hE
    simp only []
    by_cases hc : T k2 = c
    · rw [if_pos hc]
      have hnb : ¬ blk (T k2) c2 := by
        unfold blk
        intro hh
        have : bdV (T k2) = 0 := by rw [hc]; rcases hfc with ⟨_, rfl⟩ | ⟨_, rfl⟩ <;> decide
        omega
      obtain ⟨g5, g6, N1, O1, P1, g7, g8⟩ := g4 hnb
      have hr : reduceL 0 N1 O1 P1 = (N2, tp N2 :: O, (f, 0) :: P) := g8.trans (reduceL_n hnr)
      have hk2 : k2 < n := tk_lt hT (by omega)
      refine res_s ⟨⟨by omega, by omega⟩, rfl, ?_⟩
      rw [g7]
      rcases hfc with ⟨rfl, rfl⟩ | ⟨rfl, rfl⟩
      · rw [if_pos rfl]
        refine bh_s hk2 ?_ (by rw [hc]; decide)
        unfold behindS
        rw [if_neg (by omega), if_neg (by omega), if_pos (by omega), redS_e hr]
        simp only [closeS]
        rw [if_neg (by rw [hc, if_pos rfl]; exact fun h => h rfl), if_neg (by omega)]
        rfl
      · rw [if_neg (by decide)]
        refine bh_s hk2 ?_ (by rw [hc]; decide)
        unfold behindS
        rw [if_neg (by omega), if_neg (by omega), if_pos (by omega), redS_e hr]
        simp only [closeS]
        rw [if_neg (by rw [hc, if_neg (by decide)]; exact fun h => h rfl), if_pos (by omega)]
        cases O <;> rfl
    · rw [if_neg hc]
      refine res_n ?_
      by_cases hh : blk (T k2) c2
      · exact g3 hh
      obtain ⟨g5, g6, N1, O1, P1, g7, g8⟩ := g4 hh
      have hr : reduceL 0 N1 O1 P1 = (N2, tp N2 :: O, (f, 0) :: P) := g8.trans (reduceL_n hnr)
      rw [g7]
      have hv : topP ((f, 0) :: P) = f := rfl
      refine stuck (by omega) g5 hh g6 hr ?_ ?_ ?_ (fun _ h => by cases h)
      · rw [hv]; omega
      · rw [hv]; omega
      · rw [hv]; omega
theorem y_first {b : Int} {R L : DS → Option DS} (hT : tkn T n) (hR : Y0 T W n b R) (hL : Y5 T W n b L) : Y4 T W n (b + 1) (fun σ => (firstD T W R σ).bind L) := by
  intro k N S o a O P hb h0 hn hno hnc hnu
  have hgo : ∀ k1 N1 S1 o1 a1, k + 1 ≤ k1 → k1 ≤ n → runS T W n k 1 (N, O, P, o, a, 0) = runS T W n k1 0 (N1, tp N1 :: O, P, o1, a1, 0) → res (runS T W n k 1 (N, O, P, o, a, 0)) (L (k1, N1, S1, o1, a1, 0)) (PX T W n (k + 1) (runS T W n k 1 (N, O, P, o, a, 0)) O P) := by
    intro k1 N1 S1 o1 a1 g1 g2 g3
    have h9 := hL k1 N1 S1 o1 a1 O P _ (by omega) (by omega) g2 g3
    refine ⟨h9.1, fun σ hσ => ?_⟩
    have := h9.2 σ hσ
    obtain ⟨k', N', S', o', a', c'⟩ := σ
    exact ⟨⟨by have := this.1; omega, this.1.2⟩, this.2⟩
  have hleaf : ∀ t, T k = t → 1 ≤ t → t ≤ 7 → ¬ (t = 1 ∧ W k = 2147483648) → k < n ∧ runS T W n k 1 (N, O, P, o, a, 0) = runS T W n (k + 1) 0 (N ++ [(t, -1, -1, -1, W k)], (N.length : Int) :: O, P, o, a, 0) := by
    intro t ht t1 t7 hL1
    have hk : k < n := tk_lt hT (by omega)
    refine ⟨hk, runS_s hk ?_⟩
    rw [step_1l (by omega)]
    refine atS_s ?_
    simp only [leafS]
    rw [if_neg (by omega), ht]
  simp only [firstD]
  by_cases h20 : T k = 20
  · rw [if_pos h20]
    have hk : k < n := tk_lt hT (by omega)
    by_cases ho : 6 < o + 1
    · have hA : runS T W n k 1 (N, O, P, o, a, 0) = none := by
        refine runS_n hk ?_
        rw [step_1b (by omega)]
        refine atS_n ?_
        simp only [beforeS]
        rw [if_neg (by omega), if_neg (by omega), if_pos (by omega), if_pos ho]
      simp only [enclD]
      rw [if_pos ho]
      exact res_n hA
    · have hA : runS T W n k 1 (N, O, P, o, a, 0) = runS T W n (k + 1) 1 (N, O, (20, 0) :: P, o + 1, a, 0) := by
        refine runS_s hk ?_
        rw [step_1b (by omega)]
        refine atS_s ?_
        simp only [beforeS]
        rw [if_neg (by omega), if_neg (by omega), if_pos (by omega), if_neg ho]
      have h9 := y_encl (S := S) (O := O) (P := P) (N := N) (a := a) hT hR (k := k + 1) (by omega) (by omega) (by omega) (Or.inl ⟨rfl, rfl⟩) ho
      rw [← hA] at h9
      refine res_b h9.1 (fun σ hσ => ?_)
      have := h9.2 σ hσ
      obtain ⟨k1, N1, S1, o1, a1, c1⟩ := σ
      obtain ⟨g1, g2, g3⟩ := this
      subst g2
      rw [if_pos rfl] at g3
      exact hgo _ _ _ _ _ (by omega) (by omega) g3
  rw [if_neg h20]
  by_cases h5 : 1 ≤ T k ∧ T k ≤ 5
  · rw [if_pos h5]
    by_cases hL1 : T k = 1 ∧ W k = 2147483648
    · rw [if_pos hL1]
      refine res_n ?_
      refine runS_n (tk_lt hT (by omega)) ?_
      rw [step_1l (by omega)]
      refine atS_n ?_
      simp only [leafS]
      rw [if_pos ⟨hL1.1, hL1.2, Or.inl (fun e => hno e hL1.1 hL1.2)⟩]
    · rw [if_neg hL1]
      obtain ⟨hk, hA⟩ := hleaf (T k) rfl (by omega) (by omega) hL1
      exact hgo _ _ _ _ _ (by omega) (by omega) (by rw [tp_add]; exact hA)
  rw [if_neg h5]
  by_cases h7 : T k = 7
  · rw [if_pos h7]
    obtain ⟨hk, hA⟩ := hleaf 7 h7 (by omega) (by omega) (by omega)
    exact hgo _ _ _ _ _ (by omega) (by omega) (by rw [tp_add]; exact hA)
  rw [if_neg h7]
  by_cases h6 : T k = 6
  · rw [if_pos h6]
    obtain ⟨hk, hA⟩ := hleaf 6 h6 (by omega) (by omega) (by omega)
    exact hgo _ _ _ _ _ (by omega) (by omega) (by rw [tp_add]; exact hA)
  rw [if_neg h6]
  refine res_n ?_
  by_cases hk : k < n
  · have := hT.1 k h0 hk
    refine runS_n hk ?_
    rw [step_1b (by omega)]
    refine atS_n ?_
    simp only [beforeS]
    rw [if_neg (by omega), if_pos h20]
  · rw [runS_f hk]; rfl
theorem y_parts {b : Int} {R L : DS → Option DS} (hT : tkn T n) (hR : Y0 T W n b R) (hL : Y5 T W n b L) : Y5 T W n (b + 1) (partsD T W R L) := by
  intro k N S o a O P A hb h0 hn hA
  have hgo : ∀ k1 N1 S1 o1 a1, k + 1 ≤ k1 → k1 ≤ n → A = runS T W n k1 0 (N1, tp N1 :: O, P, o1, a1, 0) → res A (L (k1, N1, S1, o1, a1, 0)) (PX T W n k A O P) := by
    intro k1 N1 S1 o1 a1 g1 g2 g3
    have h9 := hL k1 N1 S1 o1 a1 O P _ (by omega) (by omega) g2 g3
    refine ⟨h9.1, fun σ hσ => ?_⟩
    have := h9.2 σ hσ
    obtain ⟨k', N', S', o', a', c'⟩ := σ
    exact ⟨⟨by have := this.1; omega, this.1.2⟩, this.2⟩
  simp only [partsD]
  by_cases h24 : T k = 24
  · rw [if_pos h24]
    have hk : k < n := tk_lt hT (by omega)
    simp only [partD]
    by_cases h7 : T (k + 1) = 7 ∨ T (k + 1) = 14
    · have hk1 : k + 1 < n := tk_lt hT (by omega)
      have hA2 : A = runS T W n (k + 2) 0 (N ++ [(if T (k + 1) = 7 then 60 else 61, tp N, -1, -1, W (k + 1))], (N.length : Int) :: O, P, o, a, 0) := by
        rw [hA]
        refine bh_s hk ?_ (by rw [h24]; decide)
        unfold behindS
        rw [if_pos h24]
        simp only [dotS]
        rw [if_neg (by omega)]
        rfl
      rcases h7 with h7 | h7
      · rw [if_pos h7] at hA2 ⊢
        exact hgo _ _ _ _ _ (by omega) (by omega) (by rw [tp_add]; exact hA2)
      · rw [if_neg (by omega)] at hA2 ⊢
        rw [if_pos h7]
        exact hgo _ _ _ _ _ (by omega) (by omega) (by rw [tp_add]; exact hA2)
    · rw [if_neg (by omega), if_neg (by omega)]
      refine res_n ?_
      rw [hA]
      refine bh_n hk ?_
      unfold behindS
      rw [if_pos h24]
      simp only [dotS]
      rw [if_pos (by omega)]
  rw [if_neg h24]
  by_cases h22 : T k = 22
  · rw [if_pos h22]
    have hk : k < n := tk_lt hT (by omega)
    by_cases ho : 6 < o + 1
    · simp only [enclD]
      rw [if_pos ho]
      refine res_n ?_
      rw [hA]
      refine bh_n hk ?_
      unfold behindS
      rw [if_neg h24, if_pos h22]
      simp only [sqS]
      rw [if_pos (Or.inr ho)]
    · have hA2 : A = runS T W n (k + 1) 1 (N, tp N :: O, (22, 0) :: P, o + 1, a, 0) := by
        rw [hA]
        refine bh_s hk ?_ (by rw [h22]; decide)
        unfold behindS
        rw [if_neg h24, if_pos h22]
        simp only [sqS]
        rw [if_neg (by omega)]
      have h9 := y_encl (S := S) (O := tp N :: O) (P := P) (N := N) (a := a) hT hR (k := k + 1) (by omega) (by omega) (by omega) (Or.inr ⟨rfl, rfl⟩) ho
      rw [← hA2] at h9
      refine res_b h9.1 (fun σ hσ => ?_)
      have := h9.2 σ hσ
      obtain ⟨k1, N1, S1, o1, a1, c1⟩ := σ
      obtain ⟨g1, g2, g3⟩ := this
      subst g2
      rw [if_neg (by decide)] at g3
      exact hgo _ _ _ _ _ (by omega) (by omega) (by rw [tp_add]; exact g3)
  rw [if_neg h22]
  exact res_s ⟨⟨Int.le_refl _, hn⟩, rfl, h22, h24, hA⟩
/-- an operation ahead of an operand -/
theorem y_single {b k k1 o a u v c : Int} {N : List ND} {S : List SD} {O : List Int} {P : List (Int × Int)} {R : DS → Option DS} (hR : Y3 T W n b R) (hb : 5 * (n - k1) + 3 ≤ b) (h0 : 0 ≤ k) (hkk : k + 1 ≤ k1) (hn : k1 ≤ n) (hu : isS u = true) (hno : noL T W ((u, v) :: P) k1)
    (hA : runS T W n k 1 (N, O, P, o, a, 0) = runS T W n k1 1 (N, O, (u, v) :: P, o, a, 0)) :
    res (runS T W n k 1 (N, O, P, o, a, 0)) ((R (k1, N, S, o, a, 0)).bind (endUD u c v)) (PB T W n 11 (k + 1) (runS T W n k 1 (N, O, P, o, a, 0)) O P) := by
  have h9 := hR k1 N S o a O ((u, v) :: P) hb (by omega) hn hno
  rw [← hA] at h9
  refine res_b h9.1 (fun σ hσ => ?_)
  have := h9.2 σ hσ
  obtain ⟨k2, N2, S2, o2, a2, c2⟩ := σ
  obtain ⟨g1, g2, g3, g4⟩ := this
  refine res_s ⟨⟨by omega, by omega⟩, g2, g3, fun hh => ?_⟩
  obtain ⟨g5, N3, O3, P3, g6, g7⟩ := g4 hh
  refine ⟨g5, N3, O3, P3, g6, fun l l0 l1 => (g7 l l0 l1).trans ?_⟩
  show reduceL l N2 (tp N2 :: O) ((u, v) :: P) = reduceL l (N2 ++ [(u, tp N2, -1, -1, v)]) (tp (N2 ++ [(u, tp N2, -1, -1, v)]) :: O) P
  rw [tp_add]
  exact redL_1 hu
theorem y_unary {b : Int} {R F : DS → Option DS} (hT : tkn T n) (hR : Y3 T W n b R) (hF : Y4 T W n b F) : Y3 T W n (b + 1) (unaryD T W R F) := by
  intro k N S o a O P hb h0 hn hno
  simp only [unaryD]
  by_cases hc : T k = 20 ∧ 8 ≤ T (k + 1) ∧ T (k + 1) ≤ 12
  · rw [if_pos hc]
    have hk : k < n := tk_lt hT (by omega)
    have hbf : beforeS (T k) (T (k + 1)) (T (k + 2)) (T (k + 3)) (T (k + 4)) (W (k + 1)) k (N, O, P, o, a, 0) = castS (T (k + 1)) (T (k + 2)) (T (k + 3)) (T (k + 4)) (W (k + 1)) k (N, O, P, o, a, 0) := by
      simp only [beforeS]
      rw [if_neg (by omega), if_neg (by omega), if_neg (by omega)]
    unfold castD
    by_cases h22 : T (k + 2) = 22
    · rw [if_pos h22]
      by_cases hg : T (k + 3) = 23 ∧ (T (k + 1) = 8 ∨ T (k + 1) = 9) ∧ T (k + 4) = 21
      · rw [if_pos hg]
        have hk4 : k + 4 < n := tk_lt hT (by omega)
        refine y_single hR (by omega) h0 (by omega) (by omega) (by decide) (fun e => absurd e (by show ¬ (64 : Int) = 128; decide)) ?_
        refine runS_s hk ?_
        rw [step_1b (by omega), hbf]
        refine atS_s ?_
        simp only [castS]
        rw [if_pos h22, if_neg (by omega)]
      · rw [if_neg hg]
        refine res_n (runS_n hk ?_)
        rw [step_1b (by omega), hbf]
        refine atS_n ?_
        simp only [castS]
        rw [if_pos h22, if_pos (by omega)]
    · rw [if_neg h22]
      by_cases hg : T (k + 2) = 21
      · rw [if_pos hg]
        have hk4 : k + 2 < n := tk_lt hT (by omega)
        refine y_single hR (by omega) h0 (by omega) (by omega) (by decide) (fun e => absurd e (by show ¬ (64 : Int) = 128; decide)) ?_
        refine runS_s hk ?_
        rw [step_1b (by omega), hbf]
        refine atS_s ?_
        simp only [castS]
        rw [if_neg h22, if_neg (by omega)]
      · rw [if_neg hg]
        refine res_n (runS_n hk ?_)
        rw [step_1b (by omega), hbf]
        refine atS_n ?_
        simp only [castS]
        rw [if_neg h22, if_pos hg]
  rw [if_neg hc]
  by_cases hu : T k = 27 ∨ T k = 28 ∨ T k = 32 ∨ T k = 33
  · rw [if_pos hu]
    have hk : k < n := tk_lt hT (by omega)
    have hS : isS (100 + T k) = true := by unfold isS; simp; omega
    have hA : runS T W n k 1 (N, O, P, o, a, 0) = runS T W n (k + 1) 1 (N, O, (100 + T k, 0) :: P, o, a, 0) := by
      refine runS_s hk ?_
      rw [step_1b (by omega)]
      refine atS_s ?_
      simp only [beforeS]
      rw [if_pos hu]
    by_cases hl : T k = 28 ∧ T (k + 1) = 1 ∧ W (k + 1) = 2147483648
    · rw [if_pos hl]
      obtain ⟨hl1, hl2, hl3⟩ := hl
      have hk1 : k + 1 < n := tk_lt hT (by omega)
      have hA2 : ¬ (T (k + 2) = 24 ∨ T (k + 2) = 22) → runS T W n k 1 (N, O, P, o, a, 0) = runS T W n (k + 2) 0 (N ++ [(1, -1, -1, -1, W (k + 1))], (N.length : Int) :: O, (128, 0) :: P, o, a, 0) := by
        intro hh
        rw [hA, hl1]
        refine runS_s hk1 ?_
        rw [step_1l (by omega)]
        refine atS_s ?_
        simp only [leafS]
        rw [if_neg (by rw [show k + 1 + 1 = k + 2 by omega]; exact fun h9 => h9.2.2.elim (fun e => e rfl) hh), hl2]
        rw [show k + 1 + 1 = k + 2 by omega]; rfl
      refine res_s ⟨⟨by omega, by omega⟩, Or.inl rfl, fun hh => ?_, fun hh => ?_⟩
      · rw [hA, hl1]
        refine runS_n hk1 ?_
        rw [step_1l (by omega)]
        refine atS_n ?_
        simp only [leafS]
        rw [if_pos ⟨hl2, hl3, Or.inr (by rw [show k + 1 + 1 = k + 2 by omega]; unfold blk at hh; omega)⟩]
      · refine ⟨by have := bq_rng (T (k + 2)); omega, _, _, _, hA2 (by unfold blk at hh; omega), fun l l0 l1 => ?_⟩
        rw [tp_add]
        refine (redL_1 (by decide)).trans ?_
        rw [tp_add]
    · rw [if_neg hl]
      refine y_single hR (by omega) h0 (by omega) (by omega) hS (fun e e1 e2 => ?_) hA
      have e' : 100 + T k = 128 := e
      exact hl ⟨by omega, e1, e2⟩
  rw [if_neg hu]
  have h9 := hF k N S o a O P (by omega) h0 hn hno hc hu
  exact ⟨h9.1, fun σ hσ => PX_PB (h9.2 σ hσ) rfl⟩
theorem y_choice {b : Int} {B R : DS → Option DS} (hT : tkn T n) (hB : Y1 T W n b 1 B) (hR : Y0 T W n b R) : Y0 T W n (b + 1) (choiceD T B R) := by
  intro k N S o a O P hb h0 hn hf
  generalize hAA : runS T W n k 1 (N, O, P, o, a, 0) = A
  have h1 := hB k N S o a O P (by omega) h0 hn hf
  rw [hAA] at h1
  simp only [choiceD]
  cases hE : B (k, N, S, o, a, 0) with
  | none => exact res_n (h1.1 hE)
  | some σ =>
    obtain ⟨k1, N1, S1, o1, a1, c1⟩ := σ
    obtain ⟨g1, g2, g3, g4⟩ := h1.2 _ hE
    simp only []
    by_cases h25 : T k1 = 25
    · rw [if_neg (fun h => h h25)]
      have hnb : ¬ blk (T k1) c1 := by
        unfold blk
        have : bdV (T k1) = 0 := by rw [h25]; decide
        omega
      obtain ⟨g5, N3, O3, P3, g6, g7⟩ := g4 hnb
      have hr : reduceL 1 N3 O3 P3 = (N1, tp N1 :: O, P) := (g7 1 (by decide) (by decide)).trans (fl_n hf (by omega) (by decide))
      have hk1 : k1 < n := tk_lt hT (by omega)
      by_cases ha : 4 < a1 + 1
      · rw [if_pos ha]
        refine res_n ?_
        rw [g6]
        refine bh_n hk1 ?_
        unfold behindS
        rw [if_neg (by omega), if_neg (by omega), if_neg (by omega), if_pos h25, redS_e hr]
        simp only [askS]
        rw [if_pos ha]
      · rw [if_neg ha]
        have hA2 : A = runS T W n (k1 + 1) 1 (N1, tp N1 :: O, (25, 0) :: P, o1, a1 + 1, 0) := by
          rw [g6]
          refine bh_s hk1 ?_ (by rw [h25]; decide)
          unfold behindS
          rw [if_neg (by omega), if_neg (by omega), if_neg (by omega), if_pos h25, redS_e hr]
          simp only [askS]
          rw [if_neg ha]
        have h2 := hR (k1 + 1) N1 (S1 ++ [(151, ts S1, 0, 0, 0, 0)]) o1 (a1 + 1) (tp N1 :: O) ((25, 0) :: P) (by omega) (by omega) (by omega) (fl_c (by decide) (by decide))
        rw [← hA2] at h2
        cases hE2 : R (k1 + 1, N1, S1 ++ [(151, ts S1, 0, 0, 0, 0)], o1, a1 + 1, 0) with
        | none => exact res_n (h2.1 hE2)
        | some σ2 =>
          obtain ⟨k2, N2, S2, o2, a2, c2⟩ := σ2
          obtain ⟨m1, m2, m3, m4⟩ := h2.2 _ hE2
          simp only []
          by_cases h26 : T k2 = 26
          · rw [if_neg (fun h => h h26)]
            have hnb2 : ¬ blk (T k2) c2 := by
              unfold blk
              have : bdV (T k2) = 0 := by rw [h26]; decide
              omega
            obtain ⟨m5, m6, N4, O4, P4, m7, m8⟩ := m4 hnb2
            have hr2 : reduceL 0 N4 O4 P4 = (N2, tp N2 :: tp N1 :: O, (25, 0) :: P) := m8.trans (reduceL_n (by decide))
            have hk2 : k2 < n := tk_lt hT (by omega)
            have hA3 : A = runS T W n (k2 + 1) 1 (N2, tp N2 :: tp N1 :: O, (26, 0) :: P, o2, a2, 0) := by
              rw [m7]
              refine bh_s hk2 ?_ (by rw [h26]; decide)
              unfold behindS
              rw [if_neg (by omega), if_neg (by omega), if_neg (by omega), if_neg (by omega), if_pos h26, redS_e hr2]
              simp only [colS]
              rw [if_neg (by intro h; exact h rfl)]
              rfl
            have h3 := hR (k2 + 1) N2 (patchS (S2 ++ [(150, ts S1, 0, 0, 0, 0)]) S1.length (S2.length + 1)) o2 a2 (tp N2 :: tp N1 :: O) ((26, 0) :: P) (by omega) (by omega) (by omega) (fl_c (by decide) (by decide))
            rw [← hA3] at h3
            cases hE3 : R (k2 + 1, N2, patchS (S2 ++ [(150, ts S1, 0, 0, 0, 0)]) S1.length (S2.length + 1), o2, a2, 0) with
            | none => exact res_n (h3.1 hE3)
            | some σ3 =>
              obtain ⟨k3, N5, S3, o3, a3, c3⟩ := σ3
              obtain ⟨p1, p2, p3, p4⟩ := h3.2 _ hE3
              refine res_s ⟨⟨by omega, by omega⟩, p2, p3, fun hh => ?_⟩
              obtain ⟨p5, p6, N6, O6, P6, p7, p8⟩ := p4 hh
              refine ⟨p5, p6, N6, O6, P6, p7, p8.trans ?_⟩
              rw [tp_add]
              exact redL_3 rfl rfl
          · rw [if_pos h26]
            refine res_n ?_
            by_cases hh : blk (T k2) c2
            · exact m3 hh
            obtain ⟨m5, m6, N4, O4, P4, m7, m8⟩ := m4 hh
            have hr2 : reduceL 0 N4 O4 P4 = (N2, tp N2 :: tp N1 :: O, (25, 0) :: P) := m8.trans (reduceL_n (by decide))
            rw [m7]
            refine stuck (by omega) m5 hh m6 hr2 (fun _ => (by decide : ¬ (25 : Int) = 20)) (fun _ => (by decide : ¬ (25 : Int) = 22)) (fun e => absurd e h26) (fun _ h => by cases h)
    · rw [if_pos h25]
      refine res_s ⟨g1, g2, g3, fun hh => ?_⟩
      obtain ⟨g5, N3, O3, P3, g6, g7⟩ := g4 hh
      exact ⟨by have := bq_rng (T k1); omega, h25, N3, O3, P3, g6, g7 0 (by decide) (by decide)⟩
theorem y_desc (hT : tkn T n) : ∀ f : Nat, (∀ l, Y0 T W n f (desc T W f 0 l)) ∧ (∀ l, 1 ≤ l → l ≤ 11 → Y1 T W n f l (desc T W f 1 l) ∧ Y2 T W n f l (desc T W f 2 l)) ∧ (∀ l, Y3 T W n f (desc T W f 3 l) ∧ Y4 T W n f (desc T W f 4 l) ∧ Y5 T W n f (desc T W f 5 l)) := by
  intro f
  induction f with
  | zero =>
    refine ⟨fun l k N S o a O P hb h0 hn => ?_, fun l _ _ => ⟨fun k N S o a O P hb h0 hn => ?_, fun k N S o a c O P A m hb h0 hn => ?_⟩, fun l => ⟨fun k N S o a O P hb h0 hn => ?_, fun k N S o a O P hb h0 hn => ?_, fun k N S o a O P A hb h0 hn => ?_⟩⟩ <;> (exfalso; simp at hb; omega)
  | succ f ih =>
    obtain ⟨i0, i1, i3⟩ := ih
    have e : ((f + 1 : Nat) : Int) = (f : Int) + 1 := by simp
    rw [e]
    exact ⟨fun l => y_choice hT (i1 1 (by decide) (by decide)).1 (i0 0),
      fun l h1 h2 => ⟨y_one ⟨h1, h2⟩ (i3 0).1 (i1 l h1 h2).2, y_loop hT h1 (fun l2 h3 h4 => (i1 l2 h3 h4).1) (i1 l h1 h2).2⟩,
      fun l => ⟨y_unary hT (i3 0).1 (i3 0).2.1, y_first hT (i0 0) (i3 0).2.2, y_parts hT (i0 0) (i3 0).2.2⟩⟩
/-- the tokens of an expression by the descent: nodes and steps -/
def descF (T W : Int → Int) : Option (List ND × List SD) := match desc T W 125 0 0 (0, [], [], 0, 0, 0) with
  | none => none
  | some (k, N, S, _) => if T k = 0 then some (N, S) else none
theorem desc_parse (hT : tkn T n) (hn : 0 ≤ n ∧ n ≤ 24) : (descF T W = none → parseL T W n 24 0 1 ([], [], [], 0, 0, 0) = none) ∧ ∀ N S, descF T W = some (N, S) → ∃ o a c, parseL T W n 24 0 1 ([], [], [], 0, 0, 0) = some (N, [tp N], [], o, a, c) := by
  have h := (y_desc (W := W) hT 125).1 0 0 [] [] 0 0 [] [] (by omega) (by omega) hn.1 (Or.inl rfl)
  have e : runS T W n 0 1 ([], [], [], 0, 0, 0) = parseL T W n 24 0 1 ([], [], [], 0, 0, 0) := parseL_fuel _ _ _ _ _ (by omega) (by omega)
  rw [e] at h
  generalize parseL T W n 24 0 1 ([], [], [], 0, 0, 0) = A at h
  unfold descF
  cases hE : desc T W 125 0 0 (0, [], [], 0, 0, 0) with
  | none => exact ⟨fun _ => h.1 hE, fun N S e => by cases e⟩
  | some σ =>
    obtain ⟨k, N, S, o, a, c⟩ := σ
    obtain ⟨g1, g2, g3, g4⟩ := h.2 _ hE
    simp only []
    by_cases ht : T k = 0
    · rw [if_pos ht]
      refine ⟨fun e => (by cases e), fun N2 S2 e => ?_⟩
      cases e
      have hnb : ¬ blk (T k) c := by
        unfold blk
        have : bdV (T k) = 0 := by rw [ht]; decide
        omega
      obtain ⟨g5, g6, N1, O1, P1, g7, g8⟩ := g4 hnb
      have hkn : ¬ k < n := fun hk => by have := hT.1 k (by omega) hk; omega
      refine ⟨o, a, c, ?_⟩
      rw [g7, runS_f hkn]
      unfold finS
      have hr : reduceL 0 N1 O1 P1 = (N, [tp N], []) := g8
      rw [if_neg (by decide), redS_e hr, if_pos rfl]
    · rw [if_neg ht]
      refine ⟨fun _ => ?_, fun N2 S2 e => by cases e⟩
      by_cases hh : blk (T k) c
      · exact g3 hh
      obtain ⟨g5, g6, N1, O1, P1, g7, g8⟩ := g4 hh
      rw [g7]
      have hr : reduceL 0 N1 O1 P1 = (N, [tp N], []) := g8
      refine stuck (by omega) g5 hh g6 hr (fun _ => by decide) (fun _ => by decide) (fun _ => by decide) (fun e => absurd (hT.2 k (by omega)) ht)
end SY
