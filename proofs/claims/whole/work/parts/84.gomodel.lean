theorem len_redL {least : Int} : ∀ (P : List (Int × Int)) (N : List ND) (O : List Int), (reduceL least N O P).1.length + (reduceL least N O P).2.2.length = N.length + P.length := by
  intro P
  induction P with
  | nil => intro N O; rfl
  | cons x P ih =>
    obtain ⟨t, k⟩ := x
    intro N O
    by_cases hr : redB least t = true
    · rw [reduceL_s hr, ih]; simp; omega
    · rw [reduceL_n hr]
theorem len_fin {m k e : Int} {S S' : PSt} (hi : invS m k e S) (h : finS e S = some S') : (S'.1.length : Int) ≤ m := by
  obtain ⟨N, O, P, o, a, cl⟩ := S
  unfold finS at h
  split at h
  · cases h
  · split at h
    · cases h
      have h9 := len_redL (least := 0) P N O
      have h8 := hi.2.2.1
      show ((reduceL 0 N O P).1.length : Int) ≤ m
      omega
    · cases h
theorem len_parse {T W : Int → Int} {n : Int} : ∀ {f : Nat} {m k e : Int} {S S' : PSt}, (e = 0 ∨ e = 1) → invS m k e S → parseL T W n f k e S = some S' → (S'.1.length : Int) ≤ m + f := by
  intro f
  induction f with
  | zero => intro m k e S S' he hi h; have := len_fin hi h; omega
  | succ f ih =>
    intro m k e S S' he hi h
    by_cases hk : k < n
    · cases hs : stepS T W k e S with
      | none => rw [parseL_bad hk hs] at h; cases h
      | some r =>
        obtain ⟨k', e', S1⟩ := r
        rw [parseL_s hk hs] at h
        obtain ⟨s1, s2, s3⟩ := invS_step he hi hs
        have := ih s2 s3 h
        omega
    · rw [parseL_out hk] at h; have := len_fin hi h; omega
/-- all that is known of the nodes of a text -/
theorem desc_all {F : List (Int × Int) × Int} {N : List ND} {S : List SD} (hg : gdF F) (hv : ∀ x ∈ F.1, tokV x.1 x.2) (h : dfF F = some (N, S)) : allN N ∧ (∀ x ∈ N, x.1 ≤ 133) ∧ N.length ≤ 24 ∧ 0 ≤ tp N ∧ tp N < N.length := by
  have e : dfF F = descF (TF F.1) (WF F.1) := if_pos hg
  have h24 : F.1.length ≤ 24 := hg.2
  have ht := tkn_TF hv
  obtain ⟨o, a, c, h2⟩ := (desc_parse (W := WF F.1) ht (show 0 ≤ (F.1.length : Int) ∧ (F.1.length : Int) ≤ 24 by omega)).2 N S (e.symm.trans h)
  have hg0 : goodS (([], [], [], 0, 0, 0) : PSt) := ⟨fun i y hy => by simp at hy, fun x hx => by simp at hx, fun p hp => by simp at hp⟩
  have hb0 : bndS (([], [], [], 0, 0, 0) : PSt) := ⟨fun x hx => by simp at hx, fun p hp => by simp at hp⟩
  have k1 := (good_parse (tokOK_TF hv) (by omega) (Or.inr rfl) invS_0 hg0 h2).1
  have hT47 : ∀ k, TF F.1 k ≤ 47 := by
    intro k
    by_cases hk : 0 ≤ k ∧ k < F.1.length
    · exact (ht.1 k hk.1 hk.2).2
    · have e0 : TF F.1 k = 0 := if_neg hk
      omega
  have k2 := bnd_parse hT47 hb0 h2
  have k3 := len_parse (Or.inr rfl) invS_0 h2
  have k4 := k1.2.1 (tp N) (by simp)
  exact ⟨k1.1, k2.1, by have : (N.length : Int) ≤ 0 + (24 : Nat) := k3; omega, k4.1, k4.2⟩
theorem TI_m {M W : Mem} (e0 : W 55 0 = M 55 0) (e5 : W 55 5 = M 55 5) (e9 : W 55 9 = M 55 9) (e10 : W 55 10 = M 55 10) (f6 : W 56 = M 56) (f7 : W 57 = M 57) (f8 : W 58 = M 58) (g0 : W 60 = M 60) (g1 : W 61 = M 61) (hI : TI M) : TI W := by
  unfold TI okP okF okK at hI ⊢
  simp only [e0, e5, e9, e10, f6, f7, f8, g0, g1]
  exact hI
theorem lexF_go0 {M : Mem} {e : Int} : lexF (go0 M e) e = lexF M e := rfl
/-- the model's go may be called -/
theorem goM_of {M : Mem} {e : Int} (hL : okL M) (hX : okT M e) (he : 0 ≤ e ∧ e < 4) (hI : TI M) (hneg : ∀ j, j < 0 → M 74 j = 0) (h21 : 0 ≤ M 55 21 ∧ M 55 21 ≤ 400) (h24 : 0 ≤ M 55 24 ∧ M 55 24 ≤ 400)
    (hwork : ∀ N S W2, dfF (lexF M e) = some (N, S) → frP (splitM (go0 M e) e) W2 → W2 55 28 = N.length → ndk W2 N → W2 84 0 = tp N → (cmD W2).2 = true → ∃ I, WInv I ∧ I (work0 (gkM W2 e))) : goM e M := by
  have hlen := hL e he.1 (by omega)
  have hv : (lexF M e).2 = 0 → ∀ x ∈ (lexF M e).1, tokV x.1 x.2 := fun h0 => lexL_ok (f := txM M e) (len := M 64 e) (fun j hj => txM_rng hX hj) hlen.2 (n := 41) (k := 0) (L := []) (Int.le_refl _) (fun x hx => absurd hx (by simp)) h0
  have hW : splitM (go0 M e) e = lexM (go0 M e) (lexF M e).1 (if (lexF M e).2 = 0 ∧ (lexF M e).1.length ≤ 24 then 0 else 1) := rfl
  refine ⟨hL, hX, fun h0 => ?_, fun N O o a cl W2 h440 hp hR => ?_⟩
  · have hg : gdF (lexF M e) := by
      by_cases hg : gdF (lexF M e)
      · exact hg
      · rw [hW] at h0
        have h9 : (if (lexF M e).2 = 0 ∧ (lexF M e).1.length ≤ 24 then (0 : Int) else 1) = 0 := h0
        rw [if_neg (show ¬ ((lexF M e).2 = 0 ∧ (lexF M e).1.length ≤ 24) from hg)] at h9
        omega
    have hvv := hv hg.1
    have hl24 : (lexF M e).1.length ≤ 24 := hg.2
    rw [hW]
    refine ⟨by rw [lexM_n]; omega, fun j h8 h12 => ?_⟩
    unfold tkA at h8 h12
    rw [lexM_n] at h8 h12
    by_cases hj : j < (lexF M e).1.length
    · rw [if_pos hj] at h8 h12
      by_cases hj0 : 0 ≤ j
      · have e1 : ∀ w, lexM (go0 M e) (lexF M e).1 w 74 j = tkt (lexF M e).1 j := fun w => by
          unfold lexM; rw [if_neg (by omega), if_neg (by omega), if_pos ⟨rfl, hj0, hj, by omega⟩]
        have e2 : ∀ w, lexM (go0 M e) (lexF M e).1 w 75 j = tkv (lexF M e).1 j := fun w => by
          unfold lexM; rw [if_neg (by omega), if_neg (by omega), if_neg (by omega), if_pos ⟨rfl, hj0, hj, by omega⟩]
        rw [e1] at h8 h12
        rw [e2]
        exact (hvv _ (tk_mem ⟨hj0, hj⟩)).2.2.2.1 h8 h12
      · have e1 : ∀ w, lexM (go0 M e) (lexF M e).1 w 74 j = 0 := fun w => by
          unfold lexM; rw [if_neg (by omega), if_neg (by omega), if_neg (by omega), if_neg (by omega)]
          exact hneg j (by omega)
        rw [e1] at h8
        omega
    · rw [if_neg hj] at h8; omega
  · by_cases hg : gdF (lexF M e)
    · have hvv := hv hg.1
      have hd := parse_desc (M := go0 M e) (w := if (lexF M e).2 = 0 ∧ (lexF M e).1.length ≤ 24 then 0 else 1) hg hvv
      rw [← hW] at hd
      cases hD : dfF (lexF M e) with
      | none => rw [hd.1 hD] at hp; cases hp
      | some x =>
        obtain ⟨N', S⟩ := x
        obtain ⟨o', a', c', h2⟩ := hd.2 N' S hD
        rw [h2] at hp
        cases hp
        obtain ⟨d1, d2, d3, d4, d5⟩ := desc_all hg hvv hD
        obtain ⟨r1, ⟨r2, r3⟩, ⟨r4, r5⟩, r6⟩ := hR
        have h84 : W2 84 0 = tp N := r5.1
        have hfr : ∀ c i, ¬ pcell c i → W2 c i = splitM (go0 M e) e c i := r1
        have hTI : TI W2 := TI_m (M := M) (hfr 55 0 (by unfold pcell; omega)) (hfr 55 5 (by unfold pcell; omega)) (hfr 55 9 (by unfold pcell; omega)) (hfr 55 10 (by unfold pcell; omega)) (funext fun i => hfr 56 i (by unfold pcell; omega)) (funext fun i => hfr 57 i (by unfold pcell; omega)) (funext fun i => hfr 58 i (by unfold pcell; omega)) (funext fun i => hfr 60 i (by unfold pcell; omega)) (funext fun i => hfr 61 i (by unfold pcell; omega)) hI
        have k21 : W2 55 21 = M 55 21 := hfr 55 21 (by unfold pcell; omega)
        have k24 : W2 55 24 = M 55 24 := hfr 55 24 (by unfold pcell; omega)
        exact ⟨chH_of hTI r2 r3 d1 d2 (by omega), wkH_of (by omega) (by omega) (by omega) (hwork N S W2 hD r1 r2 r3 h84)⟩
    · have h9 : splitM (go0 M e) e 55 44 = 1 := by
        rw [hW]
        show (if (lexF M e).2 = 0 ∧ (lexF M e).1.length ≤ 24 then (0 : Int) else 1) = 1
        exact if_neg hg
      omega
