/-- what the tokens are, for the parser -/
def tokOK (T W : Int → Int) (n : Int) : Prop := ∀ k, 0 ≤ k → ((k < n → 1 ≤ T k ∧ T k ≤ 47) ∧ (T k = 7 → 0 ≤ W k ∧ W k < 26) ∧ (8 ≤ T k → T k ≤ 12 → 0 ≤ W k ∧ W k < 6))
theorem good_step {T W : Int → Int} {m n k e k' e' : Int} {S S' : PSt} (hT : tokOK T W n) (hk : 0 ≤ k ∧ k < n) (he : e = 0 ∨ e = 1) (hi : invS m k e S) (h : goodS S) (h2 : stepS T W k e S = some (k', e', S')) : goodS S' := by
  obtain ⟨a1, a2, a3⟩ := hT k hk.1
  obtain ⟨b1, b2, b3⟩ := hT (k + 1) (by omega)
  have a4 := a1 hk.2
  unfold stepS at h2
  split at h2
  · split at h2
    · cases hl : leafS (T k) (T (k + 1)) (W k) k S with
      | none => rw [hl] at h2; cases h2
      | some r => obtain ⟨a, b⟩ := r; rw [hl] at h2; cases h2; exact good_leaf (by omega) a2 h hl
    · cases hl : beforeS (T k) (T (k + 1)) (T (k + 2)) (T (k + 3)) (T (k + 4)) (W (k + 1)) k S with
      | none => rw [hl] at h2; cases h2
      | some r => obtain ⟨a, b⟩ := r; rw [hl] at h2; cases h2; exact good_before (by omega) b3 h hl
  · have h1' : e = 0 := by omega
    subst h1'
    cases hl : behindS (T k) (T (k + 1)) (W (k + 1)) k S with
    | none => rw [hl] at h2; cases h2
    | some r => obtain ⟨a, b⟩ := r; rw [hl] at h2; cases h2; exact good_behind b2 (fun e => b3 (by omega) (by omega)) hi h hl
theorem good_fin {m k e : Int} {S S' : PSt} (he : e = 0 ∨ e = 1) (hi : invS m k e S) (h : goodS S) (h2 : finS e S = some S') : goodS S' ∧ S'.2.1.length = 1 ∧ S'.2.2.1 = [] := by
  unfold finS at h2
  split at h2
  · cases h2
  · have h1' : e = 0 := by omega
    subst h1'
    have hj := invS_red (least := 0) hi
    have hg := good_redS (least := 0) hi h
    split at h2
    · rename_i hP
      cases h2
      refine ⟨hg, ?_, hP⟩
      generalize redS 0 S = R at hj hg hP
      obtain ⟨N, O, P, o, a, cl⟩ := R
      have hP' : P = [] := hP
      subst hP'
      have := hj.1
      have e0 : arP [] = 0 := rfl
      show O.length = 1
      omega
    · cases h2
theorem good_parse {T W : Int → Int} {n : Int} (hT : tokOK T W n) : ∀ {f : Nat} {m k e : Int} {S S' : PSt}, 0 ≤ k → (e = 0 ∨ e = 1) → invS m k e S → goodS S → parseL T W n f k e S = some S' → goodS S' ∧ S'.2.1.length = 1 ∧ S'.2.2.1 = [] := by
  intro f
  induction f with
  | zero => intro m k e S S' h0 he hi h h2; exact good_fin he hi h h2
  | succ f ih =>
    intro m k e S S' h0 he hi h h2
    by_cases hk : k < n
    · cases hs : stepS T W k e S with
      | none => rw [parseL_bad hk hs] at h2; cases h2
      | some r =>
        obtain ⟨k', e', S1⟩ := r
        rw [parseL_s hk hs] at h2
        obtain ⟨s1, s2, s3⟩ := invS_step he hi hs
        exact ih (by omega) s2 s3 (good_step hT ⟨h0, hk⟩ he hi h hs) h2
    · rw [parseL_out hk] at h2
      exact good_fin he hi h h2
