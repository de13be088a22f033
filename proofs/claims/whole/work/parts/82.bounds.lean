def bndS : PSt → Prop
  | (N, _, P, _, _, _) => (∀ x ∈ N, x.1 ≤ 133) ∧ ∀ p ∈ P, p.1 ≤ 133
theorem bA {N : List ND} {y : ND} (h : ∀ x ∈ N, x.1 ≤ 133) (hy : y.1 ≤ 133) : ∀ x ∈ N ++ [y], x.1 ≤ 133 := by
  intro x hx
  rcases List.mem_append.mp hx with h9 | h9
  · exact h x h9
  · rw [List.mem_singleton.mp h9]; exact hy
theorem bC {P : List (Int × Int)} {y : Int × Int} (h : ∀ x ∈ P, x.1 ≤ 133) (hy : y.1 ≤ 133) : ∀ x ∈ y :: P, x.1 ≤ 133 := by
  intro x hx
  rcases List.mem_cons.mp hx with h9 | h9
  · rw [h9]; exact hy
  · exact h x h9
theorem bDr {P : List (Int × Int)} {n : Nat} (h : ∀ x ∈ P, x.1 ≤ 133) : ∀ x ∈ P.drop n, x.1 ≤ 133 := fun x hx => h x (List.mem_of_mem_drop hx)
theorem redN_b {t k : Int} {O : List Int} (h : t ≤ 133) : (redN t k O).1 ≤ 133 := by
  unfold redN
  repeat' split
  all_goals first | exact h | (show (65 : Int) ≤ 133; decide)
theorem bnd_redL {least : Int} : ∀ (P : List (Int × Int)) (N : List ND) (O : List Int), (∀ x ∈ N, x.1 ≤ 133) → (∀ p ∈ P, p.1 ≤ 133) → (∀ x ∈ (reduceL least N O P).1, x.1 ≤ 133) ∧ ∀ p ∈ (reduceL least N O P).2.2, p.1 ≤ 133 := by
  intro P
  induction P with
  | nil => intro N O h h2; exact ⟨h, h2⟩
  | cons x P ih =>
    obtain ⟨t, k⟩ := x
    intro N O h h2
    by_cases hr : redB least t = true
    · rw [reduceL_s hr]
      exact ih _ _ (bA h (redN_b (h2 (t, k) (List.mem_cons_self ..)))) (fun p hp => h2 p (List.mem_cons_of_mem _ hp))
    · rw [reduceL_n hr]; exact ⟨h, h2⟩
theorem bnd_red {least : Int} {S : PSt} (h : bndS S) : bndS (redS least S) := by
  obtain ⟨N, O, P, o, a, cl⟩ := S
  exact bnd_redL P N O h.1 h.2
theorem bnd_leaf {t t1 v k k' : Int} {S S' : PSt} (h : bndS S) (ht : t ≤ 7) (h2 : leafS t t1 v k S = some (k', S')) : bndS S' := by
  obtain ⟨N, O, P, o, a, cl⟩ := S
  unfold leafS at h2
  dsimp only at h2
  split at h2
  · cases h2
  · cases h2; exact ⟨bA h.1 (show t ≤ 133 by omega), h.2⟩
theorem bnd_cast {t1 t2 t3 t4 v k k' : Int} {S S' : PSt} (h : bndS S) (h2 : castS t1 t2 t3 t4 v k S = some (k', S')) : bndS S' := by
  obtain ⟨N, O, P, o, a, cl⟩ := S
  unfold castS at h2
  dsimp only at h2
  split at h2
  · split at h2
    · cases h2
    · cases h2; exact ⟨h.1, bC h.2 (show (64 : Int) ≤ 133 by decide)⟩
  · split at h2
    · cases h2
    · cases h2; exact ⟨h.1, bC h.2 (show (64 : Int) ≤ 133 by decide)⟩
theorem bnd_before {t t1 t2 t3 t4 v k k' : Int} {S S' : PSt} (h : bndS S) (h2 : beforeS t t1 t2 t3 t4 v k S = some (k', S')) : bndS S' := by
  obtain ⟨N, O, P, o, a, cl⟩ := S
  unfold beforeS at h2
  dsimp only at h2
  split at h2
  · cases h2; exact ⟨h.1, bC h.2 (show 100 + t ≤ 133 by omega)⟩
  · split at h2
    · cases h2
    · split at h2
      · split at h2
        · cases h2
        · cases h2; exact ⟨h.1, bC h.2 (show (20 : Int) ≤ 133 by decide)⟩
      · exact bnd_cast h h2
theorem bnd_behind {t t1 v k k' : Int} {S S' : PSt} (h : bndS S) (ht : t ≤ 47) (h2 : behindS t t1 v k S = some (k', S')) : bndS S' := by
  have hr : ∀ l, bndS (redS l S) := fun l => bnd_red h
  unfold behindS at h2
  split at h2
  · obtain ⟨N, O, P, o, a, cl⟩ := S
    unfold dotS at h2
    dsimp only at h2
    split at h2
    · cases h2
    · cases h2
      exact ⟨bA h.1 (show (if t1 = 7 then (60 : Int) else 61) ≤ 133 by split <;> omega), h.2⟩
  split at h2
  · obtain ⟨N, O, P, o, a, cl⟩ := S
    unfold sqS at h2
    dsimp only at h2
    split at h2
    · cases h2
    · cases h2; exact ⟨h.1, bC h.2 (show (22 : Int) ≤ 133 by decide)⟩
  split at h2
  · have h := hr 0
    generalize redS 0 S = S1 at h h2
    obtain ⟨N, O, P, o, a, cl⟩ := S1
    unfold closeS at h2
    dsimp only at h2
    by_cases hc : ¬ topP P = (if t = 21 then 20 else 22)
    · rw [if_pos hc] at h2; cases h2
    · rw [if_neg hc] at h2
      by_cases h23 : t = 23
      · rw [if_pos h23] at h2; cases h2; exact ⟨bA h.1 (show (62 : Int) ≤ 133 by decide), bDr h.2⟩
      · rw [if_neg h23] at h2; cases h2; exact ⟨h.1, bDr h.2⟩
  split at h2
  · have h := hr 1
    generalize redS 1 S = S1 at h h2
    obtain ⟨N, O, P, o, a, cl⟩ := S1
    unfold askS at h2
    dsimp only at h2
    split at h2
    · cases h2
    · cases h2; exact ⟨h.1, bC h.2 (show (25 : Int) ≤ 133 by decide)⟩
  split at h2
  · have h := hr 0
    generalize redS 0 S = S1 at h h2
    obtain ⟨N, O, P, o, a, cl⟩ := S1
    unfold colS at h2
    dsimp only at h2
    split at h2
    · cases h2
    · cases h2; exact ⟨h.1, bC (bDr h.2) (show (26 : Int) ≤ 133 by decide)⟩
  split at h2
  · have h := hr 7
    generalize redS 7 S = S1 at h h2
    obtain ⟨N, O, P, o, a, cl⟩ := S1
    unfold ofS at h2
    dsimp only at h2
    split at h2
    · cases h2
    · cases h2; exact ⟨bA h.1 (show (63 : Int) ≤ 133 by decide), h.2⟩
  · have h := hr (bdV t)
    generalize redS (bdV t) S = S1 at h h2
    obtain ⟨N, O, P, o, a, cl⟩ := S1
    unfold binS at h2
    dsimp only at h2
    split at h2
    · cases h2
    · cases h2; exact ⟨h.1, bC h.2 (show t ≤ 133 by omega)⟩
theorem atS_some {e k e' : Int} {S : PSt} {R : Option (Int × PSt)} (h : atS e R = some (k, e', S)) : R = some (k, S) := by
  cases R with
  | none => cases h
  | some r => obtain ⟨a, b⟩ := r; cases h; rfl
theorem bnd_step {T W : Int → Int} {k e k' e' : Int} {S S' : PSt} (hT : T k ≤ 47) (h : bndS S) (h2 : stepS T W k e S = some (k', e', S')) : bndS S' := by
  unfold stepS at h2
  split at h2
  · split at h2
    · exact bnd_leaf h (by assumption) (atS_some h2)
    · exact bnd_before h (atS_some h2)
  · exact bnd_behind h hT (atS_some h2)
theorem bnd_parse {T W : Int → Int} {n : Int} (hT : ∀ k, T k ≤ 47) : ∀ {f : Nat} {k e : Int} {S S' : PSt}, bndS S → parseL T W n f k e S = some S' → bndS S' := by
  have hfin : ∀ {e : Int} {S S' : PSt}, bndS S → finS e S = some S' → bndS S' := by
    intro e S S' h h2
    unfold finS at h2
    split at h2
    · cases h2
    · split at h2
      · cases h2; exact bnd_red h
      · cases h2
  intro f
  induction f with
  | zero => intro k e S S' h h2; exact hfin h h2
  | succ f ih =>
    intro k e S S' h h2
    by_cases hk : k < n
    · cases hs : stepS T W k e S with
      | none => rw [parseL_bad hk hs] at h2; cases h2
      | some r =>
        obtain ⟨k', e', S1⟩ := r
        rw [parseL_s hk hs] at h2
        exact ih (bnd_step (hT k) h hs) h2
    · rw [parseL_out hk] at h2; exact hfin h h2
