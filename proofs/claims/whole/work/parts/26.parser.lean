theorem RP_init {M : Mem} : RP M (mset (mset (mset (mset (mset (mset M 55 28 0) 55 37 0) 55 39 0) 55 42 0) 55 43 0) 55 45 0) [] [] [] 0 0 0 (M 55 44) := by
  refine ⟨?_, ⟨rfl, fun i h => absurd h (by simp)⟩, ⟨rfl, trivial⟩, ⟨rfl, trivial, trivial⟩, rfl, rfl, rfl, rfl⟩
  exact frP_set (frP_set (frP_set (frP_set (frP_set (frP_set (fun _ _ _ => rfl) (by simp [pcell])) (by simp [pcell])) (by simp [pcell])) (by simp [pcell])) (by simp [pcell])) (by simp [pcell])
def invS (m k e : Int) : PSt → Prop
  | (N, O, P, o, a, cl) => (O.length : Int) = 1 - e + arP P ∧ O.length ≤ N.length ∧ (N.length : Int) + P.length ≤ m ∧ (-k ≤ o ∧ o ≤ k ∧ -k ≤ a ∧ a ≤ k) ∧ 0 ≤ cl ∧ cl ≤ 1
theorem invS_leaf {m : Int} {t t1 v k k' : Int} {S S' : PSt} (h : invS m k 1 S) (h2 : leafS t t1 v k S = some (k', S')) : k' = k + 1 ∧ invS (m + 1) (k + 1) 0 S' := by
  obtain ⟨N, O, P, o, a, cl⟩ := S
  obtain ⟨h3, h4, h5, h6, h7⟩ := h
  unfold leafS at h2
  simp only [] at h2
  split at h2
  · cases h2
  · cases h2
    exact ⟨rfl, by simp; omega, by simp; omega, by simp; omega, by omega, by omega⟩
theorem arW_s {t : Int} (h : isS t = true) : arW t = 0 := by unfold arW; rw [if_pos h]
theorem arP_c {t k : Int} {P : List (Int × Int)} : arP ((t, k) :: P) = arW t + arP P := rfl
theorem invS_cast {m : Int} {t1 t2 t3 t4 v1 k k' : Int} {S S' : PSt} (h : invS m k 1 S) (h2 : castS t1 t2 t3 t4 v1 k S = some (k', S')) : (k + 1 ≤ k' ∧ k' ≤ k + 5) ∧ invS (m + 1) k' 1 S' := by
  obtain ⟨N, O, P, o, a, cl⟩ := S
  obtain ⟨h3, h4, h5, h6, h7⟩ := h
  have h9 : arW 64 = 0 := by decide
  unfold castS at h2
  simp only [] at h2
  split at h2
  · split at h2
    · cases h2
    · cases h2
      exact ⟨by omega, by rw [arP_c]; omega, h4, by simp; omega, by omega, h7⟩
  · split at h2
    · cases h2
    · cases h2
      exact ⟨by omega, by rw [arP_c]; omega, h4, by simp; omega, by omega, h7⟩
theorem invS_before {m : Int} {t t1 t2 t3 t4 v1 k k' : Int} {S S' : PSt} (h : invS m k 1 S) (h2 : beforeS t t1 t2 t3 t4 v1 k S = some (k', S')) : (k + 1 ≤ k' ∧ k' ≤ k + 5) ∧ invS (m + 1) k' 1 S' := by
  have hh := h
  obtain ⟨N, O, P, o, a, cl⟩ := S
  obtain ⟨h3, h4, h5, h6, h7⟩ := h
  unfold beforeS at h2
  simp only [] at h2
  split at h2
  · rename_i ht
    have h9 : arW (100 + t) = 0 := arW_s (by unfold isS; simp; omega)
    cases h2
    exact ⟨by omega, by rw [arP_c]; omega, h4, by simp; omega, by omega, h7⟩
  · split at h2
    · cases h2
    · split at h2
      · split at h2
        · cases h2
        · have h9 : arW 20 = 0 := by decide
          cases h2
          exact ⟨by omega, by rw [arP_c]; omega, h4, by simp; omega, by omega, h7⟩
      · exact invS_cast hh h2
theorem invS_red {m : Int} {least k : Int} {S : PSt} (h : invS m k 0 S) : invS m k 0 (redS least S) := by
  obtain ⟨N, O, P, o, a, cl⟩ := S
  obtain ⟨h3, h4, h5, h6, h7⟩ := h
  obtain ⟨N1, O1, P1, e⟩ : ∃ N1 O1 P1, reduceL least N O P = (N1, O1, P1) := ⟨_, _, _, rfl⟩
  rw [redS_e e]
  obtain ⟨i1, i2, i3, i4⟩ := reduceL_inv e (by omega) h4
  exact ⟨by omega, i3, by omega, h6, h7⟩
theorem invS_dot {m : Int} {t1 v1 k k' : Int} {S S' : PSt} (h : invS m k 0 S) (h2 : dotS t1 v1 k S = some (k', S')) : (k + 1 ≤ k' ∧ k' ≤ k + 5) ∧ invS (m + 1) k' 0 S' := by
  obtain ⟨N, O, P, o, a, cl⟩ := S
  obtain ⟨h3, h4, h5, h6, h7⟩ := h
  unfold dotS at h2
  simp only [] at h2
  split at h2
  · cases h2
  · cases h2
    exact ⟨by omega, by simp; omega, by simp; omega, by simp; omega, by omega, by omega⟩
theorem invS_sq {m : Int} {k k' : Int} {S S' : PSt} (h : invS m k 0 S) (h2 : sqS k S = some (k', S')) : (k + 1 ≤ k' ∧ k' ≤ k + 5) ∧ invS (m + 1) k' 1 S' := by
  obtain ⟨N, O, P, o, a, cl⟩ := S
  obtain ⟨h3, h4, h5, h6, h7⟩ := h
  have h9 : arW 22 = 1 := by decide
  unfold sqS at h2
  simp only [] at h2
  split at h2
  · cases h2
  · cases h2
    exact ⟨by omega, by rw [arP_c]; omega, h4, by simp; omega, by omega, by omega⟩
theorem invS_close {m : Int} {t k k' : Int} {S S' : PSt} (htt : t = 21 ∨ t = 23) (h : invS m k 0 S) (h2 : closeS t k S = some (k', S')) : (k + 1 ≤ k' ∧ k' ≤ k + 5) ∧ invS (m + 1) k' 0 S' := by
  obtain ⟨N, O, P, o, a, cl⟩ := S
  obtain ⟨h3, h4, h5, h6, h7⟩ := h
  unfold closeS at h2
  simp only [] at h2
  have h8 : arW 22 = 1 := by decide
  have h9 : arW 20 = 0 := by decide
  by_cases ht' : topP P = (if t = 21 then 20 else 22)
  · rw [if_neg (fun h => h ht')] at h2
    obtain ⟨kk, PP, rfl⟩ := topP_cons ht' (by split <;> decide)
    rw [arP_c] at h3
    simp only [List.length_cons] at h5
    by_cases h23 : t = 23
    · rw [if_pos h23] at h2
      rw [if_neg (by omega)] at h3
      cases h2
      exact ⟨by omega, by simp; omega, by simp; omega, by simp; omega, by omega, by omega⟩
    · rw [if_neg h23] at h2
      cases h2
      refine ⟨by omega, ?_, h4, by simp; omega, by omega, by omega⟩
      by_cases h21 : t = 21
      · rw [if_pos h21] at h3; simp; omega
      · omega
  · rw [if_pos ht'] at h2
    cases h2
theorem invS_ask {m : Int} {k k' : Int} {S S' : PSt} (h : invS m k 0 S) (h2 : askS k S = some (k', S')) : (k + 1 ≤ k' ∧ k' ≤ k + 5) ∧ invS (m + 1) k' 1 S' := by
  obtain ⟨N, O, P, o, a, cl⟩ := S
  obtain ⟨h3, h4, h5, h6, h7⟩ := h
  have h9 : arW 25 = 1 := by decide
  unfold askS at h2
  simp only [] at h2
  split at h2
  · cases h2
  · cases h2
    exact ⟨by omega, by rw [arP_c]; omega, h4, by simp; omega, by omega, by omega⟩
theorem invS_col {m : Int} {k k' : Int} {S S' : PSt} (h : invS m k 0 S) (h2 : colS k S = some (k', S')) : (k + 1 ≤ k' ∧ k' ≤ k + 5) ∧ invS (m + 1) k' 1 S' := by
  obtain ⟨N, O, P, o, a, cl⟩ := S
  obtain ⟨h3, h4, h5, h6, h7⟩ := h
  have h8 : arW 25 = 1 := by decide
  have h9 : arW 26 = 2 := by decide
  unfold colS at h2
  simp only [] at h2
  split at h2
  · cases h2
  · rename_i ht
    obtain ⟨kk, PP, rfl⟩ := topP_cons (Decidable.not_not.mp ht) (by decide)
    rw [arP_c] at h3
    simp only [List.length_cons] at h5
    cases h2
    exact ⟨by omega, by rw [arP_c]; simp; omega, h4, by simp; omega, by omega, by omega⟩
theorem invS_of {m : Int} {t1 v1 k k' : Int} {S S' : PSt} (h : invS m k 0 S) (h2 : ofS t1 v1 k S = some (k', S')) : (k + 1 ≤ k' ∧ k' ≤ k + 5) ∧ invS (m + 1) k' 0 S' := by
  obtain ⟨N, O, P, o, a, cl⟩ := S
  obtain ⟨h3, h4, h5, h6, h7⟩ := h
  unfold ofS at h2
  simp only [] at h2
  split at h2
  · cases h2
  · cases h2
    exact ⟨by omega, by simp; omega, by simp; omega, by simp; omega, by omega, by omega⟩
theorem bdV_ar {t : Int} (h : ¬ bdV t = 0) : arW t = 1 := by
  have h1 : ¬ isS t = true := by unfold bdV at h; unfold isS; grind
  unfold arW; rw [if_neg h1, if_neg (fun e => h (by rw [e]; decide)), if_neg (fun e => h (by rw [e]; decide))]
theorem invS_bin {m : Int} {t k k' : Int} {S S' : PSt} (h : invS m k 0 S) (h2 : binS t k S = some (k', S')) : (k + 1 ≤ k' ∧ k' ≤ k + 5) ∧ invS (m + 1) k' 1 S' := by
  obtain ⟨N, O, P, o, a, cl⟩ := S
  obtain ⟨h3, h4, h5, h6, h7⟩ := h
  unfold binS at h2
  simp only [] at h2
  split at h2
  · cases h2
  · rename_i hb
    have h9 := bdV_ar (fun e => hb (Or.inl e))
    cases h2
    exact ⟨by omega, by rw [arP_c]; omega, h4, by simp; omega, by omega, by omega⟩
def endsB (t : Int) : Int := if t = 21 ∨ t = 23 ∨ t = 24 ∨ t = 13 then 0 else 1
theorem invS_behind {m : Int} {t t1 v1 k k' : Int} {S S' : PSt} (h : invS m k 0 S) (h2 : behindS t t1 v1 k S = some (k', S')) : (k + 1 ≤ k' ∧ k' ≤ k + 5) ∧ invS (m + 1) k' (endsB t) S' := by
  unfold behindS at h2
  unfold endsB
  split at h2
  · rw [if_pos (by omega)]; exact invS_dot h h2
  split at h2
  · rw [if_neg (by omega)]; exact invS_sq h h2
  split at h2
  · rw [if_pos (by omega)]; exact invS_close (by assumption) (invS_red h) h2
  split at h2
  · rw [if_neg (by omega)]; exact invS_ask (invS_red h) h2
  split at h2
  · rw [if_neg (by omega)]; exact invS_col (invS_red h) h2
  split at h2
  · rw [if_pos (by omega)]; exact invS_of (invS_red h) h2
  · rw [if_neg (by omega)]; exact invS_bin (invS_red h) h2
def atS (e : Int) : Option (Int × PSt) → Option (Int × Int × PSt)
  | none => none
  | some (k, S) => some (k, e, S)
/-- one token of the parser -/
def stepS (T W : Int → Int) (k e : Int) (S : PSt) : Option (Int × Int × PSt) :=
  if e = 1 then (if T k ≤ 7 then atS 0 (leafS (T k) (T (k + 1)) (W k) k S) else atS 1 (beforeS (T k) (T (k + 1)) (T (k + 2)) (T (k + 3)) (T (k + 4)) (W (k + 1)) k S)) else atS (endsB (T k)) (behindS (T k) (T (k + 1)) (W (k + 1)) k S)
theorem invS_step {m : Int} {T W : Int → Int} {k e k' e' : Int} {S S' : PSt} (he : e = 0 ∨ e = 1) (h : invS m k e S) (h2 : stepS T W k e S = some (k', e', S')) : (k + 1 ≤ k' ∧ k' ≤ k + 5) ∧ (e' = 0 ∨ e' = 1) ∧ invS (m + 1) k' e' S' := by
  unfold stepS at h2
  split at h2
  · rename_i h1
    subst h1
    split at h2
    · cases hl : leafS (T k) (T (k + 1)) (W k) k S with
      | none => rw [hl] at h2; cases h2
      | some r => obtain ⟨a, b⟩ := r; rw [hl] at h2; cases h2; have := invS_leaf h hl; obtain ⟨rfl, h3⟩ := this; exact ⟨by omega, by omega, h3⟩
    · cases hl : beforeS (T k) (T (k + 1)) (T (k + 2)) (T (k + 3)) (T (k + 4)) (W (k + 1)) k S with
      | none => rw [hl] at h2; cases h2
      | some r => obtain ⟨a, b⟩ := r; rw [hl] at h2; cases h2; have := invS_before h hl; exact ⟨this.1, by omega, this.2⟩
  · rename_i h1
    have h1' : e = 0 := by omega
    subst h1'
    cases hl : behindS (T k) (T (k + 1)) (W (k + 1)) k S with
    | none => rw [hl] at h2; cases h2
    | some r => obtain ⟨a, b⟩ := r; rw [hl] at h2; cases h2; have := invS_behind h hl; exact ⟨this.1, by unfold endsB; split <;> omega, this.2⟩
def finS (e : Int) (S : PSt) : Option PSt := if e = 1 then none else if (redS 0 S).2.2.1 = [] then some (redS 0 S) else none
def parseL (T W : Int → Int) (n : Int) : Nat → Int → Int → PSt → Option PSt
  | 0, _, e, S => finS e S
  | f + 1, k, e, S => if k < n then (match stepS T W k e S with
      | none => none
      | some (k', e', S') => parseL T W n f k' e' S') else finS e S
theorem parseL_out {T W : Int → Int} {n : Int} {f : Nat} {k e : Int} {S : PSt} (h : ¬ k < n) : parseL T W n f k e S = finS e S := by cases f <;> simp [parseL, h]
theorem parseL_bad {T W : Int → Int} {n : Int} {f : Nat} {k e : Int} {S : PSt} (h : k < n) (h2 : stepS T W k e S = none) : parseL T W n (f + 1) k e S = none := by simp [parseL, h, h2]
theorem parseL_s {T W : Int → Int} {n : Int} {f : Nat} {k e k' e' : Int} {S S' : PSt} (h : k < n) (h2 : stepS T W k e S = some (k', e', S')) : parseL T W n (f + 1) k e S = parseL T W n f k' e' S' := by simp [parseL, h, h2]
def parseF (M : Mem) : Option PSt := parseL (tkA M) (M 75) (M 55 25) 24 0 1 ([], [], [], 0, 0, 0)
def parseQ (M : Mem) (M' : Mem) : Prop := (parseF M = none ∧ frP M M' ∧ M' 55 44 = 1) ∨ ∃ N O o a cl, parseF M = some (N, O, [], o, a, cl) ∧ RP M M' N O [] o a cl 0
theorem atS_n {e : Int} {R : Option (Int × PSt)} (h : R = none) : atS e R = none := by rw [h]; rfl
theorem atS_s {e k : Int} {S : PSt} {R : Option (Int × PSt)} (h : R = some (k, S)) : atS e R = some (k, e, S) := by rw [h]; rfl
