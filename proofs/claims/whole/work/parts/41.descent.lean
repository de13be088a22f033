theorem bd_rng (t : Int) : 0 ≤ bdV t ∧ bdV t ≤ 10 := by unfold bdV; grind (splits := 40)
theorem bd_in {t : Int} (h : 0 < bdV t) : (27 ≤ t ∧ t ≤ 31) ∨ (34 ≤ t ∧ t ≤ 47) := by unfold bdV at h; grind (splits := 40)
theorem bq_rng (t : Int) : 0 ≤ bq t ∧ bq t ≤ 10 := by
  have := bd_rng t
  unfold bq; split <;> omega
theorem bq_13 {t : Int} (h : ¬ t = 13) : bq t = bdV t := if_neg h
theorem prog_leaf {t t1 v k k' : Int} {S S' : PSt} (h : leafS t t1 v k S = some (k', S')) : k + 1 ≤ k' := by
  obtain ⟨N, O, P, o, a, cl⟩ := S
  unfold leafS at h; simp only [] at h
  split at h
  · cases h
  · cases h; omega
theorem prog_before {t t1 t2 t3 t4 v k k' : Int} {S S' : PSt} (h : beforeS t t1 t2 t3 t4 v k S = some (k', S')) : k + 1 ≤ k' := by
  obtain ⟨N, O, P, o, a, cl⟩ := S
  unfold beforeS castS at h; simp only [] at h
  repeat' (split at h)
  all_goals (first | (cases h; done) | (cases h; omega))
theorem prog_behind {t t1 v k k' : Int} {S S' : PSt} (h : behindS t t1 v k S = some (k', S')) : k + 1 ≤ k' := by
  unfold behindS at h
  split at h
  · obtain ⟨N, O, P, o, a, cl⟩ := S
    unfold dotS at h; simp only [] at h
    split at h
    · cases h
    · cases h; omega
  split at h
  · obtain ⟨N, O, P, o, a, cl⟩ := S
    unfold sqS at h; simp only [] at h
    split at h
    · cases h
    · cases h; omega
  split at h
  · generalize redS 0 S = S1 at h
    obtain ⟨N, O, P, o, a, cl⟩ := S1
    unfold closeS at h; simp only [] at h
    repeat' (split at h)
    all_goals (first | (cases h; done) | (cases h; omega))
  split at h
  · generalize redS 1 S = S1 at h
    obtain ⟨N, O, P, o, a, cl⟩ := S1
    unfold askS at h; simp only [] at h
    split at h
    · cases h
    · cases h; omega
  split at h
  · generalize redS 0 S = S1 at h
    obtain ⟨N, O, P, o, a, cl⟩ := S1
    unfold colS at h; simp only [] at h
    split at h
    · cases h
    · cases h; omega
  split at h
  · generalize redS 7 S = S1 at h
    obtain ⟨N, O, P, o, a, cl⟩ := S1
    unfold ofS at h; simp only [] at h
    split at h
    · cases h
    · cases h; omega
  · generalize redS (bdV t) S = S1 at h
    obtain ⟨N, O, P, o, a, cl⟩ := S1
    unfold binS at h; simp only [] at h
    split at h
    · cases h
    · cases h; omega
theorem atS_inv {e k' e' : Int} {R : Option (Int × PSt)} {S' : PSt} (h : atS e R = some (k', e', S')) : R = some (k', S') := by
  cases R with
  | none => cases h
  | some r => obtain ⟨k, S⟩ := r; cases h; rfl
theorem prog_step {T W : Int → Int} {k e k' e' : Int} {S S' : PSt} (h : stepS T W k e S = some (k', e', S')) : k + 1 ≤ k' := by
  unfold stepS at h
  split at h
  · split at h
    · exact prog_leaf (atS_inv h)
    · exact prog_before (atS_inv h)
  · exact prog_behind (atS_inv h)
theorem parseL_fuel {T W : Int → Int} {n : Int} : ∀ (f1 f2 : Nat) (k e : Int) (S : PSt), n - k ≤ f1 → n - k ≤ f2 → parseL T W n f1 k e S = parseL T W n f2 k e S := by
  intro f1
  induction f1 with
  | zero => intro f2 k e S h1 h2; rw [parseL_out (by omega), parseL_out (by omega)]
  | succ f1 ih =>
    intro f2 k e S h1 h2
    by_cases hk : k < n
    · obtain ⟨g, rfl⟩ : ∃ g, f2 = g + 1 := ⟨f2 - 1, by omega⟩
      cases hs : stepS T W k e S with
      | none => rw [parseL_bad hk hs, parseL_bad hk hs]
      | some r =>
        obtain ⟨k', e', S'⟩ := r
        have := prog_step hs
        rw [parseL_s hk hs, parseL_s hk hs]
        exact ih g k' e' S' (by omega) (by omega)
    · rw [parseL_out hk, parseL_out hk]
/-- the model's parser from a place on -/
def runS (T W : Int → Int) (n k e : Int) (S : PSt) : Option PSt := parseL T W n (n - k).toNat k e S
def blk (t c : Int) : Prop := t = 22 ∨ t = 24 ∨ (c = 1 ∧ 7 < bdV t)
def feq (m : Int) (A B : List ND × List Int × List (Int × Int)) : Prop := ∀ least, 0 ≤ least → least ≤ m → reduceL least A.1 A.2.1 A.2.2 = reduceL least B.1 B.2.1 B.2.2
def fl (lev : Int) (P : List (Int × Int)) : Prop := P = [] ∨ ∃ p k Q, P = (p, k) :: Q ∧ ¬ isS p = true ∧ bdV p < lev
def tkn (T : Int → Int) (n : Int) : Prop := (∀ k, 0 ≤ k → k < n → 1 ≤ T k ∧ T k ≤ 47) ∧ ∀ k, n ≤ k → T k = 0
def res (A : Option PSt) (R : Option DS) (Q : DS → Prop) : Prop := (R = none → A = none) ∧ ∀ σ', R = some σ' → Q σ'
theorem res_n {A : Option PSt} {Q : DS → Prop} (h : A = none) : res A none Q := ⟨fun _ => h, fun _ e => by cases e⟩
theorem res_s {A : Option PSt} {σ : DS} {Q : DS → Prop} (h : Q σ) : res A (some σ) Q := ⟨fun e => (by cases e), fun _ e => (by cases e; exact h)⟩
theorem res_b {A : Option PSt} {R : Option DS} {L : DS → Option DS} {Q : DS → Prop} (h1 : R = none → A = none) (h2 : ∀ σ, R = some σ → res A (L σ) Q) : res A (R.bind L) Q := by
  cases R with
  | none => exact res_n (h1 rfl)
  | some σ => exact h2 σ rfl
theorem tp_add (N : List ND) (x : ND) : tp (N ++ [x]) = (N.length : Int) := by unfold tp; simp
theorem fl_n {lev least : Int} {N : List ND} {O : List Int} {P : List (Int × Int)} (h : fl lev P) (h1 : lev ≤ least) (h2 : 1 ≤ least) : reduceL least N O P = (N, O, P) := by
  rcases h with rfl | ⟨p, k, Q, rfl, h3, h4⟩
  · rfl
  · exact reduceL_n (by unfold redB; simp [h3]; omega)
theorem fl_up {lev lev' : Int} {P : List (Int × Int)} (h : fl lev P) (h1 : lev ≤ lev') : fl lev' P := by
  rcases h with rfl | ⟨p, k, Q, rfl, h3, h4⟩
  · exact Or.inl rfl
  · exact Or.inr ⟨p, k, Q, rfl, h3, by omega⟩
theorem fl_c {lev p k : Int} {P : List (Int × Int)} (h : ¬ isS p = true) (h1 : bdV p < lev) : fl lev ((p, k) :: P) := Or.inr ⟨p, k, P, rfl, h, h1⟩
theorem fl_top {lev : Int} {P : List (Int × Int)} (h : fl lev P) : ¬ topP P = 128 := by
  rcases h with rfl | ⟨p, k, Q, rfl, h3, h4⟩
  · decide
  · intro e; apply h3; rw [show p = 128 from e]; decide
section SY
variable {T W : Int → Int} {n : Int}
theorem runS_s {k e k' e' : Int} {S S' : PSt} (h : k < n) (h2 : stepS T W k e S = some (k', e', S')) : runS T W n k e S = runS T W n k' e' S' := by
  have := prog_step h2
  unfold runS
  obtain ⟨m, hm⟩ : ∃ m : Nat, (n - k).toNat = m + 1 := ⟨(n - k).toNat - 1, by omega⟩
  rw [hm, parseL_s h h2]
  exact parseL_fuel _ _ _ _ _ (by omega) (by omega)
theorem runS_n {k e : Int} {S : PSt} (h : k < n) (h2 : stepS T W k e S = none) : runS T W n k e S = none := by
  unfold runS
  obtain ⟨m, hm⟩ : ∃ m : Nat, (n - k).toNat = m + 1 := ⟨(n - k).toNat - 1, by omega⟩
  rw [hm, parseL_bad h h2]
theorem runS_f {k e : Int} {S : PSt} (h : ¬ k < n) : runS T W n k e S = finS e S := parseL_out h
theorem step_0 {k : Int} {S : PSt} : stepS T W k 0 S = atS (endsB (T k)) (behindS (T k) (T (k + 1)) (W (k + 1)) k S) := by unfold stepS; rw [if_neg (by decide)]
theorem step_1l {k : Int} {S : PSt} (h : T k ≤ 7) : stepS T W k 1 S = atS 0 (leafS (T k) (T (k + 1)) (W k) k S) := by unfold stepS; rw [if_pos rfl, if_pos h]
theorem step_1b {k : Int} {S : PSt} (h : ¬ T k ≤ 7) : stepS T W k 1 S = atS 1 (beforeS (T k) (T (k + 1)) (T (k + 2)) (T (k + 3)) (T (k + 4)) (W (k + 1)) k S) := by unfold stepS; rw [if_pos rfl, if_neg h]
theorem tk_lt {k : Int} (hT : tkn T n) (h : ¬ T k = 0) : k < n := by
  by_cases hk : k < n
  · exact hk
  · exact absurd (hT.2 k (by omega)) h
theorem bh_n {k : Int} {S : PSt} (h : k < n) (h2 : behindS (T k) (T (k + 1)) (W (k + 1)) k S = none) : runS T W n k 0 S = none := runS_n h (by rw [step_0, h2]; rfl)
theorem bh_s {k k' e : Int} {S S' : PSt} (h : k < n) (h2 : behindS (T k) (T (k + 1)) (W (k + 1)) k S = some (k', S')) (he : endsB (T k) = e) : runS T W n k 0 S = runS T W n k' e S' := runS_s h (by rw [step_0, h2, he]; rfl)
/-- an instanceof stands just before, and what follows binds more -/
theorem blk_n {k c o a : Int} {N : List ND} {O : List Int} {P : List (Int × Int)} (hT : tkn T n) (hc : c = 1) (h : blk (T k) c) : runS T W n k 0 (N, O, P, o, a, c) = none := by
  unfold blk at h
  have hk : k < n := tk_lt hT (by
    intro e; rw [e] at h
    rcases h with h | h | ⟨_, h⟩
    · omega
    · omega
    · exact absurd h (by decide))
  refine bh_n hk ?_
  unfold behindS
  by_cases h24 : T k = 24
  · rw [if_pos h24]; simp only [dotS]; rw [if_pos (Or.inl hc)]
  rw [if_neg h24]
  by_cases h22 : T k = 22
  · rw [if_pos h22]; simp only [sqS]; rw [if_pos (Or.inl hc)]
  rw [if_neg h22]
  have h7 : 7 < bdV (T k) := by rcases h with h | h | ⟨_, h⟩ <;> omega
  have hb := bd_in (t := T k) (by omega)
  rw [if_neg (by omega), if_neg (by omega), if_neg (by omega), if_neg (by omega)]
  exact if_pos (Or.inr ⟨hc, h7⟩)
/-- what no bracket, choice or end takes -/
theorem stuck {k o a c x : Int} {N1 N2 : List ND} {O1 O : List Int} {P1 P : List (Int × Int)} (hk : k ≤ n) (hb : bq (T k) = 0) (hn : ¬ blk (T k) c) (h25 : ¬ T k = 25)
    (hr : reduceL 0 N1 O1 P1 = (N2, x :: O, P)) (h1 : T k = 21 → ¬ topP P = 20) (h2 : T k = 23 → ¬ topP P = 22) (h3 : T k = 26 → ¬ topP P = 25) (h4 : k = n → ¬ P = []) : runS T W n k 0 (N1, O1, P1, o, a, c) = none := by
  unfold blk at hn
  by_cases hkn : k < n
  · refine bh_n hkn ?_
    unfold behindS
    rw [if_neg (by omega), if_neg (by omega)]
    by_cases h21 : T k = 21 ∨ T k = 23
    · rw [if_pos h21, redS_e hr]
      simp only [closeS]
      rw [if_pos]
      rcases h21 with h | h
      · rw [if_pos h]; exact h1 h
      · rw [if_neg (by omega)]; exact h2 h
    rw [if_neg h21, if_neg h25]
    by_cases h26 : T k = 26
    · rw [if_pos h26, redS_e hr]
      simp only [colS]
      rw [if_pos (h3 h26)]
    rw [if_neg h26]
    have h13 : ¬ T k = 13 := fun e => by rw [e] at hb; exact absurd hb (by decide)
    rw [if_neg h13]
    rw [bq_13 h13] at hb
    exact if_pos (Or.inl hb)
  · rw [runS_f hkn]
    unfold finS
    rw [if_neg (by decide), redS_e hr, if_neg (h4 (by omega))]
variable (T W n)
def PB (lev lo : Int) (A : Option PSt) (O : List Int) (P : List (Int × Int)) : DS → Prop
  | (k, N, _, o, a, c) => (lo ≤ k ∧ k ≤ n) ∧ (c = 0 ∨ c = 1) ∧ (blk (T k) c → A = none) ∧ (¬ blk (T k) c → bq (T k) < lev ∧ ∃ N1 O1 P1, A = runS T W n k 0 (N1, O1, P1, o, a, c) ∧ feq lev (N1, O1, P1) (N, tp N :: O, P))
def PC (lo : Int) (A : Option PSt) (O : List Int) (P : List (Int × Int)) : DS → Prop
  | (k, N, _, o, a, c) => (lo ≤ k ∧ k ≤ n) ∧ (c = 0 ∨ c = 1) ∧ (blk (T k) c → A = none) ∧ (¬ blk (T k) c → bq (T k) = 0 ∧ ¬ T k = 25 ∧ ∃ N1 O1 P1, A = runS T W n k 0 (N1, O1, P1, o, a, c) ∧ reduceL 0 N1 O1 P1 = reduceL 0 N (tp N :: O) P)
def PX (lo : Int) (A : Option PSt) (O : List Int) (P : List (Int × Int)) : DS → Prop
  | (k, N, _, o, a, c) => (lo ≤ k ∧ k ≤ n) ∧ c = 0 ∧ ¬ T k = 22 ∧ ¬ T k = 24 ∧ A = runS T W n k 0 (N, tp N :: O, P, o, a, 0)
def Y0 (b : Int) (R : DS → Option DS) : Prop := ∀ k N S o a O P, 5 * (n - k) + 5 ≤ b → 0 ≤ k → k ≤ n → fl 1 P → res (runS T W n k 1 (N, O, P, o, a, 0)) (R (k, N, S, o, a, 0)) (PC T W n (k + 1) (runS T W n k 1 (N, O, P, o, a, 0)) O P)
def Y1 (b lev : Int) (R : DS → Option DS) : Prop := ∀ k N S o a O P, 5 * (n - k) + 4 ≤ b → 0 ≤ k → k ≤ n → fl lev P → res (runS T W n k 1 (N, O, P, o, a, 0)) (R (k, N, S, o, a, 0)) (PB T W n lev (k + 1) (runS T W n k 1 (N, O, P, o, a, 0)) O P)
def Y2 (b lev : Int) (R : DS → Option DS) : Prop := ∀ k N S o a c O P A m, 5 * (n - k) + 1 ≤ b → 0 ≤ k → k ≤ n → fl lev P → lev ≤ m → (c = 0 ∨ c = 1) → (blk (T k) c → A = none) → (¬ blk (T k) c → bq (T k) ≤ m ∧ ∃ N1 O1 P1, A = runS T W n k 0 (N1, O1, P1, o, a, c) ∧ feq m (N1, O1, P1) (N, tp N :: O, P)) → res A (R (k, N, S, o, a, c)) (PB T W n lev k A O P)
def noL (P : List (Int × Int)) (k : Int) : Prop := topP P = 128 → T k = 1 → ¬ W k = 2147483648
def Y3 (b : Int) (R : DS → Option DS) : Prop := ∀ k N S o a O P, 5 * (n - k) + 3 ≤ b → 0 ≤ k → k ≤ n → noL T W P k → res (runS T W n k 1 (N, O, P, o, a, 0)) (R (k, N, S, o, a, 0)) (PB T W n 11 (k + 1) (runS T W n k 1 (N, O, P, o, a, 0)) O P)
def Y4 (b : Int) (R : DS → Option DS) : Prop := ∀ k N S o a O P, 5 * (n - k) + 2 ≤ b → 0 ≤ k → k ≤ n → noL T W P k → ¬ (T k = 20 ∧ 8 ≤ T (k + 1) ∧ T (k + 1) ≤ 12) → ¬ (T k = 27 ∨ T k = 28 ∨ T k = 32 ∨ T k = 33) → res (runS T W n k 1 (N, O, P, o, a, 0)) (R (k, N, S, o, a, 0)) (PX T W n (k + 1) (runS T W n k 1 (N, O, P, o, a, 0)) O P)
def Y5 (b : Int) (R : DS → Option DS) : Prop := ∀ k N S o a O P A, 5 * (n - k) + 1 ≤ b → 0 ≤ k → k ≤ n → A = runS T W n k 0 (N, tp N :: O, P, o, a, 0) → res A (R (k, N, S, o, a, 0)) (PX T W n k A O P)
variable {T W n}
theorem PX_PB {lev lo : Int} {A : Option PSt} {O : List Int} {P : List (Int × Int)} {σ : DS} (h : PX T W n lo A O P σ) (hl : lev = 11) : PB T W n lev lo A O P σ := by
  obtain ⟨k, N, S, o, a, c⟩ := σ
  obtain ⟨h1, h2, h3, h4, h5⟩ := h
  subst hl; subst h2
  refine ⟨h1, Or.inl rfl, fun hb => ?_, fun _ => ⟨by have := bq_rng (T k); omega, N, tp N :: O, P, h5, fun _ _ _ => rfl⟩⟩
  unfold blk at hb
  omega
theorem y_loop {b lev : Int} {B : Int → DS → Option DS} {L : DS → Option DS} (hT : tkn T n) (hl : 1 ≤ lev) (hB : ∀ l, 1 ≤ l → l ≤ 11 → Y1 T W n b l (B l)) (hL : Y2 T W n b lev L) : Y2 T W n (b + 1) lev (loopD T W lev B L) := by
  intro k N S o a c O P A m hb h0 hn hf hm hc hA hA2
  simp only [loopD]
  by_cases hx : bq (T k) < lev ∨ (c = 1 ∧ 7 < bq (T k))
  · rw [if_pos hx]
    refine res_s ⟨⟨Int.le_refl _, hn⟩, hc, hA, fun hnb => ?_⟩
    obtain ⟨h1, N1, O1, P1, h2, h3⟩ := hA2 hnb
    refine ⟨?_, N1, O1, P1, h2, fun l l0 l1 => h3 l l0 (by omega)⟩
    rcases hx with hx | hx
    · exact hx
    · exfalso; apply hnb; unfold blk; refine Or.inr (Or.inr ⟨hx.1, ?_⟩)
      have := hx.2; unfold bq at this; split at this <;> omega
  rw [if_neg hx]
  have hnb : ¬ blk (T k) c := by
    unfold blk
    intro hh
    rcases hh with hh | hh | hh
    · apply hx; left; rw [hh]; exact Int.lt_of_lt_of_le (by decide) hl
    · apply hx; left; rw [hh]; exact Int.lt_of_lt_of_le (by decide) hl
    · apply hx; right; refine ⟨hh.1, ?_⟩; have := hh.2; unfold bq; split
      · rename_i e; rw [e] at this; exact absurd this (by decide)
      · exact this
  obtain ⟨hm2, N1, O1, P1, hA1, hfe⟩ := hA2 hnb
  have hkn : k < n := tk_lt hT (fun e => hx (Or.inl (by rw [e]; exact Int.lt_of_lt_of_le (by decide) hl)))
  by_cases h13 : T k = 13
  · rw [if_pos h13]
    have hb7 : bq (T k) = 7 := by rw [h13]; decide
    have hr : reduceL 7 N1 O1 P1 = (N, tp N :: O, P) := (hfe 7 (by decide) (by omega)).trans (fl_n hf (by omega) (by decide))
    by_cases h8 : T (k + 1) = 8
    · rw [if_pos h8]
      have hA3 : A = runS T W n (k + 2) 0 (N ++ [(63, tp N, -1, -1, W (k + 1))], (N.length : Int) :: O, P, o, a, 1) := by
        rw [hA1]
        refine bh_s hkn ?_ (by rw [h13]; decide)
        unfold behindS
        rw [if_neg (by omega), if_neg (by omega), if_neg (by omega), if_neg (by omega), if_neg (by omega), if_pos h13, redS_e hr]
        simp only [ofS]
        rw [if_neg (by omega)]
        rfl
      have hk2 : k + 1 < n := tk_lt hT (by omega)
      have hR := hL (k + 2) (N ++ [(63, tp N, -1, -1, W (k + 1))]) (S ++ [(141, ts S, 4 + W (k + 1), 0, 0, 0)]) o a 1 O P A 10 (by omega) (by omega) (by omega) hf (by omega) (Or.inr rfl) (fun hh => by rw [hA3]; exact blk_n hT rfl hh)
        (fun _ => ⟨(bq_rng _).2, _, _, _, hA3, by rw [tp_add]; exact fun _ _ _ => rfl⟩)
      refine ⟨hR.1, fun σ hσ => ?_⟩
      have := hR.2 σ hσ
      obtain ⟨k', N', S', o', a', c'⟩ := σ
      exact ⟨⟨by have := this.1; omega, this.1.2⟩, this.2⟩
    · rw [if_neg h8]
      refine res_n ?_
      rw [hA1]
      refine bh_n hkn ?_
      unfold behindS
      rw [if_neg (by omega), if_neg (by omega), if_neg (by omega), if_neg (by omega), if_neg (by omega), if_pos h13, redS_e hr]
      simp only [ofS]
      rw [if_pos h8]
  rw [if_neg h13]
  rw [bq_13 h13] at hx hm2
  have hbd := bd_in (t := T k) (by omega)
  have hr : reduceL (bdV (T k)) N1 O1 P1 = (N, tp N :: O, P) := (hfe _ (bd_rng _).1 hm2).trans (fl_n hf (by omega) (by omega))
  have hiS : ¬ isS (T k) = true := by unfold isS; simp; omega
  have hA3 : A = runS T W n (k + 1) 1 (N, tp N :: O, (T k, 0) :: P, o, a, 0) := by
    rw [hA1]
    refine bh_s hkn ?_ (by unfold endsB; rw [if_neg (by omega)])
    unfold behindS
    rw [if_neg (by omega), if_neg (by omega), if_neg (by omega), if_neg (by omega), if_neg (by omega), if_neg h13, redS_e hr]
    simp only [binS]
    rw [if_neg (fun hh => hh.elim (fun e => by omega) (fun e => hnb (Or.inr (Or.inr e))))]
  have hS1 : ∀ S1, res A (B (bdV (T k) + 1) (k + 1, N, S1, o, a, 0)) (PB T W n (bdV (T k) + 1) (k + 1 + 1) A (tp N :: O) ((T k, 0) :: P)) := by
    intro S1
    have h9 := (hB (bdV (T k) + 1) (by omega) (by have := bd_rng (T k); omega)) (k + 1) N S1 o a (tp N :: O) ((T k, 0) :: P) (by omega) (by omega) (by omega) (fl_c hiS (by omega))
    rw [← hA3] at h9
    exact h9
  have hgo : ∀ k2 N2 S2 o2 a2 c2 S3, PB T W n (bdV (T k) + 1) (k + 1 + 1) A (tp N :: O) ((T k, 0) :: P) (k2, N2, S2, o2, a2, c2) → res A (L (k2, N2 ++ [(T k, tp N, tp N2, -1, 0)], S3, o2, a2, c2)) (PB T W n lev k A O P) := by
    intro k2 N2 S2 o2 a2 c2 S3 ⟨g1, g2, g3, g4⟩
    have hR := hL k2 (N2 ++ [(T k, tp N, tp N2, -1, 0)]) S3 o2 a2 c2 O P A (bdV (T k)) (by omega) (by omega) (by omega) hf (by omega) g2 g3
      (fun hh => by
        obtain ⟨g5, N3, O3, P3, g6, g7⟩ := g4 hh
        refine ⟨by omega, N3, O3, P3, g6, fun l l0 l1 => ?_⟩
        refine (g7 l l0 (by omega)).trans ?_
        show reduceL l N2 (tp N2 :: tp N :: O) ((T k, 0) :: P) = reduceL l (N2 ++ [(T k, tp N, tp N2, -1, 0)]) (tp (N2 ++ [(T k, tp N, tp N2, -1, 0)]) :: O) P
        rw [tp_add]
        exact redL_2 hiS l1 (by omega))
    refine ⟨hR.1, fun σ hσ => ?_⟩
    have := hR.2 σ hσ
    obtain ⟨k', N', S', o', a', c'⟩ := σ
    exact ⟨⟨by have := this.1; omega, this.1.2⟩, this.2⟩
  refine res_b (fun hh => ?_) (fun σ hσ => ?_)
  · simp only [rightD] at hh
    split at hh
    · split at hh
      · rename_i hB0; exact (hS1 _).1 hB0
      · cases hh
    · split at hh
      · rename_i hB0; exact (hS1 _).1 hB0
      · cases hh
  · simp only [rightD] at hσ
    split at hσ
    · split at hσ
      · cases hσ
      · rename_i hB0; cases hσ; exact hgo _ _ _ _ _ _ _ ((hS1 _).2 _ hB0)
    · split at hσ
      · cases hσ
      · rename_i hB0; cases hσ; exact hgo _ _ _ _ _ _ _ ((hS1 _).2 _ hB0)
theorem y_one {b lev : Int} {F L : DS → Option DS} (hl : 1 ≤ lev ∧ lev ≤ 11) (hF : Y3 T W n b F) (hL : Y2 T W n b lev L) : Y1 T W n (b + 1) lev (fun σ => (F σ).bind L) := by
  intro k N S o a O P hb h0 hn hf
  have h3 := hF k N S o a O P (by omega) h0 hn (fun e => absurd e (fl_top hf))
  refine res_b h3.1 (fun σ hσ => ?_)
  have h4 := h3.2 σ hσ
  obtain ⟨k1, N1, S1, o1, a1, c1⟩ := σ
  obtain ⟨g1, g2, g3, g4⟩ := h4
  have hR := hL k1 N1 S1 o1 a1 c1 O P _ 11 (by omega) (by omega) (by omega) hf hl.2 g2 g3 (fun hh => by obtain ⟨g5, g6⟩ := g4 hh; exact ⟨by omega, g6⟩)
  refine ⟨hR.1, fun σ2 hσ2 => ?_⟩
  have := hR.2 σ2 hσ2
  obtain ⟨k', N', S', o', a', c'⟩ := σ2
  exact ⟨⟨by have := this.1; omega, this.1.2⟩, this.2⟩
end SY
