/-- the nodes of a text are worked out by its steps -/
theorem desc_cmp {F : List (Int × Int) × Int} {N : List ND} {S : List SD} (hv : ∀ x ∈ F.1, tokV x.1 x.2) (h : dfF F = some (N, S)) : Cmp N S 0 N.length 0 S.length ∧ 1 ≤ S.length ∧ S.length ≤ 48 := by
  by_cases hg : F.2 = 0 ∧ F.1.length ≤ 24
  · have e : dfF F = descF (TF F.1) (WF F.1) := if_pos hg
    rw [e] at h
    have hj := ((j_desc (T := TF F.1) (W := WF F.1) (n := F.1.length) (tkn_TF hv) 125).1 0) 0 [] [] 0 0
    cases hd : desc (TF F.1) (WF F.1) 125 0 0 (0, [], [], 0, 0, 0) with
    | none => rw [descF_n hd] at h; cases h
    | some σ =>
      obtain ⟨k, N', S', o, a, c⟩ := σ
      obtain ⟨h1, h2⟩ := hj _ (by omega) (by omega) (by omega) hd
      obtain ⟨⟨a1, a2⟩, a3, ⟨a4, a5, a6⟩, a7⟩ := h1
      have a4' : (0 : Int) + 1 ≤ S'.length := a4
      have a5' : (S'.length : Int) + 1 ≤ 0 + 2 * (k - 0) := a5
      by_cases h0 : TF F.1 k = 0
      · rw [descF_s hd h0] at h
        cases h
        have h24 := hg.2
        exact ⟨h2, by omega, by omega⟩
      · rw [descF_x hd h0] at h; cases h
  · have e : dfF F = none := if_neg hg
    rw [e] at h; cases h
/-- a sequential check without its stops -/
def totK (f : (Int → Int) → Int → Int) : Nat → Int → (Int → Int) → Int → Int
  | 0, _, K => K
  | n + 1, i, K => totK f n (i + 1) (kup K i (f K i))
theorem totK_low {f : (Int → Int) → Int → Int} : ∀ (n : Nat) (i : Int) (K : Int → Int) (j : Int), j < i → totK f n i K j = K j := by
  intro n
  induction n with
  | zero => intro i K j _; rfl
  | succ n ih =>
    intro i K j h
    show totK f n (i + 1) (kup K i (f K i)) j = K j
    rw [ih _ _ _ (by omega)]
    exact if_neg (by omega)
theorem totK_hi {f : (Int → Int) → Int → Int} : ∀ (n : Nat) (i : Int) (K : Int → Int) (j : Int), i + n ≤ j → totK f n i K j = K j := by
  intro n
  induction n with
  | zero => intro i K j _; rfl
  | succ n ih =>
    intro i K j h
    show totK f n (i + 1) (kup K i (f K i)) j = K j
    rw [ih _ _ _ (by omega)]
    exact if_neg (by omega)
theorem totK_val {f : (Int → Int) → Int → Int} : ∀ (n m : Nat) (i : Int) (K : Int → Int), m < n → totK f n i K (i + m) = f (totK f m i K) (i + m) := by
  intro n
  induction n with
  | zero => intro m i K h; omega
  | succ n ih =>
    intro m i K h
    cases m with
    | zero =>
      show totK f n (i + 1) (kup K i (f K i)) (i + (0 : Nat)) = f K (i + (0 : Nat))
      rw [show i + ((0 : Nat) : Int) = i by omega, totK_low _ _ _ _ (by omega)]
      exact if_pos rfl
    | succ m =>
      have := ih m (i + 1) (kup K i (f K i)) (by omega)
      rw [show i + 1 + (m : Int) = i + ((m + 1 : Nat) : Int) by omega] at this
      exact this
theorem totK_pre {f : (Int → Int) → Int → Int} : ∀ (n m : Nat) (i : Int) (K : Int → Int) (j : Int), m ≤ n → j < i + m → totK f m i K j = totK f n i K j := by
  intro n
  induction n with
  | zero => intro m i K j h _; rw [show m = 0 by omega]
  | succ n ih =>
    intro m i K j h hj
    cases m with
    | zero => rw [totK_low (n + 1) i K j (by omega)]; rfl
    | succ m => exact ih m (i + 1) _ j (by omega) (by omega)
theorem chkK_tot {f : (Int → Int) → Int → Int} : ∀ (n : Nat) (i : Int) (K : Int → Int), ((chkK f n i K).2 = true ↔ ∀ m : Nat, m < n → ¬ totK f n i K (i + m) = -1) ∧ ((chkK f n i K).2 = true → (chkK f n i K).1 = totK f n i K) := by
  intro n
  induction n with
  | zero => intro i K; exact ⟨⟨fun _ m h => absurd h (by omega), fun _ => rfl⟩, fun _ => rfl⟩
  | succ n ih =>
    intro i K
    have h0 : totK f (n + 1) i K (i + (0 : Nat)) = f K (i + (0 : Nat)) := totK_val (n + 1) 0 i K (by omega)
    rw [show i + ((0 : Nat) : Int) = i by omega] at h0
    by_cases h : f K i = -1
    · rw [chkK_no h]
      refine ⟨⟨fun h9 => (by cases h9), fun h9 => ?_⟩, fun h9 => (by cases h9)⟩
      have := h9 0 (by omega)
      rw [show i + ((0 : Nat) : Int) = i by omega, h0] at this
      exact absurd h this
    · rw [chkK_yes h]
      obtain ⟨h1, h2⟩ := ih (i + 1) (kup K i (f K i))
      refine ⟨h1.trans ⟨fun h9 m hm => ?_, fun h9 m hm => ?_⟩, h2⟩
      · cases m with
        | zero => rw [show i + ((0 : Nat) : Int) = i by omega, h0]; exact h
        | succ m =>
          have := h9 m (by omega)
          rw [show i + 1 + (m : Int) = i + ((m + 1 : Nat) : Int) by omega] at this
          exact this
      · have := h9 (m + 1) (by omega)
        rw [show i + 1 + (m : Int) = i + ((m + 1 : Nat) : Int) by omega]
        exact this
theorem cmN_tot {f : (Int → Int) → Int → Int} : ∀ (n : Nat) (i : Int) (K : Int → Int), ((cmN f n i K).2 = true ↔ ∀ m : Nat, m < n → 0 ≤ totK f n i K (i + m)) ∧ ((cmN f n i K).2 = true → (cmN f n i K).1 = totK f n i K) := by
  intro n
  induction n with
  | zero => intro i K; exact ⟨⟨fun _ m h => absurd h (by omega), fun _ => rfl⟩, fun _ => rfl⟩
  | succ n ih =>
    intro i K
    have h0 : totK f (n + 1) i K (i + (0 : Nat)) = f K (i + (0 : Nat)) := totK_val (n + 1) 0 i K (by omega)
    rw [show i + ((0 : Nat) : Int) = i by omega] at h0
    by_cases h : f K i < 0
    · have e : cmN f (n + 1) i K = (kup K i (f K i), false) := if_pos h
      rw [e]
      refine ⟨⟨fun h9 => (by cases h9), fun h9 => ?_⟩, fun h9 => (by cases h9)⟩
      have := h9 0 (by omega)
      rw [show i + ((0 : Nat) : Int) = i by omega, h0] at this
      exact absurd h (by omega)
    · have e : cmN f (n + 1) i K = cmN f n (i + 1) (kup K i (f K i)) := if_neg h
      rw [e]
      obtain ⟨h1, h2⟩ := ih (i + 1) (kup K i (f K i))
      refine ⟨h1.trans ⟨fun h9 m hm => ?_, fun h9 m hm => ?_⟩, h2⟩
      · cases m with
        | zero => rw [show i + ((0 : Nat) : Int) = i by omega, h0]; omega
        | succ m =>
          have := h9 m (by omega)
          rw [show i + 1 + (m : Int) = i + ((m + 1 : Nat) : Int) by omega] at this
          exact this
      · have := h9 (m + 1) (by omega)
        rw [show i + 1 + (m : Int) = i + ((m + 1 : Nat) : Int) by omega]
        exact this
/-- kinds of nodes, of steps: each from its operands -/
def fxN (M : Mem) (N : List ND) (T : Int → Int) : Prop := ∀ (n : Nat) (x : ND), N[n]? = some x → T n = kchk M x.1 (w32 x.2.2.2.2) (T x.2.1) (T x.2.2.1) (T x.2.2.2.1)
def fxS (M : Mem) (S : List SD) (T : Int → Int) : Prop := ∀ (p : Nat) (s : SD), S[p]? = some s → T p = kdS M s.1 (T s.2.1) s.2.2.1 (T s.2.2.1) (T s.2.2.2.1) s.2.2.2.2.1
theorem kchk_lo {M : Mem} {o v a b c a' b' c' : Int} (h : o < 8) : kchk M o v a b c = kchk M o v a' b' c' := by
  unfold kchk
  by_cases c1 : o = 1 ∨ o = 2 ∨ o = 3
  · rw [if_pos c1, if_pos c1]
  · rw [if_neg c1, if_neg c1, if_pos h, if_pos h]
theorem kchk_n65 {M : Mem} {o v a b c c' : Int} (h : ¬ o = 65) : kchk M o v a b c = kchk M o v a b c' := by
  unfold kchk
  rw [if_neg (c := o = 65) h, if_neg (c := o = 65) h]
theorem tc_oneA : ∀ n : Nat, n < 48 → 27 ≤ n → ¬ (n = 32 ∨ n = 33) → ¬ (tcode (n : Int) = 137 ∨ tcode (n : Int) = 143 ∨ tcode (n : Int) = 144 ∨ tcode (n : Int) = 142 ∨ tcode (n : Int) = 146 ∨ tcode (n : Int) = 141) := by decide +kernel
theorem tc_oneB : ∀ n : Nat, n < 48 → 27 ≤ n → ¬ (n = 32 ∨ n = 33) → ¬ (tcode (n : Int) = 147 ∨ tcode (n : Int) = 148 ∨ tcode (n : Int) = 126 ∨ tcode (n : Int) = 150) := by decide +kernel
theorem tc_oneC : ∀ n : Nat, n < 48 → 27 ≤ n → ¬ (n = 32 ∨ n = 33) → ¬ (tcode (n : Int) = 151 ∨ tcode (n : Int) = 152 ∨ tcode (n : Int) = 33) := by decide +kernel
theorem bdV_cs {t : Int} (h : 0 < bdV t) : t = 27 ∨ t = 28 ∨ t = 29 ∨ t = 30 ∨ t = 31 ∨ t = 34 ∨ t = 35 ∨ t = 36 ∨ t = 37 ∨ t = 38 ∨ t = 39 ∨ t = 40 ∨ t = 41 ∨ t = 42 ∨ t = 43 ∨ t = 44 ∨ t = 45 ∨ t = 46 ∨ t = 47 := by unfold bdV at h; grind (splits := 40)
theorem tc_one {t : Int} (h : 0 < bdV t) : ¬ oneC (tcode t) := by
  have h9 := bdV_cs h
  obtain ⟨n, rfl⟩ := Int.eq_ofNat_of_zero_le (show 0 ≤ t by omega)
  have h1 := tc_oneA n (by omega) (by omega) (by omega)
  have h2 := tc_oneB n (by omega) (by omega) (by omega)
  have h3 := tc_oneC n (by omega) (by omega) (by omega)
  unfold oneC
  omega
theorem kdS_one {M : Mem} {c a s b t own b' t' own' : Int} (h : oneC c) (h2 : ¬ c = 137) : kdS M c a s b t own = kdS M c a s b' t' own' := by
  unfold oneC at h
  rcases h with rfl | rfl | rfl | rfl | rfl | rfl | rfl | rfl | rfl | rfl | rfl | rfl | rfl
  · exact absurd rfl h2
  all_goals simp [kdS]
/-- the desk's total kinds are a fixpoint -/
theorem fxS_of {M : Mem} {e : Nat} {S : List SD} (hs : stp e M S) (hok : ∀ p : Nat, p < S.length → ∃ s, S[p]? = some s ∧ sOK p S.length s) : fxS M S (totK (kstK M e) S.length 0 (fun j => M (25 + 9 * e) j)) := by
  intro p s hp
  obtain ⟨c1, c2, c3, c4, c5⟩ := hs.2 p s hp
  have hpl : p < S.length := (List.getElem?_eq_some_iff.mp hp).1
  obtain ⟨s', hp', hk⟩ := hok p hpl
  rw [hp] at hp'; cases hp'
  have hv := totK_val (f := kstK M e) S.length p 0 (fun j => M (25 + 9 * e) j) hpl
  rw [show (0 : Int) + (p : Int) = p by omega] at hv
  have hpre := fun j (hj : j < (p : Int)) => totK_pre (f := kstK M e) S.length p 0 (fun j => M (25 + 9 * e) j) j (by omega) (by omega)
  have hhi : totK (kstK M e) p 0 (fun j => M (25 + 9 * e) j) p = M (25 + 9 * e) p := totK_hi (f := kstK M e) p 0 (fun j => M (25 + 9 * e) j) p (by omega)
  generalize totK (kstK M e) p 0 (fun j => M (25 + 9 * e) j) = K1 at hv hpre hhi
  generalize totK (kstK M e) S.length 0 (fun j => M (25 + 9 * e) j) = T at hv hpre ⊢
  rw [hv]
  unfold kstK
  rw [c1, c2, c3, c4]
  have hone : oneC s.1 → ¬ s.1 = 137 → s.2.1 < (p : Int) → kdS M s.1 (K1 s.2.1) s.2.2.1 (K1 s.2.2.1) (K1 s.2.2.2.1) (K1 p) = kdS M s.1 (T s.2.1) s.2.2.1 (T s.2.2.1) (T s.2.2.2.1) s.2.2.2.2.1 := fun h1 h2 h3 => by
    rw [hpre _ h3]; exact kdS_one h1 h2
  rcases hk with ⟨k1, k2, k3⟩ | ⟨k1, k2⟩ | ⟨k1, k2⟩ | ⟨k1, k2, k3⟩ | ⟨k1, k2, k3, k4⟩ | ⟨k1, k2, k3⟩
  · rw [kdS_con k1, kdS_con k1, hhi]; exact (c5 k1).1
  · rw [kdS_var k1, kdS_var k1]
  · have ho : oneC s.1 ∧ ¬ s.1 = 137 := by
      rcases k1 with k1 | k1 | k1 | k1 | k1 | ⟨t, ht, k1, -⟩
      · exact ⟨by unfold oneC; omega, by omega⟩
      · exact ⟨by unfold oneC; omega, by omega⟩
      · exact ⟨by unfold oneC; omega, by omega⟩
      · exact ⟨by unfold oneC; omega, by omega⟩
      · exact ⟨by unfold oneC; omega, by omega⟩
      · have := uc_one ht; rw [k1]; exact ⟨this.1, this.2.2.1⟩
    exact hone ho.1 ho.2 k2.2
  · exact hone (by unfold oneC; omega) (by omega) k2.2
  · rw [kdS_cho k1, kdS_cho k1, hpre _ k3.2, hpre _ k4.2]
  · have h9 : ¬ oneC s.1 ∧ ¬ s.1 = 149 := by
      rcases k1 with k1 | ⟨t, ht, k1⟩
      · exact ⟨by unfold oneC; omega, by omega⟩
      · rw [k1]; exact ⟨tc_one ht, (tc_149 ht).1⟩
    rw [kdS_two h9.1 h9.2, kdS_two h9.1 h9.2, hpre _ k2.2, hpre _ k3.2]
/-- the model's total kinds are a fixpoint -/
theorem fxN_of {M : Mem} {N : List ND} (hk : ndk M N) (ha : allN N) : fxN M N (totK (kcF M) N.length 0 (fun j => M 81 j)) := by
  intro n x hx
  have hnl : n < N.length := (List.getElem?_eq_some_iff.mp hx).1
  obtain ⟨k1, k2, k3, k4, k5⟩ := hk n hnl
  rw [List.getD_eq_getElem?_getD, hx, Option.getD_some] at k1 k2 k3 k4 k5
  obtain ⟨g1, g2, g3, g4, g5, g6, g7⟩ := ha n x hx
  have hv := totK_val (f := kcF M) N.length n 0 (fun j => M 81 j) hnl
  rw [show (0 : Int) + (n : Int) = n by omega] at hv
  have hpre := fun j (hj : j < (n : Int)) => totK_pre (f := kcF M) N.length n 0 (fun j => M 81 j) j (by omega) (by omega)
  generalize totK (kcF M) n 0 (fun j => M 81 j) = K1 at hv hpre
  generalize totK (kcF M) N.length 0 (fun j => M 81 j) = T at hv hpre ⊢
  rw [hv]
  unfold kcF
  rw [k1, k2, k3, k4, k5]
  by_cases h8 : x.1 < 8
  · exact kchk_lo h8
  · have g9 := g2 (by omega)
    rw [hpre _ g9.1.2, hpre _ g9.2]
    by_cases h65 : x.1 = 65
    · rw [hpre _ (g4 h65).2]
    · exact kchk_n65 h65
