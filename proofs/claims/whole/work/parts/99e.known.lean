theorem iand_1 (x : Int) : o_iand x 1 = x % 2 := by
  have h2 : (Int32.ofInt x).toBitVec.toNat = (x % ((2 ^ 32 : Nat) : Int)).toNat := BitVec.toNat_ofInt ..
  have e : ((Int32.ofInt x) &&& (Int32.ofInt 1)).toBitVec.toNat = (x % ((2 ^ 32 : Nat) : Int)).toNat % 2 ^ 1 := by
    rw [Int32.toBitVec_and, BitVec.toNat_and, h2, show (Int32.ofInt 1).toBitVec.toNat = 2 ^ 1 - 1 from rfl, Nat.and_two_pow_sub_one_eq_mod]
  have e2 : o_iand x 1 = ((((Int32.ofInt x) &&& (Int32.ofInt 1)).toBitVec.toNat : Nat) : Int) := by
    show BitVec.toInt _ = _
    exact BitVec.toInt_eq_toNat_of_lt (by rw [e]; omega)
  rw [e] at e2
  omega
/-- rows of bits, and what is known on the other side -/
def KB (M : Mem) : Prop := (∀ j, 0 ≤ j → j < 13 → 0 ≤ M 10 j ∧ M 10 j < 268435456) ∧ ∀ k, 0 ≤ k → k < 423 → M 71 k = 0 ∨ M 71 k = 1
def KR (M : Mem) : Prop := ∀ p, vpD M p → (kbD M p = 1 ↔ ¬ M 71 (pcD M p) = 0)
def KC (M : Mem) : Prop := ((kcS M 13 : Nat) : Int) = cntM M 423
theorem kb_e {M : Mem} {p : Int} {n b : Nat} (hn : M 10 (p / 28) = (n : Int)) (h28 : n < 268435456) (hb : p % 28 = (b : Int)) (h : b < 28) : kbD M p = ((n / 2 ^ b % 2 : Nat) : Int) := by
  unfold kbD
  rw [hn, hb, ishr_w _ b (by omega), iand_1, w32_id (by omega), Int.shiftRight_eq_div_pow]
  rfl
theorem kb_test {M : Mem} {p : Int} {n b : Nat} (hn : M 10 (p / 28) = (n : Int)) (h28 : n < 268435456) (hb : p % 28 = (b : Int)) (h : b < 28) : kbD M p = 1 ↔ Nat.testBit n b = true := by
  rw [kb_e hn h28 hb h, Nat.testBit_eq_decide_div_mod_eq, decide_eq_true_iff]
  omega
theorem kb_row {M : Mem} (h : KB M) {p : Int} (hp : 0 ≤ p ∧ p < 364) : ∃ n b : Nat, M 10 (p / 28) = (n : Int) ∧ n < 268435456 ∧ p % 28 = (b : Int) ∧ b < 28 := by
  have := h.1 (p / 28) (by omega) (by omega)
  exact ⟨(M 10 (p / 28)).toNat, (p % 28).toNat, by omega, by omega, by omega, by omega⟩
theorem learn_row {M : Mem} (h : KB M) {p : Int} {n b : Nat} (hn : M 10 (p / 28) = (n : Int)) (h28 : n < 268435456) (hb : p % 28 = (b : Int)) (hb28 : b < 28) : learnD M p = mset M 10 (p / 28) ((n ||| 2 ^ b : Nat) : Int) ∧ n ||| 2 ^ b < 268435456 := by
  have hb2 : 2 ^ b < 268435456 := Nat.pow_lt_pow_right (a := 2) (by decide) hb28
  have e : o_ishl 1 (b : Int) = ((2 ^ b : Nat) : Int) := by
    rw [ishl_w 1 b (by omega), Int.one_mul]
    have hx : ∀ m : Nat, m < 268435456 → w32 (m : Int) = m := fun m hm => w32_id (by omega)
    exact hx _ hb2
  refine ⟨?_, Nat.or_lt_two_pow (n := 28) h28 hb2⟩
  unfold learnD
  rw [hn, hb, e, ior_n (by omega) (by omega)]
theorem learn_kb {M : Mem} (h : KB M) {p p' : Int} (hp : 0 ≤ p ∧ p < 364) (hp' : 0 ≤ p' ∧ p' < 364) : kbD (learnD M p) p' = 1 ↔ p' = p ∨ kbD M p' = 1 := by
  obtain ⟨n, b, h1, h2, h3, h4⟩ := kb_row h hp
  obtain ⟨n', b', k1, k2, k3, k4⟩ := kb_row h hp'
  obtain ⟨l1, l2⟩ := learn_row h h1 h2 h3 h4
  by_cases hr : p' / 28 = p / 28
  · rw [kb_test (n := n ||| 2 ^ b) (b := b') (by rw [l1, hr]; exact mset_eq rfl) l2 k3 k4, kb_test (n := n) (b := b') (by rw [hr]; exact h1) h2 k3 k4, Nat.testBit_or, Nat.testBit_two_pow, Bool.or_eq_true, decide_eq_true_iff]
    constructor
    · rintro (h9 | h9)
      · exact Or.inr h9
      · exact Or.inl (by omega)
    · rintro (h9 | h9)
      · exact Or.inr (by subst h9; omega)
      · exact Or.inl h9
  · rw [kb_test (n := n') (b := b') (by rw [l1, mset_ni hr]; exact k1) k2 k3 k4, kb_test k1 k2 k3 k4]
    exact ⟨Or.inr, fun h9 => h9.elim (fun h8 => absurd (by rw [h8]) hr) id⟩
theorem learn_fr {M : Mem} {p : Int} {c : Nat} (hc : ¬ c = 10) : learnD M p c = M c := by
  funext i; exact mset_ne hc
theorem learn_KB {M : Mem} (h : KB M) {p : Int} (hp : 0 ≤ p ∧ p < 364) : KB (learnD M p) := by
  obtain ⟨n, b, h1, h2, h3, h4⟩ := kb_row h hp
  obtain ⟨l1, l2⟩ := learn_row h h1 h2 h3 h4
  refine ⟨fun j h0 h9 => ?_, fun k h0 h9 => by rw [learn_fr (by decide)]; exact h.2 k h0 h9⟩
  rw [l1]
  by_cases hj : j = p / 28
  · rw [mset_eq hj]; omega
  · rw [mset_ni hj]; exact h.1 j h0 h9
theorem kcS_set {M M' : Mem} {j : Nat} {d : Nat} (h : ∀ i : Int, i ≠ j → M' 10 i = M 10 i) (hd : pcn 32 (M' 10 j).toNat = pcn 32 (M 10 j).toNat + d) : ∀ n : Nat, (n ≤ j → kcS M' n = kcS M n) ∧ (j < n → kcS M' n = kcS M n + d) := by
  intro n
  induction n with
  | zero => exact ⟨fun _ => rfl, fun h => absurd h (by omega)⟩
  | succ n ih =>
    unfold kcS
    by_cases hn : n = j
    · subst hn
      refine ⟨fun h9 => by omega, fun _ => ?_⟩
      rw [ih.1 (Nat.le_refl _), hd]; omega
    · rw [h n (by omega)]
      refine ⟨fun h9 => by rw [ih.1 (by omega)], fun h9 => ?_⟩
      rw [ih.2 (by omega)]; omega
theorem learn_kcS {M : Mem} (h : KB M) {p : Int} (hp : 0 ≤ p ∧ p < 364) : kcS (learnD M p) 13 = if kbD M p = 1 then kcS M 13 else kcS M 13 + 1 := by
  obtain ⟨n, b, h1, h2, h3, h4⟩ := kb_row h hp
  obtain ⟨l1, l2⟩ := learn_row h h1 h2 h3 h4
  have hj : ((p / 28).toNat : Int) = p / 28 := by omega
  have hj13 : (p / 28).toNat < 13 := by omega
  have hM : ∀ i : Int, i ≠ ((p / 28).toNat : Int) → learnD M p 10 i = M 10 i := fun i hi => by rw [l1, mset_ni (by omega)]
  have hv : learnD M p 10 ((p / 28).toNat : Int) = ((n ||| 2 ^ b : Nat) : Int) := by rw [l1, hj]; exact mset_eq rfl
  by_cases hk : kbD M p = 1
  · rw [if_pos hk]
    have ht := (kb_test h1 h2 h3 h4).mp hk
    have e : n ||| 2 ^ b = n := by
      apply Nat.eq_of_testBit_eq
      intro i
      rw [Nat.testBit_or, Nat.testBit_two_pow]
      by_cases hi : b = i
      · rw [← hi, ht]; simp
      · simp [hi]
    have := (kcS_set (M := M) (M' := learnD M p) (d := 0) hM (by rw [hv, e, hj, h1]; exact (Nat.add_zero _).symm) 13).2 hj13
    omega
  · rw [if_neg hk]
    have ht : n / 2 ^ b % 2 = 0 := by
      have := kb_e h1 h2 h3 h4
      have : ¬ ((n / 2 ^ b % 2 : Nat) : Int) = 1 := by rw [← this]; exact hk
      omega
    exact (kcS_set (M := M) (M' := learnD M p) (d := 1) hM (by rw [hv, or_add b n ht, hj, h1, Int.toNat_natCast, Int.toNat_natCast]; exact pcn_add b 32 n (by omega) ht) 13).2 hj13
theorem cnt_set {M M' : Mem} {q : Int} (h0 : 0 ≤ q) (h : ∀ i : Int, i ≠ q → M' 71 i = M 71 i) (h1 : ¬ M' 71 q = 0) : ∀ n : Nat, (n ≤ q → cntM M' n = cntM M n) ∧ (q < n → cntM M' n = cntM M n + if M 71 q = 0 then 1 else 0) := by
  intro n
  induction n with
  | zero => exact ⟨fun _ => rfl, fun h => absurd h (by omega)⟩
  | succ n ih =>
    unfold cntM
    by_cases hn : (n : Int) = q
    · subst hn
      refine ⟨fun h9 => by omega, fun _ => ?_⟩
      rw [ih.1 (Int.le_refl _), if_pos h1]
      by_cases h8 : M 71 n = 0
      · rw [if_pos h8, if_neg (fun h7 => h7 h8)]; omega
      · rw [if_neg h8, if_pos h8]; omega
    · rw [h n hn]
      refine ⟨fun h9 => by rw [ih.1 (by omega)], fun h9 => ?_⟩
      rw [ih.2 (by omega)]; omega
theorem kcS_0 {M : Mem} (h : ∀ j : Int, 0 ≤ j → j < 13 → M 10 j = 0) : ∀ n : Nat, n ≤ 13 → kcS M n = 0 := by
  intro n
  induction n with
  | zero => intro _; rfl
  | succ n ih =>
    intro hn
    unfold kcS
    rw [ih (by omega), h n (by omega) (by omega)]
    exact (Nat.zero_add _).trans (pcn_0 32)
theorem cnt_0 {M : Mem} (h : ∀ j : Int, 0 ≤ j → j < 423 → M 71 j = 0) : ∀ n : Nat, n ≤ 423 → cntM M n = 0 := by
  intro n
  induction n with
  | zero => intro _; rfl
  | succ n ih =>
    intro hn
    unfold cntM
    rw [ih (by omega), h n (by omega) (by omega), if_neg (fun h9 => h9 rfl)]
    rfl
theorem kb_0 {M : Mem} (h : ∀ j : Int, 0 ≤ j → j < 13 → M 10 j = 0) {p : Int} (hp : 0 ≤ p ∧ p < 364) : kbD M p = 0 := by
  have e := kb_e (M := M) (p := p) (n := 0) (b := (p % 28).toNat) (h _ (by omega) (by omega)) (by decide) (by omega) (by omega)
  rw [e, Nat.zero_div]
  rfl
/-- nothing is known -/
def noK (M : Mem) : Prop := (∀ j, 0 ≤ j → j < 13 → M 10 j = 0) ∧ ∀ k, 0 ≤ k → k < 423 → M 71 k = 0
theorem noK_all {M : Mem} (h : noK M) : KB M ∧ KR M ∧ KC M := by
  refine ⟨⟨fun j h0 h1 => by rw [h.1 j h0 h1]; omega, fun k h0 h1 => Or.inl (h.2 k h0 h1)⟩, fun p hp => ?_, ?_⟩
  · have hr := pcD_rng hp
    rw [kb_0 h.1 hp.1, h.2 _ hr.1 hr.2]
    exact ⟨fun h9 => absurd h9 (by decide), fun h9 => absurd rfl h9⟩
  · unfold KC
    rw [kcS_0 h.1 13 (Nat.le_refl _), cnt_0 h.2 423 (Nat.le_refl _)]
    rfl
