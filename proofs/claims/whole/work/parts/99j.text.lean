section LC
variable {f g : Int → Int}
theorem runE_cg (p : Int → Bool) (h : ∀ j, 0 ≤ j → f j = g j) : ∀ (n : Nat) (k : Int), 0 ≤ k → runE p f n k = runE p g n k := by
  intro n
  induction n with
  | zero => intro k _; rfl
  | succ n ih =>
    intro k h0
    unfold runE
    rw [h k h0, ih (k + 1) (by omega)]
theorem wvE_cg (h : ∀ j, 0 ≤ j → f j = g j) : ∀ (n : Nat) (k v : Int), 0 ≤ k → wvE f n k v = wvE g n k v := by
  intro n
  induction n with
  | zero => intro k v _; rfl
  | succ n ih =>
    intro k v h0
    unfold wvE
    rw [h k h0, ih (k + 1) _ (by omega)]
theorem nvE_cg (h : ∀ j, 0 ≤ j → f j = g j) {a : Int} (ha : 0 ≤ a) : ∀ (n : Nat), nvE f a n = nvE g a n := by
  intro n
  induction n with
  | zero => rfl
  | succ n ih =>
    unfold nvE
    rw [ih, h (a + n) (by omega)]
theorem tok1_cg (h : ∀ j, 0 ≤ j → f j = g j) {k : Int} (hk : 0 ≤ k) : tok1 f k = tok1 g k := by
  have r1 := runE_cg letB h (40 - k).toNat k hk
  have r2 := runE_cg digB h (40 - k).toNat k hk
  have le := (@runE_le digB g (40 - k).toNat k).1
  have e1 : wordT f k = wordT g k := by
    unfold wordT; rw [r1, wvE_cg h _ k 0 hk, h k hk]
  have e2 : numT f k = numT g k := by
    unfold numT numE
    rw [r2, nvE_cg h hk]
    unfold numT1
    rw [h _ (by omega), h (runE digB g (40 - k).toNat k + 1) (by omega)]
  have e3 : chrT f k = chrT g k := by
    unfold chrT; rw [h (k + 1) (by omega), h (k + 2) (by omega)]
  have e4 : signT f k = signT g k := by
    unfold signT; rw [h k hk, h (k + 1) (by omega), h (k + 2) (by omega)]
  unfold tok1
  rw [e1, e2, e3, e4, h k hk]
theorem lexL_cg (h : ∀ j, 0 ≤ j → f j = g j) {len : Int} (hlen : len ≤ 40) : ∀ (n : Nat) (k : Int) (L : List (Int × Int)), 0 ≤ k → lexL f len n k L = lexL g len n k L := by
  intro n
  induction n with
  | zero => intro k L _; rfl
  | succ n ih =>
    intro k L hk
    unfold lexL
    rw [h k hk, tok1_cg h hk]
    by_cases h1 : k < len
    · rw [if_pos h1, if_pos h1]
      by_cases h2 : g k = 32
      · rw [if_pos h2, if_pos h2, ih (k + 1) L (by omega)]
      · rw [if_neg h2, if_neg h2]
        have := tok1_end (f := g) (k := k) (by omega) hk
        by_cases h3 : (tok1 g k).2.2.2 = 0
        · rw [if_pos h3, if_pos h3, ih _ _ (by omega)]
        · rw [if_neg h3, if_neg h3]
    · rw [if_neg h1, if_neg h1]
end LC
theorem lexF_cg {M M2 : Mem} {e : Int} (hl : M 64 e ≤ 40) (h64 : M2 64 e = M 64 e) (h63 : ∀ k, 0 ≤ k → k < M 64 e → M2 63 (40 * e + k) = M 63 (40 * e + k)) : lexF M2 e = lexF M e := by
  unfold lexF
  rw [h64]
  refine lexL_cg (fun j hj => ?_) hl 41 0 [] (Int.le_refl _)
  unfold txM
  rw [h64]
  by_cases h : j < M 64 e
  · rw [if_pos h, if_pos h, h63 j hj h]
  · rw [if_neg h, if_neg h]
