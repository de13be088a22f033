theorem kd_b27 {M : Mem} {a b c v : Int} (ha : 0 ≤ a) (hb : 0 ≤ b) : twoD M 43 a b = kchk M 27 v a b c := by
  simp [twoD, kchk, coD, comV, abB] <;> grind
theorem kd_b28 {M : Mem} {a b c v : Int} (ha : 0 ≤ a) (hb : 0 ≤ b) : twoD M 45 a b = kchk M 28 v a b c := by
  simp [twoD, kchk, coD, comV, abB] <;> grind
theorem kd_b29 {M : Mem} {a b c v : Int} (ha : 0 ≤ a) (hb : 0 ≤ b) : twoD M 42 a b = kchk M 29 v a b c := by
  simp [twoD, kchk, coD, comV, abB] <;> grind
theorem kd_b30 {M : Mem} {a b c v : Int} (ha : 0 ≤ a) (hb : 0 ≤ b) : twoD M 47 a b = kchk M 30 v a b c := by
  simp [twoD, kchk, coD, comV, abB] <;> grind
theorem kd_b31 {M : Mem} {a b c v : Int} (ha : 0 ≤ a) (hb : 0 ≤ b) : twoD M 37 a b = kchk M 31 v a b c := by
  simp [twoD, kchk, coD, comV, abB] <;> grind
theorem kd_b34 {M : Mem} {a b c v : Int} (ha : 0 ≤ a) (hb : 0 ≤ b) : twoD M 60 a b = kchk M 34 v a b c := by
  simp [twoD, kchk, coD, comV, abB] <;> grind
theorem kd_b35 {M : Mem} {a b c v : Int} (ha : 0 ≤ a) (hb : 0 ≤ b) : twoD M 128 a b = kchk M 35 v a b c := by
  simp [twoD, kchk, coD, comV, abB] <;> grind
theorem kd_b36 {M : Mem} {a b c v : Int} (ha : 0 ≤ a) (hb : 0 ≤ b) : twoD M 62 a b = kchk M 36 v a b c := by
  simp [twoD, kchk, coD, comV, abB] <;> grind
theorem kd_b37 {M : Mem} {a b c v : Int} (ha : 0 ≤ a) (hb : 0 ≤ b) : twoD M 129 a b = kchk M 37 v a b c := by
  simp [twoD, kchk, coD, comV, abB] <;> grind
theorem kd_b38 {M : Mem} {a b c v : Int} (ha : 0 ≤ a) (hb : 0 ≤ b) : twoD M 130 a b = kchk M 38 v a b c := by
  simp [twoD, kchk, coD, comV, abB] <;> grind
theorem kd_b39 {M : Mem} {a b c v : Int} (ha : 0 ≤ a) (hb : 0 ≤ b) : twoD M 131 a b = kchk M 39 v a b c := by
  simp [twoD, kchk, coD, comV, abB] <;> grind
theorem kd_b40 {M : Mem} {a b c v : Int} (ha : 0 ≤ a) (hb : 0 ≤ b) : twoD M 132 a b = kchk M 40 v a b c := by
  simp [twoD, kchk, coD, comV, abB] <;> grind
theorem kd_b41 {M : Mem} {a b c v : Int} (ha : 0 ≤ a) (hb : 0 ≤ b) : twoD M 133 a b = kchk M 41 v a b c := by
  simp [twoD, kchk, coD, comV, abB] <;> grind
theorem kd_b42 {M : Mem} {a b c v : Int} (ha : 0 ≤ a) (hb : 0 ≤ b) : twoD M 134 a b = kchk M 42 v a b c := by
  simp [twoD, kchk, coD, comV, abB] <;> grind
theorem kd_b43 {M : Mem} {a b c v : Int} (ha : 0 ≤ a) (hb : 0 ≤ b) : twoD M 38 a b = kchk M 43 v a b c := by
  simp [twoD, kchk, coD, comV, abB] <;> grind
theorem kd_b44 {M : Mem} {a b c v : Int} (ha : 0 ≤ a) (hb : 0 ≤ b) : twoD M 135 a b = kchk M 44 v a b c := by
  simp [twoD, kchk, coD, comV, abB] <;> grind
theorem kd_b45 {M : Mem} {a b c v : Int} (ha : 0 ≤ a) (hb : 0 ≤ b) : twoD M 124 a b = kchk M 45 v a b c := by
  simp [twoD, kchk, coD, comV, abB] <;> grind
theorem kd_b46 {M : Mem} {a b c v : Int} (ha : 0 ≤ a) (hb : 0 ≤ b) : twoD M 136 a b = kchk M 46 v a b c := by
  simp [twoD, kchk, coD, comV, abB] <;> grind
theorem kd_b47 {M : Mem} {a b c v : Int} (ha : 0 ≤ a) (hb : 0 ≤ b) : twoD M 94 a b = kchk M 47 v a b c := by
  simp [twoD, kchk, coD, comV, abB] <;> grind
theorem kd_bin {M : Mem} {t a b c s t3 own v : Int} (h : 0 < bdV t) (ha : 0 ≤ a) (hb : 0 ≤ b) : kdS M (tcode t) a s b t3 own = kchk M t v a b c := by
  rw [kdS_two (tc_one h) (tc_149 h).1]
  rcases bdV_cs h with rfl | rfl | rfl | rfl | rfl | rfl | rfl | rfl | rfl | rfl | rfl | rfl | rfl | rfl | rfl | rfl | rfl | rfl | rfl
  · exact kd_b27 ha hb
  · exact kd_b28 ha hb
  · exact kd_b29 ha hb
  · exact kd_b30 ha hb
  · exact kd_b31 ha hb
  · exact kd_b34 ha hb
  · exact kd_b35 ha hb
  · exact kd_b36 ha hb
  · exact kd_b37 ha hb
  · exact kd_b38 ha hb
  · exact kd_b39 ha hb
  · exact kd_b40 ha hb
  · exact kd_b41 ha hb
  · exact kd_b42 ha hb
  · exact kd_b43 ha hb
  · exact kd_b44 ha hb
  · exact kd_b45 ha hb
  · exact kd_b46 ha hb
  · exact kd_b47 ha hb
theorem kd_field {M : Mem} {a b b' c t3 own v : Int} (hv : 0 ≤ v ∧ v < 26) : kdS M 144 a v b t3 own = kchk M 60 v a b' c := by
  rw [kdS_fld rfl]
  simp [fkD, kchk]
  by_cases h : 4 ≤ a ∧ a < 10
  · rw [if_pos h, if_pos (by omega)]
  · rw [if_neg h, if_neg (by omega)]
theorem kd_len {M : Mem} {a b b' c t3 own s v : Int} : kdS M 142 a s b t3 own = kchk M 61 v a b' c := by
  rw [kdS_len rfl]
  simp [arB, kchk]
  by_cases h : 10 ≤ a ∧ a < 17
  · rw [if_pos h, if_pos (by omega)]
  · rw [if_neg h, if_neg (by omega)]
theorem kd_ins {M : Mem} {a b b' c t3 own v : Int} (hv : 0 ≤ v ∧ v < 6) (hn : 0 ≤ M 55 0 ∧ M 55 0 ≤ 6) : kdS M 141 a (4 + v) b t3 own = kchk M 63 v a b' c := by
  rw [kdS_ins rfl]
  have e : kchk M 63 v a b' c = if (0 ≤ v ∧ v < M 55 0) ∧ relB M a (4 + v) = true then 3 else -1 := by simp [kchk]
  rw [e]
  by_cases h : v < M 55 0
  · have h1 : isKindB (M 55 0) (4 + v) = true := isKindB_t.mpr (by omega)
    by_cases h2 : relB M a (4 + v) = true
    · rw [if_pos ⟨h1, h2⟩, if_pos ⟨⟨hv.1, h⟩, h2⟩]
    · rw [if_neg (fun h9 => h2 h9.2), if_neg (fun h9 => h2 h9.2)]
  · rw [if_neg (fun h9 => by have := isKindB_t.mp h9.1; omega), if_neg (fun h9 => h h9.1.2)]
theorem kd_cast {M : Mem} {a b b' c t3 own v : Int} (ha : 0 ≤ a) (hv : 0 ≤ v ∧ v < 17) : kdS M 146 a v b t3 own = kchk M 64 v a b' c := by
  rw [kdS_cst rfl]
  have e : kchk M 64 v a b' c = if isKindB (M 55 0) v = true ∧ ((a < 3 ∧ v < 3) ∨ (a = 3 ∧ v = 3) ∨ relB M a v = true) then v else -1 := by simp [kchk]
  rw [e]
  have h9 : canC M a v = true ↔ isKindB (M 55 0) v = true ∧ ((a < 3 ∧ v < 3) ∨ (a = 3 ∧ v = 3) ∨ relB M a v = true) := by
    unfold canC nuB abB
    rw [Bool.or_eq_true, Bool.or_eq_true, Bool.and_eq_true, Bool.and_eq_true, decide_eq_true_iff, decide_eq_true_iff, decide_eq_true_iff]
    constructor
    · rintro ((h | h) | h)
      · exact ⟨isKindB_t.mpr (by omega), Or.inl (by omega)⟩
      · exact ⟨isKindB_t.mpr (by omega), Or.inr (Or.inl h)⟩
      · exact ⟨h.1, Or.inr (Or.inr h.2)⟩
    · rintro ⟨h, h1 | h1 | h1⟩
      · exact Or.inl (Or.inl (by omega))
      · exact Or.inl (Or.inr h1)
      · exact Or.inr ⟨h, h1⟩
  by_cases h : canC M a v = true
  · rw [if_pos h, if_pos (h9.mp h)]
  · rw [if_neg h, if_neg (fun h8 => h (h9.mpr h8))]
theorem kd_una {M : Mem} {a b b' c s t t3 own v : Int} (ha : 0 ≤ a) (ht : t = 27 ∨ t = 28 ∨ t = 32 ∨ t = 33) : kdS M (ucode t) a s b t3 own = kchk M (100 + t) v a b' c := by
  rcases ht with rfl | rfl | rfl | rfl
  · rw [show ucode 27 = 147 from rfl, kdS_una (Or.inl rfl)]; simp [kchk, coD, comV] <;> grind
  · rw [show ucode 28 = 148 from rfl, kdS_una (Or.inr (Or.inl rfl))]; simp [kchk, coD, comV] <;> grind
  · rw [show ucode 32 = 126 from rfl, kdS_una (Or.inr (Or.inr rfl))]; simp [kchk, coD, comV] <;> grind
  · rw [show ucode 33 = 33 from rfl, kdS_sk (Or.inr (Or.inr (Or.inr rfl)))]; simp [kchk]
theorem kd_idx {M : Mem} {a b c s t3 own v : Int} : kdS M 145 a s b t3 own = kchk M 62 v a b c := by
  rw [kdS_two (by unfold oneC; decide) (by decide)]
  have e : kchk M 62 v a b c = if (10 ≤ a ∧ a < 17) ∧ (b = 0 ∨ b = 2) then elemM a else -1 := by simp [kchk]
  have e2 : twoD M 145 a b = kelD a b := by simp [twoD]
  rw [e, e2]
  unfold kelD arB
  by_cases h : (10 ≤ a ∧ a < 17) ∧ (b = 0 ∨ b = 2)
  · rw [if_pos h, if_pos ⟨decide_eq_true (by omega), h.2⟩, elD_e]
  · rw [if_neg h, if_neg (fun h9 => h ⟨by have := of_decide_eq_true h9.1; omega, h9.2⟩)]
theorem kd_cho {M : Mem} {b c : Int} (hb : 0 ≤ b) (hc : 0 ≤ c) : choD M b c = eithV M b c := by
  unfold choD eithV
  by_cases h : b = c
  · rw [if_pos h, if_pos h]
  rw [if_neg h, if_neg h]
  by_cases h2 : relB M b c = true
  · have h3 := (rel_e.mp h2).1
    rw [if_pos h2, if_neg (show ¬ (b < 3 ∧ c < 3) by omega), if_pos h2]
  · rw [if_neg h2, if_neg h2]
    unfold coD comV
    by_cases h4 : b < 3 ∧ c < 3
    · rw [if_pos h4, if_neg (by omega)]
    · rw [if_neg h4, if_pos (by omega)]
def gdN (T : Int → Int) (i j : Nat) : Prop := ∀ n : Nat, i ≤ n → n < j → 0 ≤ T n
def gdS (T : Int → Int) (a b : Nat) : Prop := ∀ p : Nat, a ≤ p → p < b → ¬ T p = -1
theorem gdN_s {T : Int → Int} {i j : Nat} (h : i ≤ j) : gdN T i (j + 1) ↔ gdN T i j ∧ 0 ≤ T j :=
  ⟨fun h9 => ⟨fun n h1 h2 => h9 n h1 (by omega), h9 j h (by omega)⟩, fun h9 n h1 h2 => by
    by_cases e : n = j
    · subst e; exact h9.2
    · exact h9.1 n h1 (by omega)⟩
theorem gdN_a {T : Int → Int} {i m j : Nat} (h : i ≤ m) (h' : m ≤ j) : gdN T i j ↔ gdN T i m ∧ gdN T m j :=
  ⟨fun h9 => ⟨fun n h1 h2 => h9 n h1 (by omega), fun n h1 h2 => h9 n (by omega) h2⟩, fun h9 n h1 h2 => by
    by_cases e : n < m
    · exact h9.1 n h1 e
    · exact h9.2 n (by omega) h2⟩
theorem gdS_s {T : Int → Int} {a b : Nat} (h : a ≤ b) : gdS T a (b + 1) ↔ gdS T a b ∧ ¬ T b = -1 :=
  ⟨fun h9 => ⟨fun n h1 h2 => h9 n h1 (by omega), h9 b h (by omega)⟩, fun h9 n h1 h2 => by
    by_cases e : n = b
    · subst e; exact h9.2
    · exact h9.1 n h1 (by omega)⟩
theorem gdS_a {T : Int → Int} {a q b : Nat} (h : a ≤ q) (h' : q ≤ b) : gdS T a b ↔ gdS T a q ∧ gdS T q b :=
  ⟨fun h9 => ⟨fun n h1 h2 => h9 n h1 (by omega), fun n h1 h2 => h9 n (by omega) h2⟩, fun h9 n h1 h2 => by
    by_cases e : n < q
    · exact h9.1 n h1 e
    · exact h9.2 n (by omega) h2⟩
theorem gdS_0 {T : Int → Int} {a : Nat} : gdS T a a := fun n h1 h2 => absurd h1 (by omega)
theorem gdN_0 {T : Int → Int} {a : Nat} : gdN T a a := fun n h1 h2 => absurd h1 (by omega)
/-- what the comparison of kinds gives for a range -/
def kdQ (TN TS : Int → Int) (i j a b : Nat) : Prop := (gdN TN i j ↔ gdS TS a b) ∧ (gdN TN i j → TN ((j : Int) - 1) = TS ((b : Int) - 1) ∧ 0 ≤ TN ((j : Int) - 1) ∧ TN ((j : Int) - 1) < 18)
theorem kdQ_end {TN TS : Int → Int} {i j a b : Nat} (h0 : i ≤ j) (h1 : a ≤ b) (h : gdN TN i j ↔ gdS TS a b) (h2 : gdN TN i j → TN j = TS b ∧ -1 ≤ TN j ∧ TN j < 18) : kdQ TN TS i (j + 1) a (b + 1) := by
  have e1 : ((j + 1 : Nat) : Int) - 1 = (j : Int) := by omega
  have e2 : ((b + 1 : Nat) : Int) - 1 = (b : Int) := by omega
  unfold kdQ
  rw [e1, e2, gdN_s h0, gdS_s h1]
  refine ⟨⟨fun h9 => ⟨h.mp h9.1, ?_⟩, fun h9 => ?_⟩, fun h9 => ?_⟩
  · have := h2 h9.1; omega
  · have g := h.mpr h9.1
    have := h2 g
    exact ⟨g, by omega⟩
  · have := h2 h9.1
    exact ⟨this.1, h9.2, this.2.2⟩
theorem Comp_kd {M : Mem} {N : List ND} {S : List SD} {TN TS : Int → Int} (hI : TI M) (hN : fxN M N TN) (hS : fxS M S TS) (ha : allN N) : ∀ {f i j a b : Nat}, Comp N S f i j a b → kdQ TN TS i j a b := by
  intro f
  induction f with
  | zero => intro i j a b h; exact h.elim
  | succ f ih =>
    intro i j a b h
    rcases h with ⟨x, s, rfl, rfl, h1, h2, h3⟩ | ⟨rfl, rfl, h1, h2, h3, h4⟩ | ⟨j1, b1, x, s, rfl, rfl, h1, h2, h3, h4⟩ | ⟨m, q, j1, b1, x, s, rfl, rfl, h1, h2, h3, h4, h5⟩ | ⟨m, q, j1, b1, t, rfl, rfl, h0, h1, h2, h3, h4, h5⟩ | ⟨m1, m2, q1, q2, j1, b1, rfl, rfl, h1, h2, h3, h4, h5, h6, h7⟩
    · refine kdQ_end (Nat.le_refl _) (Nat.le_refl _) ⟨fun _ => gdS_0, fun _ => gdN_0⟩ (fun _ => ?_)
      have e1 := hN i x h1
      have e2 := hS a s h2
      obtain ⟨g1, -, -, -, g5, -, -⟩ := ha i x h1
      obtain ⟨t, v, hx, h9⟩ := h3
      subst hx
      have g5' : t = 7 ∨ t = 60 → 0 ≤ v ∧ v < 26 := g5
      have hr := kchk_rng (M := M) (o := t) (v := w32 v) (a := TN (-1)) (b := TN (-1)) (c := TN (-1)) hI g1.1 (fun h => by have := g5' h; rw [w32_id (by omega)]; exact this) (fun e => absurd e (by omega)) (fun e => absurd e (by omega))
      refine ⟨?_, by rw [e1]; exact hr⟩
      rw [e1, e2]
      rcases h9 with ⟨c1, c2, -, rfl⟩ | ⟨rfl, rfl⟩ | ⟨rfl, rfl⟩
      · show kchk M t (w32 v) _ _ _ = kdS M 137 _ _ _ _ (tkind t)
        rw [kdS_con rfl]
        rcases (show t = 1 ∨ t = 2 ∨ t = 3 ∨ t = 4 ∨ t = 5 by omega) with rfl | rfl | rfl | rfl | rfl <;> rfl
      · have hv := g5' (Or.inl rfl)
        show kchk M 7 (w32 v) _ _ _ = kdS M 143 _ v _ _ _
        rw [kdS_var rfl, w32_id (by omega)]
        exact (if_pos (show 0 ≤ v ∧ v ≤ 26 by omega)).symm
      · show kchk M 6 (w32 v) _ _ _ = kdS M 143 _ 26 _ _ _
        rw [kdS_var rfl]
        simp [kchk, vkD]
    · have e1 := hN i _ h1
      have e2 := hS a _ h2
      have e3 := hN (i + 1) _ h3
      have e4 := hS (a + 1) _ h4
      have f1 : TN (i : Int) = 0 := e1.trans rfl
      have f2 : TS (a : Int) = 0 := e2.trans (kdS_con rfl)
      have h8 : kdQ TN TS i (i + 1) a (a + 1) := kdQ_end (Nat.le_refl _) (Nat.le_refl _) ⟨fun _ => gdS_0, fun _ => gdN_0⟩ (fun _ => by omega)
      refine kdQ_end (by omega) (by omega) h8.1 (fun _ => ?_)
      rw [e3, e4]
      show kchk M 128 (w32 0) (TN i) (TN (-1)) (TN (-1)) = kdS M 148 (TS a) 0 (TS 0) (TS 0) 0 ∧ -1 ≤ kchk M 128 (w32 0) (TN i) (TN (-1)) (TN (-1)) ∧ kchk M 128 (w32 0) (TN i) (TN (-1)) (TN (-1)) < 18
      rw [f1, f2, kdS_una (Or.inr (Or.inl rfl))]
      have e9 : kchk M 128 (w32 0) 0 (TN (-1)) (TN (-1)) = 0 := by simp [kchk, comV]
      have e8 : coD 0 0 = 0 := rfl
      rw [e9, e8]
      omega
    · have l1 := Comp_lt h1
      obtain ⟨q1, q2⟩ := ih h1
      refine kdQ_end (by omega) (by omega) q1 (fun hg => ?_)
      obtain ⟨q3, q4, q5⟩ := q2 hg
      have e1 := hN j1 x h2
      have e2 := hS b1 s h3
      obtain ⟨g1, -, -, -, g5, g6, g7⟩ := ha j1 x h2
      obtain ⟨u, v, rfl, h9⟩ := h4
      have g5' : u = 7 ∨ u = 60 → 0 ≤ v ∧ v < 26 := g5
      have g6' : u = 63 → 0 ≤ v ∧ v < 6 := g6
      have g7' : u = 64 → 0 ≤ v ∧ v < 17 := g7
      have hu : ¬ u = 65 ∧ ¬ u = 7 := by rcases h9 with h9 | h9 | h9 | h9 | ⟨t, ht, h9, -⟩ <;> omega
      have hr := kchk_rng (M := M) (o := u) (v := w32 v) (a := TN ((j1 : Int) - 1)) (b := TN (-1)) (c := TN (-1)) hI g1.1 (fun h => by have := g5' h; rw [w32_id (by omega)]; exact this) (fun e => absurd e hu.1) (fun e => absurd e hu.1)
      refine ⟨?_, by rw [e1]; exact hr⟩
      rw [e1, e2]
      show kchk M u (w32 v) (TN ((j1 : Int) - 1)) (TN (-1)) (TN (-1)) = _
      rw [q3] at q4 ⊢
      rcases h9 with ⟨rfl, rfl⟩ | ⟨rfl, rfl⟩ | ⟨rfl, rfl⟩ | ⟨rfl, rfl⟩ | ⟨t, ht, rfl, rfl, rfl⟩
      · have hv := g5' (Or.inr rfl)
        rw [w32_id (by omega)]
        exact (kd_field hv).symm
      · exact kd_len.symm
      · have hv := g6' rfl
        rw [w32_id (by omega)]
        exact (kd_ins hv hI.1).symm
      · have hv := g7' rfl
        rw [w32_id (by omega)]
        exact (kd_cast q4 hv).symm
      · exact (kd_una q4 ht).symm
    · have l1 := Comp_lt h1
      have l2 := Comp_lt h2
      obtain ⟨q1, q2⟩ := ih h1
      obtain ⟨r1, r2⟩ := ih h2
      have e9 : gdN TN i j1 ↔ gdS TS a b1 := by
        rw [gdN_a (m := m) (by omega) (by omega), gdS_a (q := q) (by omega) (by omega), q1, r1]
      refine kdQ_end (by omega) (by omega) e9 (fun hg => ?_)
      obtain ⟨hg1, hg2⟩ := (gdN_a (m := m) (by omega) (by omega)).mp hg
      obtain ⟨q3, q4, q5⟩ := q2 hg1
      obtain ⟨r3, r4, r5⟩ := r2 hg2
      have e1 := hN j1 x h3
      have e2 := hS b1 s h4
      obtain ⟨g1, -, -, -, -, -, -⟩ := ha j1 x h3
      obtain ⟨t, rfl, h9⟩ := h5
      have ht : ¬ t = 65 ∧ ¬ t = 7 ∧ ¬ t = 60 := by
        rcases h9 with h9 | h9
        · omega
        · have := bdV_cs h9.1; omega
      have hr := kchk_rng (M := M) (o := t) (v := w32 0) (a := TN ((m : Int) - 1)) (b := TN ((j1 : Int) - 1)) (c := TN (-1)) hI g1.1 (fun e => absurd e (by omega)) (fun e => absurd e (by omega)) (fun e => absurd e (by omega))
      refine ⟨?_, by rw [e1]; exact hr⟩
      rw [e1, e2]
      show kchk M t (w32 0) (TN ((m : Int) - 1)) (TN ((j1 : Int) - 1)) (TN (-1)) = _
      rw [q3] at q4 ⊢
      rw [r3] at r4 ⊢
      rcases h9 with ⟨rfl, rfl⟩ | ⟨hb, -, -, rfl⟩
      · exact kd_idx.symm
      · exact (kd_bin hb q4 r4).symm
    · have l1 := Comp_lt h1
      have l2 := Comp_lt h3
      obtain ⟨q1, q2⟩ := ih h1
      obtain ⟨r1, r2⟩ := ih h3
      have e1 := hN j1 _ h4
      have e2 := hS b1 _ h5
      have e3 := hS q _ h2
      have hb : 0 < bdV t := by rcases h0 with rfl | rfl <;> decide
      have eq : TS (q : Int) = if TS ((q : Int) - 1) = 3 then 3 else -1 := by
        rw [e3]
        refine kdS_sk ?_
        show (if t = 44 then (151 : Int) else 152) = 150 ∨ (if t = 44 then (151 : Int) else 152) = 151 ∨ (if t = 44 then (151 : Int) else 152) = 152 ∨ (if t = 44 then (151 : Int) else 152) = 33
        split <;> omega
      have f1 : TN (j1 : Int) = kchk M t (w32 0) (TN ((m : Int) - 1)) (TN ((j1 : Int) - 1)) (TN (-1)) := e1
      have f1' : TN (j1 : Int) = if TN ((m : Int) - 1) = 3 ∧ TN ((j1 : Int) - 1) = 3 then 3 else -1 := by
        rw [f1]
        rcases h0 with rfl | rfl <;> simp [kchk]
      have f2 : TS (b1 : Int) = kdS M (tcode t) (TS ((q : Int) - 1)) ((b1 : Int) - 1) (TS ((b1 : Int) - 1)) (TS 0) 0 := e2
      have s1 : gdS TS a b1 ↔ gdS TS a q ∧ ¬ TS q = -1 ∧ gdS TS (q + 1) b1 := by
        rw [gdS_a (q := q + 1) (by omega) (by omega), gdS_s (by omega), and_assoc]
      have s2 : gdN TN i j1 ↔ gdN TN i m ∧ gdN TN m j1 := gdN_a (by omega) (by omega)
      have c1 : ((j1 + 1 : Nat) : Int) - 1 = (j1 : Int) := by omega
      have c2 : ((b1 + 1 : Nat) : Int) - 1 = (b1 : Int) := by omega
      have main : gdN TN i m → gdN TN m j1 → TN (j1 : Int) = TS (b1 : Int) ∧ (TN (j1 : Int) = 3 ∧ TS q = 3 ∨ TN (j1 : Int) = -1) := by
        intro g1 g2
        obtain ⟨q3, q4, q5⟩ := q2 g1
        obtain ⟨r3, r4, r5⟩ := r2 g2
        have e7 : TN (j1 : Int) = TS (b1 : Int) := by rw [f1, f2, q3, r3]; rw [q3] at q4; rw [r3] at r4; exact (kd_bin hb q4 r4).symm
        refine ⟨e7, ?_⟩
        by_cases h3 : TN ((m : Int) - 1) = 3
        · rw [f1', eq, ← q3, if_pos h3]
          by_cases h9 : TN ((j1 : Int) - 1) = 3
          · rw [if_pos ⟨h3, h9⟩]; exact Or.inl ⟨rfl, rfl⟩
          · rw [if_neg (fun h8 => h9 h8.2)]; exact Or.inr rfl
        · rw [f1', if_neg (fun h8 => h3 h8.1)]; exact Or.inr rfl
      unfold kdQ
      rw [c1, c2, gdN_s (by omega), gdS_s (by omega), s1, s2]
      refine ⟨⟨fun ⟨⟨g1, g2⟩, g3⟩ => ?_, fun ⟨⟨g1, g2, g3⟩, g4⟩ => ?_⟩, fun ⟨⟨g1, g2⟩, g3⟩ => ?_⟩
      · obtain ⟨m1, m2⟩ := main g1 g2
        exact ⟨⟨q1.mp g1, by omega, r1.mp g2⟩, by omega⟩
      · obtain ⟨m1, m2⟩ := main (q1.mpr g1) (r1.mpr g3)
        exact ⟨⟨q1.mpr g1, r1.mpr g3⟩, by omega⟩
      · obtain ⟨m1, m2⟩ := main g1 g2
        exact ⟨m1, by omega⟩
    · have l1 := Comp_lt h1
      have l2 := Comp_lt h3
      have l3 := Comp_lt h5
      obtain ⟨q3, q4⟩ := ih h1
      obtain ⟨r3, r4⟩ := ih h3
      obtain ⟨t3, t4⟩ := ih h5
      have e1 := hN j1 _ h6
      have e2 := hS b1 _ h7
      have e3 := hS q1 _ h2
      have e4 := hS q2 _ h4
      obtain ⟨g1, -, -, -, -, -, -⟩ := ha j1 _ h6
      have f3 : TS (q1 : Int) = if TS ((q1 : Int) - 1) = 3 then 3 else -1 := by
        rw [e3]; exact kdS_sk (Or.inr (Or.inl rfl))
      have f4 : TS (q2 : Int) = if TS ((q1 : Int) - 1) = 3 then 3 else -1 := by
        rw [e4]; exact kdS_sk (Or.inl rfl)
      have f1 : TN (j1 : Int) = if TN ((m1 : Int) - 1) = 3 then eithV M (TN ((m2 : Int) - 1)) (TN ((j1 : Int) - 1)) else -1 := by
        rw [e1]
        show kchk M 65 (w32 0) (TN ((m1 : Int) - 1)) (TN ((m2 : Int) - 1)) (TN ((j1 : Int) - 1)) = _
        simp [kchk]
      have f2 : TS (b1 : Int) = choD M (TS ((q2 : Int) - 1)) (TS ((b1 : Int) - 1)) := by rw [e2]; exact kdS_cho rfl
      have s1 : gdS TS a b1 ↔ (gdS TS a q1 ∧ ¬ TS q1 = -1) ∧ (gdS TS (q1 + 1) q2 ∧ ¬ TS q2 = -1) ∧ gdS TS (q2 + 1) b1 := by
        rw [gdS_a (q := q2 + 1) (by omega) (by omega), gdS_s (by omega), gdS_a (a := a) (q := q1 + 1) (b := q2) (by omega) (by omega), gdS_s (by omega)]
        exact ⟨fun ⟨⟨⟨h1, h2⟩, h3⟩, h4⟩ => ⟨h1, ⟨h2, h3⟩, h4⟩, fun ⟨h1, ⟨h2, h3⟩, h4⟩ => ⟨⟨⟨h1, h2⟩, h3⟩, h4⟩⟩
      have s2 : gdN TN i j1 ↔ gdN TN i m1 ∧ gdN TN m1 m2 ∧ gdN TN m2 j1 := by
        rw [gdN_a (m := m1) (by omega) (by omega), gdN_a (i := m1) (m := m2) (j := j1) (by omega) (by omega)]
      have c1 : ((j1 + 1 : Nat) : Int) - 1 = (j1 : Int) := by omega
      have c2 : ((b1 + 1 : Nat) : Int) - 1 = (b1 : Int) := by omega
      have main : gdN TN i m1 → gdN TN m1 m2 → gdN TN m2 j1 → (TN ((m1 : Int) - 1) = 3 ∧ TS ((q1 : Int) - 1) = 3 ∧ TN (j1 : Int) = TS (b1 : Int) ∧ -1 ≤ TN (j1 : Int) ∧ TN (j1 : Int) < 18) ∨ (¬ TS ((q1 : Int) - 1) = 3 ∧ TN (j1 : Int) = -1) := by
        intro g1 g2 g3
        obtain ⟨q5, q6, q7⟩ := q4 g1
        obtain ⟨r5, r6, r7⟩ := r4 g2
        obtain ⟨t5, t6, t7⟩ := t4 g3
        by_cases h3 : TN ((m1 : Int) - 1) = 3
        · refine Or.inl ⟨h3, q5 ▸ h3, ?_⟩
          have hr := kchk_rng (M := M) (o := 65) (v := w32 0) (a := TN ((m1 : Int) - 1)) (b := TN ((m2 : Int) - 1)) (c := TN ((j1 : Int) - 1)) hI (by decide) (fun e => absurd e (by decide)) (fun _ => ⟨r6, r7⟩) (fun _ => ⟨t6, t7⟩)
          have hr2 : TN (j1 : Int) = kchk M 65 (w32 0) (TN ((m1 : Int) - 1)) (TN ((m2 : Int) - 1)) (TN ((j1 : Int) - 1)) := e1
          refine ⟨?_, by rw [hr2]; exact hr⟩
          rw [f1, f2, if_pos h3, r5, t5]
          rw [r5] at r6
          rw [t5] at t6
          exact (kd_cho r6 t6).symm
        · exact Or.inr ⟨fun h9 => h3 (q5.trans h9), by rw [f1, if_neg h3]⟩
      unfold kdQ
      rw [c1, c2, gdN_s (by omega), gdS_s (by omega), s1, s2]
      refine ⟨⟨fun ⟨⟨g1, g2, g3⟩, g4⟩ => ?_, fun ⟨⟨⟨g1, g2⟩, ⟨g3, g4⟩, g5⟩, g6⟩ => ?_⟩, fun ⟨⟨g1, g2, g3⟩, g4⟩ => ?_⟩
      · rcases main g1 g2 g3 with ⟨m1, m2, m3, m4⟩ | ⟨m1, m2⟩
        · rw [if_pos m2] at f3 f4
          exact ⟨⟨⟨q3.mp g1, by omega⟩, ⟨r3.mp g2, by omega⟩, t3.mp g3⟩, by omega⟩
        · omega
      · rcases main (q3.mpr g1) (r3.mpr g3) (t3.mpr g5) with ⟨m1, m2, m3, m4⟩ | ⟨m1, m2⟩
        · exact ⟨⟨q3.mpr g1, r3.mpr g3, t3.mpr g5⟩, by omega⟩
        · rw [if_neg m1] at f3; exact absurd f3 g2
      · rcases main g1 g2 g3 with ⟨m1, m2, m3, m4⟩ | ⟨m1, m2⟩
        · exact ⟨m3, g4, m4.2⟩
        · omega
