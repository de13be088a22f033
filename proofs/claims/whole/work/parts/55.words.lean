/-- letters as a number to the base 64, the last one first -/
def Hr : List Int → Int
  | [] => 0
  | c :: r => 64 * Hr r + c
def Hf (f : Int → Int) (a : Int) : Nat → Int
  | 0 => 0
  | n + 1 => 64 * Hf f a n + (f (a + n) - 64)
theorem Hf_pos {f : Int → Int} {a : Int} : ∀ {n : Nat}, (∀ j : Nat, j < n → 1 ≤ f (a + j) - 64 ∧ f (a + j) - 64 ≤ 58) → 0 ≤ Hf f a n ∧ (1 ≤ n → 1 ≤ Hf f a n) := by
  intro n
  induction n with
  | zero => intro _; simp [Hf]
  | succ n ih => intro h; have h1 := ih (fun j hj => h j (by omega)); have h2 := h n (by omega); unfold Hf; omega
theorem Hf_eq {f : Int → Int} {a : Int} : ∀ (r : List Int) (n : Nat), (∀ c ∈ r, 1 ≤ c ∧ c ≤ 58) → (∀ j : Nat, j < n → 1 ≤ f (a + j) - 64 ∧ f (a + j) - 64 ≤ 58) → (Hf f a n = Hr r ↔ n = r.length ∧ ∀ j : Nat, j < n → f (a + j) - 64 = r.getD (n - 1 - j) 0) := by
  intro r
  induction r with
  | nil =>
    intro n hr h
    have hp := Hf_pos h
    constructor
    · intro e
      have e' : Hf f a n = 0 := e
      have hn : n = 0 := by omega
      subst hn
      exact ⟨rfl, fun j hj => absurd hj (by omega)⟩
    · intro ⟨e, _⟩
      have hn : n = 0 := e
      subst hn; rfl
  | cons c r ih =>
    intro n hr h
    have hc := hr c (List.mem_cons_self ..)
    have hr' : ∀ c ∈ r, 1 ≤ c ∧ c ≤ 58 := fun x hx => hr x (List.mem_cons_of_mem _ hx)
    cases n with
    | zero =>
      constructor
      · intro e
        have e' : 0 = 64 * Hr r + c := e
        exfalso; omega
      · intro ⟨e, _⟩; simp at e
    | succ n =>
      have hd := h n (by omega)
      have hi := ih n hr' (fun j hj => h j (by omega))
      constructor
      · intro e
        have e' : 64 * Hf f a n + (f (a + n) - 64) = 64 * Hr r + c := e
        have e1 : Hf f a n = Hr r := by omega
        have e2 : f (a + n) - 64 = c := by omega
        obtain ⟨g1, g2⟩ := hi.mp e1
        refine ⟨by simp [g1], fun j hj => ?_⟩
        by_cases hjn : j = n
        · subst hjn; rw [e2, show j + 1 - 1 - j = 0 by omega]; rfl
        · rw [g2 j (by omega), show n + 1 - 1 - j = (n - 1 - j) + 1 by omega]; rfl
      · intro ⟨g1, g2⟩
        have e1 : Hf f a n = Hr r := hi.mpr ⟨by simpa using g1, fun j hj => by
          rw [g2 j (by omega), show n + 1 - 1 - j = (n - 1 - j) + 1 by omega]; rfl⟩
        have e2 := g2 n (by omega)
        rw [show n + 1 - 1 - n = 0 by omega] at e2
        have e3 : f (a + n) - 64 = c := e2
        show 64 * Hf f a n + (f (a + n) - 64) = 64 * Hr r + c
        rw [e1, e3]
/-- where the letters end -/
theorem runE_all {p : Int → Bool} {f : Int → Int} : ∀ {n : Nat} {k j : Int}, k ≤ j → j < runE p f n k → p (f j) = true := by
  intro n
  induction n with
  | zero => intro k j h1 h2; simp [runE] at h2; omega
  | succ n ih =>
    intro k j h1 h2
    by_cases hp : p (f k) = true
    · rw [runE_t hp] at h2
      by_cases hj : j = k
      · rw [hj]; exact hp
      · exact ih (by omega) h2
    · rw [runE_f hp] at h2; omega
theorem letB_d {c : Int} (h : letB c = true) : 1 ≤ c - 64 ∧ c - 64 ≤ 58 := by have := letB_t.mp h; omega
theorem i64_nat {n : Nat} (h : n < 9223372036854775808) : (Int64.ofInt (n : Int)).toBitVec.toNat = n := by
  show (BitVec.ofInt 64 (n : Int)).toNat = n
  rw [BitVec.ofInt_natCast, BitVec.toNat_ofNat]
  exact Nat.mod_eq_of_lt (by omega)
theorem bv_int {x : Int64} {n : Nat} (h : x.toBitVec.toNat = n) (hn : n < 9223372036854775808) : x.toInt = n := by
  rw [← Int64.toInt_toBitVec, BitVec.toInt_eq_toNat_of_lt (by omega), h]
theorem lshl_6 {v : Nat} (hv : v < 144115188075855872) : o_lshl v 6 = ((v * 64 : Nat) : Int) := by
  have e6 : ((Int32.ofInt 6).toInt64 &&& 63) = (6 : Int64) := by decide
  unfold o_lshl
  rw [e6]
  refine bv_int ?_ (by omega)
  show ((Int64.ofInt (v : Int)).toBitVec <<< ((6 : Int64).toBitVec.smod 64)).toNat = _
  rw [show (6 : Int64).toBitVec.smod 64 = BitVec.ofNat 64 6 from by decide, BitVec.shiftLeft_eq', BitVec.toNat_shiftLeft, i64_nat (by omega)]
  show (v <<< 6) % 2 ^ 64 = _
  rw [Nat.shiftLeft_eq]
  omega
theorem lor_6 {v c : Nat} (hv : v < 144115188075855872) (hc : c < 64) : o_lor (o_lshl v 6) c = 64 * v + c := by
  rw [lshl_6 hv]
  unfold o_lor
  have e : ((Int64.ofInt ((v * 64 : Nat) : Int)) ||| (Int64.ofInt (c : Int))).toBitVec.toNat = v * 64 + c := by
    show ((Int64.ofInt ((v * 64 : Nat) : Int)).toBitVec ||| (Int64.ofInt (c : Int)).toBitVec).toNat = _
    rw [BitVec.toNat_or, i64_nat (by omega), i64_nat (by omega)]
    have h := Nat.shiftLeft_add_eq_or_of_lt (b := c) (i := 6) (by omega) v
    rw [Nat.shiftLeft_eq] at h
    exact h.symm
  rw [bv_int e (by omega)]
  omega
def p64 : Nat → Int
  | 0 => 1
  | n + 1 => 64 * p64 n
theorem p64_9 : ∀ n : Nat, n < 10 → p64 n ≤ 18014398509481984 := by decide
theorem Hf_lt {f : Int → Int} {a : Int} : ∀ {n : Nat}, (∀ j : Nat, j < n → 1 ≤ f (a + j) - 64 ∧ f (a + j) - 64 ≤ 58) → Hf f a n + 1 ≤ p64 n := by
  intro n
  induction n with
  | zero => intro _; simp [Hf, p64]
  | succ n ih => intro h; have h1 := ih (fun j hj => h j (by omega)); have h2 := h n (by omega); unfold Hf p64; omega
theorem wv_Hf {f : Int → Int} {a : Int} : ∀ (n : Nat) (k : Int), a ≤ k → (∀ j, a ≤ j → j < k → letB (f j) = true) → runE letB f n k - a ≤ 10 → wvE f n k (Hf f a (k - a).toNat) = Hf f a (runE letB f n k - a).toNat := by
  intro n
  induction n with
  | zero => intro k h1 h2 h3; rfl
  | succ n ih =>
    intro k h1 h2 h3
    by_cases hl : letB (f k) = true
    · rw [runE_t hl] at h3 ⊢
      have hge := (@runE_le letB f n (k + 1)).1
      rw [wvE_t hl]
      have hd : ∀ j : Nat, j < (k - a).toNat → 1 ≤ f (a + j) - 64 ∧ f (a + j) - 64 ≤ 58 := fun j hj => letB_d (h2 _ (by omega) (by omega))
      have hp := Hf_pos hd
      have hlt := Hf_lt hd
      have h9 := p64_9 (k - a).toNat (by omega)
      have hc := letB_d hl
      obtain ⟨v, hv⟩ := Int.eq_ofNat_of_zero_le hp.1
      obtain ⟨c, hcc⟩ := Int.eq_ofNat_of_zero_le (show 0 ≤ f k - 64 by omega)
      have e1 : o_lor (o_lshl (Hf f a (k - a).toNat) 6) (f k - 64) = Hf f a ((k + 1) - a).toNat := by
        rw [show ((k + 1) - a).toNat = (k - a).toNat + 1 by omega]
        show _ = 64 * Hf f a (k - a).toNat + (f (a + ((k - a).toNat : Nat)) - 64)
        rw [show a + (((k - a).toNat : Nat) : Int) = k by omega, hv, hcc]
        exact lor_6 (by omega) (by omega)
      rw [e1]
      exact ih (k + 1) (by omega) (fun j j1 j2 => by
        by_cases hj : j = k
        · rw [hj]; exact hl
        · exact h2 j j1 (by omega)) h3
    · rw [runE_f hl, wvE_f hl]
def rwl : List (List Int) := [[37, 53, 50, 52], [37, 51, 44, 33, 38], [44, 44, 53, 46], [51, 41, 40, 52], [52, 46, 41], [39, 46, 47, 44], [50, 33, 40, 35], [46, 33, 37, 44, 47, 47, 34], [38, 47, 37, 35, 46, 33, 52, 51, 46, 41], [40, 52, 39, 46, 37, 44]]
def rwi (i : Nat) : List Int := rwl.getD i []
def wTi (i : Nat) : Int := ([4, 15, 5, 6, 9, 10, 11, 12, 13, 14] : List Int).getD i 0
def sdP (i : Nat) (f : Int → Int) (a b : Int) : Prop := (lnsD i : Int) = b - a ∧ ∀ j : Nat, j < lnsD i → bysD i j = f (a + j)
theorem rw_ok {i : Nat} (hi : i < 10) : ((rwi i).length = lnsD i ∧ lnsD i ≤ 10 ∧ 3 ≤ lnsD i) ∧ (∀ j : Nat, j < lnsD i → (rwi i).getD (lnsD i - 1 - j) 0 = bysD i j - 64) ∧ (∀ c ∈ rwi i, 1 ≤ c ∧ c ≤ 58) ∧ wkT (lnsD i : Int) (Hr (rwi i)) = wTi i := by
  have h1 : ∀ i : Nat, i < 10 → (rwi i).length = lnsD i ∧ lnsD i ≤ 10 ∧ 3 ≤ lnsD i := by decide +kernel
  have h2 : ∀ i : Nat, i < 10 → ∀ j : Nat, j < lnsD i → (rwi i).getD (lnsD i - 1 - j) 0 = bysD i j - 64 := by decide +kernel
  have h3 : ∀ i : Nat, i < 10 → ∀ c ∈ rwi i, 1 ≤ c ∧ c ≤ 58 := by decide +kernel
  have h4 : ∀ i : Nat, i < 10 → wkT (lnsD i : Int) (Hr (rwi i)) = wTi i := by decide +kernel
  exact ⟨h1 i hi, h2 i hi, h3 i hi, h4 i hi⟩
theorem sd_iff {i : Nat} (hi : i < 10) {f : Int → Int} {a : Int} {n : Nat} (h : ∀ j : Nat, j < n → 1 ≤ f (a + j) - 64 ∧ f (a + j) - 64 ≤ 58) : sdP i f a (a + n) ↔ Hf f a n = Hr (rwi i) := by
  obtain ⟨h1, h2, h3, -⟩ := rw_ok hi
  rw [Hf_eq (rwi i) n h3 h]
  unfold sdP
  constructor
  · intro ⟨g1, g2⟩
    have hn : n = lnsD i := by omega
    refine ⟨by omega, fun j hj => ?_⟩
    rw [hn, h2 j (by omega), g2 j (by omega)]
  · intro ⟨g1, g2⟩
    have hn : n = lnsD i := by omega
    refine ⟨by omega, fun j hj => ?_⟩
    have := g2 j (by omega)
    rw [hn, h2 j hj] at this
    omega
theorem wk_sd {i : Nat} (hi : i < 10) {f : Int → Int} {a : Int} {n : Nat} (h : ∀ j : Nat, j < n → 1 ≤ f (a + j) - 64 ∧ f (a + j) - 64 ≤ 58) (hs : sdP i f a (a + n)) : wkT n (Hf f a n) = wTi i := by
  have h4 := (rw_ok hi).2.2.2
  have e : n = lnsD i := by have := hs.1; omega
  rw [(sd_iff hi h).mp hs, e]; exact h4
theorem sp_H : spellV 52 50 53 37 0 = Hr (rwi 0) ∧ spellV 38 33 44 51 37 = Hr (rwi 1) ∧ spellV 46 53 44 44 0 = Hr (rwi 2) ∧ spellV 52 40 41 51 0 = Hr (rwi 3) ∧ spellV 41 46 52 0 0 = Hr (rwi 4) ∧ spellV 44 47 46 39 0 = Hr (rwi 5) ∧ spellV 35 40 33 50 0 = Hr (rwi 6)
    ∧ o_lor (o_lor (o_lshl (spellV 34 47 47 44 37) 12) 2112) 46 = Hr (rwi 7) ∧ o_lor (o_lshl (spellV 41 46 51 52 33) 30) (spellV 46 35 37 47 38) = Hr (rwi 8) ∧ o_lor (o_lshl (spellV 44 37 46 39 52) 6) 40 = Hr (rwi 9) := by decide +kernel
theorem wk_no {f : Int → Int} {a : Int} {n : Nat} (h : ∀ j : Nat, j < n → 1 ≤ f (a + j) - 64 ∧ f (a + j) - 64 ≤ 58) (hs : ∀ i : Nat, i < 10 → ¬ sdP i f a (a + n)) : wkT n (Hf f a n) = 0 := by
  have hh : ∀ i : Nat, i < 10 → ¬ Hf f a n = Hr (rwi i) := fun i hi e => hs i hi ((sd_iff hi h).mpr e)
  obtain ⟨s0, s1, s2, s3, s4, s5, s6, s7, s8, s9⟩ := sp_H
  have e1 : wkA n (Hf f a n) = 0 := by
    unfold wkA
    rw [s0, s1, s2, s3, s4, s5, s6, if_neg (hh 0 (by decide)), if_neg (hh 1 (by decide)), if_neg (hh 2 (by decide)), if_neg (hh 3 (by decide)), if_neg (hh 4 (by decide)), if_neg (hh 5 (by decide)), if_neg (hh 6 (by decide))]
    split <;> rfl
  have e2 : wkB n (Hf f a n) = 0 := by
    unfold wkB
    rw [s7, if_neg (hh 7 (by decide)), e1]
    split <;> rfl
  have e3 : wkC n (Hf f a n) = 0 := by
    unfold wkC
    rw [s9, if_neg (hh 9 (by decide)), e2]
    split <;> rfl
  unfold wkT
  rw [s8, if_neg (hh 8 (by decide)), e3]
  split <;> rfl
theorem wk_big {n v : Int} (h : 10 < n) : wkT n v = 0 := by
  have e1 : wkA n v = 0 := by unfold wkA; rw [if_pos h]
  have e2 : wkB n v = 0 := by unfold wkB; rw [if_neg (by omega)]; exact e1
  have e3 : wkC n v = 0 := by unfold wkC; rw [if_neg (by omega)]; exact e2
  unfold wkT; rw [if_neg (by omega)]; exact e3
/-- a word of more than one letter -/
theorem word_sd {f : Int → Int} {a b : Int} (hb : runE letB f (40 - a).toNat a = b) (h1 : ¬ b - a = 1) : (∀ i : Nat, i < 10 → sdP i f a b → wordT f a = wordT2 b (wTi i)) ∧ ((∀ i : Nat, i < 10 → ¬ sdP i f a b) → wordT f a = wordT2 b 0) := by
  have hge := (@runE_le letB f (40 - a).toNat a).1
  rw [hb] at hge
  have hl : ∀ j : Nat, j < (b - a).toNat → 1 ≤ f (a + j) - 64 ∧ f (a + j) - 64 ≤ 58 := fun j hj => letB_d (runE_all (n := (40 - a).toNat) (k := a) (by omega) (by rw [hb]; omega))
  have en : a + ((b - a).toNat : Int) = b := by omega
  have en2 : (((b - a).toNat : Nat) : Int) = b - a := by omega
  by_cases h10 : b - a ≤ 10
  · have hv := wv_Hf (f := f) (a := a) (40 - a).toNat a (Int.le_refl _) (fun j j1 j2 => by omega) (by rw [hb]; exact h10)
    rw [hb, show a - a = 0 by omega] at hv
    have e := wordT_2 hb hv h1
    refine ⟨fun i hi hs => ?_, fun hs => ?_⟩
    · have := wk_sd hi hl (by rw [en]; exact hs)
      rw [en2] at this
      rw [e, this]
    · have := wk_no hl (fun i hi => by rw [en]; exact hs i hi)
      rw [en2] at this
      rw [e, this]
  · have e := wordT_2 (f := f) (a := a) hb rfl h1
    rw [wk_big (by omega)] at e
    exact ⟨fun i hi hs => by have := (rw_ok hi).1; have := hs.1; omega, fun _ => e⟩
