/-- jumps lead forward -/
def fwD (W : Mem) (e : Nat) (L : Int) : Prop := ∀ (V : Int → Int) (q : Int), 0 ≤ q → q < L → (stpY W e V q).1 = 3 → q < (stpY W e V q).2 ∧ (stpY W e V q).2 ≤ L
theorem ndR_3 {W : Mem} {p : Int} : ¬ (ndR W p).1 = 3 := by
  unfold ndR; split
  · show ¬ (0 : Int) = 3; decide
  · show ¬ (1 : Int) = 3; decide
theorem sgnR_3 {c k x y : Int} : (sgnR c k x y).1 = 0 ∨ (sgnR c k x y).1 = 2 := by
  unfold sgnR
  split
  · exact Or.inr rfl
  split
  · exact Or.inl rfl
  split
  · exact Or.inl rfl
  split
  · exact Or.inl rfl
  · exact Or.inl rfl
theorem fwD_of {W : Mem} {e : Nat} {S : List SD} (hs : stp e W S) (hok : ∀ p : Nat, p < S.length → ∃ s, S[p]? = some s ∧ sOK p S.length s) : fwD W e S.length := by
  intro V q h0 hq h3
  obtain ⟨p, rfl⟩ := Int.eq_ofNat_of_zero_le h0
  obtain ⟨s, hp, hk⟩ := hok p (by omega)
  obtain ⟨w1, w2, w3, w4, -⟩ := hs.2 p s hp
  have partN : ∀ o x, ¬ (partR W o x).1 = 3 := fun o x => by
    unfold partR; split
    · show ¬ (2 : Int) = 3; decide
    · exact ndR_3
  have elmN : ∀ o x, ¬ (elmR W o x).1 = 3 := fun o x => by
    unfold elmR; split
    · show ¬ (2 : Int) = 3; decide
    split
    · split
      · show ¬ (2 : Int) = 3; decide
      · exact ndR_3
    · show ¬ (1 : Int) = 3; decide
  have insN : ∀ i o k, ¬ (insR W e i o k).1 = 3 := fun i o k => by
    unfold insR
    repeat' split
    all_goals first | (show ¬ (0 : Int) = 3; decide) | (show ¬ (1 : Int) = 3; decide)
  have cstN : ∀ i x k, ¬ (cstR W e i x k).1 = 3 := fun i x k => by
    unfold cstR
    repeat' split
    all_goals first | (show ¬ (0 : Int) = 3; decide) | (show ¬ (1 : Int) = 3; decide) | (show ¬ (2 : Int) = 3; decide)
  have sgN : ∀ c k x y, ¬ (sgnR c k x y).1 = 3 := fun c k x y h9 => by
    rcases sgnR_3 (c := c) (k := k) (x := x) (y := y) with h | h <;> omega
  have two : ∀ t, 0 < bdV t → s.1 = tcode t → False := fun t ht hc => by
    rw [stY_two (c := s.1) w1 (by rw [hc]; exact tc_two ht)] at h3
    exact sgN _ _ _ _ h3
  rcases hk with ⟨k1, k2, k3⟩ | ⟨k1, k2⟩ | ⟨k1, k2⟩ | ⟨k1, k2, k3⟩ | ⟨k1, k2, k3, k4⟩ | ⟨k1, k2, k3⟩
  · rw [stY_137 (w1.trans k1)]
    show (p : Int) < p + 1 ∧ (p : Int) + 1 ≤ S.length
    omega
  · rw [stY_143 (w1.trans k1)] at h3; exact absurd h3 ndR_3
  · rcases k1 with k1 | k1 | k1 | k1 | ⟨k1, -⟩ | ⟨t, ht, k1, -⟩
    · rw [stY_144 (w1.trans k1)] at h3; exact absurd h3 (partN _ _)
    · rw [stY_142 (w1.trans k1)] at h3; exact absurd h3 (partN _ _)
    · rw [stY_141 (w1.trans k1)] at h3; exact absurd h3 (insN _ _ _)
    · rw [stY_146 (w1.trans k1)] at h3; exact absurd h3 (cstN _ _ _)
    · rw [stY_two (c := 148) (w1.trans k1) (by decide)] at h3; exact absurd h3 (sgN _ _ _ _)
    · rw [stY_two (c := s.1) w1 (by rw [k1]; exact uc_two ht)] at h3; exact absurd h3 (sgN _ _ _ _)
  · rcases k1 with k1 | k1 | k1
    · rw [stY_150 (w1.trans k1), w3]; exact k3
    · rw [stY_151 (w1.trans k1), w3]
      show (p : Int) < (if V (W (22 + 9 * e) p) = 0 then s.2.2.1 else (p : Int) + 1) ∧ (if V (W (22 + 9 * e) p) = 0 then s.2.2.1 else (p : Int) + 1) ≤ S.length
      split <;> omega
    · rw [stY_152 (w1.trans k1), w3]
      show (p : Int) < (if V (W (22 + 9 * e) p) = 1 then s.2.2.1 else (p : Int) + 1) ∧ (if V (W (22 + 9 * e) p) = 1 then s.2.2.1 else (p : Int) + 1) ≤ S.length
      split <;> omega
  · rw [stY_149 (w1.trans k1)] at h3
    exact absurd h3 (by show ¬ (0 : Int) = 3; decide)
  · rcases k1 with k1 | ⟨t, ht, k1⟩
    · rw [stY_145 (w1.trans k1)] at h3; exact absurd h3 (elmN _ _)
    · exact (two t ht k1).elim
section GO
variable {W A : Mem} {e : Nat} {L : Int} {N : List ND} {S : List SD} {TN TS : Int → Int}
theorem pS_le (hf : fwD W e L) : ∀ {n : Nat} {V V' : Int → Int} {q q' : Int}, 0 ≤ q → q ≤ L → pS W e L n V q V' q' → q + n ≤ q' ∧ q' ≤ L := by
  intro n
  induction n with
  | zero => intro V V' q q' _ hq h; obtain ⟨-, rfl⟩ := h; omega
  | succ n ih =>
    intro V V' q q' h0 hq h
    obtain ⟨h1, h2, h3⟩ := h
    rcases h3 with ⟨h3, h4⟩ | ⟨h3, h4⟩
    · have := ih (by omega) (by omega) h4; omega
    · have h5 := hf V q h0 h1 h3
      have := ih (by omega) (by omega) h4; omega
/-- where the steps end: at the last one, at one that waits, or at one that fails -/
def tmD (W : Mem) (e : Nat) (L : Int) (V : Int → Int) (q : Int) : Prop := ¬ q < L ∨ (stpH (wv e W V q) e q ∧ ((stpY W e V q).1 = 1 ∨ (stpY W e V q).1 = 2))
theorem pS_det : ∀ {n0 n : Nat} {Vb V V' : Int → Int} {q0 q q' : Int}, pS W e L n0 Vb q0 V q → pS W e L n Vb q0 V' q' → tmD W e L V' q' → ∃ m, n = n0 + m ∧ pS W e L m V q V' q' := by
  intro n0
  induction n0 with
  | zero => intro n Vb V V' q0 q q' h h2 _; obtain ⟨rfl, rfl⟩ := h; exact ⟨n, by omega, h2⟩
  | succ n0 ih =>
    intro n Vb V V' q0 q q' h h2 ht
    obtain ⟨h3, h4, h5⟩ := h
    cases n with
    | zero =>
      obtain ⟨rfl, rfl⟩ := h2
      exfalso
      rcases ht with ht | ⟨-, ht⟩
      · exact ht h3
      · rcases h5 with ⟨h5, -⟩ | ⟨h5, -⟩ <;> omega
    | succ n =>
      obtain ⟨-, -, k5⟩ := h2
      rcases h5 with ⟨h5, h6⟩ | ⟨h5, h6⟩
      · rcases k5 with ⟨k5, k6⟩ | ⟨k5, -⟩
        · obtain ⟨m, hm, hm2⟩ := ih h6 k6 ht
          exact ⟨m, by omega, hm2⟩
        · omega
      · rcases k5 with ⟨k5, -⟩ | ⟨k5, k6⟩
        · omega
        · obtain ⟨m, hm, hm2⟩ := ih h6 k6 ht
          exact ⟨m, by omega, hm2⟩
theorem eff_wv (he : e < 4) {V : Int → Int} {q : Int} : effD (wv e W V q) e q (stpR (wv e W V q) e q) = if (stpY W e V q).1 = 0 then wv e W (ups V q (stpY W e V q).2) (q + 1) else if (stpY W e V q).1 = 1 then waitD (wv e W V q) e (stpY W e V q).2 else if (stpY W e V q).1 = 2 then failD (wv e W V q) e (stpY W e V q).2 else wv e W V (stpY W e V q).2 := by
  rw [stpR_wv he]
  unfold effD
  rw [wv_set, wv_jmp]
  rfl
theorem goD_pS (he : e < 4) (h2 : W (19 + 9 * e) 7 = 2) (hL : W (20 + 9 * e) 6 = L) : ∀ {n m : Nat} {V V' : Int → Int} {q q' : Int}, pS W e L n V q V' q' → goD e (n + m) (wv e W V q) = goD e m (wv e W V' q') := by
  intro n
  induction n with
  | zero => intro m V V' q q' h; obtain ⟨rfl, rfl⟩ := h; rw [Nat.zero_add]
  | succ n ih =>
    intro m V V' q q' h
    obtain ⟨h3, h4, h5⟩ := h
    have e7 : wv e W V q (19 + 9 * e) 7 = 2 := (wv_19 (by decide)).trans h2
    have e6 : wv e W V q (20 + 9 * e) 6 = L := by rw [wv_c (by omega) (by omega)]; exact hL
    rw [show n + 1 + m = (n + m) + 1 by omega, goD_y e7 (by rw [wv_10, e6]; exact h3), wv_10, eff_wv he]
    rcases h5 with ⟨h5, h6⟩ | ⟨h5, h6⟩
    · rw [if_pos h5]; exact ih h6
    · rw [if_neg (by omega), if_neg (by omega), if_neg (by omega)]; exact ih h6
theorem wait_7 {p : Int} {M : Mem} : ¬ waitD M e p (19 + 9 * e) 7 = 2 := by
  unfold waitD
  split
  · rw [mset_eq rfl]; decide
  · rw [mset_ni (by decide), mset_eq rfl]; decide
theorem fail_7 {t : Int} {M : Mem} : ¬ failD M e t (19 + 9 * e) 7 = 2 := by
  unfold failD
  rw [mset_ni (by decide), mset_eq rfl]; decide
theorem goD_end (he : e < 4) (h2 : W (19 + 9 * e) 7 = 2) (hL : W (20 + 9 * e) 6 = L) {m : Nat} {V : Int → Int} {q : Int} (hm : 1 ≤ m) : (¬ q < L → goD e m (wv e W V q) = wv e W V q) ∧ (q < L → (stpY W e V q).1 = 1 → goD e m (wv e W V q) = waitD (wv e W V q) e (stpY W e V q).2) ∧ (q < L → (stpY W e V q).1 = 2 → goD e m (wv e W V q) = failD (wv e W V q) e (stpY W e V q).2) := by
  have e7 : wv e W V q (19 + 9 * e) 7 = 2 := (wv_19 (by decide)).trans h2
  have e6 : wv e W V q (20 + 9 * e) 6 = L := by rw [wv_c (by omega) (by omega)]; exact hL
  refine ⟨fun h => goD_n (fun h9 => h (by have := h9.2; rw [wv_10, e6] at this; exact this)), fun h h1 => ?_, fun h h1 => ?_⟩
  · obtain ⟨k, rfl⟩ : ∃ k, m = k + 1 := ⟨m - 1, by omega⟩
    rw [goD_y e7 (by rw [wv_10, e6]; exact h), wv_10, eff_wv he, if_neg (by omega), if_pos h1]
    exact goD_n (fun h9 => wait_7 h9.1)
  · obtain ⟨k, rfl⟩ : ∃ k, m = k + 1 := ⟨m - 1, by omega⟩
    rw [goD_y e7 (by rw [wv_10, e6]; exact h), wv_10, eff_wv he, if_neg (by omega), if_neg (by omega), if_pos h1]
    exact goD_n (fun h9 => fail_7 h9.1)
/-- an invariant of the steps of one evaluation -/
def JJ (W : Mem) (e : Nat) (L : Int) (X : Mem) : Prop := ¬ X (19 + 9 * e) 7 = 2 ∨ ∃ n V q V' q', X = wv e W V q ∧ pS W e L n V q V' q' ∧ tmD W e L V' q'
theorem JJ_goH (he : e < 4) (h2 : W (19 + 9 * e) 7 = 2) (hL : W (20 + 9 * e) 6 = L) : goH e (JJ W e L) := by
  intro X hX h7 hlt
  rcases hX with hX | ⟨n, V, q, V', q', rfl, hp, ht⟩
  · exact absurd h7 hX
  have e6 : wv e W V q (20 + 9 * e) 6 = L := by rw [wv_c (by omega) (by omega)]; exact hL
  rw [wv_10, e6] at hlt
  rw [wv_10, eff_wv he]
  cases n with
  | zero =>
    obtain ⟨rfl, rfl⟩ := hp
    rcases ht with ht | ⟨hs, ht⟩
    · exact absurd hlt ht
    · refine ⟨hs, Or.inl ?_⟩
      rcases ht with ht | ht
      · rw [if_neg (by omega), if_pos ht]; exact wait_7
      · rw [if_neg (by omega), if_neg (by omega), if_pos ht]; exact fail_7
  | succ n =>
    obtain ⟨h3, h4, h5⟩ := hp
    refine ⟨h4, Or.inr ?_⟩
    rcases h5 with ⟨h5, h6⟩ | ⟨h5, h6⟩
    · rw [if_pos h5]; exact ⟨n, _, _, V', q', rfl, h6, ht⟩
    · rw [if_neg (by omega), if_neg (by omega), if_neg (by omega)]; exact ⟨n, _, _, V', q', rfl, h6, ht⟩
theorem wv_self {M : Mem} : wv e M (M (26 + 9 * e)) (M (19 + 9 * e) 10) = M := by
  funext c i
  unfold wv
  by_cases h : c = 26 + 9 * e
  · rw [if_pos h, h]
  · rw [if_neg h]
    by_cases h2 : c = 19 + 9 * e ∧ i = 10
    · rw [if_pos h2, h2.1, h2.2]
    · rw [if_neg h2]
/-- an evaluation that goes on, from any place where it was, comes to what the whole is worth -/
theorem run_out {f : Nat} (h : RS W A e N S TN TS) (hf : fwD W e S.length) (hc : Comp N S f 0 N.length 0 S.length) (h2 : W (19 + 9 * e) 7 = 2) {Vb V : Int → Int} {q : Int} {n0 : Nat} (hb : cnV S Vb) (hp : pS W e S.length n0 Vb 0 V q) :
    (∃ J, goH e J ∧ J (wv e W V q)) ∧ ((eV A N TN (tp N)).1 = 0 → ∃ V', goD e 48 (wv e W V q) = wv e W V' S.length ∧ V' ((S.length : Int) - 1) = (eV A N TN (tp N)).2)
    ∧ ((eV A N TN (tp N)).1 = 1 → ∃ V' q' p n, goD e 48 (wv e W V q) = waitD (wv e W V' q') e p ∧ pS W e S.length n Vb 0 V' q' ∧ vpD W p ∧ (eV A N TN (tp N)).2 = pcD W p)
    ∧ ((eV A N TN (tp N)).1 = 2 → ∃ V' q', goD e 48 (wv e W V q) = failD (wv e W V' q') e (eV A N TN (tp N)).2) := by
  have he : e < 4 := h.1.2.2.2.2
  have hL : W (20 + 9 * e) 6 = S.length := h.2.2.1.1
  have h48 := h.2.2.2.1
  have hl := Comp_lt hc
  obtain ⟨x1, x2⟩ := exec h hc Vb hb
  have c1 : ((N.length : Nat) : Int) - 1 = tp N := rfl
  rw [c1] at x1 x2
  have hq0 := pS_le hf (Int.le_refl 0) (by omega) hp
  -- the end, from the beginning
  have main : ∀ (n : Nat) (V' : Int → Int) (q' : Int), pS W e S.length n Vb 0 V' q' → tmD W e S.length V' q' → (∃ J, goH e J ∧ J (wv e W V q)) ∧ ∃ m, goD e 48 (wv e W V q) = goD e m (wv e W V' q') ∧ (q' < S.length → 1 ≤ m) := by
    intro n V' q' hn ht
    obtain ⟨m, hm, hm2⟩ := pS_det hp hn ht
    have hq' := pS_le hf (Int.le_refl 0) (by omega) hn
    refine ⟨⟨JJ W e S.length, JJ_goH he h2 hL, Or.inr ⟨m, V, q, V', q', rfl, hm2, ht⟩⟩, 48 - m, ?_, fun h9 => by omega⟩
    have := goD_pS (m := 48 - m) he h2 hL hm2
    rw [show m + (48 - m) = 48 by omega] at this
    exact this
  by_cases h0 : (eV A N TN (tp N)).1 = 0
  · obtain ⟨n, V', p1, p2, p3, p4⟩ := x1 (eV A N TN (tp N)).2 (Prod.ext h0 rfl)
    obtain ⟨hJ, m, hm, -⟩ := main n V' S.length p1 (Or.inl (by omega))
    refine ⟨hJ, fun _ => ⟨V', ?_, p2⟩, fun h9 => by omega, fun h9 => by omega⟩
    rw [hm]
    cases m with
    | zero => rfl
    | succ m => exact (goD_end he h2 hL (by omega)).1 (by omega)
  · obtain ⟨n, V', q', p1, p2, p3, p4⟩ := x2 h0
    rcases p4 with ⟨r1, r2⟩ | ⟨r1, r2, r3⟩ | ⟨r1, r2⟩
    · rw [r2] at h0; exact absurd r1 h0
    · obtain ⟨hJ, m, hm, hm1⟩ := main n V' q' p1 (Or.inr ⟨p3, Or.inl r1⟩)
      refine ⟨hJ, fun h9 => absurd h9 h0, fun _ => ⟨V', q', (stpY W e V' q').2, n, ?_, p1, r2, by rw [r3]⟩, fun h9 => ?_⟩
      · rw [hm]; exact (goD_end he h2 hL (hm1 p2.2)).2.1 p2.2 r1
      · rw [r3] at h9; exact absurd h9 (by show ¬ (1 : Int) = 2; decide)
    · obtain ⟨hJ, m, hm, hm1⟩ := main n V' q' p1 (Or.inr ⟨p3, Or.inr r1⟩)
      refine ⟨hJ, fun h9 => absurd h9 h0, fun h9 => ?_, fun _ => ⟨V', q', ?_⟩⟩
      · rw [r2] at h9; omega
      · rw [hm, r2]; exact (goD_end he h2 hL (hm1 p2.2)).2.2 p2.2 r1
end GO
