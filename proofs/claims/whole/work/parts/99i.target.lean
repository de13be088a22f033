theorem kind_mono {n n' k : Int} (h : n ≤ n') (hk : isKindB n k = true) : isKindB n' k = true := by
  have := isKindB_t.mp hk
  exact isKindB_t.mpr (by omega)
section TG
variable {M M2 : Mem}
theorem isAf_cg {p p' : Int → Int} {cl b : Int} (hp : ∀ c, 0 ≤ c → c < cl → p c < c) (he : ∀ c, 0 ≤ c → c < cl → p' c = p c) : ∀ (n : Nat) (c : Int), c < cl → isAf p' n c b = isAf p n c b := by
  intro n
  induction n with
  | zero => intro c _; rfl
  | succ n ih =>
    intro c hc
    by_cases e : c = b
    · rw [isAf_eq e, isAf_eq e]
    by_cases h0 : c < 0
    · rw [isAf_neg e h0, isAf_neg e h0]
    · rw [isAf_s e h0, isAf_s e h0, he c (by omega) hc]
      have := hp c (by omega) hc
      exact ih _ (by omega)
theorem foF_cg {p p' f f' : Int → Int} {cl name : Int} (hp : ∀ c, 0 ≤ c → c < cl → p c < c) (he : ∀ c, 0 ≤ c → c < cl → p' c = p c) (hf : ∀ c, 0 ≤ c → c < cl → f' (26 * c + name) = f (26 * c + name)) : ∀ (n : Nat) (c : Int), c < cl → foF p' f' name n c = foF p f name n c := by
  intro n
  induction n with
  | zero => intro c _; rfl
  | succ n ih =>
    intro c hc
    by_cases h0 : c < 0
    · rw [foF_neg h0, foF_neg h0]
    by_cases hh : 0 ≤ f (26 * c + name)
    · rw [foF_hit h0 hh, foF_hit h0 (by rw [hf c (by omega) hc]; exact hh), hf c (by omega) hc]
    · rw [foF_s h0 hh, foF_s h0 (by rw [hf c (by omega) hc]; exact hh), he c (by omega) hc]
      have := hp c (by omega) hc
      exact ih _ (by omega)
/-- the values that were valid stay so, when classes and objects are added -/
theorem valid_mono {k v : Int} (h60 : ∀ o, 1 ≤ o → o ≤ M 55 5 → M2 60 o = M 60 o) (h5 : M 55 5 ≤ M2 55 5) (hs : ∀ o, 1 ≤ o → o ≤ M 55 5 → ∀ k, suitsB M (M 60 o) k = true → suitsB M2 (M 60 o) k = true) (hk : 0 ≤ k) (h : validB M k v = true) : validB M2 k v = true := by
  by_cases h4 : 4 ≤ k
  · rcases (val_r h4).mp h with h9 | ⟨h9, h8⟩
    · exact (val_r h4).mpr (Or.inl h9)
    · exact (val_r h4).mpr (Or.inr ⟨by omega, by rw [h60 v (by omega) h9.2]; exact hs v (by omega) h9.2 k h8⟩)
  · rcases (show k = 0 ∨ k = 1 ∨ k = 2 ∨ k = 3 by omega) with rfl | rfl | rfl | rfl
    · rw [val_0] at h ⊢; exact h
    · exact val_1
    · rw [val_2] at h ⊢; exact h
    · rw [val_3] at h ⊢; exact h
theorem due_ge {M : Mem} (hI : TI M) {o p : Int} (ho : 1 ≤ o ∧ o ≤ 12) (hp : 0 ≤ p ∧ p < 26) : -1 ≤ dueM M o p := by
  have h60 := hI.2.2.2.2.2.2.2.2.2.1 o (by omega) (by omega)
  unfold dueM
  split
  · by_cases h4 : 4 ≤ M 60 o
    · exact (fieldM_rng hI.2.2.2.2.1 hI.2.2.2.2.2.2.1 (by omega) hp).1
    · rw [show fieldM M (M 60 o - 4) p = -1 from foF_neg (by omega)]; omega
  · split
    · unfold elemM; split <;> omega
    · omega
theorem tg_class {a : Int} (hT : RT M) (hI : TI M) (hC : CI M) (hok : addClassOK M a) (e4 : ∀ i, M2 4 i = if i = 4 then M 55 0 + 1 else M 4 i) (e5 : ∀ i, M2 5 i = if i = M 55 0 then a else M 5 i) (e56 : ∀ i, M2 56 i = if i = M 55 0 then a else M 56 i) (e55 : ∀ i, M2 55 i = if i = 0 then M 55 0 + 1 else M 55 i) (eo : ∀ c, ¬ (c = 4 ∨ c = 5 ∨ c = 55 ∨ c = 56) → M2 c = M c) : RT M2 ∧ TI M2 ∧ CI M2 := by
  obtain ⟨k1, k2, k3, k4⟩ := hok
  have hI0 := hI
  obtain ⟨i1, i2, i3, i4, i5, i6, i7, i8, i9, i10, i11, i12, i13, i14⟩ := hI
  obtain ⟨t1, t2, t3, ⟨t4, t5, t6, t7⟩, t8, t9, t10⟩ := hT
  obtain ⟨c1, c2, c3, c4, c5, c6⟩ := hC
  have a0 : M2 55 0 = M 55 0 + 1 := by rw [e55, if_pos rfl]
  have a5 : M2 55 5 = M 55 5 := by rw [e55, if_neg (by decide)]
  have a9 : M2 55 9 = M 55 9 := by rw [e55, if_neg (by decide)]
  have a10 : M2 55 10 = M 55 10 := by rw [e55, if_neg (by decide)]
  have h56 : ∀ c, 0 ≤ c → c < M 55 0 → M2 56 c = M 56 c := fun c _ h1 => by rw [e56, if_neg (by omega)]
  have b6 := eo 6 (by decide); have b7 := eo 7 (by decide); have b8 := eo 8 (by decide); have b57 := eo 57 (by decide); have b58 := eo 58 (by decide); have b59 := eo 59 (by decide); have b60 := eo 60 (by decide); have b61 := eo 61 (by decide); have b62 := eo 62 (by decide)
  have hisA : ∀ x y, x < M 55 0 → isAm M2 x y = isAm M x y := fun x y hx => isAf_cg i6 h56 6 x hx
  have hfld : ∀ x n, x < M 55 0 → fieldM M2 x n = fieldM M x n := fun x n hx => foF_cg i6 h56 (fun c _ _ => by rw [b57]) 6 x hx
  have hval : ∀ k v, 0 ≤ k → validB M k v = true → validB M2 k v = true := fun k v hk hv => valid_mono (fun o _ _ => by rw [b60]) (by omega) (fun o o1 o2 k hs => by
    rcases suits_e.mp hs with h9 | h9 | ⟨h9, h8⟩
    · exact suits_e.mpr (Or.inl h9)
    · exact suits_e.mpr (Or.inr (Or.inl h9))
    · refine suits_e.mpr (Or.inr (Or.inr ⟨h9, ?_⟩))
      have := isKindB_t.mp (c1 o o1 o2).1
      rw [hisA _ _ (by omega)]; exact h8) hk hv
  have hdue : ∀ o p, 1 ≤ o → o ≤ 12 → dueM M2 o p = dueM M o p := fun o p o1 o2 => by
    unfold dueM
    rw [b60, b61]
    by_cases h10 : M 60 o < 10
    · rw [if_pos h10, if_pos h10]
      refine hfld _ _ ?_
      by_cases ho : o ≤ M 55 5
      · have := isKindB_t.mp (c1 o o1 ho).1; omega
      · have := (c2 o (by omega) o2).1; omega
    · rw [if_neg h10, if_neg h10]
  refine ⟨⟨fun c h0 h1 => ?_, fun j h0 h1 => by rw [b6, b57]; exact t2 j h0 h1, fun n h0 h1 => by rw [b7, b58]; exact t3 n h0 h1, ⟨?_, ?_, ?_, ?_⟩, fun n h0 h1 => by rw [b8, b59]; exact t8 n h0 h1, fun o p h0 h1 h2 h3 => by rw [b8, b62]; exact t9 o p h0 h1 h2 h3, fun o h0 h1 => by rw [b8, b61, b60]; exact t10 o h0 h1⟩, ⟨by rw [a0]; omega, by rw [a5]; exact i2, by rw [a9]; exact i3, by rw [a10]; exact i4, fun c h0 h1 => ?_, fun c h0 h1 => ?_, fun j h0 h1 => by rw [b57]; exact i7 j h0 h1, fun n h0 h1 => by rw [b58]; exact i8 n h0 h1, fun o h0 h1 => by rw [b60]; exact i9 o h0 (by rw [← a5]; exact h1), fun o h0 h1 => by rw [b60]; exact i10 o h0 h1, fun o h0 h1 => by rw [b61]; exact i11 o h0 h1, fun o h0 h1 => ?_, fun n h0 h1 h2 => ?_, fun j h0 h1 h2 => ?_⟩, fun o h0 h1 => ?_, fun o h0 h1 => by rw [b60, b61]; exact c2 o (by rw [← a5]; exact h0) h1, fun c n h0 h1 h2 h3 => by rw [b57]; exact c3 c n (by omega) h1 h2 h3, fun c d n h0 h1 h2 h3 h4 h5 h6 h7 h8 => ?_, fun n h0 h1 => ?_, fun o p h0 h1 h2 h3 => ?_⟩
  · rw [e5, e56, t1 c h0 h1]
  · rw [e4, if_pos rfl, a0]
  · rw [e4, if_neg (by decide), a5]; exact t5
  · rw [e4, if_neg (by decide), a9]; exact t6
  · rw [e4, if_neg (by decide), a10]; exact t7
  · rw [e56]; split
    · omega
    · exact i5 c h0 h1
  · rw [e56]; split
    · omega
    · exact i6 c h0 (by omega)
  · rw [a0, b60]; exact kind_mono (by omega) (i12 o h0 (by rw [← a5]; exact h1))
  · rw [a0, b58]; rw [b58] at h2; exact kind_mono (by omega) (i13 n h0 h1 h2)
  · rw [a0, b57]; rw [b57] at h2; exact kind_mono (by omega) (i14 j h0 h1 h2)
  · rw [a0, b60]; rw [a5] at h1; exact ⟨kind_mono (by omega) (c1 o h0 h1).1, (c1 o h0 h1).2⟩
  · rw [b57] at h8 ⊢
    by_cases hcc : c = M 55 0
    · rw [hcc, c3 (M 55 0) n (Int.le_refl _) (by omega) h6 h7] at h8; omega
    by_cases hdd : d = M 55 0
    · rw [hdd, c3 (M 55 0) n (Int.le_refl _) (by omega) h6 h7]; decide
    · rw [hisA c d (by omega)] at h4
      exact c4 c d n h0 (by omega) h2 (by omega) h4 h5 h6 h7 h8
  · rw [b58, b59]
    exact ⟨fun h2 => hval _ _ (by have := i8 n h0 h1; omega) ((c5 n h0 h1).1 h2), (c5 n h0 h1).2⟩
  · rw [hdue o p h0 h1, b62]
    exact ⟨fun h9 => hval _ _ (by have := due_ge hI0 ⟨h0, h1⟩ ⟨h2, h3⟩; omega) ((c6 o p h0 h1 h2 h3).1 h9), (c6 o p h0 h1 h2 h3).2⟩
theorem tg_field {t n k : Int} (hT : RT M) (hI : TI M) (hC : CI M) (hok : addFieldOK M t n k) (e6 : ∀ i, M2 6 i = if i = 26 * t + n then k else M 6 i) (e57 : ∀ i, M2 57 i = if i = 26 * t + n then k else M 57 i) (eo : ∀ c, ¬ (c = 6 ∨ c = 57) → M2 c = M c) : RT M2 ∧ TI M2 ∧ CI M2 := by
  obtain ⟨k1, k2, k3, k4, k5⟩ := hok
  have hI0 := hI
  have hkr := isKindB_t.mp k3
  obtain ⟨i1, i2, i3, i4, i5, i6, i7, i8, i9, i10, i11, i12, i13, i14⟩ := hI
  obtain ⟨t1, t2, t3, t4, t8, t9, t10⟩ := hT
  obtain ⟨c1, c2, c3, c4, c5, c6⟩ := hC
  have b4 := eo 4 (by decide); have b5 := eo 5 (by decide); have b7 := eo 7 (by decide); have b8 := eo 8 (by decide); have b55 := eo 55 (by decide); have b56 := eo 56 (by decide); have b58 := eo 58 (by decide); have b59 := eo 59 (by decide); have b60 := eo 60 (by decide); have b61 := eo 61 (by decide); have b62 := eo 62 (by decide)
  have hisA : isAm M2 = isAm M := by funext x y; unfold isAm; rw [b56]
  have hval : validB M2 = validB M := by
    funext x y; unfold validB suitsB; rw [hisA, b55, b60]
  have far : ∀ c, 0 ≤ c → c < M 55 0 → (isAm M c t = true ∨ isAm M t c = true) → ¬ 0 ≤ M 57 (26 * c + n) := fun c h0 h1 h h9 => k5 c h0 h1 ⟨h, h9⟩
  have hnone : fieldM M t n = -1 := by
    by_cases h : fieldM M t n = -1
    · exact h
    · obtain ⟨z, z1, z2, z3, z4, z5⟩ := foF_find (par_lt hI0) 6 t k1.2 h
      exact absurd z4 (far z z1 (by omega) (Or.inr z3))
  have hfld : ∀ x p, x < M 55 0 → 0 ≤ p → p < 26 → fieldM M2 x p = fieldM M x p ∨ (fieldM M x p = -1 ∧ fieldM M2 x p = k) := by
    intro x p hx hp0 hp1
    have main : ∀ (g : Nat) (x : Int), x < M 55 0 → x < g → foF (fun j => M 56 j) (fun j => M2 57 j) p g x = foF (fun j => M 56 j) (fun j => M 57 j) p g x ∨ (foF (fun j => M 56 j) (fun j => M 57 j) p g x = -1 ∧ foF (fun j => M 56 j) (fun j => M2 57 j) p g x = k) := by
      intro g
      induction g with
      | zero => intro x _ _; exact Or.inl rfl
      | succ g ih =>
        intro x hx hg
        by_cases h0 : x < 0
        · rw [foF_neg h0, foF_neg h0]; exact Or.inl rfl
        by_cases he : 26 * x + p = 26 * t + n
        · have hxt : x = t ∧ p = n := by omega
          obtain ⟨rfl, rfl⟩ := hxt
          have h2 : foF (fun j => M 56 j) (fun j => M2 57 j) p (g + 1) x = k := by
            have hv : M2 57 (26 * x + p) = k := by rw [e57, if_pos rfl]
            rw [foF_hit h0 (by show 0 ≤ M2 57 (26 * x + p); rw [hv]; omega)]
            exact hv
          refine Or.inr ⟨?_, h2⟩
          have : foF (fun j => M 56 j) (fun j => M 57 j) p (g + 1) x = fieldM M x p := foF_fuel (par_lt hI0) (g + 1) 6 x hx hg (by omega)
          rw [this]; exact hnone
        · have hv : M2 57 (26 * x + p) = M 57 (26 * x + p) := by rw [e57, if_neg he]
          by_cases hh : 0 ≤ M 57 (26 * x + p)
          · left
            rw [foF_hit h0 hh, foF_hit h0 (by show 0 ≤ M2 57 (26 * x + p); rw [hv]; exact hh)]
            exact hv
          · rw [foF_s h0 hh, foF_s h0 (by show ¬ 0 ≤ M2 57 (26 * x + p); rw [hv]; exact hh)]
            have := i6 x (by omega) hx
            exact ih _ (by omega) (by omega)
    have := main 6 x hx (by omega)
    unfold fieldM
    rw [b56]
    exact this
  refine ⟨⟨fun c h0 h1 => by rw [b5, b56]; exact t1 c h0 h1, fun j h0 h1 => by rw [e6, e57, t2 j h0 h1], fun n h0 h1 => by rw [b7, b58]; exact t3 n h0 h1, by rw [b4, b55]; exact t4, fun n h0 h1 => by rw [b8, b59]; exact t8 n h0 h1, fun o p h0 h1 h2 h3 => by rw [b8, b62]; exact t9 o p h0 h1 h2 h3, fun o h0 h1 => by rw [b8, b61, b60]; exact t10 o h0 h1⟩, ⟨by rw [b55]; exact i1, by rw [b55]; exact i2, by rw [b55]; exact i3, by rw [b55]; exact i4, fun c h0 h1 => by rw [b56]; exact i5 c h0 h1, fun c h0 h1 => by rw [b56]; exact i6 c h0 (by rw [← b55]; exact h1), fun j h0 h1 => ?_, fun n h0 h1 => by rw [b58]; exact i8 n h0 h1, fun o h0 h1 => by rw [b60]; exact i9 o h0 (by rw [← b55]; exact h1), fun o h0 h1 => by rw [b60]; exact i10 o h0 h1, fun o h0 h1 => by rw [b61]; exact i11 o h0 h1, fun o h0 h1 => by rw [b55, b60]; exact i12 o h0 (by rw [← b55]; exact h1), fun n h0 h1 h2 => by rw [b55, b58]; rw [b58] at h2; exact i13 n h0 h1 h2, fun j h0 h1 h2 => ?_⟩, fun o h0 h1 => by rw [b55, b60]; exact c1 o h0 (by rw [← b55]; exact h1), fun o h0 h1 => by rw [b60, b61]; exact c2 o (by rw [← b55]; exact h0) h1, fun c m h0 h1 h2 h3 => ?_, fun c d m h0 h1 h2 h3 h4 h5 h6 h7 h8 => ?_, fun n h0 h1 => by rw [hval, b58, b59]; exact c5 n h0 h1, fun o p h0 h1 h2 h3 => ?_⟩
  · rw [e57]; split
    · omega
    · exact i7 j h0 h1
  · rw [b55]; rw [e57] at h2 ⊢
    split
    · exact k3
    · rename_i h9; rw [if_neg h9] at h2; exact i14 j h0 h1 h2
  · rw [b55] at h0
    rw [e57, if_neg (by omega)]; exact c3 c m h0 h1 h2 h3
  · rw [b55] at h1 h3
    rw [hisA] at h4
    rw [e57] at h8 ⊢
    by_cases hc1 : 26 * c + m = 26 * t + n
    · have : c = t ∧ m = n := by omega
      obtain ⟨rfl, rfl⟩ := this
      rw [if_neg (by omega)]
      exact far d h2 h3 (Or.inr h4)
    · rw [if_neg hc1] at h8
      by_cases hd1 : 26 * d + m = 26 * t + n
      · have : d = t ∧ m = n := by omega
        obtain ⟨rfl, rfl⟩ := this
        exact absurd h8 (far c h0 h1 (Or.inl h4))
      · rw [if_neg hd1]
        exact c4 c d m h0 h1 h2 h3 h4 h5 h6 h7 h8
  · rw [hval, b62]
    have hold := c6 o p h0 h1 h2 h3
    have hd : dueM M2 o p = dueM M o p ∨ (dueM M o p = -1 ∧ dueM M2 o p = k) := by
      unfold dueM
      rw [b60, b61]
      by_cases h10 : M 60 o < 10
      · rw [if_pos h10, if_pos h10]
        refine hfld _ _ ?_ h2 h3
        by_cases ho : o ≤ M 55 5
        · have := isKindB_t.mp (c1 o h0 ho).1; omega
        · have := (c2 o (by omega) h1).1; omega
      · rw [if_neg h10, if_neg h10]; exact Or.inl rfl
    rcases hd with hd | ⟨hd1, hd2⟩
    · rw [hd]; exact hold
    · rw [hd2, hold.2 hd1]
      exact ⟨fun _ => val_zero (by omega), fun h9 => rfl⟩
theorem tg_var {n k : Int} (hT : RT M) (hI : TI M) (hC : CI M) (hok : addVarOK M n k) (e7 : ∀ i, M2 7 i = if i = n then k else M 7 i) (e58 : ∀ i, M2 58 i = if i = n then k else M 58 i) (eo : ∀ c, ¬ (c = 7 ∨ c = 58) → M2 c = M c) : RT M2 ∧ TI M2 ∧ CI M2 := by
  obtain ⟨k1, k2, k3, k4, k5⟩ := hok
  have hkr := isKindB_t.mp k2
  obtain ⟨i1, i2, i3, i4, i5, i6, i7, i8, i9, i10, i11, i12, i13, i14⟩ := hI
  obtain ⟨t1, t2, t3, t4, t8, t9, t10⟩ := hT
  obtain ⟨c1, c2, c3, c4, c5, c6⟩ := hC
  have b4 := eo 4 (by decide); have b5 := eo 5 (by decide); have b6 := eo 6 (by decide); have b8 := eo 8 (by decide); have b55 := eo 55 (by decide); have b56 := eo 56 (by decide); have b57 := eo 57 (by decide); have b59 := eo 59 (by decide); have b60 := eo 60 (by decide); have b61 := eo 61 (by decide); have b62 := eo 62 (by decide)
  have hisA : isAm M2 = isAm M := by funext x y; unfold isAm; rw [b56]
  have hval : validB M2 = validB M := by
    funext x y; unfold validB suitsB; rw [hisA, b55, b60]
  have hdue : dueM M2 = dueM M := by
    funext x y; unfold dueM fieldM; rw [b56, b57, b60, b61]
  refine ⟨⟨fun c h0 h1 => by rw [b5, b56]; exact t1 c h0 h1, fun j h0 h1 => by rw [b6, b57]; exact t2 j h0 h1, fun m h0 h1 => by rw [e7, e58, t3 m h0 h1], by rw [b4, b55]; exact t4, fun n h0 h1 => by rw [b8, b59]; exact t8 n h0 h1, fun o p h0 h1 h2 h3 => by rw [b8, b62]; exact t9 o p h0 h1 h2 h3, fun o h0 h1 => by rw [b8, b61, b60]; exact t10 o h0 h1⟩, ⟨by rw [b55]; exact i1, by rw [b55]; exact i2, by rw [b55]; exact i3, by rw [b55]; exact i4, fun c h0 h1 => by rw [b56]; exact i5 c h0 h1, fun c h0 h1 => by rw [b56]; exact i6 c h0 (by rw [← b55]; exact h1), fun j h0 h1 => by rw [b57]; exact i7 j h0 h1, fun m h0 h1 => ?_, fun o h0 h1 => by rw [b60]; exact i9 o h0 (by rw [← b55]; exact h1), fun o h0 h1 => by rw [b60]; exact i10 o h0 h1, fun o h0 h1 => by rw [b61]; exact i11 o h0 h1, fun o h0 h1 => by rw [b55, b60]; exact i12 o h0 (by rw [← b55]; exact h1), fun m h0 h1 h2 => ?_, fun j h0 h1 h2 => by rw [b55, b57]; rw [b57] at h2; exact i14 j h0 h1 h2⟩, fun o h0 h1 => by rw [b55, b60]; exact c1 o h0 (by rw [← b55]; exact h1), fun o h0 h1 => by rw [b60, b61]; exact c2 o (by rw [← b55]; exact h0) h1, fun c m h0 h1 h2 h3 => by rw [b57]; exact c3 c m (by rw [← b55]; exact h0) h1 h2 h3, fun c d m h0 h1 h2 h3 h4 h5 h6 h7 h8 => by rw [b57] at h8 ⊢; rw [hisA] at h4; exact c4 c d m h0 (by rw [← b55]; exact h1) h2 (by rw [← b55]; exact h3) h4 h5 h6 h7 h8, fun m h0 h1 => ?_, fun o p h0 h1 h2 h3 => by rw [hval, hdue, b62]; exact c6 o p h0 h1 h2 h3⟩
  · rw [e58]; split
    · omega
    · exact i8 m h0 h1
  · rw [b55]; rw [e58] at h2 ⊢
    split
    · exact k2
    · rename_i h9; rw [if_neg h9] at h2; exact i13 m h0 h1 h2
  · rw [hval, b59, e58]
    by_cases hm : m = n
    · subst hm
      rw [if_pos rfl, (c5 m h0 h1).2 (by have := i8 m h0 h1; omega)]
      exact ⟨fun _ => val_zero (by omega), fun h9 => rfl⟩
    · rw [if_neg hm]; exact c5 m h0 h1
theorem tg_make {k l : Int} (hT : RT M) (hI : TI M) (hC : CI M) (hok : makeOK M k l) (e4 : ∀ i, M2 4 i = if i = 5 then M 55 5 + 1 else M 4 i) (e8 : ∀ i, M2 8 i = if i = 28 * (M 55 5 + 1) + 27 then k else if i = 28 * (M 55 5 + 1) + 26 then (if 10 ≤ k then l else 0) else M 8 i) (e55 : ∀ i, M2 55 i = if i = 5 then M 55 5 + 1 else M 55 i) (e60 : ∀ i, M2 60 i = if i = M 55 5 + 1 then k else M 60 i) (e61 : ∀ i, M2 61 i = if i = M 55 5 + 1 then (if 10 ≤ k then l else 0) else M 61 i) (eo : ∀ c, ¬ (c = 4 ∨ c = 8 ∨ c = 55 ∨ c = 60 ∨ c = 61) → M2 c = M c) : RT M2 ∧ TI M2 ∧ CI M2 := by
  obtain ⟨k1, k2, k3, k4, k5⟩ := hok
  have hkr := isKindB_t.mp k1
  have hI0 := hI
  obtain ⟨i1, i2, i3, i4, i5, i6, i7, i8, i9, i10, i11, i12, i13, i14⟩ := hI
  obtain ⟨t1, t2, t3, ⟨t4, t5, t6, t7⟩, t8, t9, t10⟩ := hT
  obtain ⟨c1, c2, c3, c4, c5, c6⟩ := hC
  have a0 : M2 55 0 = M 55 0 := by rw [e55, if_neg (by decide)]
  have a5 : M2 55 5 = M 55 5 + 1 := by rw [e55, if_pos rfl]
  have a9 : M2 55 9 = M 55 9 := by rw [e55, if_neg (by decide)]
  have a10 : M2 55 10 = M 55 10 := by rw [e55, if_neg (by decide)]
  have b5 := eo 5 (by decide); have b6 := eo 6 (by decide); have b7 := eo 7 (by decide); have b56 := eo 56 (by decide); have b57 := eo 57 (by decide); have b58 := eo 58 (by decide); have b59 := eo 59 (by decide); have b62 := eo 62 (by decide)
  have hisA : isAm M2 = isAm M := by funext x y; unfold isAm; rw [b56]
  have hsu : suitsB M2 = suitsB M := by funext x y; unfold suitsB; rw [hisA]
  have h60 : ∀ o, 1 ≤ o → o ≤ M 55 5 → M2 60 o = M 60 o := fun o _ h => by rw [e60, if_neg (by omega)]
  have hval : ∀ k v, 0 ≤ k → validB M k v = true → validB M2 k v = true := fun k v hk hv => valid_mono h60 (by omega) (fun o _ _ k hs => by rw [hsu]; exact hs) hk hv
  have hl : 0 ≤ (if 10 ≤ k then l else 0) ∧ (if 10 ≤ k then l else 0) ≤ 5 := by split <;> omega
  refine ⟨⟨fun c h0 h1 => by rw [b5, b56]; exact t1 c h0 h1, fun j h0 h1 => by rw [b6, b57]; exact t2 j h0 h1, fun n h0 h1 => by rw [b7, b58]; exact t3 n h0 h1, ⟨?_, ?_, ?_, ?_⟩, fun n h0 h1 => ?_, fun o p h0 h1 h2 h3 => ?_, fun o h0 h1 => ?_⟩, ⟨by rw [a0]; exact i1, by rw [a5]; omega, by rw [a9]; exact i3, by rw [a10]; exact i4, fun c h0 h1 => by rw [b56]; exact i5 c h0 h1, fun c h0 h1 => by rw [b56]; exact i6 c h0 (by rw [← a0]; exact h1), fun j h0 h1 => by rw [b57]; exact i7 j h0 h1, fun n h0 h1 => by rw [b58]; exact i8 n h0 h1, fun o h0 h1 => ?_, fun o h0 h1 => ?_, fun o h0 h1 => ?_, fun o h0 h1 => ?_, fun n h0 h1 h2 => by rw [a0, b58]; rw [b58] at h2; exact i13 n h0 h1 h2, fun j h0 h1 h2 => by rw [a0, b57]; rw [b57] at h2; exact i14 j h0 h1 h2⟩, fun o h0 h1 => ?_, fun o h0 h1 => ?_, fun c m h0 h1 h2 h3 => by rw [b57]; exact c3 c m (by rw [← a0]; exact h0) h1 h2 h3, fun c d m h0 h1 h2 h3 h4 h5 h6 h7 h8 => by rw [b57] at h8 ⊢; rw [hisA] at h4; exact c4 c d m h0 (by rw [← a0]; exact h1) h2 (by rw [← a0]; exact h3) h4 h5 h6 h7 h8, fun n h0 h1 => ?_, fun o p h0 h1 h2 h3 => ?_⟩
  · rw [e4, if_neg (by decide), a0]; exact t4
  · rw [e4, if_pos rfl, a5]
  · rw [e4, if_neg (by decide), a9]; exact t6
  · rw [e4, if_neg (by decide), a10]; exact t7
  · rw [e8, if_neg (by omega), if_neg (by omega), b59]; exact t8 n h0 h1
  · rw [e8, if_neg (by omega), if_neg (by omega), b62]; exact t9 o p h0 h1 h2 h3
  · by_cases ho : o = M 55 5 + 1
    · subst ho
      rw [e8, e8, if_neg (by omega), if_pos rfl, if_pos rfl, e61, if_pos rfl, e60, if_pos rfl]
      exact ⟨rfl, rfl⟩
    · rw [e8, e8, if_neg (by omega), if_neg (by omega), if_neg (by omega), if_neg (by omega), e61, if_neg ho, e60, if_neg ho]
      exact t10 o h0 h1
  · rw [a5] at h1
    by_cases ho : o = M 55 5 + 1
    · rw [e60, if_pos ho]; omega
    · rw [e60, if_neg ho]; exact i9 o h0 (by omega)
  · rw [e60]; split
    · omega
    · exact i10 o h0 h1
  · rw [e61]; split
    · exact hl
    · exact i11 o h0 h1
  · rw [a5] at h1
    rw [a0, e60]
    by_cases ho : o = M 55 5 + 1
    · rw [if_pos ho]; exact k1
    · rw [if_neg ho]; exact i12 o h0 (by omega)
  · rw [a5] at h1
    rw [a0, e60]
    by_cases ho : o = M 55 5 + 1
    · rw [if_pos ho]; exact ⟨k1, by omega⟩
    · rw [if_neg ho]; exact c1 o h0 (by omega)
  · rw [a5] at h0
    rw [e60, e61, if_neg (by omega), if_neg (by omega)]
    exact c2 o (by omega) h1
  · rw [b58, b59]
    exact ⟨fun h2 => hval _ _ (by have := i8 n h0 h1; omega) ((c5 n h0 h1).1 h2), (c5 n h0 h1).2⟩
  · rw [b62]
    by_cases ho : o = M 55 5 + 1
    · have hd : dueM M o p = -1 := by
        have := (c2 o (by omega) h1).1
        unfold dueM
        rw [this, if_pos (by decide)]
        exact foF_neg (by decide)
      rw [(c6 o p h0 h1 h2 h3).2 hd]
      refine ⟨fun h9 => val_zero ?_, fun _ => rfl⟩
      have hI2 : -1 ≤ dueM M2 o p := by
        unfold dueM fieldM
        rw [e60, if_pos ho, e61, if_pos ho, b56, b57]
        by_cases h10 : k < 10
        · rw [if_pos h10]
          exact (fieldM_rng i5 i7 (c := k - 4) (by omega) ⟨h2, h3⟩).1
        · rw [if_neg h10]
          split
          · unfold elemM; split <;> omega
          · omega
      omega
    · have hd : dueM M2 o p = dueM M o p := by
        unfold dueM fieldM
        rw [e60, if_neg ho, e61, if_neg ho, b56, b57]
      rw [hd]
      exact ⟨fun h9 => hval _ _ (by have := due_ge hI0 ⟨h0, h1⟩ ⟨h2, h3⟩; omega) ((c6 o p h0 h1 h2 h3).1 h9), (c6 o p h0 h1 h2 h3).2⟩
theorem tg_setv {n v : Int} (hT : RT M) (hI : TI M) (hC : CI M) (hok : setVarOK M n v) (e8 : ∀ i, M2 8 i = if i = n then v else M 8 i) (e59 : ∀ i, M2 59 i = if i = n then v else M 59 i) (eo : ∀ c, ¬ (c = 8 ∨ c = 59) → M2 c = M c) : RT M2 ∧ TI M2 ∧ CI M2 := by
  obtain ⟨k1, k2, k3, k4⟩ := hok
  obtain ⟨t1, t2, t3, t4, t8, t9, t10⟩ := hT
  have b4 := eo 4 (by decide); have b5 := eo 5 (by decide); have b6 := eo 6 (by decide); have b7 := eo 7 (by decide); have b55 := eo 55 (by decide); have b56 := eo 56 (by decide); have b57 := eo 57 (by decide); have b58 := eo 58 (by decide); have b60 := eo 60 (by decide); have b61 := eo 61 (by decide); have b62 := eo 62 (by decide)
  have hval : validB M2 = validB M := by
    funext x y; unfold validB suitsB isAm; rw [b55, b56, b60]
  have hdue : dueM M2 = dueM M := by
    funext x y; unfold dueM fieldM; rw [b56, b57, b60, b61]
  have hisA : isAm M2 = isAm M := by funext x y; unfold isAm; rw [b56]
  refine ⟨⟨fun c h0 h1 => by rw [b5, b56]; exact t1 c h0 h1, fun j h0 h1 => by rw [b6, b57]; exact t2 j h0 h1, fun m h0 h1 => by rw [b7, b58]; exact t3 m h0 h1, by rw [b4, b55]; exact t4, fun m h0 h1 => by rw [e8, e59, t8 m h0 h1], fun o p h0 h1 h2 h3 => by rw [e8, if_neg (by omega), b62]; exact t9 o p h0 h1 h2 h3, fun o h0 h1 => by rw [e8, e8, if_neg (by omega), if_neg (by omega), b61, b60]; exact t10 o h0 h1⟩, TI_m (by rw [b55]) (by rw [b55]) (by rw [b55]) (by rw [b55]) b56 b57 b58 b60 b61 hI, ?_⟩
  obtain ⟨c1, c2, c3, c4, c5, c6⟩ := hC
  unfold CI
  rw [hval, hdue, hisA, b55, b57, b58, b60, b61, b62]
  refine ⟨c1, c2, c3, c4, fun m h0 h1 => ?_, c6⟩
  rw [e59]
  by_cases hm : m = n
  · subst hm; rw [if_pos rfl]; exact ⟨fun _ => k4, fun h9 => absurd h9 (by omega)⟩
  · rw [if_neg hm]; exact c5 m h0 h1
theorem tg_setp {o p v : Int} (hT : RT M) (hI : TI M) (hC : CI M) (hok : setPartOK M o p v) (e8 : ∀ i, M2 8 i = if i = 28 * o + p then v else M 8 i) (e62 : ∀ i, M2 62 i = if i = 26 * o + p then v else M 62 i) (eo : ∀ c, ¬ (c = 8 ∨ c = 62) → M2 c = M c) : RT M2 ∧ TI M2 ∧ CI M2 := by
  obtain ⟨k1, k2, k3, k4, k5⟩ := hok
  have h12 := hI.2.1
  obtain ⟨t1, t2, t3, t4, t8, t9, t10⟩ := hT
  have b4 := eo 4 (by decide); have b5 := eo 5 (by decide); have b6 := eo 6 (by decide); have b7 := eo 7 (by decide); have b55 := eo 55 (by decide); have b56 := eo 56 (by decide); have b57 := eo 57 (by decide); have b58 := eo 58 (by decide); have b59 := eo 59 (by decide); have b60 := eo 60 (by decide); have b61 := eo 61 (by decide)
  have hval : validB M2 = validB M := by
    funext x y; unfold validB suitsB isAm; rw [b55, b56, b60]
  have hdue : dueM M2 = dueM M := by
    funext x y; unfold dueM fieldM; rw [b56, b57, b60, b61]
  have hisA : isAm M2 = isAm M := by funext x y; unfold isAm; rw [b56]
  refine ⟨⟨fun c h0 h1 => by rw [b5, b56]; exact t1 c h0 h1, fun j h0 h1 => by rw [b6, b57]; exact t2 j h0 h1, fun m h0 h1 => by rw [b7, b58]; exact t3 m h0 h1, by rw [b4, b55]; exact t4, fun m h0 h1 => by rw [e8, if_neg (by omega), b59]; exact t8 m h0 h1, fun o' p' h0 h1 h2 h3 => ?_, fun o' h0 h1 => by rw [e8, e8, if_neg (by omega), if_neg (by omega), b61, b60]; exact t10 o' h0 h1⟩, TI_m (by rw [b55]) (by rw [b55]) (by rw [b55]) (by rw [b55]) b56 b57 b58 b60 b61 hI, ?_⟩
  · rw [e8, e62]
    by_cases h9 : 28 * o' + p' = 28 * o + p
    · rw [if_pos h9, if_pos (by omega)]
    · rw [if_neg h9, if_neg (by omega)]; exact t9 o' p' h0 h1 h2 h3
  obtain ⟨c1, c2, c3, c4, c5, c6⟩ := hC
  unfold CI
  rw [hval, hdue, hisA, b55, b57, b58, b59, b60, b61]
  refine ⟨c1, c2, c3, c4, c5, fun o' p' h0 h1 h2 h3 => ?_⟩
  rw [e62]
  by_cases h9 : 26 * o' + p' = 26 * o + p
  · have : o' = o ∧ p' = p := by omega
    obtain ⟨rfl, rfl⟩ := this
    rw [if_pos rfl]; exact ⟨fun _ => k5, fun h9 => absurd h9 (by omega)⟩
  · rw [if_neg h9]; exact c6 o' p' h0 h1 h2 h3
end TG
