def cLeaf (x : ND) (s : SD) : Prop := ∃ t v, x = (t, -1, -1, -1, v) ∧ ((1 ≤ t ∧ t ≤ 5 ∧ ¬ (t = 1 ∧ v = 2147483648) ∧ s = (137, 0, 0, 0, tkind t, tnum t v)) ∨ (t = 7 ∧ s = (143, 0, v, 0, 0, 0)) ∨ (t = 6 ∧ s = (143, 0, 26, 0, 0, 0)))
def cUn (x : ND) (s : SD) (n1 s1 : Int) : Prop := ∃ u v, x = (u, n1, -1, -1, v) ∧ ((u = 60 ∧ s = (144, s1, v, 0, 0, 0)) ∨ (u = 61 ∧ s = (142, s1, 0, 0, 0, 0)) ∨ (u = 63 ∧ s = (141, s1, 4 + v, 0, 0, 0)) ∨ (u = 64 ∧ s = (146, s1, v, 0, 0, 0)) ∨ (∃ t, (t = 27 ∨ t = 28 ∨ t = 32 ∨ t = 33) ∧ u = 100 + t ∧ v = 0 ∧ s = (ucode t, s1, 0, 0, 0, 0)))
def cBin (x : ND) (s : SD) (n1 n2 s1 s2 : Int) : Prop := ∃ t, x = (t, n1, n2, -1, 0) ∧ ((t = 62 ∧ s = (145, s1, s2, 0, 0, 0)) ∨ (0 < bdV t ∧ ¬ t = 44 ∧ ¬ t = 46 ∧ s = (tcode t, s1, s2, 0, 0, 0)))
/-- the nodes from i to j are an expression, and the steps from a to b work it out -/
def Comp (N : List ND) (S : List SD) : Nat → Nat → Nat → Nat → Nat → Prop
  | 0, _, _, _, _ => False
  | f + 1, i, j, a, b =>
    (∃ x s, j = i + 1 ∧ b = a + 1 ∧ N[i]? = some x ∧ S[a]? = some s ∧ cLeaf x s)
    ∨ (j = i + 2 ∧ b = a + 2 ∧ N[i]? = some (1, -1, -1, -1, 2147483648) ∧ S[a]? = some (137, 0, 0, 0, 0, 2147483648) ∧ N[i + 1]? = some (128, (i : Int), -1, -1, 0) ∧ S[a + 1]? = some (148, (a : Int), 0, 0, 0, 0))
    ∨ (∃ (j1 b1 : Nat) (x : ND) (s : SD), j = j1 + 1 ∧ b = b1 + 1 ∧ Comp N S f i j1 a b1 ∧ N[j1]? = some x ∧ S[b1]? = some s ∧ cUn x s ((j1 : Int) - 1) ((b1 : Int) - 1))
    ∨ (∃ (m q j1 b1 : Nat) (x : ND) (s : SD), j = j1 + 1 ∧ b = b1 + 1 ∧ Comp N S f i m a q ∧ Comp N S f m j1 q b1 ∧ N[j1]? = some x ∧ S[b1]? = some s ∧ cBin x s ((m : Int) - 1) ((j1 : Int) - 1) ((q : Int) - 1) ((b1 : Int) - 1))
    ∨ (∃ (m q j1 b1 : Nat) (t : Int), j = j1 + 1 ∧ b = b1 + 1 ∧ (t = 44 ∨ t = 46) ∧ Comp N S f i m a q ∧ S[q]? = some (if t = 44 then 151 else 152, (q : Int) - 1, (b1 : Int), 0, 0, 0) ∧ Comp N S f m j1 (q + 1) b1 ∧ N[j1]? = some (t, (m : Int) - 1, (j1 : Int) - 1, -1, 0) ∧ S[b1]? = some (tcode t, (q : Int) - 1, (b1 : Int) - 1, 0, 0, 0))
    ∨ (∃ m1 m2 q1 q2 j1 b1 : Nat, j = j1 + 1 ∧ b = b1 + 1 ∧ Comp N S f i m1 a q1 ∧ S[q1]? = some (151, (q1 : Int) - 1, (q2 : Int) + 1, 0, 0, 0) ∧ Comp N S f m1 m2 (q1 + 1) q2 ∧ S[q2]? = some (150, (q1 : Int) - 1, (b1 : Int), 0, 0, 0) ∧ Comp N S f m2 j1 (q2 + 1) b1 ∧ N[j1]? = some (65, (m1 : Int) - 1, (m2 : Int) - 1, (j1 : Int) - 1, 0) ∧ S[b1]? = some (149, (q1 : Int) - 1, (q2 : Int) - 1, (b1 : Int) - 1, 0, 0))
theorem Comp_lt {N : List ND} {S : List SD} : ∀ {f i j a b : Nat}, Comp N S f i j a b → i < j ∧ a < b := by
  intro f
  induction f with
  | zero => intro i j a b h; exact h.elim
  | succ f ih =>
    intro i j a b h
    rcases h with ⟨x, s, rfl, rfl, _⟩ | ⟨rfl, rfl, _⟩ | ⟨j1, b1, x, s, rfl, rfl, h1, _⟩ | ⟨m, q, j1, b1, x, s, rfl, rfl, h1, h2, _⟩ | ⟨m, q, j1, b1, t, rfl, rfl, _, h1, _, h2, _⟩ | ⟨m1, m2, q1, q2, j1, b1, rfl, rfl, h1, _, h2, _, h3, _⟩
    · omega
    · omega
    · have := ih h1; omega
    · have := ih h1; have := ih h2; omega
    · have := ih h1; have := ih h2; omega
    · have := ih h1; have := ih h2; have := ih h3; omega
theorem Comp_up {N : List ND} {S : List SD} : ∀ {f g i j a b : Nat}, f ≤ g → Comp N S f i j a b → Comp N S g i j a b := by
  intro f
  induction f with
  | zero => intro g i j a b _ h; exact h.elim
  | succ f ih =>
    intro g i j a b hg h
    obtain ⟨g, rfl⟩ : ∃ g', g = g' + 1 := ⟨g - 1, by omega⟩
    have hg' : f ≤ g := by omega
    rcases h with h | h | ⟨j1, b1, x, s, e1, e2, h1, h2⟩ | ⟨m, q, j1, b1, x, s, e1, e2, h1, h2, h3⟩ | ⟨m, q, j1, b1, t, e1, e2, h0, h1, h2, h3, h4⟩ | ⟨m1, m2, q1, q2, j1, b1, e1, e2, h1, h2, h3, h4, h5, h6⟩
    · exact Or.inl h
    · exact Or.inr (Or.inl h)
    · exact Or.inr (Or.inr (Or.inl ⟨j1, b1, x, s, e1, e2, ih hg' h1, h2⟩))
    · exact Or.inr (Or.inr (Or.inr (Or.inl ⟨m, q, j1, b1, x, s, e1, e2, ih hg' h1, ih hg' h2, h3⟩)))
    · exact Or.inr (Or.inr (Or.inr (Or.inr (Or.inl ⟨m, q, j1, b1, t, e1, e2, h0, ih hg' h1, h2, ih hg' h3, h4⟩))))
    · exact Or.inr (Or.inr (Or.inr (Or.inr (Or.inr ⟨m1, m2, q1, q2, j1, b1, e1, e2, ih hg' h1, h2, ih hg' h3, h4, ih hg' h5, h6⟩))))
theorem Comp_ext {N N' : List ND} {S S' : List SD} : ∀ {f i j a b : Nat}, (∀ p, i ≤ p → p < j → N'[p]? = N[p]?) → (∀ p, a ≤ p → p < b → S'[p]? = S[p]?) → Comp N S f i j a b → Comp N' S' f i j a b := by
  intro f
  induction f with
  | zero => intro i j a b _ _ h; exact h.elim
  | succ f ih =>
    intro i j a b hN hS h
    rcases h with ⟨x, s, rfl, rfl, h1, h2, h3⟩ | ⟨rfl, rfl, h1, h2, h3, h4⟩ | ⟨j1, b1, x, s, rfl, rfl, h1, h2, h3, h4⟩ | ⟨m, q, j1, b1, x, s, rfl, rfl, h1, h2, h3, h4, h5⟩ | ⟨m, q, j1, b1, t, rfl, rfl, h0, h1, h2, h3, h4, h5⟩ | ⟨m1, m2, q1, q2, j1, b1, rfl, rfl, h1, h2, h3, h4, h5, h6, h7⟩
    · exact Or.inl ⟨x, s, rfl, rfl, (hN _ (by omega) (by omega)).trans h1, (hS _ (by omega) (by omega)).trans h2, h3⟩
    · exact Or.inr (Or.inl ⟨rfl, rfl, (hN _ (by omega) (by omega)).trans h1, (hS _ (by omega) (by omega)).trans h2, (hN _ (by omega) (by omega)).trans h3, (hS _ (by omega) (by omega)).trans h4⟩)
    · have l1 := Comp_lt h1
      exact Or.inr (Or.inr (Or.inl ⟨j1, b1, x, s, rfl, rfl, ih (fun p p1 p2 => hN p p1 (by omega)) (fun p p1 p2 => hS p p1 (by omega)) h1, (hN _ (by omega) (by omega)).trans h2, (hS _ (by omega) (by omega)).trans h3, h4⟩))
    · have l1 := Comp_lt h1; have l2 := Comp_lt h2
      exact Or.inr (Or.inr (Or.inr (Or.inl ⟨m, q, j1, b1, x, s, rfl, rfl, ih (fun p p1 p2 => hN p p1 (by omega)) (fun p p1 p2 => hS p p1 (by omega)) h1, ih (fun p p1 p2 => hN p (by omega) (by omega)) (fun p p1 p2 => hS p (by omega) (by omega)) h2, (hN _ (by omega) (by omega)).trans h3, (hS _ (by omega) (by omega)).trans h4, h5⟩)))
    · have l1 := Comp_lt h1; have l2 := Comp_lt h3
      exact Or.inr (Or.inr (Or.inr (Or.inr (Or.inl ⟨m, q, j1, b1, t, rfl, rfl, h0, ih (fun p p1 p2 => hN p p1 (by omega)) (fun p p1 p2 => hS p p1 (by omega)) h1, (hS _ (by omega) (by omega)).trans h2, ih (fun p p1 p2 => hN p (by omega) (by omega)) (fun p p1 p2 => hS p (by omega) (by omega)) h3, (hN _ (by omega) (by omega)).trans h4, (hS _ (by omega) (by omega)).trans h5⟩))))
    · have l1 := Comp_lt h1; have l2 := Comp_lt h3; have l3 := Comp_lt h5
      exact Or.inr (Or.inr (Or.inr (Or.inr (Or.inr ⟨m1, m2, q1, q2, j1, b1, rfl, rfl, ih (fun p p1 p2 => hN p p1 (by omega)) (fun p p1 p2 => hS p p1 (by omega)) h1, (hS _ (by omega) (by omega)).trans h2, ih (fun p p1 p2 => hN p (by omega) (by omega)) (fun p p1 p2 => hS p (by omega) (by omega)) h3, (hS _ (by omega) (by omega)).trans h4, ih (fun p p1 p2 => hN p (by omega) (by omega)) (fun p p1 p2 => hS p (by omega) (by omega)) h5, (hN _ (by omega) (by omega)).trans h6, (hS _ (by omega) (by omega)).trans h7⟩))))
def Cmp (N : List ND) (S : List SD) (i j a b : Nat) : Prop := ∃ f, Comp N S f i j a b
/-- what was there stays -/
def keepL {α : Type} (L L' : List α) : Prop := ∀ p, p < L.length → L'[p]? = L[p]?
theorem keepL_rfl {α : Type} {L : List α} : keepL L L := fun _ _ => rfl
theorem keepL_add {α : Type} {L L' : List α} {x : α} (h : keepL L L') (hl : L.length ≤ L'.length) : keepL L (L' ++ [x]) := fun p hp => by
  rw [List.getElem?_append_left (by omega)]; exact h p hp
theorem keepL_tr {α : Type} {L L' L2 : List α} (h : keepL L L') (h2 : keepL L' L2) (hl : L.length ≤ L'.length) : keepL L L2 := fun p hp => (h2 p (by omega)).trans (h p hp)
theorem keepL_sub {α : Type} {L L2 : List α} {x : α} (h : keepL (L ++ [x]) L2) : keepL L L2 := fun p hp => by
  rw [h p (by simp; omega), List.getElem?_append_left hp]
theorem last_add {α : Type} (L : List α) (x : α) : (L ++ [x])[L.length]? = some x := by simp
theorem last_at {α : Type} {L : List α} {x : α} {n : Nat} (h : L.length = n) : (L ++ [x])[n]? = some x := by subst h; exact last_add _ _
theorem patch_len {S : List SD} {i : Nat} {v : Int} : (patchS S i v).length = S.length := by unfold patchS; simp
theorem patch_ne {S : List SD} {i p : Nat} {v : Int} (h : ¬ p = i) : (patchS S i v)[p]? = S[p]? := by unfold patchS; exact List.getElem?_set_ne (by omega)
theorem patch_at {S : List SD} {i : Nat} {v x y z w u r : Int} (h : S[i]? = some (x, y, z, w, u, r)) : (patchS S i v)[i]? = some (x, y, v, w, u, r) := by
  have hi : i < S.length := by
    by_cases hi : i < S.length
    · exact hi
    · rw [List.getElem?_eq_none (by omega)] at h; cases h
  unfold patchS
  rw [List.getElem?_set_self hi]
  rw [List.getD_eq_getElem?_getD, h]
  rfl
theorem keepL_patch {S S' : List SD} {i : Nat} {v : Int} (h : keepL S S') (hi : S.length ≤ i) : keepL S (patchS S' i v) := fun p hp => by rw [patch_ne (by omega)]; exact h p hp
section CM
variable {N : List ND} {S : List SD}
theorem Cmp_add {N' : List ND} {S' : List SD} {i j a b : Nat} (h : Cmp N S i j a b) (hj : j ≤ N.length) (hb : b ≤ S.length) (hN : keepL N N') (hS : keepL S S') : Cmp N' S' i j a b := by
  obtain ⟨f, h⟩ := h
  exact ⟨f, Comp_ext (fun p _ h2 => hN p (by omega)) (fun p _ h2 => hS p (by omega)) h⟩
theorem Cmp_leaf {x : ND} {s : SD} (h : cLeaf x s) : Cmp (N ++ [x]) (S ++ [s]) N.length (N ++ [x]).length S.length (S ++ [s]).length :=
  ⟨1, Or.inl ⟨x, s, by simp, by simp, by simp, by simp, h⟩⟩
theorem Cmp_un {i a : Nat} {x : ND} {s : SD} (h : Cmp N S i N.length a S.length) (hx : cUn x s (tp N) (ts S)) : Cmp (N ++ [x]) (S ++ [s]) i (N ++ [x]).length a (S ++ [s]).length := by
  obtain ⟨f, h1⟩ := Cmp_add (N' := N ++ [x]) (S' := S ++ [s]) h (Nat.le_refl _) (Nat.le_refl _) (keepL_add keepL_rfl (Nat.le_refl _)) (keepL_add keepL_rfl (Nat.le_refl _))
  exact ⟨f + 1, Or.inr (Or.inr (Or.inl ⟨N.length, S.length, x, s, by simp, by simp, h1, last_add _ _, last_add _ _, hx⟩))⟩
theorem Cmp_bin {i a : Nat} {N2 : List ND} {S2 : List SD} {x : ND} {s : SD} (h : Cmp N S i N.length a S.length) (h2 : Cmp N2 S2 N.length N2.length S.length S2.length) (kN : keepL N N2) (kS : keepL S S2) (hx : cBin x s (tp N) (tp N2) (ts S) (ts S2)) : Cmp (N2 ++ [x]) (S2 ++ [s]) i (N2 ++ [x]).length a (S2 ++ [s]).length := by
  obtain ⟨f2, h2'⟩ := Cmp_add (N' := N2 ++ [x]) (S' := S2 ++ [s]) h2 (Nat.le_refl _) (Nat.le_refl _) (keepL_add keepL_rfl (Nat.le_refl _)) (keepL_add keepL_rfl (Nat.le_refl _))
  have l2 := Comp_lt h2'
  obtain ⟨f1, h1'⟩ := Cmp_add (N' := N2 ++ [x]) (S' := S2 ++ [s]) h (Nat.le_refl _) (Nat.le_refl _) (keepL_add kN (by omega)) (keepL_add kS (by omega))
  exact ⟨max f1 f2 + 1, Or.inr (Or.inr (Or.inr (Or.inl ⟨N.length, S.length, N2.length, S2.length, x, s, by simp, by simp, Comp_up (Nat.le_max_left _ _) h1', Comp_up (Nat.le_max_right _ _) h2', last_add _ _, last_add _ _, hx⟩)))⟩
theorem Cmp_and {i a : Nat} {N2 : List ND} {S2 : List SD} {t z : Int} (ht : t = 44 ∨ t = 46) (hz : z = if t = 44 then 151 else 152) (h : Cmp N S i N.length a S.length) (h2 : Cmp N2 S2 N.length N2.length (S ++ [(z, ts S, 0, 0, 0, 0)]).length S2.length) (kN : keepL N N2) (kS : keepL (S ++ [(z, ts S, 0, 0, 0, 0)]) S2) :
    Cmp (N2 ++ [(t, tp N, tp N2, -1, 0)]) (patchS S2 S.length S2.length ++ [(tcode t, ts S, ts S2, 0, 0, 0)]) i (N2 ++ [(t, tp N, tp N2, -1, 0)]).length a (patchS S2 S.length S2.length ++ [(tcode t, ts S, ts S2, 0, 0, 0)]).length := by
  obtain ⟨f2, h2⟩ := h2
  obtain ⟨f1, h1⟩ := h
  have l2 := Comp_lt h2
  have l1 := Comp_lt h1
  simp only [List.length_append, List.length_cons, List.length_nil] at l2 h2
  have hs : S2[S.length]? = some (z, ts S, 0, 0, 0, 0) := (kS _ (by simp)).trans (last_add _ _)
  have hin : ∀ p, p < S2.length → ¬ p = S.length → (patchS S2 S.length S2.length ++ [(tcode t, ts S, ts S2, 0, 0, 0)])[p]? = S2[p]? := fun p hp hq => by
    rw [List.getElem?_append_left (by rw [patch_len]; exact hp), patch_ne hq]
  refine ⟨max f1 f2 + 1, Or.inr (Or.inr (Or.inr (Or.inr (Or.inl ⟨N.length, S.length, N2.length, S2.length, t, by simp, by simp [patch_len], ht, ?_, ?_, ?_, last_add _ _, ?_⟩))))⟩
  · exact Comp_up (Nat.le_max_left _ _) (Comp_ext (fun p p1 p2 => keepL_add kN (by omega) p p2) (fun p p1 p2 => (hin p (by omega) (by omega)).trans (keepL_sub kS p p2)) h1)
  · rw [List.getElem?_append_left (by rw [patch_len]; omega), patch_at hs, hz]
    unfold ts; rfl
  · exact Comp_up (Nat.le_max_right _ _) (Comp_ext (fun p p1 p2 => keepL_add keepL_rfl (Nat.le_refl _) p p2) (fun p p1 p2 => hin p p2 (by omega)) h2)
  · exact last_at patch_len
theorem Cmp_cho {i a : Nat} {N2 N3 : List ND} {S2 S3 : List SD} (h : Cmp N S i N.length a S.length) (h2 : Cmp N2 S2 N.length N2.length (S ++ [(151, ts S, 0, 0, 0, 0)]).length S2.length) (kN : keepL N N2) (kS : keepL (S ++ [(151, ts S, 0, 0, 0, 0)]) S2)
    (h3 : Cmp N3 S3 N2.length N3.length (patchS (S2 ++ [(150, ts S, 0, 0, 0, 0)]) S.length (S2.length + 1)).length S3.length) (kN3 : keepL N2 N3) (kS3 : keepL (patchS (S2 ++ [(150, ts S, 0, 0, 0, 0)]) S.length (S2.length + 1)) S3) :
    Cmp (N3 ++ [(65, tp N, tp N2, tp N3, 0)]) (patchS S3 S2.length S3.length ++ [(149, ts S, ts S2, ts S3, 0, 0)]) i (N3 ++ [(65, tp N, tp N2, tp N3, 0)]).length a (patchS S3 S2.length S3.length ++ [(149, ts S, ts S2, ts S3, 0, 0)]).length := by
  obtain ⟨f1, h1⟩ := h
  obtain ⟨f2, h2⟩ := h2
  obtain ⟨f3, h3⟩ := h3
  have l1 := Comp_lt h1
  have l2 := Comp_lt h2
  have l3 := Comp_lt h3
  rw [patch_len] at l3 h3
  simp only [List.length_append, List.length_cons, List.length_nil] at l2 h2 l3 h3
  have k3 : ∀ p, p < S2.length → ¬ p = S.length → S3[p]? = S2[p]? := fun p hp hq => by
    rw [kS3 p (by rw [patch_len]; simp; omega), patch_ne hq, List.getElem?_append_left hp]
  have hs1 : S3[S.length]? = some (151, ts S, ((S2.length + 1 : Nat) : Int), 0, 0, 0) := by
    rw [kS3 _ (by rw [patch_len]; simp; omega)]
    exact patch_at (by rw [List.getElem?_append_left (by omega)]; exact (kS _ (by simp)).trans (last_add _ _))
  have hs2 : S3[S2.length]? = some (150, ts S, 0, 0, 0, 0) := by
    rw [kS3 _ (by rw [patch_len]; simp), patch_ne (by omega)]; exact last_add _ _
  have hin : ∀ p, p < S3.length → ¬ p = S2.length → (patchS S3 S2.length S3.length ++ [(149, ts S, ts S2, ts S3, 0, 0)])[p]? = S3[p]? := fun p hp hq => by
    rw [List.getElem?_append_left (by rw [patch_len]; exact hp), patch_ne hq]
  refine ⟨max f1 (max f2 f3) + 1, Or.inr (Or.inr (Or.inr (Or.inr (Or.inr ⟨N.length, N2.length, S.length, S2.length, N3.length, S3.length, by simp, by simp [patch_len], ?_, ?_, ?_, ?_, ?_, last_add _ _, ?_⟩))))⟩
  · refine Comp_up (Nat.le_max_left _ _) (Comp_ext (fun p p1 p2 => ?_) (fun p p1 p2 => ?_) h1)
    · rw [keepL_add kN3 (by omega) p (by omega)]; exact kN p p2
    · rw [hin p (by omega) (by omega), k3 p (by omega) (by omega)]; exact keepL_sub kS p p2
  · rw [hin _ (by omega) (by omega), hs1]; unfold ts; simp
  · refine Comp_up (Nat.le_trans (Nat.le_max_left _ _) (Nat.le_max_right _ _)) (Comp_ext (fun p p1 p2 => keepL_add kN3 (by omega) p (by omega)) (fun p p1 p2 => ?_) h2)
    rw [hin p (by omega) (by omega), k3 p (by omega) (by omega)]
  · rw [List.getElem?_append_left (by rw [patch_len]; omega), patch_at hs2]; unfold ts; rfl
  · exact Comp_up (Nat.le_trans (Nat.le_max_right _ _) (Nat.le_max_right _ _)) (Comp_ext (fun p p1 p2 => keepL_add keepL_rfl (Nat.le_refl _) p (by omega)) (fun p p1 p2 => hin p p2 (by omega)) h3)
  · exact last_at patch_len
end CM
/-- what the descent leaves: bounds; the steps are the nodes' -/
def JQ (n s k : Int) (N : List ND) (S : List SD) (o a : Int) : DS → Prop
  | (k', N', S', o', a', c') => (k + s ≤ k' ∧ k' ≤ n) ∧ (N.length ≤ N'.length ∧ keepL N N') ∧ ((S.length : Int) + s ≤ S'.length ∧ (S'.length : Int) + s ≤ S.length + 2 * (k' - k) ∧ keepL S S') ∧ o' = o ∧ (a ≤ a' ∧ a' ≤ 4) ∧ (c' = 0 ∨ c' = 1)
section JJ
variable (T W : Int → Int) (n : Int)
/-- of an operand -/
def J1 (R : DS → Option DS) : Prop := ∀ k N S o a σ, 0 ≤ k → k ≤ n → a ≤ 4 → R (k, N, S, o, a, 0) = some σ → JQ n 1 k N S o a σ ∧ Cmp σ.2.1 σ.2.2.1 N.length σ.2.1.length S.length σ.2.2.1.length
/-- of what stands behind it -/
def J2 (R : DS → Option DS) : Prop := ∀ k N S o a c σ, 0 ≤ k → k ≤ n → a ≤ 4 → (c = 0 ∨ c = 1) → R (k, N, S, o, a, c) = some σ → JQ n 0 k N S o a σ ∧ ∀ i b, Cmp N S i N.length b S.length → Cmp σ.2.1 σ.2.2.1 i σ.2.1.length b σ.2.2.1.length
variable {T W n}
theorem jq_tr {s s2 : Int} {k o a k1 o1 a1 c1 : Int} {N N1 : List ND} {S S1 : List SD} {σ : DS} (h : JQ n s k N S o a (k1, N1, S1, o1, a1, c1)) (h2 : JQ n s2 k1 N1 S1 o1 a1 σ) (h0 : 0 ≤ s ∧ 0 ≤ s2 ∧ s + s2 ≤ 1) : JQ n (s + s2) k N S o a σ := by
  obtain ⟨k2, N2, S2, o2, a2, c2⟩ := σ
  obtain ⟨a1, ⟨a2, a3⟩, ⟨a4, a5, a6⟩, a7, a8, a9⟩ := h
  obtain ⟨b1, ⟨b2, b3⟩, ⟨b4, b5, b6⟩, b7, b8, b9⟩ := h2
  exact ⟨by omega, ⟨by omega, keepL_tr a3 b3 a2⟩, ⟨by omega, by omega, keepL_tr a6 b6 (by omega)⟩, by omega, by omega, b9⟩
theorem j_bind {F L : DS → Option DS} (h1 : J1 n F) (h2 : J2 n L) : J1 n (fun σ => (F σ).bind L) := by
  intro k N S o a σ h0 hn ha h
  cases hF : F (k, N, S, o, a, 0) with
  | none => simp only [hF] at h; cases h
  | some σ1 =>
    simp only [hF] at h
    obtain ⟨k1, N1, S1, o1, a1, c1⟩ := σ1
    obtain ⟨g1, g2⟩ := h1 k N S o a _ h0 hn ha hF
    have g1' := g1
    obtain ⟨m1, m2, m3, m4, m5, m6⟩ := g1'
    obtain ⟨g3, g4⟩ := h2 k1 N1 S1 o1 a1 c1 σ (by omega) (by omega) (by omega) m6 h
    exact ⟨jq_tr g1 g3 (by omega), g4 _ _ g2⟩
theorem tk1 (hT : tkn T n) {k : Int} (h : ¬ T k = 0) : k < n := tk_lt hT h
theorem j_add {k o a k' c' : Int} {N : List ND} {S : List SD} {x : ND} {s : SD} (ha : a ≤ 4) (hk : k + 1 ≤ k') (hn : k' ≤ n) (hc : c' = 0 ∨ c' = 1) : JQ n 1 k N S o a (k', N ++ [x], S ++ [s], o, a, c') :=
  ⟨by omega, ⟨by simp, keepL_add keepL_rfl (Nat.le_refl _)⟩, ⟨by simp, by simp; omega, keepL_add keepL_rfl (Nat.le_refl _)⟩, rfl, by omega, hc⟩
theorem j_end {s k o a k' o' a' c' : Int} {N N' : List ND} {S S' : List SD} {x : ND} {y : SD} (h : JQ n s k N S o a (k', N', S', o', a', c')) (hs : 0 ≤ s) : (k + s ≤ k' ∧ k' ≤ n) ∧ (N.length ≤ (N' ++ [x]).length ∧ keepL N (N' ++ [x])) ∧ keepL S (S' ++ [y]) := by
  obtain ⟨h1, h2, h3, h4, h5, h6⟩ := h
  exact ⟨h1, ⟨by simp; omega, keepL_add h2.2 h2.1⟩, keepL_add h3.2.2 (by omega)⟩
theorem j_encl {R : DS → Option DS} {c k o a c0 : Int} {N : List ND} {S : List SD} {σ : DS} (hT : tkn T n) (hR : J1 n R) (h0 : 0 ≤ k) (hn : k ≤ n) (ha : a ≤ 4) (hc : ¬ c = 0) (h : enclD T R c (k, N, S, o, a, c0) = some σ) :
    (k + 2 ≤ σ.1 ∧ JQ n 1 k N S o a σ ∧ (σ.2.2.1.length : Int) + 3 ≤ S.length + 2 * (σ.1 - k) ∧ σ.2.2.2.2.2 = 0) ∧ Cmp σ.2.1 σ.2.2.1 N.length σ.2.1.length S.length σ.2.2.1.length := by
  simp only [enclD] at h
  split at h
  · cases h
  cases hE : R (k, N, S, o + 1, a, 0) with
  | none => simp only [hE] at h; cases h
  | some σ1 =>
    obtain ⟨k2, N2, S2, o2, a2, c2⟩ := σ1
    simp only [hE] at h
    split at h
    · rename_i ht
      cases h
      obtain ⟨⟨h1, h2, h3, h4, h5, h6⟩, g2⟩ := hR k N S (o + 1) a _ h0 hn ha hE
      have := tk1 hT (k := k2) (by omega)
      exact ⟨⟨by show k + 2 ≤ k2 + 1; omega, ⟨by omega, h2, ⟨by omega, by omega, h3.2.2⟩, by omega, h5, Or.inl rfl⟩, by show (S2.length : Int) + 3 ≤ S.length + 2 * (k2 + 1 - k); omega, rfl⟩, g2⟩
    · cases h
theorem j_first {R : DS → Option DS} (hT : tkn T n) (hR : J1 n R) : J1 n (firstD T W R) := by
  intro k N S o a σ h0 hn ha h
  simp only [firstD] at h
  split at h
  · rename_i ht
    have := tk1 hT (k := k) (by omega)
    obtain ⟨k2, N2, S2, o2, a2, c2⟩ := σ
    obtain ⟨⟨h1, ⟨m1, m2, m3, m4, m5, m6⟩, h3, h4⟩, h5⟩ := j_encl hT hR (by omega) (by omega) ha (by decide) h
    simp only at h1 h3
    exact ⟨⟨by omega, m2, ⟨by omega, by omega, m3.2.2⟩, m4, m5, m6⟩, h5⟩
  split at h
  · split at h
    · cases h
    · have := tk1 hT (k := k) (by omega)
      rename_i h5 hL
      cases h
      exact ⟨j_add ha (by omega) (by omega) (Or.inl rfl), Cmp_leaf ⟨_, _, rfl, Or.inl ⟨h5.1, h5.2, hL, rfl⟩⟩⟩
  split at h
  · have := tk1 hT (k := k) (by omega)
    cases h
    exact ⟨j_add ha (by omega) (by omega) (Or.inl rfl), Cmp_leaf ⟨_, _, rfl, Or.inr (Or.inl ⟨rfl, rfl⟩)⟩⟩
  split at h
  · have := tk1 hT (k := k) (by omega)
    cases h
    exact ⟨j_add ha (by omega) (by omega) (Or.inl rfl), Cmp_leaf ⟨_, _, rfl, Or.inr (Or.inr ⟨rfl, rfl⟩)⟩⟩
  · cases h
/-- more behind one that is complete -/
theorem j_more {k o a k1 o1 a1 : Int} {N N1 : List ND} {S S1 : List SD} {c1 : Int} {L : DS → Option DS} {σ : DS} (hL : J2 n L) (h0 : 0 ≤ k) (h : L (k1, N1, S1, o1, a1, c1) = some σ) (hq : JQ n 0 k N S o a (k1, N1, S1, o1, a1, c1)) (hc : ∀ i b, Cmp N S i N.length b S.length → Cmp N1 S1 i N1.length b S1.length) :
    JQ n 0 k N S o a σ ∧ ∀ i b, Cmp N S i N.length b S.length → Cmp σ.2.1 σ.2.2.1 i σ.2.1.length b σ.2.2.1.length := by
  have hq' := hq
  obtain ⟨m1, m2, m3, m4, m5, m6⟩ := hq'
  obtain ⟨g1, g2⟩ := hL k1 N1 S1 o1 a1 c1 σ (by omega) (by omega) (by omega) m6 h
  exact ⟨jq_tr hq g1 (by omega), fun i b hib => g2 i b (hc i b hib)⟩
theorem j_addz {k o a k' c' : Int} {N : List ND} {S : List SD} {x : ND} {s : SD} (ha : a ≤ 4) (hk : k + 1 ≤ k') (hn : k' ≤ n) (hc : c' = 0 ∨ c' = 1) : JQ n 0 k N S o a (k', N ++ [x], S ++ [s], o, a, c') :=
  ⟨by omega, ⟨by simp, keepL_add keepL_rfl (Nat.le_refl _)⟩, ⟨by simp; omega, by simp; omega, keepL_add keepL_rfl (Nat.le_refl _)⟩, rfl, by omega, hc⟩
theorem j_parts {R L : DS → Option DS} (hT : tkn T n) (hR : J1 n R) (hL : J2 n L) : J2 n (partsD T W R L) := by
  intro k N S o a c σ h0 hn ha hc h
  simp only [partsD] at h
  split at h
  · rename_i ht
    have := tk1 hT (k := k) (by omega)
    simp only [partD] at h
    split at h
    · have := tk1 hT (k := k + 1) (by omega)
      exact j_more hL h0 h (j_addz ha (by omega) (by omega) (Or.inl rfl)) (fun i b hib => Cmp_un hib ⟨_, _, rfl, Or.inl ⟨rfl, rfl⟩⟩)
    split at h
    · have := tk1 hT (k := k + 1) (by omega)
      exact j_more hL h0 h (j_addz ha (by omega) (by omega) (Or.inl rfl)) (fun i b hib => Cmp_un hib ⟨_, _, rfl, Or.inr (Or.inl ⟨rfl, rfl⟩)⟩)
    · cases h
  split at h
  · rename_i ht
    have := tk1 hT (k := k) (by omega)
    cases hE : enclD T R 23 (k + 1, N, S, o, a, 0) with
    | none => simp only [hE] at h; cases h
    | some σ1 =>
      simp only [hE] at h
      obtain ⟨k2, N2, S2, o2, a2, c2⟩ := σ1
      obtain ⟨⟨h1, ⟨m1, m2, m3, m4, m5, m6⟩, h3, h4⟩, h5⟩ := j_encl hT hR (by omega) (by omega) ha (by decide) hE
      simp only at h1 h3 h5
      refine j_more hL h0 (show L (k2, N2 ++ [(62, tp N, tp N2, -1, 0)], S2 ++ [(145, ts S, ts S2, 0, 0, 0)], o2, a2, 0) = some σ from h) ⟨by omega, ⟨by simp; omega, keepL_add m2.2 m2.1⟩, ⟨by simp; omega, by simp; omega, keepL_add m3.2.2 (by omega)⟩, m4, m5, Or.inl rfl⟩ (fun i b hib => Cmp_bin hib h5 m2.2 m3.2.2 ⟨62, rfl, Or.inl ⟨rfl, rfl⟩⟩)
  · cases h
    exact ⟨⟨by omega, ⟨Nat.le_refl _, keepL_rfl⟩, ⟨by omega, by omega, keepL_rfl⟩, rfl, by omega, Or.inl rfl⟩, fun i b hib => hib⟩
theorem j_loop {lev : Int} {B : Int → DS → Option DS} {L : DS → Option DS} (hT : tkn T n) (hl : 1 ≤ lev) (hB : ∀ l, 1 ≤ l → l ≤ 11 → J1 n (B l)) (hL : J2 n L) : J2 n (loopD T W lev B L) := by
  intro k N S o a c σ h0 hn ha hc h
  simp only [loopD] at h
  split at h
  · cases h
    exact ⟨⟨by omega, ⟨Nat.le_refl _, keepL_rfl⟩, ⟨by omega, by omega, keepL_rfl⟩, rfl, by omega, hc⟩, fun i b hib => hib⟩
  rename_i hx
  have hb0 : 1 ≤ bq (T k) := by omega
  have hk := tk1 hT (k := k) (fun e => by rw [e] at hb0; exact absurd hb0 (by decide))
  split at h
  · split at h
    · have := tk1 hT (k := k + 1) (by omega)
      exact j_more hL h0 h (j_addz ha (by omega) (by omega) (Or.inr rfl)) (fun i b hib => Cmp_un hib ⟨_, _, rfl, Or.inr (Or.inr (Or.inl ⟨rfl, rfl⟩))⟩)
    · cases h
  rename_i h13
  rw [bq_13 h13] at hb0
  have hbr := bd_rng (T k)
  have hJ := hB (bdV (T k) + 1) (by omega) (by omega)
  simp only [rightD] at h
  split at h
  · rename_i ht
    generalize hz : (if T k = 44 then (151 : Int) else 152) = z at h
    cases hE : B (bdV (T k) + 1) (k + 1, N, S ++ [(z, ts S, 0, 0, 0, 0)], o, a, 0) with
    | none => simp only [hE] at h; cases h
    | some σ1 =>
      obtain ⟨k2, N2, S2, o2, a2, c2⟩ := σ1
      simp only [hE] at h
      obtain ⟨⟨m1, m2, m3, m4, m5, m6⟩, h5⟩ := hJ (k + 1) N _ o a _ (by omega) (by omega) ha hE
      simp only [List.length_append, List.length_cons, List.length_nil] at m3
      refine j_more hL h0 (show L (k2, N2 ++ [(T k, tp N, tp N2, -1, 0)], patchS S2 S.length S2.length ++ [(tcode (T k), ts S, ts S2, 0, 0, 0)], o2, a2, c2) = some σ from h) ⟨by omega, ⟨by simp; omega, keepL_add m2.2 m2.1⟩, ⟨by simp [patch_len]; omega, by simp [patch_len]; omega, keepL_add (keepL_patch (keepL_sub m3.2.2) (Nat.le_refl _)) (by rw [patch_len]; omega)⟩, m4, m5, m6⟩ (fun i b hib => Cmp_and ht hz.symm hib h5 m2.2 m3.2.2)
  · rename_i ht
    cases hE : B (bdV (T k) + 1) (k + 1, N, S, o, a, 0) with
    | none => simp only [hE] at h; cases h
    | some σ1 =>
      obtain ⟨k2, N2, S2, o2, a2, c2⟩ := σ1
      simp only [hE] at h
      obtain ⟨⟨m1, m2, m3, m4, m5, m6⟩, h5⟩ := hJ (k + 1) N _ o a _ (by omega) (by omega) ha hE
      refine j_more hL h0 (show L (k2, N2 ++ [(T k, tp N, tp N2, -1, 0)], S2 ++ [(tcode (T k), ts S, ts S2, 0, 0, 0)], o2, a2, c2) = some σ from h) ⟨by omega, ⟨by simp; omega, keepL_add m2.2 m2.1⟩, ⟨by simp; omega, by simp; omega, keepL_add m3.2.2 (by omega)⟩, m4, m5, m6⟩ (fun i b hib => Cmp_bin hib h5 m2.2 m3.2.2 ⟨T k, rfl, Or.inr ⟨by omega, by omega, by omega, rfl⟩⟩)
theorem j_single {R : DS → Option DS} {k k1 o a u c v : Int} {N : List ND} {S : List SD} {σ : DS} (hR : J1 n R) (h0 : 0 ≤ k) (hk : k + 1 ≤ k1) (hn : k1 ≤ n) (ha : a ≤ 4) (hU : ∀ n1 s1, cUn (u, n1, -1, -1, v) (c, s1, (if u = 64 then v else 0), 0, 0, 0) n1 s1) (hv : ¬ u = 64 → v = 0) (h : (R (k1, N, S, o, a, 0)).bind (endUD u c v) = some σ) :
    JQ n 1 k N S o a σ ∧ Cmp σ.2.1 σ.2.2.1 N.length σ.2.1.length S.length σ.2.2.1.length := by
  cases hE : R (k1, N, S, o, a, 0) with
  | none => rw [hE] at h; cases h
  | some σ1 =>
    obtain ⟨k2, N2, S2, o2, a2, c2⟩ := σ1
    rw [hE] at h
    simp only [Option.bind, endUD] at h
    cases h
    obtain ⟨⟨m1, m2, m3, m4, m5, m6⟩, h5⟩ := hR k1 N S o a _ (by omega) hn ha hE
    refine ⟨⟨by omega, ⟨by simp; omega, keepL_add m2.2 m2.1⟩, ⟨by simp; omega, by simp; omega, keepL_add m3.2.2 (by omega)⟩, m4, m5, m6⟩, Cmp_un h5 ?_⟩
    have h9 := hU (tp N2) (ts S2)
    by_cases hu : u = 64
    · rw [if_pos hu] at h9; exact h9
    · rw [if_neg hu] at h9; rw [hv hu] at h9 ⊢; exact h9
theorem j_unary {R F : DS → Option DS} (hT : tkn T n) (hR : J1 n R) (hF : J1 n F) : J1 n (unaryD T W R F) := by
  intro k N S o a σ h0 hn ha h
  simp only [unaryD] at h
  split at h
  · rename_i hc
    have hk := tk1 hT (k := k) (by omega)
    cases hE : castD T W k with
    | none => rw [hE] at h; cases h
    | some q =>
      obtain ⟨k1, v⟩ := q
      rw [hE] at h
      simp only [] at h
      have hk1 : k + 1 ≤ k1 ∧ k1 ≤ n := by
        unfold castD at hE
        split at hE
        · split at hE
          · have := tk1 hT (k := k + 4) (by omega)
            cases hE; omega
          · cases hE
        · split at hE
          · have := tk1 hT (k := k + 2) (by omega)
            cases hE; omega
          · cases hE
      exact j_single hR h0 hk1.1 hk1.2 ha (fun n1 s1 => ⟨64, _, rfl, Or.inr (Or.inr (Or.inr (Or.inl ⟨rfl, by rw [if_pos rfl]⟩)))⟩) (fun e => absurd rfl e) h
  split at h
  · rename_i hu
    have hk := tk1 hT (k := k) (by omega)
    split at h
    · rename_i hl
      have hk1 := tk1 hT (k := k + 1) (by omega)
      simp only [endUD] at h
      cases h
      refine ⟨⟨by omega, ⟨by simp, keepL_add (keepL_add keepL_rfl (Nat.le_refl _)) (by simp)⟩, ⟨by simp, by simp; omega, keepL_add (keepL_add keepL_rfl (Nat.le_refl _)) (by simp)⟩, rfl, by omega, Or.inl rfl⟩, 1, Or.inr (Or.inl ⟨by simp, by simp, ?_, ?_, ?_, ?_⟩)⟩
      · rw [hl.2.2]; simp
      · rw [hl.2.2]; simp
      · simp [tp]
      · simp [ts]
    · exact j_single hR h0 (by omega) (by omega) ha (fun n1 s1 => ⟨100 + T k, 0, rfl, Or.inr (Or.inr (Or.inr (Or.inr ⟨T k, hu, rfl, rfl, by rw [if_neg (by omega)]⟩)))⟩) (fun _ => rfl) h
  · exact hF k N S o a σ h0 hn ha h
theorem j_choice {B R : DS → Option DS} (hT : tkn T n) (hB : J1 n B) (hR : J1 n R) : J1 n (choiceD T B R) := by
  intro k N S o a σ h0 hn ha h
  simp only [choiceD] at h
  cases hE : B (k, N, S, o, a, 0) with
  | none => simp only [hE] at h; cases h
  | some σ1 =>
    obtain ⟨k1, N1, S1, o1, a1, c1⟩ := σ1
    simp only [hE] at h
    obtain ⟨hJ, h5⟩ := hB k N S o a _ h0 hn ha hE
    have hJ' := hJ
    obtain ⟨m1, m2, m3, m4, m5, m6⟩ := hJ'
    split at h
    · cases h; exact ⟨hJ, h5⟩
    split at h
    · cases h
    rename_i h25 h4
    have hk1 := tk1 hT (k := k1) (by omega)
    cases hE2 : R (k1 + 1, N1, S1 ++ [(151, ts S1, 0, 0, 0, 0)], o1, a1 + 1, 0) with
    | none => simp only [hE2] at h; cases h
    | some σ2 =>
      obtain ⟨k2, N2, S2, o2, a2, c2⟩ := σ2
      simp only [hE2] at h
      obtain ⟨⟨p1, p2, p3, p4, p5, p6⟩, h6⟩ := hR (k1 + 1) N1 _ o1 (a1 + 1) _ (by omega) (by omega) (by omega) hE2
      split at h
      · cases h
      rename_i h26
      have hk2 := tk1 hT (k := k2) (by omega)
      cases hE3 : R (k2 + 1, N2, patchS (S2 ++ [(150, ts S1, 0, 0, 0, 0)]) S1.length (S2.length + 1), o2, a2, 0) with
      | none => simp only [hE3] at h; cases h
      | some σ3 =>
        obtain ⟨k3, N3, S3, o3, a3, c3⟩ := σ3
        simp only [hE3] at h
        obtain ⟨⟨q1, q2, q3, q4, q5, q6⟩, h7⟩ := hR (k2 + 1) N2 _ o2 a2 _ (by omega) (by omega) (by omega) hE3
        cases h
        have hp3 := p3
        have hq3 := q3
        rw [patch_len] at hq3
        simp only [List.length_append, List.length_cons, List.length_nil] at hp3 hq3
        have kS : keepL S1 S3 := fun p hp => by
          rw [q3.2.2 p (by rw [patch_len]; simp; omega), patch_ne (by omega), List.getElem?_append_left (by omega)]
          exact keepL_sub p3.2.2 p hp
        refine ⟨⟨by omega, ⟨by simp; omega, keepL_add (keepL_tr m2.2 (keepL_tr p2.2 q2.2 p2.1) m2.1) (by omega)⟩, ⟨by simp [patch_len]; omega, by simp [patch_len]; omega, ?_⟩, by omega, by omega, q6⟩, Cmp_cho h5 h6 p2.2 p3.2.2 h7 q2.2 q3.2.2⟩
        exact keepL_add (keepL_patch (keepL_tr m3.2.2 kS (by omega)) (by omega)) (by rw [patch_len]; omega)
theorem j_desc (hT : tkn T n) : ∀ f : Nat, (∀ l, J1 n (desc T W f 0 l)) ∧ (∀ l, 1 ≤ l → l ≤ 11 → J1 n (desc T W f 1 l) ∧ J2 n (desc T W f 2 l)) ∧ (∀ l, J1 n (desc T W f 3 l) ∧ J1 n (desc T W f 4 l) ∧ J2 n (desc T W f 5 l)) := by
  intro f
  induction f with
  | zero =>
    refine ⟨fun l k N S o a σ _ _ _ h => ?_, fun l _ _ => ⟨fun k N S o a σ _ _ _ h => ?_, fun k N S o a c σ _ _ _ _ h => ?_⟩, fun l => ⟨fun k N S o a σ _ _ _ h => ?_, fun k N S o a σ _ _ _ h => ?_, fun k N S o a c σ _ _ _ _ h => ?_⟩⟩ <;> cases h
  | succ f ih =>
    obtain ⟨i0, i1, i3⟩ := ih
    exact ⟨fun l => j_choice hT (i1 1 (by decide) (by decide)).1 (i0 0),
      fun l h1 h2 => ⟨j_bind (i3 0).1 (i1 l h1 h2).2, j_loop hT h1 (fun l2 h3 h4 => (i1 l2 h3 h4).1) (i1 l h1 h2).2⟩,
      fun l => ⟨j_unary hT (i3 0).1 (i3 0).2.1, j_bind (j_first hT (i0 0)) (i3 0).2.2, j_parts hT (i0 0) (i3 0).2.2⟩⟩
end JJ
