/-- characters and booleans that a text tells are small -/
def tokW (t v : Int) : Prop := (t = 3 → 0 ≤ v ∧ v ≤ 126) ∧ (t = 4 → 0 ≤ v ∧ v ≤ 1) ∧ (t = 1 → 0 ≤ v ∧ v ≤ 2147483648)
theorem tw5 {t v : Int} (h : 5 ≤ t) : tokW t v := ⟨fun e => absurd e (by omega), fun e => absurd e (by omega), fun e => absurd e (by omega)⟩
theorem tw3 {t v : Int} (h : t ≤ 0 ∨ t = 2) : tokW t v := ⟨fun e => absurd e (by omega), fun e => absurd e (by omega), fun e => absurd e (by omega)⟩
theorem tok1_W {f : Int → Int} {k : Int} (hf : ∀ j, 0 ≤ j → 0 ≤ f j ∧ f j ≤ 126) (hk : 0 ≤ k) (hw : (tok1 f k).2.2.2 = 0) : tokW (tok1 f k).2.1 (tok1 f k).2.2.1 := by
  by_cases h1 : letB (f k) = true
  · rw [tok1_l h1] at hw ⊢
    by_cases h9 : runE letB f (40 - k).toNat k - k = 1
    · rw [wordT_1 rfl h9] at hw ⊢
      refine tw5 ?_
      show 5 ≤ (if smaB (f k) = true then (7 : Int) else 8)
      split <;> omega
    · rw [wordT_2 rfl rfl h9] at hw ⊢
      generalize wkT (runE letB f (40 - k).toNat k - k) (wvE f (40 - k).toNat k 0) = x at hw ⊢
      show tokW (if x = 15 then 4 else x) (if x = 4 then 1 else 0)
      have e2 : (if x = 4 then (1 : Int) else 0) = 0 ∨ (if x = 4 then (1 : Int) else 0) = 1 := by split <;> simp
      exact ⟨fun _ => by omega, fun _ => by omega, fun _ => by omega⟩
  by_cases h2 : digB (f k) = true
  · rw [tok1_d h1 h2, nm_n rfl] at hw ⊢
    have hv : ∀ b, runE digB f (40 - k).toNat k = b → 0 ≤ nvE f k (numN b k) := fun b hb => by
      refine (nv_rng rfl ?_ ?_).1
      · have := (@runE_le digB f (40 - k).toNat k).1
        unfold numN; split <;> omega
      · unfold numN; split <;> omega
    have hv0 := hv _ rfl
    generalize nvE f k (numN (runE digB f (40 - k).toNat k) k) = v at hw hv0 ⊢
    unfold numT1 at hw ⊢
    split at hw
    · rename_i h76
      rw [if_pos h76]
      exact tw3 (Or.inr rfl)
    · rename_i h76
      rw [if_neg h76]
      refine ⟨fun e => absurd e (by show ¬ (1 : Int) = 3; decide), fun e => absurd e (by show ¬ (1 : Int) = 4; decide), fun _ => ?_⟩
      show 0 ≤ v ∧ v ≤ 2147483648
      have hw' : (if letB (f (runE digB f (40 - k).toNat k)) = true ∨ 10 < (runE digB f (40 - k).toNat k) - k ∨ 2147483648 < v then (1 : Int) else 0) = 0 := hw
      split at hw'
      · omega
      · omega
  by_cases h3 : f k = 39
  · rw [tok1_c h1 h2 h3]
    have := hf (k + 1) (by omega)
    exact ⟨fun _ => this, fun e => absurd e (by show ¬ (3 : Int) = 4; decide), fun e => absurd e (by show ¬ (3 : Int) = 1; decide)⟩
  · rw [tok1_s h1 h2 h3] at hw ⊢
    have hr := sgT_rng (f k) (f (k + 1)) (f (k + 2))
    show tokW (sgT (f k) (f (k + 1)) (f (k + 2))) 0
    rcases hr with h | h
    · exact tw3 (Or.inl (by omega))
    · exact tw5 (by omega)
theorem lexL_W {f : Int → Int} {len : Int} (hf : ∀ j, 0 ≤ j → 0 ≤ f j ∧ f j ≤ 126) (hlen : len ≤ 40) : ∀ {n : Nat} {k : Int} {L : List (Int × Int)}, 0 ≤ k → (∀ x ∈ L, tokW x.1 x.2) → (lexL f len n k L).2 = 0 → ∀ x ∈ (lexL f len n k L).1, tokW x.1 x.2 := by
  intro n
  induction n with
  | zero => intro k L _ h _; exact h
  | succ n ih =>
    intro k L h0 h hz
    by_cases hk : k < len
    · by_cases h2 : f k = 32
      · rw [lexL_sp hk h2] at hz ⊢; exact ih (by omega) h hz
      · by_cases h3 : (tok1 f k).2.2.2 = 0
        · rw [lexL_t hk h2 h3] at hz ⊢
          have := tok1_end (f := f) (k := k) (by omega) h0
          refine ih (by omega) (fun x hx => ?_) hz
          rcases List.mem_append.mp hx with hx | hx
          · exact h x hx
          · rw [List.mem_singleton.mp hx]; exact tok1_W hf h0 h3
        · rw [lexL_w hk h2 h3] at hz; exact absurd hz h3
    · rw [lexL_out hk] at hz ⊢; exact h
def cnsS : PSt → Prop
  | (N, _, P, _, _, _) => (∀ x ∈ N, tokW x.1 x.2.2.2.2) ∧ ∀ p ∈ P, 5 ≤ p.1
theorem cAdd {N : List ND} {y : ND} (h : ∀ x ∈ N, tokW x.1 x.2.2.2.2) (hy : tokW y.1 y.2.2.2.2) : ∀ x ∈ N ++ [y], tokW x.1 x.2.2.2.2 := by
  intro x hx
  rcases List.mem_append.mp hx with h9 | h9
  · exact h x h9
  · rw [List.mem_singleton.mp h9]; exact hy
theorem cCons {P : List (Int × Int)} {y : Int × Int} (h : ∀ x ∈ P, 5 ≤ x.1) (hy : 5 ≤ y.1) : ∀ x ∈ y :: P, 5 ≤ x.1 := by
  intro x hx
  rcases List.mem_cons.mp hx with h9 | h9
  · rw [h9]; exact hy
  · exact h x h9
theorem cDrop {P : List (Int × Int)} {n : Nat} (h : ∀ x ∈ P, 5 ≤ x.1) : ∀ x ∈ P.drop n, 5 ≤ x.1 := fun x hx => h x (List.mem_of_mem_drop hx)
theorem redN_c {t k : Int} {O : List Int} (h : 5 ≤ t) : tokW (redN t k O).1 (redN t k O).2.2.2.2 := by
  refine tw5 ?_
  unfold redN
  repeat' split
  all_goals first | exact h | (show (5 : Int) ≤ 65; decide)
theorem cns_redL {least : Int} : ∀ (P : List (Int × Int)) (N : List ND) (O : List Int), (∀ x ∈ N, tokW x.1 x.2.2.2.2) → (∀ p ∈ P, 5 ≤ p.1) → (∀ x ∈ (reduceL least N O P).1, tokW x.1 x.2.2.2.2) ∧ ∀ p ∈ (reduceL least N O P).2.2, 5 ≤ p.1 := by
  intro P
  induction P with
  | nil => intro N O h h2; exact ⟨h, h2⟩
  | cons x P ih =>
    obtain ⟨t, k⟩ := x
    intro N O h h2
    by_cases hr : redB least t = true
    · rw [reduceL_s hr]
      exact ih _ _ (cAdd h (redN_c (h2 (t, k) (List.mem_cons_self ..)))) (fun p hp => h2 p (List.mem_cons_of_mem _ hp))
    · rw [reduceL_n hr]; exact ⟨h, h2⟩
theorem cns_red {least : Int} {S : PSt} (h : cnsS S) : cnsS (redS least S) := by
  obtain ⟨N, O, P, o, a, cl⟩ := S
  exact cns_redL P N O h.1 h.2
theorem cns_leaf {t t1 v k k' : Int} {S S' : PSt} (h : cnsS S) (ht : tokW t v) (h2 : leafS t t1 v k S = some (k', S')) : cnsS S' := by
  obtain ⟨N, O, P, o, a, cl⟩ := S
  unfold leafS at h2
  dsimp only at h2
  split at h2
  · cases h2
  · cases h2; exact ⟨cAdd h.1 (show tokW t v from ht), h.2⟩
theorem cns_cast {t1 t2 t3 t4 v k k' : Int} {S S' : PSt} (h : cnsS S) (h2 : castS t1 t2 t3 t4 v k S = some (k', S')) : cnsS S' := by
  obtain ⟨N, O, P, o, a, cl⟩ := S
  unfold castS at h2
  dsimp only at h2
  split at h2
  · split at h2
    · cases h2
    · cases h2; exact ⟨h.1, cCons h.2 (show (5 : Int) ≤ 64 by decide)⟩
  · split at h2
    · cases h2
    · cases h2; exact ⟨h.1, cCons h.2 (show (5 : Int) ≤ 64 by decide)⟩
theorem cns_before {t t1 t2 t3 t4 v k k' : Int} {S S' : PSt} (h : cnsS S) (h2 : beforeS t t1 t2 t3 t4 v k S = some (k', S')) : cnsS S' := by
  obtain ⟨N, O, P, o, a, cl⟩ := S
  unfold beforeS at h2
  dsimp only at h2
  split at h2
  · cases h2; exact ⟨h.1, cCons h.2 (show 5 ≤ 100 + t by omega)⟩
  · split at h2
    · cases h2
    · split at h2
      · split at h2
        · cases h2
        · cases h2; exact ⟨h.1, cCons h.2 (show (5 : Int) ≤ 20 by decide)⟩
      · exact cns_cast h h2
theorem cns_behind {t t1 v k k' : Int} {S S' : PSt} (h : cnsS S) (h2 : behindS t t1 v k S = some (k', S')) : cnsS S' := by
  have hr : ∀ l, cnsS (redS l S) := fun l => cns_red h
  unfold behindS at h2
  split at h2
  · obtain ⟨N, O, P, o, a, cl⟩ := S
    unfold dotS at h2
    dsimp only at h2
    split at h2
    · cases h2
    · cases h2
      exact ⟨cAdd h.1 (tw5 (show 5 ≤ (if t1 = 7 then (60 : Int) else 61) by split <;> omega)), h.2⟩
  split at h2
  · obtain ⟨N, O, P, o, a, cl⟩ := S
    unfold sqS at h2
    dsimp only at h2
    split at h2
    · cases h2
    · cases h2; exact ⟨h.1, cCons h.2 (show (5 : Int) ≤ 22 by decide)⟩
  split at h2
  · have h := hr 0
    generalize redS 0 S = S1 at h h2
    obtain ⟨N, O, P, o, a, cl⟩ := S1
    unfold closeS at h2
    dsimp only at h2
    by_cases hc : ¬ topP P = (if t = 21 then 20 else 22)
    · rw [if_pos hc] at h2; cases h2
    · rw [if_neg hc] at h2
      by_cases h23 : t = 23
      · rw [if_pos h23] at h2; cases h2; exact ⟨cAdd h.1 (tw5 (show (5 : Int) ≤ 62 by decide)), cDrop h.2⟩
      · rw [if_neg h23] at h2; cases h2; exact ⟨h.1, cDrop h.2⟩
  split at h2
  · have h := hr 1
    generalize redS 1 S = S1 at h h2
    obtain ⟨N, O, P, o, a, cl⟩ := S1
    unfold askS at h2
    dsimp only at h2
    split at h2
    · cases h2
    · cases h2; exact ⟨h.1, cCons h.2 (show (5 : Int) ≤ 25 by decide)⟩
  split at h2
  · have h := hr 0
    generalize redS 0 S = S1 at h h2
    obtain ⟨N, O, P, o, a, cl⟩ := S1
    unfold colS at h2
    dsimp only at h2
    split at h2
    · cases h2
    · cases h2; exact ⟨h.1, cCons (cDrop h.2) (show (5 : Int) ≤ 26 by decide)⟩
  split at h2
  · have h := hr 7
    generalize redS 7 S = S1 at h h2
    obtain ⟨N, O, P, o, a, cl⟩ := S1
    unfold ofS at h2
    dsimp only at h2
    split at h2
    · cases h2
    · cases h2; exact ⟨cAdd h.1 (tw5 (show (5 : Int) ≤ 63 by decide)), h.2⟩
  · have h := hr (bdV t)
    generalize redS (bdV t) S = S1 at h h2
    obtain ⟨N, O, P, o, a, cl⟩ := S1
    unfold binS at h2
    dsimp only at h2
    split at h2
    · cases h2
    · rename_i hb
      have h9 : 0 < bdV t := by
        have : 0 ≤ bdV t := by unfold bdV; grind (splits := 40)
        omega
      have h8 := bdV_cs h9
      cases h2; exact ⟨h.1, cCons h.2 (show 5 ≤ t by omega)⟩
theorem cns_step {T W : Int → Int} {k e k' e' : Int} {S S' : PSt} (hT : tokW (T k) (W k)) (h : cnsS S) (h2 : stepS T W k e S = some (k', e', S')) : cnsS S' := by
  unfold stepS at h2
  split at h2
  · split at h2
    · exact cns_leaf h hT (atS_some h2)
    · exact cns_before h (atS_some h2)
  · exact cns_behind h (atS_some h2)
theorem cns_parse {T W : Int → Int} {n : Int} (hT : ∀ k, tokW (T k) (W k)) : ∀ {f : Nat} {k e : Int} {S S' : PSt}, cnsS S → parseL T W n f k e S = some S' → cnsS S' := by
  have hfin : ∀ {e : Int} {S S' : PSt}, cnsS S → finS e S = some S' → cnsS S' := by
    intro e S S' h h2
    unfold finS at h2
    split at h2
    · cases h2
    · split at h2
      · cases h2; exact cns_red h
      · cases h2
  intro f
  induction f with
  | zero => intro k e S S' h h2; exact hfin h h2
  | succ f ih =>
    intro k e S S' h h2
    by_cases hk : k < n
    · cases hs : stepS T W k e S with
      | none => rw [parseL_bad hk hs] at h2; cases h2
      | some r =>
        obtain ⟨k', e', S1⟩ := r
        rw [parseL_s hk hs] at h2
        exact ih (cns_step (hT k) h hs) h2
    · rw [parseL_out hk] at h2; exact hfin h h2
theorem TF_W {L : List (Int × Int)} (hw : ∀ x ∈ L, tokW x.1 x.2) (k : Int) : tokW (TF L k) (WF L k) := by
  by_cases h : 0 ≤ k ∧ k < L.length
  · have e1 : TF L k = tkt L k := if_pos h
    have e2 : WF L k = tkv L k := if_pos h
    rw [e1, e2]
    exact hw _ (tk_mem h)
  · have e1 : TF L k = 0 := if_neg h
    rw [e1]
    exact tw3 (Or.inl (by decide))
/-- the constants among the nodes of a text -/
theorem desc_con {F : List (Int × Int) × Int} {N : List ND} {S : List SD} (hg : gdF F) (hv : ∀ x ∈ F.1, tokV x.1 x.2) (hw : ∀ x ∈ F.1, tokW x.1 x.2) (h : dfF F = some (N, S)) : ∀ x ∈ N, tokW x.1 x.2.2.2.2 := by
  have e : dfF F = descF (TF F.1) (WF F.1) := if_pos hg
  have h24 : F.1.length ≤ 24 := hg.2
  obtain ⟨o, a, c, h2⟩ := (desc_parse (W := WF F.1) (tkn_TF hv) (show 0 ≤ (F.1.length : Int) ∧ (F.1.length : Int) ≤ 24 by omega)).2 N S (e.symm.trans h)
  have hg0 : cnsS (([], [], [], 0, 0, 0) : PSt) := ⟨fun x hx => by simp at hx, fun p hp => by simp at hp⟩
  exact (cns_parse (TF_W hw) hg0 h2).1
