/-- the rounds of work write values, what is done, the trouble and what is missing -/
def wkF (M M' : Mem) : Prop := ∀ c i, ¬ (c = 82 ∨ c = 83 ∨ (c = 55 ∧ (i = 46 ∨ i = 47))) → M' c i = M c i
theorem wkF_tr {M M' M'' : Mem} (h : wkF M M') (h2 : wkF M' M'') : wkF M M'' := fun c i hc => (h2 c i hc).trans (h c i hc)
theorem wkF_rfl {M : Mem} : wkF M M := fun _ _ _ => rfl
theorem wkF_eqX {M M' : Mem} (h : eqX M M') : wkF M M' := fun c i hc => h c i (fun e => hc (Or.inr (Or.inr ⟨e.1, Or.inr e.2⟩)))
theorem wkF_mset {M : Mem} {c : Nat} {i v : Int} (h : c = 82 ∨ c = 83 ∨ (c = 55 ∧ (i = 46 ∨ i = 47))) : wkF M (mset M c i v) := by
  intro c' i' hc
  unfold mset
  rw [if_neg (fun e => hc (by rw [e.1, e.2]; exact h))]
theorem wkF_setM {M : Mem} {n v : Int} : wkF M (setM M n v) := by
  unfold setM
  exact wkF_tr (wkF_mset (Or.inr (Or.inl rfl))) (wkF_mset (Or.inl rfl))
theorem workL_fr (root : Int) : ∀ (f : Nat) (M : Mem), wkF M (workL root f M).2.2 := by
  intro f
  induction f with
  | zero => intro M; exact wkF_rfl
  | succ f ih =>
    intro M
    unfold workL
    split
    · exact wkF_rfl
    · split
      · exact wkF_tr wkF_setM (ih _)
      · split
        · exact wkF_rfl
        · exact wkF_mset (Or.inr (Or.inr ⟨rfl, Or.inl rfl⟩))
theorem work0_fr {M : Mem} : wkF M (work0 M) := by
  unfold work0
  refine wkF_tr (wkF_tr ?_ (wkF_mset (Or.inr (Or.inr ⟨rfl, Or.inl rfl⟩)))) (wkF_mset (Or.inr (Or.inr ⟨rfl, Or.inr rfl⟩)))
  intro c i hc
  unfold clrM
  rw [if_neg (fun e => hc (Or.inl e.1))]
theorem workQ_fr {M M' : Mem} {r : Option PV} (h : workQ M r M') : wkF M M' := wkF_tr work0_fr (wkF_tr (workL_fr _ _ _) (wkF_eqX h.2.1))
/-- what the work of a parsed memory leaves -/
theorem work_keeps {W2 W4 : Mem} {e : Int} {r : Option PV} (h : workQ (gkM W2 e) r W4) : W4 84 0 = W2 84 0 ∧ W4 55 21 = W2 55 21 ∧ W4 55 24 = W2 55 24 ∧ W4 55 11 = W2 55 11 := by
  have hf := workQ_fr h
  exact ⟨(hf 84 0 (by omega)).trans rfl, (hf 55 21 (by omega)).trans rfl, (hf 55 24 (by omega)).trans rfl, (hf 55 11 (by omega)).trans rfl⟩
/-- the model's wkH from an invariant of the work -/
theorem wkH_of {W2 : Mem} {e : Int} (hr : 0 ≤ W2 84 0 ∧ W2 84 0 < 32) (h21 : 0 ≤ W2 55 21 ∧ W2 55 21 ≤ 400) (h24 : 0 ≤ W2 55 24 ∧ W2 55 24 ≤ 400) (hI : (cmD W2).2 = true → ∃ I, WInv I ∧ I (work0 (gkM W2 e))) : wkH W2 e := by
  refine ⟨hr, hI, fun r W4 h => ?_⟩
  obtain ⟨a1, a2, a3, -⟩ := work_keeps h
  rw [a1, a2, a3]
  exact ⟨hr, h21, h24⟩
/-- kinds that the model tells are kinds -/
theorem comV_r {a b : Int} : 0 ≤ comV a b ∧ comV a b ≤ 1 := by unfold comV; split <;> omega
