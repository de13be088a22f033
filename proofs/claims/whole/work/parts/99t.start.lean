/-! THE WORLD BEHIND THE CONSTRUCTORS -/
def im_z : Mem := fun _ _ => 0
def FM : Mem := im_Mo (mnew (im_De (mnew im_z 1)) 55)
theorem FM_all : ((List.range 87).all fun k => (List.range 48).all fun i => match gt k (i : Int) with | some r => decide (FM k (i : Int) = r) | none => true) = true := by decide +kernel
theorem gtl_len : ((List.range 87).all fun k => decide ((gtl.getD k []).length ≤ 48)) = true := by decide +kernel
theorem FM_gt {k : Nat} {i r : Int} (h : gt k i = some r) : FM k i = r := by
  have hk : k < 87 := by
    refine Nat.lt_of_not_le fun hk => ?_
    have e : gtl.getD k [] = [] := by
      rw [List.getD_eq_getElem?_getD, List.getElem?_eq_none (show gtl.length ≤ k by have : gtl.length = 87 := rfl; omega)]
      rfl
    cases i with
    | ofNat n =>
      have h' : (gtl.getD k []).getD n none = some r := h
      rw [e] at h'
      cases h'
    | negSucc n => cases h
  cases i with
  | negSucc n => cases h
  | ofNat n =>
    have hl := of_decide_eq_true (List.all_eq_true.mp gtl_len k (List.mem_range.mpr hk))
    have h' : (gtl.getD k []).getD n none = some r := h
    have hn : n < 48 := by
      refine Nat.lt_of_not_le fun hn => ?_
      rw [List.getD_eq_getElem?_getD, List.getElem?_eq_none (by omega)] at h'
      cases h'
    have h2 := List.all_eq_true.mp (List.all_eq_true.mp FM_all k (List.mem_range.mpr hk)) n (List.mem_range.mpr hn)
    have h3 : gt k (n : Int) = some r := h
    rw [h3] at h2
    exact of_decide_eq_true h2
/-- with the references in their places the two readings of the world are one -/
theorem HP_gt {X : WX} {H : Heap} (h : HP X g0 KE FM H) : HP X gt KE FM H := by
  have hr : ∀ (k : Nat) (i : Int), rd gt FM k i = rd g0 FM k i := fun k i => by
    unfold rd
    show _ = FM k i
    cases hg : gt k i with
    | none => rfl
    | some r => exact (FM_gt hg).symm
  refine ⟨h.1, fun k h1 h2 => ?_⟩
  have hc := h.2 k h1 h2
  unfold cellOK at hc ⊢
  simp only [hr]
  exact hc
section FMr
set_option maxRecDepth 20000
theorem fm_5 (i : Int) : FM 5 i = 0 := rfl
theorem fm_8 (i : Int) : FM 8 i = 0 := rfl
theorem fm_10 (i : Int) : FM 10 i = 0 := rfl
theorem fm_56 (i : Int) : FM 56 i = 0 := rfl
theorem fm_59 (i : Int) : FM 59 i = 0 := rfl
theorem fm_60 (i : Int) : FM 60 i = 0 := rfl
theorem fm_61 (i : Int) : FM 61 i = 0 := rfl
theorem fm_62 (i : Int) : FM 62 i = 0 := rfl
theorem fm_63 (i : Int) : FM 63 i = 0 := rfl
theorem fm_64 (i : Int) : FM 64 i = 0 := rfl
theorem fm_65 (i : Int) : FM 65 i = 0 := rfl
theorem fm_66 (i : Int) : FM 66 i = 0 := rfl
theorem fm_68 (i : Int) : FM 68 i = 0 := rfl
theorem fm_71 (i : Int) : FM 71 i = 0 := rfl
theorem fm_74 (i : Int) : FM 74 i = 0 := rfl
theorem fm_6 (i : Int) : FM 6 i = if 0 ≤ i ∧ i < 156 then -1 else 0 := by
  by_cases h : 0 ≤ i ∧ i < 156
  · rw [if_pos h]; exact if_pos ⟨rfl, h⟩
  · rw [if_neg h]; exact (if_neg (fun q => h q.2)).trans rfl
theorem fm_7 (i : Int) : FM 7 i = if 0 ≤ i ∧ i < 27 then -1 else 0 := by
  by_cases h : 0 ≤ i ∧ i < 27
  · rw [if_pos h]; exact if_pos ⟨rfl, h⟩
  · rw [if_neg h]; exact (if_neg (fun q => h q.2)).trans rfl
theorem fm_57 (i : Int) : FM 57 i = if 0 ≤ i ∧ i < 156 then -1 else 0 := by
  by_cases h : 0 ≤ i ∧ i < 156
  · rw [if_pos h]; exact if_pos ⟨rfl, h⟩
  · rw [if_neg h]; exact (if_neg (fun q => h q.2)).trans rfl
theorem fm_58 (i : Int) : FM 58 i = if 0 ≤ i ∧ i < 27 then -1 else 0 := by
  by_cases h : 0 ≤ i ∧ i < 27
  · rw [if_pos h]; exact if_pos ⟨rfl, h⟩
  · rw [if_neg h]; exact (if_neg (fun q => h q.2)).trans rfl
theorem fm_67 (i : Int) : FM 67 i = if 0 ≤ i ∧ i < 4 then -1 else 0 := by
  by_cases h : 0 ≤ i ∧ i < 4
  · rw [if_pos h]; exact if_pos ⟨rfl, h⟩
  · rw [if_neg h]; exact (if_neg (fun q => h q.2)).trans rfl
theorem fm_55_0 : FM 55 0 = 0 := rfl
theorem fm_55_5 : FM 55 5 = 0 := rfl
theorem fm_55_9 : FM 55 9 = 0 := rfl
theorem fm_55_10 : FM 55 10 = 0 := rfl
theorem fm_55_11 : FM 55 11 = 0 := rfl
theorem fm_55_21 : FM 55 21 = 0 := rfl
theorem fm_55_24 : FM 55 24 = 0 := rfl
theorem fm_4_4 : FM 4 4 = 0 := rfl
theorem fm_4_5 : FM 4 5 = 0 := rfl
theorem fm_4_6 : FM 4 6 = 1 := rfl
theorem fm_4_7 : FM 4 7 = 0 := rfl
theorem fm_9_3 : FM 9 3 = 0 := rfl
theorem fm_9_4 : FM 9 4 = 0 := rfl
theorem fm_9_5 : FM 9 5 = 0 := rfl
theorem fm_1_4 : FM 1 4 = 0 := rfl
theorem fm_19_6 : FM 19 6 = 0 := rfl
theorem fm_19_7 : FM 19 7 = 0 := rfl
theorem fm_19_8 : FM 19 8 = -1 := rfl
theorem fm_19_9 : FM 19 9 = 0 := rfl
theorem fm_28_6 : FM 28 6 = 0 := rfl
theorem fm_28_7 : FM 28 7 = 0 := rfl
theorem fm_28_8 : FM 28 8 = -1 := rfl
theorem fm_28_9 : FM 28 9 = 0 := rfl
theorem fm_37_6 : FM 37 6 = 0 := rfl
theorem fm_37_7 : FM 37 7 = 0 := rfl
theorem fm_37_8 : FM 37 8 = -1 := rfl
theorem fm_37_9 : FM 37 9 = 0 := rfl
theorem fm_46_6 : FM 46 6 = 0 := rfl
theorem fm_46_7 : FM 46 7 = 0 := rfl
theorem fm_46_8 : FM 46 8 = -1 := rfl
theorem fm_46_9 : FM 46 9 = 0 := rfl
end FMr
