def inB (v l : Int) : Bool := decide (0 ≤ v ∧ v < l)
theorem inB_t {v l : Int} : inB v l = true ↔ 0 ≤ v ∧ v < l := decide_eq_true_iff
theorem inB_f {v l : Int} : inB v l = false ↔ ¬ (0 ≤ v ∧ v < l) := decide_eq_false_iff_not
theorem d_Mo_in_0 : decode b_Mo_in 0 = .ok (.iload_n 0, 1) := by decide +kernel
theorem d_Mo_in_1 : decode b_Mo_in 1 = .ok (.ifCond .lt 12, 3) := by decide +kernel
theorem d_Mo_in_4 : decode b_Mo_in 4 = .ok (.iload_n 0, 1) := by decide +kernel
theorem d_Mo_in_5 : decode b_Mo_in 5 = .ok (.iload_n 1, 1) := by decide +kernel
theorem d_Mo_in_6 : decode b_Mo_in 6 = .ok (.if_icmp .ge 7, 3) := by decide +kernel
theorem d_Mo_in_9 : decode b_Mo_in 9 = .ok (.iconst 1, 1) := by decide +kernel
theorem d_Mo_in_10 : decode b_Mo_in 10 = .ok (.goto 4, 3) := by decide +kernel
theorem d_Mo_in_13 : decode b_Mo_in 13 = .ok (.iconst 0, 1) := by decide +kernel
theorem d_Mo_in_14 : decode b_Mo_in 14 = .ok (.ireturn, 1) := by decide +kernel
theorem g_Mo_in {X : WX} {d : Nat} (hd : 0 ≤ d) (v l : Int) (M : Mem)  : MG X gt d KE KE y_Mo_in b_Mo_in 2 (some .boolean) [vi v, vi l] M (fun r M' => r = some (vi (b2i (inB v l))) ∧ M' = M) := by
  refine MG_of_G (by decide) (Nat.le_of_ble_eq_true rfl) (Nat.le_refl _) (by decide) ?_
  show G X gt d KE KE y_Mo_in b_Mo_in 2 (some .boolean) _ 0 [(0, vi v), (1, vi l)] [] KE M
  refine G_rngl (i := 0) rfl (fun hr0 => ?_)
  refine G_rngl (i := 1) rfl (fun hr1 => ?_)
  refine G_iload (i := 0) (n := 0) (len := 1) (Or.inl ⟨0, rfl, rfl, d_Mo_in_0⟩) rfl (G_pc (pc' := 1) rfl ?_)
  refine G_if_lt (tgt := 13) d_Mo_in_1 (by decide) (fun h1 => ?_) (fun h1 => G_pc (pc' := 4) rfl ?_)
  · skip
    refine G_iconst (n := 0) d_Mo_in_13 (by decide) (G_pc (pc' := 14) rfl ?_)
    refine G_iret d_Mo_in_14 rfl (tokZ (by decide)) rfl rfl ?_
    exact ret_f (inB_f.mpr (by omega)) rfl
  · skip
    refine G_iload (i := 0) (n := 0) (len := 1) (Or.inl ⟨0, rfl, rfl, d_Mo_in_4⟩) rfl (G_pc (pc' := 5) rfl ?_)
    refine G_iload (i := 1) (n := 1) (len := 1) (Or.inl ⟨1, rfl, rfl, d_Mo_in_5⟩) rfl (G_pc (pc' := 6) rfl ?_)
    refine G_icmp_ge (tgt := 13) d_Mo_in_6 (by decide) (fun h2 => ?_) (fun h2 => G_pc (pc' := 9) rfl ?_)
    · skip
      refine G_iconst (n := 0) d_Mo_in_13 (by decide) (G_pc (pc' := 14) rfl ?_)
      refine G_iret d_Mo_in_14 rfl (tokZ (by decide)) rfl rfl ?_
      exact ret_f (inB_f.mpr (by omega)) rfl
    · skip
      refine G_iconst (n := 1) d_Mo_in_9 (by decide) (G_pc (pc' := 10) rfl ?_)
      refine G_goto (tgt := 14) d_Mo_in_10 (by decide) ?_
      refine G_iret d_Mo_in_14 rfl (tokZ (by decide)) rfl rfl ?_
      exact ret_t (inB_t.mpr (by omega)) rfl

def isKindB (n k : Int) : Bool := decide ((0 ≤ k ∧ k < 4) ∨ (4 ≤ k ∧ k < 4 + n) ∨ k = 10 ∨ (11 ≤ k ∧ k < 11 + n))
theorem isKindB_t {n k : Int} : isKindB n k = true ↔ (0 ≤ k ∧ k < 4) ∨ (4 ≤ k ∧ k < 4 + n) ∨ k = 10 ∨ (11 ≤ k ∧ k < 11 + n) := decide_eq_true_iff
theorem isKindB_f {n k : Int} : isKindB n k = false ↔ ¬ ((0 ≤ k ∧ k < 4) ∨ (4 ≤ k ∧ k < 4 + n) ∨ k = 10 ∨ (11 ≤ k ∧ k < 11 + n)) := decide_eq_false_iff_not
theorem d_Mo_isKind_0 : decode b_Mo_isKind 0 = .ok (.iload_n 1, 1) := by decide +kernel
theorem d_Mo_isKind_1 : decode b_Mo_isKind 1 = .ok (.iconst 4, 1) := by decide +kernel
theorem d_Mo_isKind_2 : decode b_Mo_isKind 2 = .ok (.invokestatic 105, 3) := by decide +kernel
theorem d_Mo_isKind_5 : decode b_Mo_isKind 5 = .ok (.ifCond .ne 41, 3) := by decide +kernel
theorem d_Mo_isKind_8 : decode b_Mo_isKind 8 = .ok (.iload_n 1, 1) := by decide +kernel
theorem d_Mo_isKind_9 : decode b_Mo_isKind 9 = .ok (.iconst 4, 1) := by decide +kernel
theorem d_Mo_isKind_10 : decode b_Mo_isKind 10 = .ok (.if_icmp .lt 13, 3) := by decide +kernel
theorem d_Mo_isKind_13 : decode b_Mo_isKind 13 = .ok (.iload_n 1, 1) := by decide +kernel
theorem d_Mo_isKind_14 : decode b_Mo_isKind 14 = .ok (.iconst 4, 1) := by decide +kernel
theorem d_Mo_isKind_15 : decode b_Mo_isKind 15 = .ok (.aload_n 0, 1) := by decide +kernel
theorem d_Mo_isKind_16 : decode b_Mo_isKind 16 = .ok (.getfield 109, 3) := by decide +kernel
theorem d_Mo_isKind_19 : decode b_Mo_isKind 19 = .ok (.iadd, 1) := by decide +kernel
theorem d_Mo_isKind_20 : decode b_Mo_isKind 20 = .ok (.if_icmp .lt 26, 3) := by decide +kernel
theorem d_Mo_isKind_23 : decode b_Mo_isKind 23 = .ok (.iload_n 1, 1) := by decide +kernel
theorem d_Mo_isKind_24 : decode b_Mo_isKind 24 = .ok (.bipush 10, 2) := by decide +kernel
theorem d_Mo_isKind_26 : decode b_Mo_isKind 26 = .ok (.if_icmp .eq 20, 3) := by decide +kernel
theorem d_Mo_isKind_29 : decode b_Mo_isKind 29 = .ok (.iload_n 1, 1) := by decide +kernel
theorem d_Mo_isKind_30 : decode b_Mo_isKind 30 = .ok (.bipush 11, 2) := by decide +kernel
theorem d_Mo_isKind_32 : decode b_Mo_isKind 32 = .ok (.if_icmp .lt 18, 3) := by decide +kernel
theorem d_Mo_isKind_35 : decode b_Mo_isKind 35 = .ok (.iload_n 1, 1) := by decide +kernel
theorem d_Mo_isKind_36 : decode b_Mo_isKind 36 = .ok (.bipush 11, 2) := by decide +kernel
theorem d_Mo_isKind_38 : decode b_Mo_isKind 38 = .ok (.aload_n 0, 1) := by decide +kernel
theorem d_Mo_isKind_39 : decode b_Mo_isKind 39 = .ok (.getfield 109, 3) := by decide +kernel
theorem d_Mo_isKind_42 : decode b_Mo_isKind 42 = .ok (.iadd, 1) := by decide +kernel
theorem d_Mo_isKind_43 : decode b_Mo_isKind 43 = .ok (.if_icmp .ge 7, 3) := by decide +kernel
theorem d_Mo_isKind_46 : decode b_Mo_isKind 46 = .ok (.iconst 1, 1) := by decide +kernel
theorem d_Mo_isKind_47 : decode b_Mo_isKind 47 = .ok (.goto 4, 3) := by decide +kernel
theorem d_Mo_isKind_50 : decode b_Mo_isKind 50 = .ok (.iconst 0, 1) := by decide +kernel
theorem d_Mo_isKind_51 : decode b_Mo_isKind 51 = .ok (.ireturn, 1) := by decide +kernel
theorem g_Mo_isKind {X : WX} {d : Nat} (hd : 1 ≤ d) (k : Int) (M : Mem) (hc : 0 ≤ M 55 0 ∧ M 55 0 ≤ 6) : MG X gt d KE KE y_Mo_isKind b_Mo_isKind 2 (some .boolean) [vr 55, vi k] M (fun r M' => r = some (vi (b2i (isKindB (M 55 0) k))) ∧ M' = M) := by
  refine MG_of_G (by decide) (Nat.le_of_ble_eq_true rfl) (Nat.le_refl _) (by decide) ?_
  show G X gt d KE KE y_Mo_isKind b_Mo_isKind 2 (some .boolean) _ 0 [(0, vr 55), (1, vi k)] [] KE M
  refine G_rngl (i := 1) rfl (fun hr1 => ?_)
  refine G_iload (i := 1) (n := 1) (len := 1) (Or.inl ⟨1, rfl, rfl, d_Mo_isKind_0⟩) rfl (G_pc (pc' := 1) rfl ?_)
  refine G_iconst (n := 4) d_Mo_isKind_1 (by decide) (G_pc (pc' := 2) rfl ?_)
  refine G_callS (K1 := KE) (d2 := 0) (as := [vi k, vi 4]) (rest := []) d_Mo_isKind_2 mf_Mo_in ml_Mo_105 rfl rfl (by decide) (by omega) ⟨Nat.le_refl _, Nat.le_refl _⟩ (g_Mo_in (by omega) k 4 _) (fun r1 M2 kq3 q3 => ?_)
  clear kq3; obtain ⟨q3a, q3b⟩ := q3; subst r1; subst M2
  refine G_ps (pc' := 5) (st' := [vi (b2i (inB k 4))]) rfl rfl ?_
  refine G_if_ne (tgt := 46) d_Mo_isKind_5 (by decide) (fun h4 => ?_) (fun h4 => G_pc (pc' := 8) rfl ?_)
  · skip
    replace h4 := b2i_nz.mp h4
    replace h4 := inB_t.mp h4
    refine G_iconst (n := 1) d_Mo_isKind_46 (by decide) (G_pc (pc' := 47) rfl ?_)
    refine G_goto (tgt := 51) d_Mo_isKind_47 (by decide) ?_
    refine G_iret d_Mo_isKind_51 rfl (tokZ (by decide)) rfl rfl ?_
    exact ret_t (isKindB_t.mpr (by omega)) rfl
  · skip
    replace h4 := b2i_0.mp h4
    replace h4 := inB_f.mp h4
    refine G_iload (i := 1) (n := 1) (len := 1) (Or.inl ⟨1, rfl, rfl, d_Mo_isKind_8⟩) rfl (G_pc (pc' := 9) rfl ?_)
    refine G_iconst (n := 4) d_Mo_isKind_9 (by decide) (G_pc (pc' := 10) rfl ?_)
    refine G_icmp_lt (tgt := 23) d_Mo_isKind_10 (by decide) (fun h5 => ?_) (fun h5 => G_pc (pc' := 13) rfl ?_)
    · skip
      refine G_iload (i := 1) (n := 1) (len := 1) (Or.inl ⟨1, rfl, rfl, d_Mo_isKind_23⟩) rfl (G_pc (pc' := 24) rfl ?_)
      refine G_bipush (n := 10) d_Mo_isKind_24 (by decide) (G_pc (pc' := 26) rfl ?_)
      refine G_icmp_eq (tgt := 46) d_Mo_isKind_26 (by decide) (fun h6 => ?_) (fun h6 => G_pc (pc' := 29) rfl ?_)
      · skip
        refine G_iconst (n := 1) d_Mo_isKind_46 (by decide) (G_pc (pc' := 47) rfl ?_)
        refine G_goto (tgt := 51) d_Mo_isKind_47 (by decide) ?_
        refine G_iret d_Mo_isKind_51 rfl (tokZ (by decide)) rfl rfl ?_
        exact ret_t (isKindB_t.mpr (by omega)) rfl
      · skip
        refine G_iload (i := 1) (n := 1) (len := 1) (Or.inl ⟨1, rfl, rfl, d_Mo_isKind_29⟩) rfl (G_pc (pc' := 30) rfl ?_)
        refine G_bipush (n := 11) d_Mo_isKind_30 (by decide) (G_pc (pc' := 32) rfl ?_)
        refine G_icmp_lt (tgt := 50) d_Mo_isKind_32 (by decide) (fun h7 => ?_) (fun h7 => G_pc (pc' := 35) rfl ?_)
        · skip
          refine G_iconst (n := 0) d_Mo_isKind_50 (by decide) (G_pc (pc' := 51) rfl ?_)
          refine G_iret d_Mo_isKind_51 rfl (tokZ (by decide)) rfl rfl ?_
          exact ret_f (isKindB_f.mpr (by omega)) rfl
        · skip
          refine G_iload (i := 1) (n := 1) (len := 1) (Or.inl ⟨1, rfl, rfl, d_Mo_isKind_35⟩) rfl (G_pc (pc' := 36) rfl ?_)
          refine G_bipush (n := 11) d_Mo_isKind_36 (by decide) (G_pc (pc' := 38) rfl ?_)
          refine G_aload (i := 0) (n := 0) (len := 1) (Or.inl ⟨0, rfl, rfl, d_Mo_isKind_38⟩) rfl (by decide) (G_pc (pc' := 39) rfl ?_)
          refine G_get (o := 55) (c := 9) (k := 0) (v := M 55 0) d_Mo_isKind_39 fl_Mo_109 rfl (by decide) (by decide) rfl rfl (G_pc (pc' := 42) rfl ?_)
          refine G_iadd d_Mo_isKind_42 (by omega) (G_pc (pc' := 43) rfl ?_)
          refine G_icmp_ge (tgt := 50) d_Mo_isKind_43 (by decide) (fun h8 => ?_) (fun h8 => G_pc (pc' := 46) rfl ?_)
          · skip
            refine G_iconst (n := 0) d_Mo_isKind_50 (by decide) (G_pc (pc' := 51) rfl ?_)
            refine G_iret d_Mo_isKind_51 rfl (tokZ (by decide)) rfl rfl ?_
            exact ret_f (isKindB_f.mpr (by omega)) rfl
          · skip
            refine G_iconst (n := 1) d_Mo_isKind_46 (by decide) (G_pc (pc' := 47) rfl ?_)
            refine G_goto (tgt := 51) d_Mo_isKind_47 (by decide) ?_
            refine G_iret d_Mo_isKind_51 rfl (tokZ (by decide)) rfl rfl ?_
            exact ret_t (isKindB_t.mpr (by omega)) rfl
    · skip
      refine G_iload (i := 1) (n := 1) (len := 1) (Or.inl ⟨1, rfl, rfl, d_Mo_isKind_13⟩) rfl (G_pc (pc' := 14) rfl ?_)
      refine G_iconst (n := 4) d_Mo_isKind_14 (by decide) (G_pc (pc' := 15) rfl ?_)
      refine G_aload (i := 0) (n := 0) (len := 1) (Or.inl ⟨0, rfl, rfl, d_Mo_isKind_15⟩) rfl (by decide) (G_pc (pc' := 16) rfl ?_)
      refine G_get (o := 55) (c := 9) (k := 0) (v := M 55 0) d_Mo_isKind_16 fl_Mo_109 rfl (by decide) (by decide) rfl rfl (G_pc (pc' := 19) rfl ?_)
      refine G_iadd d_Mo_isKind_19 (by omega) (G_pc (pc' := 20) rfl ?_)
      refine G_icmp_lt (tgt := 46) d_Mo_isKind_20 (by decide) (fun h9 => ?_) (fun h9 => G_pc (pc' := 23) rfl ?_)
      · skip
        refine G_iconst (n := 1) d_Mo_isKind_46 (by decide) (G_pc (pc' := 47) rfl ?_)
        refine G_goto (tgt := 51) d_Mo_isKind_47 (by decide) ?_
        refine G_iret d_Mo_isKind_51 rfl (tokZ (by decide)) rfl rfl ?_
        exact ret_t (isKindB_t.mpr (by omega)) rfl
      · skip
        refine G_iload (i := 1) (n := 1) (len := 1) (Or.inl ⟨1, rfl, rfl, d_Mo_isKind_23⟩) rfl (G_pc (pc' := 24) rfl ?_)
        refine G_bipush (n := 10) d_Mo_isKind_24 (by decide) (G_pc (pc' := 26) rfl ?_)
        refine G_icmp_eq (tgt := 46) d_Mo_isKind_26 (by decide) (fun h10 => ?_) (fun h10 => G_pc (pc' := 29) rfl ?_)
        · skip
          refine G_iconst (n := 1) d_Mo_isKind_46 (by decide) (G_pc (pc' := 47) rfl ?_)
          refine G_goto (tgt := 51) d_Mo_isKind_47 (by decide) ?_
          refine G_iret d_Mo_isKind_51 rfl (tokZ (by decide)) rfl rfl ?_
          exact ret_t (isKindB_t.mpr (by omega)) rfl
        · skip
          refine G_iload (i := 1) (n := 1) (len := 1) (Or.inl ⟨1, rfl, rfl, d_Mo_isKind_29⟩) rfl (G_pc (pc' := 30) rfl ?_)
          refine G_bipush (n := 11) d_Mo_isKind_30 (by decide) (G_pc (pc' := 32) rfl ?_)
          refine G_icmp_lt (tgt := 50) d_Mo_isKind_32 (by decide) (fun h11 => ?_) (fun h11 => G_pc (pc' := 35) rfl ?_)
          · skip
            refine G_iconst (n := 0) d_Mo_isKind_50 (by decide) (G_pc (pc' := 51) rfl ?_)
            refine G_iret d_Mo_isKind_51 rfl (tokZ (by decide)) rfl rfl ?_
            exact ret_f (isKindB_f.mpr (by omega)) rfl
          · skip
            refine G_iload (i := 1) (n := 1) (len := 1) (Or.inl ⟨1, rfl, rfl, d_Mo_isKind_35⟩) rfl (G_pc (pc' := 36) rfl ?_)
            refine G_bipush (n := 11) d_Mo_isKind_36 (by decide) (G_pc (pc' := 38) rfl ?_)
            refine G_aload (i := 0) (n := 0) (len := 1) (Or.inl ⟨0, rfl, rfl, d_Mo_isKind_38⟩) rfl (by decide) (G_pc (pc' := 39) rfl ?_)
            refine G_get (o := 55) (c := 9) (k := 0) (v := M 55 0) d_Mo_isKind_39 fl_Mo_109 rfl (by decide) (by decide) rfl rfl (G_pc (pc' := 42) rfl ?_)
            refine G_iadd d_Mo_isKind_42 (by omega) (G_pc (pc' := 43) rfl ?_)
            refine G_icmp_ge (tgt := 50) d_Mo_isKind_43 (by decide) (fun h12 => ?_) (fun h12 => G_pc (pc' := 46) rfl ?_)
            · skip
              refine G_iconst (n := 0) d_Mo_isKind_50 (by decide) (G_pc (pc' := 51) rfl ?_)
              refine G_iret d_Mo_isKind_51 rfl (tokZ (by decide)) rfl rfl ?_
              exact ret_f (isKindB_f.mpr (by omega)) rfl
            · skip
              refine G_iconst (n := 1) d_Mo_isKind_46 (by decide) (G_pc (pc' := 47) rfl ?_)
              refine G_goto (tgt := 51) d_Mo_isKind_47 (by decide) ?_
              refine G_iret d_Mo_isKind_51 rfl (tokZ (by decide)) rfl rfl ?_
              exact ret_t (isKindB_t.mpr (by omega)) rfl

def refB (k : Int) : Bool := decide (4 ≤ k)
theorem refB_t {k : Int} : refB k = true ↔ 4 ≤ k := decide_eq_true_iff
theorem refB_f {k : Int} : refB k = false ↔ ¬ (4 ≤ k) := decide_eq_false_iff_not
theorem d_Mo_reference_0 : decode b_Mo_reference 0 = .ok (.iload_n 0, 1) := by decide +kernel
theorem d_Mo_reference_1 : decode b_Mo_reference 1 = .ok (.iconst 4, 1) := by decide +kernel
theorem d_Mo_reference_2 : decode b_Mo_reference 2 = .ok (.if_icmp .lt 7, 3) := by decide +kernel
theorem d_Mo_reference_5 : decode b_Mo_reference 5 = .ok (.iconst 1, 1) := by decide +kernel
theorem d_Mo_reference_6 : decode b_Mo_reference 6 = .ok (.goto 4, 3) := by decide +kernel
theorem d_Mo_reference_9 : decode b_Mo_reference 9 = .ok (.iconst 0, 1) := by decide +kernel
theorem d_Mo_reference_10 : decode b_Mo_reference 10 = .ok (.ireturn, 1) := by decide +kernel
theorem g_Mo_reference {X : WX} {d : Nat} (hd : 0 ≤ d) (k : Int) (M : Mem)  : MG X gt d KE KE y_Mo_reference b_Mo_reference 1 (some .boolean) [vi k] M (fun r M' => r = some (vi (b2i (refB k))) ∧ M' = M) := by
  refine MG_of_G (by decide) (Nat.le_of_ble_eq_true rfl) (Nat.le_refl _) (by decide) ?_
  show G X gt d KE KE y_Mo_reference b_Mo_reference 1 (some .boolean) _ 0 [(0, vi k)] [] KE M
  refine G_rngl (i := 0) rfl (fun hr0 => ?_)
  refine G_iload (i := 0) (n := 0) (len := 1) (Or.inl ⟨0, rfl, rfl, d_Mo_reference_0⟩) rfl (G_pc (pc' := 1) rfl ?_)
  refine G_iconst (n := 4) d_Mo_reference_1 (by decide) (G_pc (pc' := 2) rfl ?_)
  refine G_icmp_lt (tgt := 9) d_Mo_reference_2 (by decide) (fun h1 => ?_) (fun h1 => G_pc (pc' := 5) rfl ?_)
  · skip
    refine G_iconst (n := 0) d_Mo_reference_9 (by decide) (G_pc (pc' := 10) rfl ?_)
    refine G_iret d_Mo_reference_10 rfl (tokZ (by decide)) rfl rfl ?_
    exact ret_f (refB_f.mpr (by omega)) rfl
  · skip
    refine G_iconst (n := 1) d_Mo_reference_5 (by decide) (G_pc (pc' := 6) rfl ?_)
    refine G_goto (tgt := 10) d_Mo_reference_6 (by decide) ?_
    refine G_iret d_Mo_reference_10 rfl (tokZ (by decide)) rfl rfl ?_
    exact ret_t (refB_t.mpr (by omega)) rfl

def numB (k : Int) : Bool := decide (k < 3)
theorem numB_t {k : Int} : numB k = true ↔ k < 3 := decide_eq_true_iff
theorem numB_f {k : Int} : numB k = false ↔ ¬ (k < 3) := decide_eq_false_iff_not
theorem d_Mo_numeric_0 : decode b_Mo_numeric 0 = .ok (.iload_n 0, 1) := by decide +kernel
theorem d_Mo_numeric_1 : decode b_Mo_numeric 1 = .ok (.iconst 3, 1) := by decide +kernel
theorem d_Mo_numeric_2 : decode b_Mo_numeric 2 = .ok (.if_icmp .ge 7, 3) := by decide +kernel
theorem d_Mo_numeric_5 : decode b_Mo_numeric 5 = .ok (.iconst 1, 1) := by decide +kernel
theorem d_Mo_numeric_6 : decode b_Mo_numeric 6 = .ok (.goto 4, 3) := by decide +kernel
theorem d_Mo_numeric_9 : decode b_Mo_numeric 9 = .ok (.iconst 0, 1) := by decide +kernel
theorem d_Mo_numeric_10 : decode b_Mo_numeric 10 = .ok (.ireturn, 1) := by decide +kernel
theorem g_Mo_numeric {X : WX} {d : Nat} (hd : 0 ≤ d) (k : Int) (M : Mem)  : MG X gt d KE KE y_Mo_numeric b_Mo_numeric 1 (some .boolean) [vi k] M (fun r M' => r = some (vi (b2i (numB k))) ∧ M' = M) := by
  refine MG_of_G (by decide) (Nat.le_of_ble_eq_true rfl) (Nat.le_refl _) (by decide) ?_
  show G X gt d KE KE y_Mo_numeric b_Mo_numeric 1 (some .boolean) _ 0 [(0, vi k)] [] KE M
  refine G_rngl (i := 0) rfl (fun hr0 => ?_)
  refine G_iload (i := 0) (n := 0) (len := 1) (Or.inl ⟨0, rfl, rfl, d_Mo_numeric_0⟩) rfl (G_pc (pc' := 1) rfl ?_)
  refine G_iconst (n := 3) d_Mo_numeric_1 (by decide) (G_pc (pc' := 2) rfl ?_)
  refine G_icmp_ge (tgt := 9) d_Mo_numeric_2 (by decide) (fun h1 => ?_) (fun h1 => G_pc (pc' := 5) rfl ?_)
  · skip
    refine G_iconst (n := 0) d_Mo_numeric_9 (by decide) (G_pc (pc' := 10) rfl ?_)
    refine G_iret d_Mo_numeric_10 rfl (tokZ (by decide)) rfl rfl ?_
    exact ret_f (numB_f.mpr (by omega)) rfl
  · skip
    refine G_iconst (n := 1) d_Mo_numeric_5 (by decide) (G_pc (pc' := 6) rfl ?_)
    refine G_goto (tgt := 10) d_Mo_numeric_6 (by decide) ?_
    refine G_iret d_Mo_numeric_10 rfl (tokZ (by decide)) rfl rfl ?_
    exact ret_t (numB_t.mpr (by omega)) rfl

def digB (c : Int) : Bool := decide (48 ≤ c ∧ c ≤ 57)
theorem digB_t {c : Int} : digB c = true ↔ 48 ≤ c ∧ c ≤ 57 := decide_eq_true_iff
theorem digB_f {c : Int} : digB c = false ↔ ¬ (48 ≤ c ∧ c ≤ 57) := decide_eq_false_iff_not
theorem d_Mo_digit_0 : decode b_Mo_digit 0 = .ok (.iload_n 0, 1) := by decide +kernel
theorem d_Mo_digit_1 : decode b_Mo_digit 1 = .ok (.bipush 48, 2) := by decide +kernel
theorem d_Mo_digit_3 : decode b_Mo_digit 3 = .ok (.if_icmp .lt 13, 3) := by decide +kernel
theorem d_Mo_digit_6 : decode b_Mo_digit 6 = .ok (.iload_n 0, 1) := by decide +kernel
theorem d_Mo_digit_7 : decode b_Mo_digit 7 = .ok (.bipush 57, 2) := by decide +kernel
theorem d_Mo_digit_9 : decode b_Mo_digit 9 = .ok (.if_icmp .gt 7, 3) := by decide +kernel
theorem d_Mo_digit_12 : decode b_Mo_digit 12 = .ok (.iconst 1, 1) := by decide +kernel
theorem d_Mo_digit_13 : decode b_Mo_digit 13 = .ok (.goto 4, 3) := by decide +kernel
theorem d_Mo_digit_16 : decode b_Mo_digit 16 = .ok (.iconst 0, 1) := by decide +kernel
theorem d_Mo_digit_17 : decode b_Mo_digit 17 = .ok (.ireturn, 1) := by decide +kernel
theorem g_Mo_digit {X : WX} {d : Nat} (hd : 0 ≤ d) (c : Int) (M : Mem)  : MG X gt d KE KE y_Mo_digit b_Mo_digit 1 (some .boolean) [vi c] M (fun r M' => r = some (vi (b2i (digB c))) ∧ M' = M) := by
  refine MG_of_G (by decide) (Nat.le_of_ble_eq_true rfl) (Nat.le_refl _) (by decide) ?_
  show G X gt d KE KE y_Mo_digit b_Mo_digit 1 (some .boolean) _ 0 [(0, vi c)] [] KE M
  refine G_rngl (i := 0) rfl (fun hr0 => ?_)
  refine G_iload (i := 0) (n := 0) (len := 1) (Or.inl ⟨0, rfl, rfl, d_Mo_digit_0⟩) rfl (G_pc (pc' := 1) rfl ?_)
  refine G_bipush (n := 48) d_Mo_digit_1 (by decide) (G_pc (pc' := 3) rfl ?_)
  refine G_icmp_lt (tgt := 16) d_Mo_digit_3 (by decide) (fun h1 => ?_) (fun h1 => G_pc (pc' := 6) rfl ?_)
  · skip
    refine G_iconst (n := 0) d_Mo_digit_16 (by decide) (G_pc (pc' := 17) rfl ?_)
    refine G_iret d_Mo_digit_17 rfl (tokZ (by decide)) rfl rfl ?_
    exact ret_f (digB_f.mpr (by omega)) rfl
  · skip
    refine G_iload (i := 0) (n := 0) (len := 1) (Or.inl ⟨0, rfl, rfl, d_Mo_digit_6⟩) rfl (G_pc (pc' := 7) rfl ?_)
    refine G_bipush (n := 57) d_Mo_digit_7 (by decide) (G_pc (pc' := 9) rfl ?_)
    refine G_icmp_gt (tgt := 16) d_Mo_digit_9 (by decide) (fun h2 => ?_) (fun h2 => G_pc (pc' := 12) rfl ?_)
    · skip
      refine G_iconst (n := 0) d_Mo_digit_16 (by decide) (G_pc (pc' := 17) rfl ?_)
      refine G_iret d_Mo_digit_17 rfl (tokZ (by decide)) rfl rfl ?_
      exact ret_f (digB_f.mpr (by omega)) rfl
    · skip
      refine G_iconst (n := 1) d_Mo_digit_12 (by decide) (G_pc (pc' := 13) rfl ?_)
      refine G_goto (tgt := 17) d_Mo_digit_13 (by decide) ?_
      refine G_iret d_Mo_digit_17 rfl (tokZ (by decide)) rfl rfl ?_
      exact ret_t (digB_t.mpr (by omega)) rfl

def smaB (c : Int) : Bool := decide (97 ≤ c ∧ c ≤ 122)
theorem smaB_t {c : Int} : smaB c = true ↔ 97 ≤ c ∧ c ≤ 122 := decide_eq_true_iff
theorem smaB_f {c : Int} : smaB c = false ↔ ¬ (97 ≤ c ∧ c ≤ 122) := decide_eq_false_iff_not
theorem d_Mo_small_0 : decode b_Mo_small 0 = .ok (.iload_n 0, 1) := by decide +kernel
theorem d_Mo_small_1 : decode b_Mo_small 1 = .ok (.bipush 97, 2) := by decide +kernel
theorem d_Mo_small_3 : decode b_Mo_small 3 = .ok (.if_icmp .lt 13, 3) := by decide +kernel
theorem d_Mo_small_6 : decode b_Mo_small 6 = .ok (.iload_n 0, 1) := by decide +kernel
theorem d_Mo_small_7 : decode b_Mo_small 7 = .ok (.bipush 122, 2) := by decide +kernel
theorem d_Mo_small_9 : decode b_Mo_small 9 = .ok (.if_icmp .gt 7, 3) := by decide +kernel
theorem d_Mo_small_12 : decode b_Mo_small 12 = .ok (.iconst 1, 1) := by decide +kernel
theorem d_Mo_small_13 : decode b_Mo_small 13 = .ok (.goto 4, 3) := by decide +kernel
theorem d_Mo_small_16 : decode b_Mo_small 16 = .ok (.iconst 0, 1) := by decide +kernel
theorem d_Mo_small_17 : decode b_Mo_small 17 = .ok (.ireturn, 1) := by decide +kernel
theorem g_Mo_small {X : WX} {d : Nat} (hd : 0 ≤ d) (c : Int) (M : Mem)  : MG X gt d KE KE y_Mo_small b_Mo_small 1 (some .boolean) [vi c] M (fun r M' => r = some (vi (b2i (smaB c))) ∧ M' = M) := by
  refine MG_of_G (by decide) (Nat.le_of_ble_eq_true rfl) (Nat.le_refl _) (by decide) ?_
  show G X gt d KE KE y_Mo_small b_Mo_small 1 (some .boolean) _ 0 [(0, vi c)] [] KE M
  refine G_rngl (i := 0) rfl (fun hr0 => ?_)
  refine G_iload (i := 0) (n := 0) (len := 1) (Or.inl ⟨0, rfl, rfl, d_Mo_small_0⟩) rfl (G_pc (pc' := 1) rfl ?_)
  refine G_bipush (n := 97) d_Mo_small_1 (by decide) (G_pc (pc' := 3) rfl ?_)
  refine G_icmp_lt (tgt := 16) d_Mo_small_3 (by decide) (fun h1 => ?_) (fun h1 => G_pc (pc' := 6) rfl ?_)
  · skip
    refine G_iconst (n := 0) d_Mo_small_16 (by decide) (G_pc (pc' := 17) rfl ?_)
    refine G_iret d_Mo_small_17 rfl (tokZ (by decide)) rfl rfl ?_
    exact ret_f (smaB_f.mpr (by omega)) rfl
  · skip
    refine G_iload (i := 0) (n := 0) (len := 1) (Or.inl ⟨0, rfl, rfl, d_Mo_small_6⟩) rfl (G_pc (pc' := 7) rfl ?_)
    refine G_bipush (n := 122) d_Mo_small_7 (by decide) (G_pc (pc' := 9) rfl ?_)
    refine G_icmp_gt (tgt := 16) d_Mo_small_9 (by decide) (fun h2 => ?_) (fun h2 => G_pc (pc' := 12) rfl ?_)
    · skip
      refine G_iconst (n := 0) d_Mo_small_16 (by decide) (G_pc (pc' := 17) rfl ?_)
      refine G_iret d_Mo_small_17 rfl (tokZ (by decide)) rfl rfl ?_
      exact ret_f (smaB_f.mpr (by omega)) rfl
    · skip
      refine G_iconst (n := 1) d_Mo_small_12 (by decide) (G_pc (pc' := 13) rfl ?_)
      refine G_goto (tgt := 17) d_Mo_small_13 (by decide) ?_
      refine G_iret d_Mo_small_17 rfl (tokZ (by decide)) rfl rfl ?_
      exact ret_t (smaB_t.mpr (by omega)) rfl

def letB (c : Int) : Bool := decide ((97 ≤ c ∧ c ≤ 122) ∨ (65 ≤ c ∧ c ≤ 90))
theorem letB_t {c : Int} : letB c = true ↔ (97 ≤ c ∧ c ≤ 122) ∨ (65 ≤ c ∧ c ≤ 90) := decide_eq_true_iff
theorem letB_f {c : Int} : letB c = false ↔ ¬ ((97 ≤ c ∧ c ≤ 122) ∨ (65 ≤ c ∧ c ≤ 90)) := decide_eq_false_iff_not
theorem d_Mo_letter_0 : decode b_Mo_letter 0 = .ok (.iload_n 0, 1) := by decide +kernel
theorem d_Mo_letter_1 : decode b_Mo_letter 1 = .ok (.invokestatic 160, 3) := by decide +kernel
theorem d_Mo_letter_4 : decode b_Mo_letter 4 = .ok (.ifCond .ne 15, 3) := by decide +kernel
theorem d_Mo_letter_7 : decode b_Mo_letter 7 = .ok (.iload_n 0, 1) := by decide +kernel
theorem d_Mo_letter_8 : decode b_Mo_letter 8 = .ok (.bipush 65, 2) := by decide +kernel
theorem d_Mo_letter_10 : decode b_Mo_letter 10 = .ok (.if_icmp .lt 13, 3) := by decide +kernel
theorem d_Mo_letter_13 : decode b_Mo_letter 13 = .ok (.iload_n 0, 1) := by decide +kernel
theorem d_Mo_letter_14 : decode b_Mo_letter 14 = .ok (.bipush 90, 2) := by decide +kernel
theorem d_Mo_letter_16 : decode b_Mo_letter 16 = .ok (.if_icmp .gt 7, 3) := by decide +kernel
theorem d_Mo_letter_19 : decode b_Mo_letter 19 = .ok (.iconst 1, 1) := by decide +kernel
theorem d_Mo_letter_20 : decode b_Mo_letter 20 = .ok (.goto 4, 3) := by decide +kernel
theorem d_Mo_letter_23 : decode b_Mo_letter 23 = .ok (.iconst 0, 1) := by decide +kernel
theorem d_Mo_letter_24 : decode b_Mo_letter 24 = .ok (.ireturn, 1) := by decide +kernel
theorem g_Mo_letter {X : WX} {d : Nat} (hd : 1 ≤ d) (c : Int) (M : Mem)  : MG X gt d KE KE y_Mo_letter b_Mo_letter 1 (some .boolean) [vi c] M (fun r M' => r = some (vi (b2i (letB c))) ∧ M' = M) := by
  refine MG_of_G (by decide) (Nat.le_of_ble_eq_true rfl) (Nat.le_refl _) (by decide) ?_
  show G X gt d KE KE y_Mo_letter b_Mo_letter 1 (some .boolean) _ 0 [(0, vi c)] [] KE M
  refine G_rngl (i := 0) rfl (fun hr0 => ?_)
  refine G_iload (i := 0) (n := 0) (len := 1) (Or.inl ⟨0, rfl, rfl, d_Mo_letter_0⟩) rfl (G_pc (pc' := 1) rfl ?_)
  refine G_callS (K1 := KE) (d2 := 0) (as := [vi c]) (rest := []) d_Mo_letter_1 mf_Mo_small ml_Mo_160 rfl rfl (by decide) (by omega) ⟨Nat.le_refl _, Nat.le_refl _⟩ (g_Mo_small (by omega) c _) (fun r1 M2 kq3 q3 => ?_)
  clear kq3; obtain ⟨q3a, q3b⟩ := q3; subst r1; subst M2
  refine G_ps (pc' := 4) (st' := [vi (b2i (smaB c))]) rfl rfl ?_
  refine G_if_ne (tgt := 19) d_Mo_letter_4 (by decide) (fun h4 => ?_) (fun h4 => G_pc (pc' := 7) rfl ?_)
  · skip
    replace h4 := b2i_nz.mp h4
    replace h4 := smaB_t.mp h4
    refine G_iconst (n := 1) d_Mo_letter_19 (by decide) (G_pc (pc' := 20) rfl ?_)
    refine G_goto (tgt := 24) d_Mo_letter_20 (by decide) ?_
    refine G_iret d_Mo_letter_24 rfl (tokZ (by decide)) rfl rfl ?_
    exact ret_t (letB_t.mpr (by omega)) rfl
  · skip
    replace h4 := b2i_0.mp h4
    replace h4 := smaB_f.mp h4
    refine G_iload (i := 0) (n := 0) (len := 1) (Or.inl ⟨0, rfl, rfl, d_Mo_letter_7⟩) rfl (G_pc (pc' := 8) rfl ?_)
    refine G_bipush (n := 65) d_Mo_letter_8 (by decide) (G_pc (pc' := 10) rfl ?_)
    refine G_icmp_lt (tgt := 23) d_Mo_letter_10 (by decide) (fun h5 => ?_) (fun h5 => G_pc (pc' := 13) rfl ?_)
    · skip
      refine G_iconst (n := 0) d_Mo_letter_23 (by decide) (G_pc (pc' := 24) rfl ?_)
      refine G_iret d_Mo_letter_24 rfl (tokZ (by decide)) rfl rfl ?_
      exact ret_f (letB_f.mpr (by omega)) rfl
    · skip
      refine G_iload (i := 0) (n := 0) (len := 1) (Or.inl ⟨0, rfl, rfl, d_Mo_letter_13⟩) rfl (G_pc (pc' := 14) rfl ?_)
      refine G_bipush (n := 90) d_Mo_letter_14 (by decide) (G_pc (pc' := 16) rfl ?_)
      refine G_icmp_gt (tgt := 23) d_Mo_letter_16 (by decide) (fun h6 => ?_) (fun h6 => G_pc (pc' := 19) rfl ?_)
      · skip
        refine G_iconst (n := 0) d_Mo_letter_23 (by decide) (G_pc (pc' := 24) rfl ?_)
        refine G_iret d_Mo_letter_24 rfl (tokZ (by decide)) rfl rfl ?_
        exact ret_f (letB_f.mpr (by omega)) rfl
      · skip
        refine G_iconst (n := 1) d_Mo_letter_19 (by decide) (G_pc (pc' := 20) rfl ?_)
        refine G_goto (tgt := 24) d_Mo_letter_20 (by decide) ?_
        refine G_iret d_Mo_letter_24 rfl (tokZ (by decide)) rfl rfl ?_
        exact ret_t (letB_t.mpr (by omega)) rfl

