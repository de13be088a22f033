/-- the desk's target holds what the model's holds -/
def RT (M : Mem) : Prop := (∀ c, 0 ≤ c → c < 6 → M 5 c = M 56 c) ∧ (∀ j, 0 ≤ j → j < 156 → M 6 j = M 57 j) ∧ (∀ n, 0 ≤ n → n < 27 → M 7 n = M 58 n) ∧ (M 4 4 = M 55 0 ∧ M 4 5 = M 55 5 ∧ M 4 6 = 1 - M 55 9 ∧ M 4 7 = M 55 10) ∧ (∀ n, 0 ≤ n → n < 27 → M 8 n = M 59 n) ∧ (∀ o p, 1 ≤ o → o ≤ 12 → 0 ≤ p → p < 26 → M 8 (28 * o + p) = M 62 (26 * o + p)) ∧ (∀ o, 1 ≤ o → o ≤ 12 → M 8 (28 * o + 26) = M 61 o ∧ M 8 (28 * o + 27) = M 60 o)
/-- ranges of the model's target -/
def TI (M : Mem) : Prop := (0 ≤ M 55 0 ∧ M 55 0 ≤ 6) ∧ (0 ≤ M 55 5 ∧ M 55 5 ≤ 12) ∧ (0 ≤ M 55 9 ∧ M 55 9 ≤ 1) ∧ (0 ≤ M 55 10 ∧ M 55 10 ≤ 1) ∧ okP M ∧ (∀ c, 0 ≤ c → c < M 55 0 → M 56 c < c) ∧ okF M ∧ (∀ n, 0 ≤ n → n < 27 → -1 ≤ M 58 n ∧ M 58 n < 17) ∧ okK M ∧ (∀ o, 0 ≤ o → o ≤ 12 → 0 ≤ M 60 o ∧ M 60 o < 17) ∧ (∀ o, 0 ≤ o → o ≤ 12 → 0 ≤ M 61 o ∧ M 61 o ≤ 5)
  ∧ (∀ o, 1 ≤ o → o ≤ M 55 5 → isKindB (M 55 0) (M 60 o) = true) ∧ (∀ n, 0 ≤ n → n < 27 → ¬ M 58 n = -1 → isKindB (M 55 0) (M 58 n) = true) ∧ (∀ j, 0 ≤ j → j < 156 → ¬ M 57 j = -1 → isKindB (M 55 0) (M 57 j) = true)
/-- a kind that is there, or null's -/
def vK (M : Mem) (k : Int) : Prop := isKindB (M 55 0) k = true ∨ k = 17
theorem vK_e {M : Mem} {k : Int} (h : vK M k) : (0 ≤ k ∧ k < 4) ∨ (4 ≤ k ∧ k < 4 + M 55 0) ∨ k = 10 ∨ (11 ≤ k ∧ k < 11 + M 55 0) ∨ k = 17 := by
  rcases h with h | h
  · have := isKindB_t.mp h; omega
  · omega
theorem d_Ta_runs_0 : decode b_Ta_runs 0 = .ok (.aload_n 0, 1) := by decide +kernel
theorem d_Ta_runs_1 : decode b_Ta_runs 1 = .ok (.getfield 25, 3) := by decide +kernel
theorem d_Ta_runs_4 : decode b_Ta_runs 4 = .ok (.ireturn, 1) := by decide +kernel
theorem g_Ta_runs {X : WX} {d : Nat} (hd : 0 ≤ d)  (M : Mem) (hT : RT M) (hI : TI M) : MG X gt d KE KE y_Ta_runs b_Ta_runs 1 (some .boolean) [vr 4] M (fun r M' => r = some (vi (1 - M 55 9)) ∧ M' = M) := by
  refine MG_of_G (by decide) (Nat.le_of_ble_eq_true rfl) (Nat.le_refl _) (by decide) ?_
  show G X gt d KE KE y_Ta_runs b_Ta_runs 1 (some .boolean) _ 0 [(0, vr 4)] [] KE M
  obtain ⟨hI1, hI2, hI3, hI4, hI5, hI6, hI7, hI8, hI9, hI10, hI11, hI12, hI13, hI14⟩ := hI
  refine G_aload (i := 0) (n := 0) (len := 1) (Or.inl ⟨0, rfl, rfl, d_Ta_runs_0⟩) rfl (by decide) (G_pc (pc' := 1) rfl ?_)
  refine G_get (o := 4) (c := 6) (k := 6) (v := M 4 6) d_Ta_runs_1 fl_Ta_25 rfl (by decide) (by decide) rfl rfl (G_pc (pc' := 4) rfl ?_)
  rw [show M 4 6 = 1 - M 55 9 from hT.2.2.2.1.2.2.1]
  refine G_iret d_Ta_runs_4 rfl (tokZ (by omega)) rfl rfl ?_
  exact ret_e rfl rfl

theorem d_De_placeOf_0 : decode b_De_placeOf 0 = .ok (.iload_n 0, 1) := by decide +kernel
theorem d_De_placeOf_1 : decode b_De_placeOf 1 = .ok (.bipush 28, 2) := by decide +kernel
theorem d_De_placeOf_3 : decode b_De_placeOf 3 = .ok (.imul, 1) := by decide +kernel
theorem d_De_placeOf_4 : decode b_De_placeOf 4 = .ok (.iload_n 1, 1) := by decide +kernel
theorem d_De_placeOf_5 : decode b_De_placeOf 5 = .ok (.iadd, 1) := by decide +kernel
theorem d_De_placeOf_6 : decode b_De_placeOf 6 = .ok (.ireturn, 1) := by decide +kernel
theorem g_De_placeOf {X : WX} {d : Nat} (hd : 0 ≤ d) (o p : Int) (M : Mem) (ho : 0 ≤ o ∧ o ≤ 12) (hp : 0 ≤ p ∧ p < 28) : MG X gt d KE KE y_De_placeOf b_De_placeOf 2 (some .int) [vi o, vi p] M (fun r M' => r = some (vi (28 * o + p)) ∧ M' = M) := by
  refine MG_of_G (by decide) (Nat.le_of_ble_eq_true rfl) (Nat.le_refl _) (by decide) ?_
  show G X gt d KE KE y_De_placeOf b_De_placeOf 2 (some .int) _ 0 [(0, vi o), (1, vi p)] [] KE M
  refine G_rngl (i := 0) rfl (fun hr0 => ?_)
  refine G_rngl (i := 1) rfl (fun hr1 => ?_)
  refine G_iload (i := 0) (n := 0) (len := 1) (Or.inl ⟨0, rfl, rfl, d_De_placeOf_0⟩) rfl (G_pc (pc' := 1) rfl ?_)
  refine G_bipush (n := 28) d_De_placeOf_1 (by decide) (G_pc (pc' := 3) rfl ?_)
  refine G_imul d_De_placeOf_3 (by omega) (G_pc (pc' := 4) rfl ?_)
  refine G_iload (i := 1) (n := 1) (len := 1) (Or.inl ⟨1, rfl, rfl, d_De_placeOf_4⟩) rfl (G_pc (pc' := 5) rfl ?_)
  refine G_iadd d_De_placeOf_5 (by omega) (G_pc (pc' := 6) rfl ?_)
  refine G_iret d_De_placeOf_6 rfl (tokI (by omega)) rfl rfl ?_
  exact ret_e (by omega) rfl

theorem d_Ta_contentsOf_0 : decode b_Ta_contentsOf 0 = .ok (.aload_n 0, 1) := by decide +kernel
theorem d_Ta_contentsOf_1 : decode b_Ta_contentsOf 1 = .ok (.getfield 21, 3) := by decide +kernel
theorem d_Ta_contentsOf_4 : decode b_Ta_contentsOf 4 = .ok (.iload_n 1, 1) := by decide +kernel
theorem d_Ta_contentsOf_5 : decode b_Ta_contentsOf 5 = .ok (.laload, 1) := by decide +kernel
theorem d_Ta_contentsOf_6 : decode b_Ta_contentsOf 6 = .ok (.lreturn, 1) := by decide +kernel
theorem g_Ta_contentsOf {X : WX} {d : Nat} (hd : 0 ≤ d) (p : Int) (M : Mem) (hp : 0 ≤ p ∧ p < 364) : MG X gt d KE KE y_Ta_contentsOf b_Ta_contentsOf 2 (some .long) [vr 4, vi p] M (fun r M' => r = some (vl (M 8 p)) ∧ M' = M) := by
  refine MG_of_G (by decide) (Nat.le_of_ble_eq_true rfl) (Nat.le_refl _) (by decide) ?_
  show G X gt d KE KE y_Ta_contentsOf b_Ta_contentsOf 2 (some .long) _ 0 [(0, vr 4), (1, vi p)] [] KE M
  refine G_rngl (i := 1) rfl (fun hr1 => ?_)
  refine G_aload (i := 0) (n := 0) (len := 1) (Or.inl ⟨0, rfl, rfl, d_Ta_contentsOf_0⟩) rfl (by decide) (G_pc (pc' := 1) rfl ?_)
  refine G_get (o := 4) (c := 6) (k := 3) (v := 8) d_Ta_contentsOf_1 fl_Ta_21 rfl (by decide) (by decide) rfl rfl (G_pc (pc' := 4) rfl ?_)
  refine G_iload (i := 1) (n := 1) (len := 1) (Or.inl ⟨1, rfl, rfl, d_Ta_contentsOf_4⟩) rfl (G_pc (pc' := 5) rfl ?_)
  refine G_laload (o := 8) (n := 364) (i := p) (v := M 8 p) d_Ta_contentsOf_5 rfl ⟨by decide, by decide⟩ (by omega) (rd_arr rfl) (fun t1 => G_pc (pc' := 6) rfl ?_)
  have t1 := tok_l t1
  refine G_lret d_Ta_contentsOf_6 rfl rfl ?_
  exact ret_l rfl rfl

theorem d_Ta_kindOfObject_0 : decode b_Ta_kindOfObject 0 = .ok (.aload_n 0, 1) := by decide +kernel
theorem d_Ta_kindOfObject_1 : decode b_Ta_kindOfObject 1 = .ok (.getfield 21, 3) := by decide +kernel
theorem d_Ta_kindOfObject_4 : decode b_Ta_kindOfObject 4 = .ok (.iload_n 1, 1) := by decide +kernel
theorem d_Ta_kindOfObject_5 : decode b_Ta_kindOfObject 5 = .ok (.bipush 27, 2) := by decide +kernel
theorem d_Ta_kindOfObject_7 : decode b_Ta_kindOfObject 7 = .ok (.invokestatic 64, 3) := by decide +kernel
theorem d_Ta_kindOfObject_10 : decode b_Ta_kindOfObject 10 = .ok (.laload, 1) := by decide +kernel
theorem d_Ta_kindOfObject_11 : decode b_Ta_kindOfObject 11 = .ok (.l2i, 1) := by decide +kernel
theorem d_Ta_kindOfObject_12 : decode b_Ta_kindOfObject 12 = .ok (.ireturn, 1) := by decide +kernel
theorem g_Ta_kindOfObject {X : WX} {d : Nat} (hd : 1 ≤ d) (o : Int) (M : Mem) (hT : RT M) (hI : TI M) (ho : 1 ≤ o ∧ o ≤ 12) : MG X gt d KE KE y_Ta_kindOfObject b_Ta_kindOfObject 2 (some .int) [vr 4, vi o] M (fun r M' => r = some (vi (M 60 o)) ∧ M' = M) := by
  refine MG_of_G (by decide) (Nat.le_of_ble_eq_true rfl) (Nat.le_refl _) (by decide) ?_
  show G X gt d KE KE y_Ta_kindOfObject b_Ta_kindOfObject 2 (some .int) _ 0 [(0, vr 4), (1, vi o)] [] KE M
  have hk0 := hI.2.2.2.2.2.2.2.2.2.1 o (by omega) (by omega)
  refine G_rngl (i := 1) rfl (fun hr1 => ?_)
  refine G_aload (i := 0) (n := 0) (len := 1) (Or.inl ⟨0, rfl, rfl, d_Ta_kindOfObject_0⟩) rfl (by decide) (G_pc (pc' := 1) rfl ?_)
  refine G_get (o := 4) (c := 6) (k := 3) (v := 8) d_Ta_kindOfObject_1 fl_Ta_21 rfl (by decide) (by decide) rfl rfl (G_pc (pc' := 4) rfl ?_)
  refine G_iload (i := 1) (n := 1) (len := 1) (Or.inl ⟨1, rfl, rfl, d_Ta_kindOfObject_4⟩) rfl (G_pc (pc' := 5) rfl ?_)
  refine G_bipush (n := 27) d_Ta_kindOfObject_5 (by decide) (G_pc (pc' := 7) rfl ?_)
  refine G_callN (K1 := KE) (d2 := 0) (as := [vi o, vi 27]) (rest := [vr 8]) d_Ta_kindOfObject_7 mf_De_placeOf (by decide) rfl rfl (Nat.le_of_ble_eq_true rfl) (by omega) ⟨Nat.le_refl _, Nat.le_refl _⟩ (g_De_placeOf (by omega) o 27 _ (by omega) (by omega)) (fun r1 M2 kq3 q3 => ?_)
  clear kq3; obtain ⟨q3a, q3b⟩ := q3; subst r1; subst M2
  refine G_ps (pc' := 10) (st' := [vi (28 * o + 27), vr 8]) rfl rfl ?_
  refine G_laload (o := 8) (n := 364) (i := 28 * o + 27) (v := M 8 (28 * o + 27)) d_Ta_kindOfObject_10 rfl ⟨by decide, by decide⟩ (by omega) (rd_arr rfl) (fun t4 => G_pc (pc' := 11) rfl ?_)
  have t4 := tok_l t4
  rw [show M 8 (28 * o + 27) = M 60 o from (hT.2.2.2.2.2.2 o (by omega) (by omega)).2]
  refine G_l2i d_Ta_kindOfObject_11 (G_pc (pc' := 12) rfl ?_)
  rw [show w32 (M 60 o) = M 60 o from w32_id (by omega)]
  refine G_iret d_Ta_kindOfObject_12 rfl (tokI (by omega)) rfl rfl ?_
  exact ret_e rfl rfl

theorem d_Ta_isThere_0 : decode b_Ta_isThere 0 = .ok (.iload_n 1, 1) := by decide +kernel
theorem d_Ta_isThere_1 : decode b_Ta_isThere 1 = .ok (.invokestatic 50, 3) := by decide +kernel
theorem d_Ta_isThere_4 : decode b_Ta_isThere 4 = .ok (.ifCond .eq 19, 3) := by decide +kernel
theorem d_Ta_isThere_7 : decode b_Ta_isThere 7 = .ok (.iload_n 1, 1) := by decide +kernel
theorem d_Ta_isThere_8 : decode b_Ta_isThere 8 = .ok (.iconst 4, 1) := by decide +kernel
theorem d_Ta_isThere_9 : decode b_Ta_isThere 9 = .ok (.isub, 1) := by decide +kernel
theorem d_Ta_isThere_10 : decode b_Ta_isThere 10 = .ok (.aload_n 0, 1) := by decide +kernel
theorem d_Ta_isThere_11 : decode b_Ta_isThere 11 = .ok (.getfield 38, 3) := by decide +kernel
theorem d_Ta_isThere_14 : decode b_Ta_isThere 14 = .ok (.if_icmp .ge 7, 3) := by decide +kernel
theorem d_Ta_isThere_17 : decode b_Ta_isThere 17 = .ok (.iconst 1, 1) := by decide +kernel
theorem d_Ta_isThere_18 : decode b_Ta_isThere 18 = .ok (.goto 4, 3) := by decide +kernel
theorem d_Ta_isThere_21 : decode b_Ta_isThere 21 = .ok (.iconst 0, 1) := by decide +kernel
theorem d_Ta_isThere_22 : decode b_Ta_isThere 22 = .ok (.ireturn, 1) := by decide +kernel
theorem d_Ta_isThere_23 : decode b_Ta_isThere 23 = .ok (.iload_n 1, 1) := by decide +kernel
theorem d_Ta_isThere_24 : decode b_Ta_isThere 24 = .ok (.bipush 11, 2) := by decide +kernel
theorem d_Ta_isThere_26 : decode b_Ta_isThere 26 = .ok (.if_icmp .lt 26, 3) := by decide +kernel
theorem d_Ta_isThere_29 : decode b_Ta_isThere 29 = .ok (.iload_n 1, 1) := by decide +kernel
theorem d_Ta_isThere_30 : decode b_Ta_isThere 30 = .ok (.bipush 16, 2) := by decide +kernel
theorem d_Ta_isThere_32 : decode b_Ta_isThere 32 = .ok (.if_icmp .gt 20, 3) := by decide +kernel
theorem d_Ta_isThere_35 : decode b_Ta_isThere 35 = .ok (.iload_n 1, 1) := by decide +kernel
theorem d_Ta_isThere_36 : decode b_Ta_isThere 36 = .ok (.bipush 11, 2) := by decide +kernel
theorem d_Ta_isThere_38 : decode b_Ta_isThere 38 = .ok (.isub, 1) := by decide +kernel
theorem d_Ta_isThere_39 : decode b_Ta_isThere 39 = .ok (.aload_n 0, 1) := by decide +kernel
theorem d_Ta_isThere_40 : decode b_Ta_isThere 40 = .ok (.getfield 38, 3) := by decide +kernel
theorem d_Ta_isThere_43 : decode b_Ta_isThere 43 = .ok (.if_icmp .ge 7, 3) := by decide +kernel
theorem d_Ta_isThere_46 : decode b_Ta_isThere 46 = .ok (.iconst 1, 1) := by decide +kernel
theorem d_Ta_isThere_47 : decode b_Ta_isThere 47 = .ok (.goto 4, 3) := by decide +kernel
theorem d_Ta_isThere_50 : decode b_Ta_isThere 50 = .ok (.iconst 0, 1) := by decide +kernel
theorem d_Ta_isThere_51 : decode b_Ta_isThere 51 = .ok (.ireturn, 1) := by decide +kernel
theorem d_Ta_isThere_52 : decode b_Ta_isThere 52 = .ok (.iload_n 1, 1) := by decide +kernel
theorem d_Ta_isThere_53 : decode b_Ta_isThere 53 = .ok (.ifCond .lt 8, 3) := by decide +kernel
theorem d_Ta_isThere_56 : decode b_Ta_isThere 56 = .ok (.iload_n 1, 1) := by decide +kernel
theorem d_Ta_isThere_57 : decode b_Ta_isThere 57 = .ok (.iconst 3, 1) := by decide +kernel
theorem d_Ta_isThere_58 : decode b_Ta_isThere 58 = .ok (.if_icmp .le 9, 3) := by decide +kernel
theorem d_Ta_isThere_61 : decode b_Ta_isThere 61 = .ok (.iload_n 1, 1) := by decide +kernel
theorem d_Ta_isThere_62 : decode b_Ta_isThere 62 = .ok (.bipush 10, 2) := by decide +kernel
theorem d_Ta_isThere_64 : decode b_Ta_isThere 64 = .ok (.if_icmp .ne 7, 3) := by decide +kernel
theorem d_Ta_isThere_67 : decode b_Ta_isThere 67 = .ok (.iconst 1, 1) := by decide +kernel
theorem d_Ta_isThere_68 : decode b_Ta_isThere 68 = .ok (.goto 4, 3) := by decide +kernel
theorem d_Ta_isThere_71 : decode b_Ta_isThere 71 = .ok (.iconst 0, 1) := by decide +kernel
theorem d_Ta_isThere_72 : decode b_Ta_isThere 72 = .ok (.ireturn, 1) := by decide +kernel
theorem g_Ta_isThere {X : WX} {d : Nat} (hd : 1 ≤ d) (k : Int) (M : Mem) (hT : RT M) (hI : TI M) : MG X gt d KE KE y_Ta_isThere b_Ta_isThere 2 (some .boolean) [vr 4, vi k] M (fun r M' => r = some (vi (b2i (isKindB (M 55 0) k))) ∧ M' = M) := by
  refine MG_of_G (by decide) (Nat.le_of_ble_eq_true rfl) (Nat.le_refl _) (by decide) ?_
  show G X gt d KE KE y_Ta_isThere b_Ta_isThere 2 (some .boolean) _ 0 [(0, vr 4), (1, vi k)] [] KE M
  have hI0 := hI
  obtain ⟨hI1, hI2, hI3, hI4, hI5, hI6, hI7, hI8, hI9, hI10, hI11, hI12, hI13, hI14⟩ := hI
  refine G_rngl (i := 1) rfl (fun hr1 => ?_)
  refine G_iload (i := 1) (n := 1) (len := 1) (Or.inl ⟨1, rfl, rfl, d_Ta_isThere_0⟩) rfl (G_pc (pc' := 1) rfl ?_)
  refine G_callS (K1 := KE) (d2 := 0) (as := [vi k]) (rest := []) d_Ta_isThere_1 mf_Ki_isClass ml_Ta_50 rfl rfl (Nat.le_of_ble_eq_true rfl) (by omega) ⟨Nat.le_refl _, Nat.le_refl _⟩ (g_Ki_isClass (by omega) k _) (fun r1 M2 kq3 q3 => ?_)
  clear kq3; obtain ⟨q3a, q3b⟩ := q3; subst r1; subst M2
  refine G_ps (pc' := 4) (st' := [vi (b2i (clB k))]) rfl rfl ?_
  refine G_if_eq (tgt := 23) d_Ta_isThere_4 (by decide) (fun h4 => ?_) (fun h4 => G_pc (pc' := 7) rfl ?_)
  · skip
    replace h4 := b2i_0.mp h4
    replace h4 := clB_f.mp h4
    refine G_iload (i := 1) (n := 1) (len := 1) (Or.inl ⟨1, rfl, rfl, d_Ta_isThere_23⟩) rfl (G_pc (pc' := 24) rfl ?_)
    refine G_bipush (n := 11) d_Ta_isThere_24 (by decide) (G_pc (pc' := 26) rfl ?_)
    refine G_icmp_lt (tgt := 52) d_Ta_isThere_26 (by decide) (fun h5 => ?_) (fun h5 => G_pc (pc' := 29) rfl ?_)
    · skip
      refine G_iload (i := 1) (n := 1) (len := 1) (Or.inl ⟨1, rfl, rfl, d_Ta_isThere_52⟩) rfl (G_pc (pc' := 53) rfl ?_)
      refine G_if_lt (tgt := 61) d_Ta_isThere_53 (by decide) (fun h6 => ?_) (fun h6 => G_pc (pc' := 56) rfl ?_)
      · skip
        refine G_iload (i := 1) (n := 1) (len := 1) (Or.inl ⟨1, rfl, rfl, d_Ta_isThere_61⟩) rfl (G_pc (pc' := 62) rfl ?_)
        refine G_bipush (n := 10) d_Ta_isThere_62 (by decide) (G_pc (pc' := 64) rfl ?_)
        refine G_icmp_ne (tgt := 71) d_Ta_isThere_64 (by decide) (fun h7 => ?_) (fun h7 => G_pc (pc' := 67) rfl ?_)
        · skip
          refine G_iconst (n := 0) d_Ta_isThere_71 (by decide) (G_pc (pc' := 72) rfl ?_)
          refine G_iret d_Ta_isThere_72 rfl (tokZ (by decide)) rfl rfl ?_
          exact ret_f (isKindB_f.mpr (by omega)) rfl
        · skip
          refine G_iconst (n := 1) d_Ta_isThere_67 (by decide) (G_pc (pc' := 68) rfl ?_)
          refine G_goto (tgt := 72) d_Ta_isThere_68 (by decide) ?_
          refine G_iret d_Ta_isThere_72 rfl (tokZ (by decide)) rfl rfl ?_
          exact ret_t (isKindB_t.mpr (by omega)) rfl
      · skip
        refine G_iload (i := 1) (n := 1) (len := 1) (Or.inl ⟨1, rfl, rfl, d_Ta_isThere_56⟩) rfl (G_pc (pc' := 57) rfl ?_)
        refine G_iconst (n := 3) d_Ta_isThere_57 (by decide) (G_pc (pc' := 58) rfl ?_)
        refine G_icmp_le (tgt := 67) d_Ta_isThere_58 (by decide) (fun h8 => ?_) (fun h8 => G_pc (pc' := 61) rfl ?_)
        · skip
          refine G_iconst (n := 1) d_Ta_isThere_67 (by decide) (G_pc (pc' := 68) rfl ?_)
          refine G_goto (tgt := 72) d_Ta_isThere_68 (by decide) ?_
          refine G_iret d_Ta_isThere_72 rfl (tokZ (by decide)) rfl rfl ?_
          exact ret_t (isKindB_t.mpr (by omega)) rfl
        · skip
          refine G_iload (i := 1) (n := 1) (len := 1) (Or.inl ⟨1, rfl, rfl, d_Ta_isThere_61⟩) rfl (G_pc (pc' := 62) rfl ?_)
          refine G_bipush (n := 10) d_Ta_isThere_62 (by decide) (G_pc (pc' := 64) rfl ?_)
          refine G_icmp_ne (tgt := 71) d_Ta_isThere_64 (by decide) (fun h9 => ?_) (fun h9 => G_pc (pc' := 67) rfl ?_)
          · skip
            refine G_iconst (n := 0) d_Ta_isThere_71 (by decide) (G_pc (pc' := 72) rfl ?_)
            refine G_iret d_Ta_isThere_72 rfl (tokZ (by decide)) rfl rfl ?_
            exact ret_f (isKindB_f.mpr (by omega)) rfl
          · skip
            refine G_iconst (n := 1) d_Ta_isThere_67 (by decide) (G_pc (pc' := 68) rfl ?_)
            refine G_goto (tgt := 72) d_Ta_isThere_68 (by decide) ?_
            refine G_iret d_Ta_isThere_72 rfl (tokZ (by decide)) rfl rfl ?_
            exact ret_t (isKindB_t.mpr (by omega)) rfl
    · skip
      refine G_iload (i := 1) (n := 1) (len := 1) (Or.inl ⟨1, rfl, rfl, d_Ta_isThere_29⟩) rfl (G_pc (pc' := 30) rfl ?_)
      refine G_bipush (n := 16) d_Ta_isThere_30 (by decide) (G_pc (pc' := 32) rfl ?_)
      refine G_icmp_gt (tgt := 52) d_Ta_isThere_32 (by decide) (fun h10 => ?_) (fun h10 => G_pc (pc' := 35) rfl ?_)
      · skip
        refine G_iload (i := 1) (n := 1) (len := 1) (Or.inl ⟨1, rfl, rfl, d_Ta_isThere_52⟩) rfl (G_pc (pc' := 53) rfl ?_)
        refine G_if_lt (tgt := 61) d_Ta_isThere_53 (by decide) (fun h11 => ?_) (fun h11 => G_pc (pc' := 56) rfl ?_)
        · skip
          refine G_iload (i := 1) (n := 1) (len := 1) (Or.inl ⟨1, rfl, rfl, d_Ta_isThere_61⟩) rfl (G_pc (pc' := 62) rfl ?_)
          refine G_bipush (n := 10) d_Ta_isThere_62 (by decide) (G_pc (pc' := 64) rfl ?_)
          refine G_icmp_ne (tgt := 71) d_Ta_isThere_64 (by decide) (fun h12 => ?_) (fun h12 => G_pc (pc' := 67) rfl ?_)
          · skip
            refine G_iconst (n := 0) d_Ta_isThere_71 (by decide) (G_pc (pc' := 72) rfl ?_)
            refine G_iret d_Ta_isThere_72 rfl (tokZ (by decide)) rfl rfl ?_
            exact ret_f (isKindB_f.mpr (by omega)) rfl
          · skip
            refine G_iconst (n := 1) d_Ta_isThere_67 (by decide) (G_pc (pc' := 68) rfl ?_)
            refine G_goto (tgt := 72) d_Ta_isThere_68 (by decide) ?_
            refine G_iret d_Ta_isThere_72 rfl (tokZ (by decide)) rfl rfl ?_
            exact ret_t (isKindB_t.mpr (by omega)) rfl
        · skip
          refine G_iload (i := 1) (n := 1) (len := 1) (Or.inl ⟨1, rfl, rfl, d_Ta_isThere_56⟩) rfl (G_pc (pc' := 57) rfl ?_)
          refine G_iconst (n := 3) d_Ta_isThere_57 (by decide) (G_pc (pc' := 58) rfl ?_)
          refine G_icmp_le (tgt := 67) d_Ta_isThere_58 (by decide) (fun h13 => ?_) (fun h13 => G_pc (pc' := 61) rfl ?_)
          · skip
            refine G_iconst (n := 1) d_Ta_isThere_67 (by decide) (G_pc (pc' := 68) rfl ?_)
            refine G_goto (tgt := 72) d_Ta_isThere_68 (by decide) ?_
            refine G_iret d_Ta_isThere_72 rfl (tokZ (by decide)) rfl rfl ?_
            exact ret_t (isKindB_t.mpr (by omega)) rfl
          · skip
            refine G_iload (i := 1) (n := 1) (len := 1) (Or.inl ⟨1, rfl, rfl, d_Ta_isThere_61⟩) rfl (G_pc (pc' := 62) rfl ?_)
            refine G_bipush (n := 10) d_Ta_isThere_62 (by decide) (G_pc (pc' := 64) rfl ?_)
            refine G_icmp_ne (tgt := 71) d_Ta_isThere_64 (by decide) (fun h14 => ?_) (fun h14 => G_pc (pc' := 67) rfl ?_)
            · skip
              refine G_iconst (n := 0) d_Ta_isThere_71 (by decide) (G_pc (pc' := 72) rfl ?_)
              refine G_iret d_Ta_isThere_72 rfl (tokZ (by decide)) rfl rfl ?_
              exact ret_f (isKindB_f.mpr (by omega)) rfl
            · skip
              refine G_iconst (n := 1) d_Ta_isThere_67 (by decide) (G_pc (pc' := 68) rfl ?_)
              refine G_goto (tgt := 72) d_Ta_isThere_68 (by decide) ?_
              refine G_iret d_Ta_isThere_72 rfl (tokZ (by decide)) rfl rfl ?_
              exact ret_t (isKindB_t.mpr (by omega)) rfl
      · skip
        refine G_iload (i := 1) (n := 1) (len := 1) (Or.inl ⟨1, rfl, rfl, d_Ta_isThere_35⟩) rfl (G_pc (pc' := 36) rfl ?_)
        refine G_bipush (n := 11) d_Ta_isThere_36 (by decide) (G_pc (pc' := 38) rfl ?_)
        refine G_isub d_Ta_isThere_38 (by omega) (G_pc (pc' := 39) rfl ?_)
        refine G_aload (i := 0) (n := 0) (len := 1) (Or.inl ⟨0, rfl, rfl, d_Ta_isThere_39⟩) rfl (by decide) (G_pc (pc' := 40) rfl ?_)
        refine G_get (o := 4) (c := 6) (k := 4) (v := M 4 4) d_Ta_isThere_40 fl_Ta_38 rfl (by decide) (by decide) rfl rfl (G_pc (pc' := 43) rfl ?_)
        rw [show M 4 4 = M 55 0 from hT.2.2.2.1.1]
        refine G_icmp_ge (tgt := 50) d_Ta_isThere_43 (by decide) (fun h15 => ?_) (fun h15 => G_pc (pc' := 46) rfl ?_)
        · skip
          refine G_iconst (n := 0) d_Ta_isThere_50 (by decide) (G_pc (pc' := 51) rfl ?_)
          refine G_iret d_Ta_isThere_51 rfl (tokZ (by decide)) rfl rfl ?_
          exact ret_f (isKindB_f.mpr (by omega)) rfl
        · skip
          refine G_iconst (n := 1) d_Ta_isThere_46 (by decide) (G_pc (pc' := 47) rfl ?_)
          refine G_goto (tgt := 51) d_Ta_isThere_47 (by decide) ?_
          refine G_iret d_Ta_isThere_51 rfl (tokZ (by decide)) rfl rfl ?_
          exact ret_t (isKindB_t.mpr (by omega)) rfl
  · skip
    replace h4 := b2i_nz.mp h4
    replace h4 := clB_t.mp h4
    refine G_iload (i := 1) (n := 1) (len := 1) (Or.inl ⟨1, rfl, rfl, d_Ta_isThere_7⟩) rfl (G_pc (pc' := 8) rfl ?_)
    refine G_iconst (n := 4) d_Ta_isThere_8 (by decide) (G_pc (pc' := 9) rfl ?_)
    refine G_isub d_Ta_isThere_9 (by omega) (G_pc (pc' := 10) rfl ?_)
    refine G_aload (i := 0) (n := 0) (len := 1) (Or.inl ⟨0, rfl, rfl, d_Ta_isThere_10⟩) rfl (by decide) (G_pc (pc' := 11) rfl ?_)
    refine G_get (o := 4) (c := 6) (k := 4) (v := M 4 4) d_Ta_isThere_11 fl_Ta_38 rfl (by decide) (by decide) rfl rfl (G_pc (pc' := 14) rfl ?_)
    rw [show M 4 4 = M 55 0 from hT.2.2.2.1.1]
    refine G_icmp_ge (tgt := 21) d_Ta_isThere_14 (by decide) (fun h16 => ?_) (fun h16 => G_pc (pc' := 17) rfl ?_)
    · skip
      refine G_iconst (n := 0) d_Ta_isThere_21 (by decide) (G_pc (pc' := 22) rfl ?_)
      refine G_iret d_Ta_isThere_22 rfl (tokZ (by decide)) rfl rfl ?_
      exact ret_f (isKindB_f.mpr (by omega)) rfl
    · skip
      refine G_iconst (n := 1) d_Ta_isThere_17 (by decide) (G_pc (pc' := 18) rfl ?_)
      refine G_goto (tgt := 22) d_Ta_isThere_18 (by decide) ?_
      refine G_iret d_Ta_isThere_22 rfl (tokZ (by decide)) rfl rfl ?_
      exact ret_t (isKindB_t.mpr (by omega)) rfl

theorem d_Ta_isA_0 : decode b_Ta_isA 0 = .ok (.iload_n 1, 1) := by decide +kernel
theorem d_Ta_isA_1 : decode b_Ta_isA 1 = .ok (.istore_n 3, 1) := by decide +kernel
theorem d_Ta_isA_2 : decode b_Ta_isA 2 = .ok (.iconst 0, 1) := by decide +kernel
theorem d_Ta_isA_3 : decode b_Ta_isA 3 = .ok (.istore 4, 2) := by decide +kernel
theorem d_Ta_isA_5 : decode b_Ta_isA 5 = .ok (.iload 4, 2) := by decide +kernel
theorem d_Ta_isA_7 : decode b_Ta_isA 7 = .ok (.bipush 6, 2) := by decide +kernel
theorem d_Ta_isA_9 : decode b_Ta_isA 9 = .ok (.if_icmp .ge 27, 3) := by decide +kernel
theorem d_Ta_isA_12 : decode b_Ta_isA 12 = .ok (.iload_n 3, 1) := by decide +kernel
theorem d_Ta_isA_13 : decode b_Ta_isA 13 = .ok (.ifCond .lt 23, 3) := by decide +kernel
theorem d_Ta_isA_16 : decode b_Ta_isA 16 = .ok (.iload_n 3, 1) := by decide +kernel
theorem d_Ta_isA_17 : decode b_Ta_isA 17 = .ok (.iload_n 2, 1) := by decide +kernel
theorem d_Ta_isA_18 : decode b_Ta_isA 18 = .ok (.if_icmp .ne 5, 3) := by decide +kernel
theorem d_Ta_isA_21 : decode b_Ta_isA 21 = .ok (.iconst 1, 1) := by decide +kernel
theorem d_Ta_isA_22 : decode b_Ta_isA 22 = .ok (.ireturn, 1) := by decide +kernel
theorem d_Ta_isA_23 : decode b_Ta_isA 23 = .ok (.aload_n 0, 1) := by decide +kernel
theorem d_Ta_isA_24 : decode b_Ta_isA 24 = .ok (.getfield 9, 3) := by decide +kernel
theorem d_Ta_isA_27 : decode b_Ta_isA 27 = .ok (.iload_n 3, 1) := by decide +kernel
theorem d_Ta_isA_28 : decode b_Ta_isA 28 = .ok (.iaload, 1) := by decide +kernel
theorem d_Ta_isA_29 : decode b_Ta_isA 29 = .ok (.istore_n 3, 1) := by decide +kernel
theorem d_Ta_isA_30 : decode b_Ta_isA 30 = .ok (.iinc 4 1, 3) := by decide +kernel
theorem d_Ta_isA_33 : decode b_Ta_isA 33 = .ok (.goto (-28), 3) := by decide +kernel
theorem d_Ta_isA_36 : decode b_Ta_isA 36 = .ok (.iconst 0, 1) := by decide +kernel
theorem d_Ta_isA_37 : decode b_Ta_isA 37 = .ok (.ireturn, 1) := by decide +kernel
theorem g_Ta_isA {X : WX} {d : Nat} (hd : 0 ≤ d) (a b : Int) (M : Mem) (hT : RT M) (hI : TI M) (ha : 0 ≤ a ∧ a < M 55 0) (hb : 0 ≤ b) : MG X gt d KE KE y_Ta_isA b_Ta_isA 5 (some .boolean) [vr 4, vi a, vi b] M (fun r M' => r = some (vi (b2i (isAm M a b))) ∧ M' = M) := by
  refine MG_of_G (by decide) (Nat.le_of_ble_eq_true rfl) (Nat.le_refl _) (by decide) ?_
  show G X gt d KE KE y_Ta_isA b_Ta_isA 5 (some .boolean) _ 0 [(0, vr 4), (1, vi a), (2, vi b)] [] KE M
  have hI0 := hI
  obtain ⟨hI1, hI2, hI3, hI4, hI5, hI6, hI7, hI8, hI9, hI10, hI11, hI12, hI13, hI14⟩ := hI
  refine G_rngl (i := 1) rfl (fun hr1 => ?_)
  refine G_rngl (i := 2) rfl (fun hr2 => ?_)
  have loop : ∀ (n : Nat) (k c : Int), k + n = 6 → 0 ≤ k → (-1 ≤ c ∧ c < n ∧ c < M 55 0) → isAf (fun j => M 56 j) n c b = isAm M a b → G X gt d KE KE y_Ta_isA b_Ta_isA 5 (some .boolean) (fun r M' => r = some (vi (b2i (isAm M a b))) ∧ M' = M) 5 [(4, vi k), (3, vi c), (0, vr 4), (1, vi a), (2, vi b)] [] KE M := by
    intro n
    induction n with
    | zero =>
      intro k c h1 h2 h3 h4
      refine G_iload (i := 4) (n := 0) (len := 2) (Or.inr ⟨rfl, d_Ta_isA_5⟩) rfl (G_pc (pc' := 7) rfl ?_)
      refine G_bipush (n := 6) d_Ta_isA_7 (by decide) (G_pc (pc' := 9) rfl ?_)
      refine G_icmp_ge (tgt := 36) d_Ta_isA_9 (by decide) (fun h701 => ?_) (fun h701 => absurd h701 (by omega))
      refine G_iconst (n := 0) d_Ta_isA_36 (by decide) (G_pc (pc' := 37) rfl ?_)
      refine G_iret d_Ta_isA_37 rfl (tokZ (by decide)) rfl rfl ?_
      first | exact ret_f (h4.symm.trans (isAf_neg (by omega) (by omega))) rfl | exact ret_f (h4.symm.trans (isAf_0 (by omega))) rfl
    | succ n ih =>
      intro k c h1 h2 h3 h4
      refine G_iload (i := 4) (n := 0) (len := 2) (Or.inr ⟨rfl, d_Ta_isA_5⟩) rfl (G_pc (pc' := 7) rfl ?_)
      refine G_bipush (n := 6) d_Ta_isA_7 (by decide) (G_pc (pc' := 9) rfl ?_)
      refine G_icmp_ge (tgt := 36) d_Ta_isA_9 (by decide) (fun h801 => absurd h801 (by omega)) (fun h801 => G_pc (pc' := 12) rfl ?_)
      refine G_iload (i := 3) (n := 1) (len := 1) (Or.inl ⟨3, rfl, rfl, d_Ta_isA_12⟩) rfl (G_pc (pc' := 13) rfl ?_)
      refine G_if_lt (tgt := 36) d_Ta_isA_13 (by decide) (fun h802 => ?_) (fun h802 => G_pc (pc' := 16) rfl ?_)
      · skip
        refine G_iconst (n := 0) d_Ta_isA_36 (by decide) (G_pc (pc' := 37) rfl ?_)
        refine G_iret d_Ta_isA_37 rfl (tokZ (by decide)) rfl rfl ?_
        first | exact ret_f (h4.symm.trans (isAf_neg (by omega) (by omega))) rfl | exact ret_f (h4.symm.trans (isAf_0 (by omega))) rfl
      · skip
        refine G_iload (i := 3) (n := 1) (len := 1) (Or.inl ⟨3, rfl, rfl, d_Ta_isA_16⟩) rfl (G_pc (pc' := 17) rfl ?_)
        refine G_iload (i := 2) (n := 4) (len := 1) (Or.inl ⟨2, rfl, rfl, d_Ta_isA_17⟩) rfl (G_pc (pc' := 18) rfl ?_)
        refine G_icmp_ne (tgt := 23) d_Ta_isA_18 (by decide) (fun h803 => ?_) (fun h803 => G_pc (pc' := 21) rfl ?_)
        · skip
          refine G_aload (i := 0) (n := 2) (len := 1) (Or.inl ⟨0, rfl, rfl, d_Ta_isA_23⟩) rfl (by decide) (G_pc (pc' := 24) rfl ?_)
          refine G_get (o := 4) (c := 6) (k := 0) (v := 5) d_Ta_isA_24 fl_Ta_9 rfl (by decide) (by decide) rfl rfl (G_pc (pc' := 27) rfl ?_)
          refine G_iload (i := 3) (n := 1) (len := 1) (Or.inl ⟨3, rfl, rfl, d_Ta_isA_27⟩) rfl (G_pc (pc' := 28) rfl ?_)
          refine G_iaload (o := 5) (n := 6) (i := c) (v := M 5 c) d_Ta_isA_28 rfl ⟨by decide, by decide⟩ (by omega) (rd_arr rfl) (fun t804 => G_pc (pc' := 29) rfl ?_)
          have t804 := tok_i t804
          rw [show M 5 c = M 56 c from hT.1 _ (by omega) (by omega)]
          refine G_istore (i := 3) (len := 1) (ls' := [(3, vi (M 56 c)), (4, vi k), (0, vr 4), (1, vi a), (2, vi b)]) (Or.inl ⟨3, rfl, rfl, d_Ta_isA_29⟩) (by decide) rfl (G_pc (pc' := 30) rfl ?_)
          refine G_iinc (i := 4) (n := 1) (z := 1) (ls' := [(4, vi (k + 1)), (3, vi (M 56 c)), (0, vr 4), (1, vi a), (2, vi b)]) d_Ta_isA_30 rfl (by decide) (by omega) rfl (G_pc (pc' := 33) rfl ?_)
          refine G_goto (tgt := 5) d_Ta_isA_33 (by decide) ?_
          have hd5 := hI5 c (by omega) (by omega)
          have hd6 := hI6 c (by omega) (by omega)
          exact ih (k + 1) (M 56 c) (by omega) (by omega) (by omega) (h4 ▸ (isAf_s (by omega) (by omega)).symm)
        · skip
          refine G_iconst (n := 1) d_Ta_isA_21 (by decide) (G_pc (pc' := 22) rfl ?_)
          refine G_iret d_Ta_isA_22 rfl (tokZ (by decide)) rfl rfl ?_
          exact ret_t (h4.symm.trans (isAf_eq (by omega))) rfl
  refine G_iload (i := 1) (n := 1) (len := 1) (Or.inl ⟨1, rfl, rfl, d_Ta_isA_0⟩) rfl (G_pc (pc' := 1) rfl ?_)
  refine G_istore (i := 3) (len := 1) (ls' := [(3, vi a), (0, vr 4), (1, vi a), (2, vi b)]) (Or.inl ⟨3, rfl, rfl, d_Ta_isA_1⟩) (by decide) rfl (G_pc (pc' := 2) rfl ?_)
  refine G_iconst (n := 0) d_Ta_isA_2 (by decide) (G_pc (pc' := 3) rfl ?_)
  refine G_istore (i := 4) (len := 2) (ls' := [(4, vi 0), (3, vi a), (0, vr 4), (1, vi a), (2, vi b)]) (Or.inr ⟨rfl, d_Ta_isA_3⟩) (by decide) rfl (G_pc (pc' := 5) rfl ?_)
  exact loop 6 0 a (by omega) (by omega) (by omega) rfl

theorem suits_eq {M : Mem} {a b : Int} (h : a = b) : suitsB M a b = true := by unfold suitsB; simp [h]
theorem suits_cl {M : Mem} {a b : Int} (h : ¬ a = b) (ha : 4 ≤ a ∧ a ≤ 9) (hb : 4 ≤ b ∧ b ≤ 9) : suitsB M a b = isAm M (a - 4) (b - 4) := by
  unfold suitsB
  rw [decide_eq_false h, decide_eq_false (show ¬ a = 17 by omega), decide_eq_true (show 4 ≤ a ∧ a < 10 ∧ 4 ≤ b ∧ b < 10 by omega)]
  simp
theorem suits_nu {M : Mem} {a b : Int} (h : a = 17) (hb : 4 ≤ b) : suitsB M a b = true := by
  unfold suitsB refB
  rw [decide_eq_true h, decide_eq_true hb]; simp
theorem suits_no {M : Mem} {a b : Int} (h : ¬ a = b) (h1 : ¬ (4 ≤ a ∧ a ≤ 9 ∧ 4 ≤ b ∧ b ≤ 9)) (h2 : ¬ (a = 17 ∧ 4 ≤ b)) : suitsB M a b = false := by
  unfold suitsB refB
  rw [decide_eq_false h, decide_eq_false (show ¬ (4 ≤ a ∧ a < 10 ∧ 4 ≤ b ∧ b < 10) by omega)]
  by_cases ha : a = 17
  · rw [decide_eq_true ha, decide_eq_false (show ¬ 4 ≤ b from fun hb => h2 ⟨ha, hb⟩)]; rfl
  · rw [decide_eq_false ha]; rfl
theorem rel_e {M : Mem} {a b : Int} : relB M a b = true ↔ (4 ≤ a ∧ 4 ≤ b) ∧ (suitsB M a b = true ∨ suitsB M b a = true) := by
  unfold relB refB; simp
theorem d_Ta_fits_0 : decode b_Ta_fits 0 = .ok (.iload_n 1, 1) := by decide +kernel
theorem d_Ta_fits_1 : decode b_Ta_fits 1 = .ok (.iload_n 2, 1) := by decide +kernel
theorem d_Ta_fits_2 : decode b_Ta_fits 2 = .ok (.if_icmp .ne 5, 3) := by decide +kernel
theorem d_Ta_fits_5 : decode b_Ta_fits 5 = .ok (.iconst 1, 1) := by decide +kernel
theorem d_Ta_fits_6 : decode b_Ta_fits 6 = .ok (.ireturn, 1) := by decide +kernel
theorem d_Ta_fits_7 : decode b_Ta_fits 7 = .ok (.iload_n 1, 1) := by decide +kernel
theorem d_Ta_fits_8 : decode b_Ta_fits 8 = .ok (.invokestatic 50, 3) := by decide +kernel
theorem d_Ta_fits_11 : decode b_Ta_fits 11 = .ok (.ifCond .eq 21, 3) := by decide +kernel
theorem d_Ta_fits_14 : decode b_Ta_fits 14 = .ok (.iload_n 2, 1) := by decide +kernel
theorem d_Ta_fits_15 : decode b_Ta_fits 15 = .ok (.invokestatic 50, 3) := by decide +kernel
theorem d_Ta_fits_18 : decode b_Ta_fits 18 = .ok (.ifCond .eq 14, 3) := by decide +kernel
theorem d_Ta_fits_21 : decode b_Ta_fits 21 = .ok (.aload_n 0, 1) := by decide +kernel
theorem d_Ta_fits_22 : decode b_Ta_fits 22 = .ok (.iload_n 1, 1) := by decide +kernel
theorem d_Ta_fits_23 : decode b_Ta_fits 23 = .ok (.iconst 4, 1) := by decide +kernel
theorem d_Ta_fits_24 : decode b_Ta_fits 24 = .ok (.isub, 1) := by decide +kernel
theorem d_Ta_fits_25 : decode b_Ta_fits 25 = .ok (.iload_n 2, 1) := by decide +kernel
theorem d_Ta_fits_26 : decode b_Ta_fits 26 = .ok (.iconst 4, 1) := by decide +kernel
theorem d_Ta_fits_27 : decode b_Ta_fits 27 = .ok (.isub, 1) := by decide +kernel
theorem d_Ta_fits_28 : decode b_Ta_fits 28 = .ok (.invokevirtual 79, 3) := by decide +kernel
theorem d_Ta_fits_31 : decode b_Ta_fits 31 = .ok (.ireturn, 1) := by decide +kernel
theorem d_Ta_fits_32 : decode b_Ta_fits 32 = .ok (.iload_n 1, 1) := by decide +kernel
theorem d_Ta_fits_33 : decode b_Ta_fits 33 = .ok (.bipush 17, 2) := by decide +kernel
theorem d_Ta_fits_35 : decode b_Ta_fits 35 = .ok (.if_icmp .ne 14, 3) := by decide +kernel
theorem d_Ta_fits_38 : decode b_Ta_fits 38 = .ok (.iload_n 2, 1) := by decide +kernel
theorem d_Ta_fits_39 : decode b_Ta_fits 39 = .ok (.invokestatic 61, 3) := by decide +kernel
theorem d_Ta_fits_42 : decode b_Ta_fits 42 = .ok (.ifCond .eq 7, 3) := by decide +kernel
theorem d_Ta_fits_45 : decode b_Ta_fits 45 = .ok (.iconst 1, 1) := by decide +kernel
theorem d_Ta_fits_46 : decode b_Ta_fits 46 = .ok (.goto 4, 3) := by decide +kernel
theorem d_Ta_fits_49 : decode b_Ta_fits 49 = .ok (.iconst 0, 1) := by decide +kernel
theorem d_Ta_fits_50 : decode b_Ta_fits 50 = .ok (.ireturn, 1) := by decide +kernel
theorem g_Ta_fits {X : WX} {d : Nat} (hd : 1 ≤ d) (a b : Int) (M : Mem) (hT : RT M) (hI : TI M) (ha : vK M a) (hb : vK M b) : MG X gt d KE KE y_Ta_fits b_Ta_fits 3 (some .boolean) [vr 4, vi a, vi b] M (fun r M' => r = some (vi (b2i (suitsB M a b))) ∧ M' = M) := by
  refine MG_of_G (by decide) (Nat.le_of_ble_eq_true rfl) (Nat.le_refl _) (by decide) ?_
  show G X gt d KE KE y_Ta_fits b_Ta_fits 3 (some .boolean) _ 0 [(0, vr 4), (1, vi a), (2, vi b)] [] KE M
  have hI0 := hI
  obtain ⟨hI1, hI2, hI3, hI4, hI5, hI6, hI7, hI8, hI9, hI10, hI11, hI12, hI13, hI14⟩ := hI
  have hva := vK_e ha; have hvb := vK_e hb
  refine G_rngl (i := 1) rfl (fun hr1 => ?_)
  refine G_rngl (i := 2) rfl (fun hr2 => ?_)
  refine G_iload (i := 1) (n := 1) (len := 1) (Or.inl ⟨1, rfl, rfl, d_Ta_fits_0⟩) rfl (G_pc (pc' := 1) rfl ?_)
  refine G_iload (i := 2) (n := 2) (len := 1) (Or.inl ⟨2, rfl, rfl, d_Ta_fits_1⟩) rfl (G_pc (pc' := 2) rfl ?_)
  refine G_icmp_ne (tgt := 7) d_Ta_fits_2 (by decide) (fun h1 => ?_) (fun h1 => G_pc (pc' := 5) rfl ?_)
  · skip
    refine G_iload (i := 1) (n := 1) (len := 1) (Or.inl ⟨1, rfl, rfl, d_Ta_fits_7⟩) rfl (G_pc (pc' := 8) rfl ?_)
    refine G_callS (K1 := KE) (d2 := 0) (as := [vi a]) (rest := []) d_Ta_fits_8 mf_Ki_isClass ml_Ta_50 rfl rfl (Nat.le_of_ble_eq_true rfl) (by omega) ⟨Nat.le_refl _, Nat.le_refl _⟩ (g_Ki_isClass (by omega) a _) (fun r2 M3 kq4 q4 => ?_)
    clear kq4; obtain ⟨q4a, q4b⟩ := q4; subst r2; subst M3
    refine G_ps (pc' := 11) (st' := [vi (b2i (clB a))]) rfl rfl ?_
    refine G_if_eq (tgt := 32) d_Ta_fits_11 (by decide) (fun h5 => ?_) (fun h5 => G_pc (pc' := 14) rfl ?_)
    · skip
      replace h5 := b2i_0.mp h5
      replace h5 := clB_f.mp h5
      refine G_iload (i := 1) (n := 1) (len := 1) (Or.inl ⟨1, rfl, rfl, d_Ta_fits_32⟩) rfl (G_pc (pc' := 33) rfl ?_)
      refine G_bipush (n := 17) d_Ta_fits_33 (by decide) (G_pc (pc' := 35) rfl ?_)
      refine G_icmp_ne (tgt := 49) d_Ta_fits_35 (by decide) (fun h6 => ?_) (fun h6 => G_pc (pc' := 38) rfl ?_)
      · skip
        refine G_iconst (n := 0) d_Ta_fits_49 (by decide) (G_pc (pc' := 50) rfl ?_)
        refine G_iret d_Ta_fits_50 rfl (tokZ (by decide)) rfl rfl ?_
        exact ret_f (suits_no (by omega) (by omega) (by omega)) rfl
      · skip
        refine G_iload (i := 2) (n := 2) (len := 1) (Or.inl ⟨2, rfl, rfl, d_Ta_fits_38⟩) rfl (G_pc (pc' := 39) rfl ?_)
        refine G_callS (K1 := KE) (d2 := 0) (as := [vi b]) (rest := []) d_Ta_fits_39 mf_Ki_isReference ml_Ta_61 rfl rfl (Nat.le_of_ble_eq_true rfl) (by omega) ⟨Nat.le_refl _, Nat.le_refl _⟩ (g_Ki_isReference (by omega) b _) (fun r7 M8 kq9 q9 => ?_)
        clear kq9; obtain ⟨q9a, q9b⟩ := q9; subst r7; subst M8
        refine G_ps (pc' := 42) (st' := [vi (b2i (reB b))]) rfl rfl ?_
        refine G_if_eq (tgt := 49) d_Ta_fits_42 (by decide) (fun h10 => ?_) (fun h10 => G_pc (pc' := 45) rfl ?_)
        · skip
          replace h10 := b2i_0.mp h10
          replace h10 := reB_f.mp h10
          refine G_iconst (n := 0) d_Ta_fits_49 (by decide) (G_pc (pc' := 50) rfl ?_)
          refine G_iret d_Ta_fits_50 rfl (tokZ (by decide)) rfl rfl ?_
          exact ret_f (suits_no (by omega) (by omega) (by omega)) rfl
        · skip
          replace h10 := b2i_nz.mp h10
          replace h10 := reB_t.mp h10
          refine G_iconst (n := 1) d_Ta_fits_45 (by decide) (G_pc (pc' := 46) rfl ?_)
          refine G_goto (tgt := 50) d_Ta_fits_46 (by decide) ?_
          refine G_iret d_Ta_fits_50 rfl (tokZ (by decide)) rfl rfl ?_
          first | exact ret_t (suits_eq (by omega)) rfl | exact ret_t (suits_nu (by omega) (by omega)) rfl
    · skip
      replace h5 := b2i_nz.mp h5
      replace h5 := clB_t.mp h5
      refine G_iload (i := 2) (n := 2) (len := 1) (Or.inl ⟨2, rfl, rfl, d_Ta_fits_14⟩) rfl (G_pc (pc' := 15) rfl ?_)
      refine G_callS (K1 := KE) (d2 := 0) (as := [vi b]) (rest := []) d_Ta_fits_15 mf_Ki_isClass ml_Ta_50 rfl rfl (Nat.le_of_ble_eq_true rfl) (by omega) ⟨Nat.le_refl _, Nat.le_refl _⟩ (g_Ki_isClass (by omega) b _) (fun r11 M12 kq13 q13 => ?_)
      clear kq13; obtain ⟨q13a, q13b⟩ := q13; subst r11; subst M12
      refine G_ps (pc' := 18) (st' := [vi (b2i (clB b))]) rfl rfl ?_
      refine G_if_eq (tgt := 32) d_Ta_fits_18 (by decide) (fun h14 => ?_) (fun h14 => G_pc (pc' := 21) rfl ?_)
      · skip
        replace h14 := b2i_0.mp h14
        replace h14 := clB_f.mp h14
        refine G_iload (i := 1) (n := 1) (len := 1) (Or.inl ⟨1, rfl, rfl, d_Ta_fits_32⟩) rfl (G_pc (pc' := 33) rfl ?_)
        refine G_bipush (n := 17) d_Ta_fits_33 (by decide) (G_pc (pc' := 35) rfl ?_)
        refine G_icmp_ne (tgt := 49) d_Ta_fits_35 (by decide) (fun h15 => ?_) (fun h15 => G_pc (pc' := 38) rfl ?_)
        · skip
          refine G_iconst (n := 0) d_Ta_fits_49 (by decide) (G_pc (pc' := 50) rfl ?_)
          refine G_iret d_Ta_fits_50 rfl (tokZ (by decide)) rfl rfl ?_
          exact ret_f (suits_no (by omega) (by omega) (by omega)) rfl
        · skip
          refine G_iload (i := 2) (n := 2) (len := 1) (Or.inl ⟨2, rfl, rfl, d_Ta_fits_38⟩) rfl (G_pc (pc' := 39) rfl ?_)
          refine G_callS (K1 := KE) (d2 := 0) (as := [vi b]) (rest := []) d_Ta_fits_39 mf_Ki_isReference ml_Ta_61 rfl rfl (Nat.le_of_ble_eq_true rfl) (by omega) ⟨Nat.le_refl _, Nat.le_refl _⟩ (g_Ki_isReference (by omega) b _) (fun r16 M17 kq18 q18 => ?_)
          clear kq18; obtain ⟨q18a, q18b⟩ := q18; subst r16; subst M17
          refine G_ps (pc' := 42) (st' := [vi (b2i (reB b))]) rfl rfl ?_
          refine G_if_eq (tgt := 49) d_Ta_fits_42 (by decide) (fun h19 => ?_) (fun h19 => G_pc (pc' := 45) rfl ?_)
          · skip
            replace h19 := b2i_0.mp h19
            replace h19 := reB_f.mp h19
            refine G_iconst (n := 0) d_Ta_fits_49 (by decide) (G_pc (pc' := 50) rfl ?_)
            refine G_iret d_Ta_fits_50 rfl (tokZ (by decide)) rfl rfl ?_
            exact ret_f (suits_no (by omega) (by omega) (by omega)) rfl
          · skip
            replace h19 := b2i_nz.mp h19
            replace h19 := reB_t.mp h19
            refine G_iconst (n := 1) d_Ta_fits_45 (by decide) (G_pc (pc' := 46) rfl ?_)
            refine G_goto (tgt := 50) d_Ta_fits_46 (by decide) ?_
            refine G_iret d_Ta_fits_50 rfl (tokZ (by decide)) rfl rfl ?_
            first | exact ret_t (suits_eq (by omega)) rfl | exact ret_t (suits_nu (by omega) (by omega)) rfl
      · skip
        replace h14 := b2i_nz.mp h14
        replace h14 := clB_t.mp h14
        refine G_aload (i := 0) (n := 0) (len := 1) (Or.inl ⟨0, rfl, rfl, d_Ta_fits_21⟩) rfl (by decide) (G_pc (pc' := 22) rfl ?_)
        refine G_iload (i := 1) (n := 1) (len := 1) (Or.inl ⟨1, rfl, rfl, d_Ta_fits_22⟩) rfl (G_pc (pc' := 23) rfl ?_)
        refine G_iconst (n := 4) d_Ta_fits_23 (by decide) (G_pc (pc' := 24) rfl ?_)
        refine G_isub d_Ta_fits_24 (by omega) (G_pc (pc' := 25) rfl ?_)
        refine G_iload (i := 2) (n := 2) (len := 1) (Or.inl ⟨2, rfl, rfl, d_Ta_fits_25⟩) rfl (G_pc (pc' := 26) rfl ?_)
        refine G_iconst (n := 4) d_Ta_fits_26 (by decide) (G_pc (pc' := 27) rfl ?_)
        refine G_isub d_Ta_fits_27 (by omega) (G_pc (pc' := 28) rfl ?_)
        refine G_callV (K1 := KE) (d2 := 0) (o := 4) (cl := 6) (as := [vi (a - 4), vi (b - 4)]) (rest := []) d_Ta_fits_28 mf_Ta_isA ml_Ta_79 rfl rfl (by decide) rfl rfl (Nat.le_of_ble_eq_true rfl) (by omega) ⟨Nat.le_refl _, Nat.le_refl _⟩ (g_Ta_isA (by omega) (a - 4) (b - 4) M hT hI0 (by omega) (by omega)) (fun r20 M21 kq22 q22 => ?_)
        clear kq22; obtain ⟨q22a, q22b⟩ := q22; subst r20; subst M21
        refine G_ps (pc' := 31) (st' := [vi (b2i (isAm M (a - 4) (b - 4)))]) rfl rfl ?_
        refine G_iret d_Ta_fits_31 rfl (tokZ (by have := b2i_in (isAm M (a - 4) (b - 4)); omega)) rfl rfl ?_
        exact ret_e (by rw [suits_cl (by omega) (by omega) (by omega)]) rfl
  · skip
    refine G_iconst (n := 1) d_Ta_fits_5 (by decide) (G_pc (pc' := 6) rfl ?_)
    refine G_iret d_Ta_fits_6 rfl (tokZ (by decide)) rfl rfl ?_
    first | exact ret_t (suits_eq (by omega)) rfl | exact ret_t (suits_nu (by omega) (by omega)) rfl

theorem d_Ta_areRelated_0 : decode b_Ta_areRelated 0 = .ok (.iload_n 1, 1) := by decide +kernel
theorem d_Ta_areRelated_1 : decode b_Ta_areRelated 1 = .ok (.invokestatic 61, 3) := by decide +kernel
theorem d_Ta_areRelated_4 : decode b_Ta_areRelated 4 = .ok (.ifCond .eq 32, 3) := by decide +kernel
theorem d_Ta_areRelated_7 : decode b_Ta_areRelated 7 = .ok (.iload_n 2, 1) := by decide +kernel
theorem d_Ta_areRelated_8 : decode b_Ta_areRelated 8 = .ok (.invokestatic 61, 3) := by decide +kernel
theorem d_Ta_areRelated_11 : decode b_Ta_areRelated 11 = .ok (.ifCond .eq 25, 3) := by decide +kernel
theorem d_Ta_areRelated_14 : decode b_Ta_areRelated 14 = .ok (.aload_n 0, 1) := by decide +kernel
theorem d_Ta_areRelated_15 : decode b_Ta_areRelated 15 = .ok (.iload_n 1, 1) := by decide +kernel
theorem d_Ta_areRelated_16 : decode b_Ta_areRelated 16 = .ok (.iload_n 2, 1) := by decide +kernel
theorem d_Ta_areRelated_17 : decode b_Ta_areRelated 17 = .ok (.invokevirtual 82, 3) := by decide +kernel
theorem d_Ta_areRelated_20 : decode b_Ta_areRelated 20 = .ok (.ifCond .ne 12, 3) := by decide +kernel
theorem d_Ta_areRelated_23 : decode b_Ta_areRelated 23 = .ok (.aload_n 0, 1) := by decide +kernel
theorem d_Ta_areRelated_24 : decode b_Ta_areRelated 24 = .ok (.iload_n 2, 1) := by decide +kernel
theorem d_Ta_areRelated_25 : decode b_Ta_areRelated 25 = .ok (.iload_n 1, 1) := by decide +kernel
theorem d_Ta_areRelated_26 : decode b_Ta_areRelated 26 = .ok (.invokevirtual 82, 3) := by decide +kernel
theorem d_Ta_areRelated_29 : decode b_Ta_areRelated 29 = .ok (.ifCond .eq 7, 3) := by decide +kernel
theorem d_Ta_areRelated_32 : decode b_Ta_areRelated 32 = .ok (.iconst 1, 1) := by decide +kernel
theorem d_Ta_areRelated_33 : decode b_Ta_areRelated 33 = .ok (.goto 4, 3) := by decide +kernel
theorem d_Ta_areRelated_36 : decode b_Ta_areRelated 36 = .ok (.iconst 0, 1) := by decide +kernel
theorem d_Ta_areRelated_37 : decode b_Ta_areRelated 37 = .ok (.ireturn, 1) := by decide +kernel
theorem g_Ta_areRelated {X : WX} {d : Nat} (hd : 2 ≤ d) (a b : Int) (M : Mem) (hT : RT M) (hI : TI M) (ha : vK M a) (hb : vK M b) : MG X gt d KE KE y_Ta_areRelated b_Ta_areRelated 3 (some .boolean) [vr 4, vi a, vi b] M (fun r M' => r = some (vi (b2i (relB M a b))) ∧ M' = M) := by
  refine MG_of_G (by decide) (Nat.le_of_ble_eq_true rfl) (Nat.le_refl _) (by decide) ?_
  show G X gt d KE KE y_Ta_areRelated b_Ta_areRelated 3 (some .boolean) _ 0 [(0, vr 4), (1, vi a), (2, vi b)] [] KE M
  have hI0 := hI
  obtain ⟨hI1, hI2, hI3, hI4, hI5, hI6, hI7, hI8, hI9, hI10, hI11, hI12, hI13, hI14⟩ := hI
  have hva := vK_e ha; have hvb := vK_e hb
  refine G_rngl (i := 1) rfl (fun hr1 => ?_)
  refine G_rngl (i := 2) rfl (fun hr2 => ?_)
  refine G_iload (i := 1) (n := 1) (len := 1) (Or.inl ⟨1, rfl, rfl, d_Ta_areRelated_0⟩) rfl (G_pc (pc' := 1) rfl ?_)
  refine G_callS (K1 := KE) (d2 := 0) (as := [vi a]) (rest := []) d_Ta_areRelated_1 mf_Ki_isReference ml_Ta_61 rfl rfl (Nat.le_of_ble_eq_true rfl) (by omega) ⟨Nat.le_refl _, Nat.le_refl _⟩ (g_Ki_isReference (by omega) a _) (fun r1 M2 kq3 q3 => ?_)
  clear kq3; obtain ⟨q3a, q3b⟩ := q3; subst r1; subst M2
  refine G_ps (pc' := 4) (st' := [vi (b2i (reB a))]) rfl rfl ?_
  refine G_if_eq (tgt := 36) d_Ta_areRelated_4 (by decide) (fun h4 => ?_) (fun h4 => G_pc (pc' := 7) rfl ?_)
  · skip
    replace h4 := b2i_0.mp h4
    replace h4 := reB_f.mp h4
    refine G_iconst (n := 0) d_Ta_areRelated_36 (by decide) (G_pc (pc' := 37) rfl ?_)
    refine G_iret d_Ta_areRelated_37 rfl (tokZ (by decide)) rfl rfl ?_
    exact ret_f (by rw [Bool.eq_false_iff]; intro h9; have h8 := rel_e.mp h9; first | (exfalso; omega) | (rcases h8.2 with h7 | h7 <;> simp_all)) rfl
  · skip
    replace h4 := b2i_nz.mp h4
    replace h4 := reB_t.mp h4
    refine G_iload (i := 2) (n := 2) (len := 1) (Or.inl ⟨2, rfl, rfl, d_Ta_areRelated_7⟩) rfl (G_pc (pc' := 8) rfl ?_)
    refine G_callS (K1 := KE) (d2 := 0) (as := [vi b]) (rest := []) d_Ta_areRelated_8 mf_Ki_isReference ml_Ta_61 rfl rfl (Nat.le_of_ble_eq_true rfl) (by omega) ⟨Nat.le_refl _, Nat.le_refl _⟩ (g_Ki_isReference (by omega) b _) (fun r5 M6 kq7 q7 => ?_)
    clear kq7; obtain ⟨q7a, q7b⟩ := q7; subst r5; subst M6
    refine G_ps (pc' := 11) (st' := [vi (b2i (reB b))]) rfl rfl ?_
    refine G_if_eq (tgt := 36) d_Ta_areRelated_11 (by decide) (fun h8 => ?_) (fun h8 => G_pc (pc' := 14) rfl ?_)
    · skip
      replace h8 := b2i_0.mp h8
      replace h8 := reB_f.mp h8
      refine G_iconst (n := 0) d_Ta_areRelated_36 (by decide) (G_pc (pc' := 37) rfl ?_)
      refine G_iret d_Ta_areRelated_37 rfl (tokZ (by decide)) rfl rfl ?_
      exact ret_f (by rw [Bool.eq_false_iff]; intro h9; have h8 := rel_e.mp h9; first | (exfalso; omega) | (rcases h8.2 with h7 | h7 <;> simp_all)) rfl
    · skip
      replace h8 := b2i_nz.mp h8
      replace h8 := reB_t.mp h8
      refine G_aload (i := 0) (n := 0) (len := 1) (Or.inl ⟨0, rfl, rfl, d_Ta_areRelated_14⟩) rfl (by decide) (G_pc (pc' := 15) rfl ?_)
      refine G_iload (i := 1) (n := 1) (len := 1) (Or.inl ⟨1, rfl, rfl, d_Ta_areRelated_15⟩) rfl (G_pc (pc' := 16) rfl ?_)
      refine G_iload (i := 2) (n := 2) (len := 1) (Or.inl ⟨2, rfl, rfl, d_Ta_areRelated_16⟩) rfl (G_pc (pc' := 17) rfl ?_)
      refine G_callV (K1 := KE) (d2 := 1) (o := 4) (cl := 6) (as := [vi a, vi b]) (rest := []) d_Ta_areRelated_17 mf_Ta_fits ml_Ta_82 rfl rfl (by decide) rfl rfl (Nat.le_of_ble_eq_true rfl) (by omega) ⟨Nat.le_refl _, Nat.le_refl _⟩ (g_Ta_fits (by omega) a b M hT hI0 (by assumption) (by assumption)) (fun r9 M10 kq11 q11 => ?_)
      clear kq11; obtain ⟨q11a, q11b⟩ := q11; subst r9; subst M10
      refine G_ps (pc' := 20) (st' := [vi (b2i (suitsB M a b))]) rfl rfl ?_
      refine G_if_ne (tgt := 32) d_Ta_areRelated_20 (by decide) (fun h12 => ?_) (fun h12 => G_pc (pc' := 23) rfl ?_)
      · skip
        replace h12 := b2i_nz.mp h12
        refine G_iconst (n := 1) d_Ta_areRelated_32 (by decide) (G_pc (pc' := 33) rfl ?_)
        refine G_goto (tgt := 37) d_Ta_areRelated_33 (by decide) ?_
        refine G_iret d_Ta_areRelated_37 rfl (tokZ (by decide)) rfl rfl ?_
        exact ret_t (rel_e.mpr ⟨by omega, by first | (left; assumption) | (right; assumption)⟩) rfl
      · skip
        replace h12 := b2i_0.mp h12
        refine G_aload (i := 0) (n := 0) (len := 1) (Or.inl ⟨0, rfl, rfl, d_Ta_areRelated_23⟩) rfl (by decide) (G_pc (pc' := 24) rfl ?_)
        refine G_iload (i := 2) (n := 2) (len := 1) (Or.inl ⟨2, rfl, rfl, d_Ta_areRelated_24⟩) rfl (G_pc (pc' := 25) rfl ?_)
        refine G_iload (i := 1) (n := 1) (len := 1) (Or.inl ⟨1, rfl, rfl, d_Ta_areRelated_25⟩) rfl (G_pc (pc' := 26) rfl ?_)
        refine G_callV (K1 := KE) (d2 := 1) (o := 4) (cl := 6) (as := [vi b, vi a]) (rest := []) d_Ta_areRelated_26 mf_Ta_fits ml_Ta_82 rfl rfl (by decide) rfl rfl (Nat.le_of_ble_eq_true rfl) (by omega) ⟨Nat.le_refl _, Nat.le_refl _⟩ (g_Ta_fits (by omega) b a M hT hI0 (by assumption) (by assumption)) (fun r13 M14 kq15 q15 => ?_)
        clear kq15; obtain ⟨q15a, q15b⟩ := q15; subst r13; subst M14
        refine G_ps (pc' := 29) (st' := [vi (b2i (suitsB M b a))]) rfl rfl ?_
        refine G_if_eq (tgt := 36) d_Ta_areRelated_29 (by decide) (fun h16 => ?_) (fun h16 => G_pc (pc' := 32) rfl ?_)
        · skip
          replace h16 := b2i_0.mp h16
          refine G_iconst (n := 0) d_Ta_areRelated_36 (by decide) (G_pc (pc' := 37) rfl ?_)
          refine G_iret d_Ta_areRelated_37 rfl (tokZ (by decide)) rfl rfl ?_
          exact ret_f (by rw [Bool.eq_false_iff]; intro h9; have h8 := rel_e.mp h9; first | (exfalso; omega) | (rcases h8.2 with h7 | h7 <;> simp_all)) rfl
        · skip
          replace h16 := b2i_nz.mp h16
          refine G_iconst (n := 1) d_Ta_areRelated_32 (by decide) (G_pc (pc' := 33) rfl ?_)
          refine G_goto (tgt := 37) d_Ta_areRelated_33 (by decide) ?_
          refine G_iret d_Ta_areRelated_37 rfl (tokZ (by decide)) rfl rfl ?_
          exact ret_t (rel_e.mpr ⟨by omega, by first | (left; assumption) | (right; assumption)⟩) rfl

def vkD (M : Mem) (n : Int) : Int := if 0 ≤ n ∧ n ≤ 26 then M 58 n else -1
def fkD (M : Mem) (k n : Int) : Int := if (4 ≤ k ∧ k ≤ 9) ∧ (0 ≤ n ∧ n < 26) then fieldM M (k - 4) n else -1
theorem fkD_rng {M : Mem} (hI : TI M) (k n : Int) : -1 ≤ fkD M k n ∧ fkD M k n < 17 := by
  unfold fkD
  split
  · exact fieldM_rng hI.2.2.2.2.1 hI.2.2.2.2.2.2.1 (by omega) (by omega)
  · omega
def pkD (M : Mem) (o p : Int) : Int := if 1 ≤ o ∧ o ≤ M 55 5 then (if M 60 o ≤ 9 then fkD M (M 60 o) p else if 0 ≤ p ∧ p < M 61 o then elemM (M 60 o) else -1) else -1
theorem d_Ta_kindOfVariable_0 : decode b_Ta_kindOfVariable 0 = .ok (.iload_n 1, 1) := by decide +kernel
theorem d_Ta_kindOfVariable_1 : decode b_Ta_kindOfVariable 1 = .ok (.ifCond .lt 18, 3) := by decide +kernel
theorem d_Ta_kindOfVariable_4 : decode b_Ta_kindOfVariable 4 = .ok (.iload_n 1, 1) := by decide +kernel
theorem d_Ta_kindOfVariable_5 : decode b_Ta_kindOfVariable 5 = .ok (.bipush 26, 2) := by decide +kernel
theorem d_Ta_kindOfVariable_7 : decode b_Ta_kindOfVariable 7 = .ok (.if_icmp .gt 12, 3) := by decide +kernel
theorem d_Ta_kindOfVariable_10 : decode b_Ta_kindOfVariable 10 = .ok (.aload_n 0, 1) := by decide +kernel
theorem d_Ta_kindOfVariable_11 : decode b_Ta_kindOfVariable 11 = .ok (.getfield 18, 3) := by decide +kernel
theorem d_Ta_kindOfVariable_14 : decode b_Ta_kindOfVariable 14 = .ok (.iload_n 1, 1) := by decide +kernel
theorem d_Ta_kindOfVariable_15 : decode b_Ta_kindOfVariable 15 = .ok (.iaload, 1) := by decide +kernel
theorem d_Ta_kindOfVariable_16 : decode b_Ta_kindOfVariable 16 = .ok (.goto 4, 3) := by decide +kernel
theorem d_Ta_kindOfVariable_19 : decode b_Ta_kindOfVariable 19 = .ok (.iconst (-1), 1) := by decide +kernel
theorem d_Ta_kindOfVariable_20 : decode b_Ta_kindOfVariable 20 = .ok (.ireturn, 1) := by decide +kernel
theorem g_Ta_kindOfVariable {X : WX} {d : Nat} (hd : 0 ≤ d) (n : Int) (M : Mem) (hT : RT M) (hI : TI M) : MG X gt d KE KE y_Ta_kindOfVariable b_Ta_kindOfVariable 2 (some .int) [vr 4, vi n] M (fun r M' => r = some (vi (vkD M n)) ∧ M' = M) := by
  refine MG_of_G (by decide) (Nat.le_of_ble_eq_true rfl) (Nat.le_refl _) (by decide) ?_
  show G X gt d KE KE y_Ta_kindOfVariable b_Ta_kindOfVariable 2 (some .int) _ 0 [(0, vr 4), (1, vi n)] [] KE M
  have hI0 := hI
  obtain ⟨hI1, hI2, hI3, hI4, hI5, hI6, hI7, hI8, hI9, hI10, hI11, hI12, hI13, hI14⟩ := hI
  refine G_rngl (i := 1) rfl (fun hr1 => ?_)
  refine G_iload (i := 1) (n := 1) (len := 1) (Or.inl ⟨1, rfl, rfl, d_Ta_kindOfVariable_0⟩) rfl (G_pc (pc' := 1) rfl ?_)
  refine G_if_lt (tgt := 19) d_Ta_kindOfVariable_1 (by decide) (fun h1 => ?_) (fun h1 => G_pc (pc' := 4) rfl ?_)
  · skip
    refine G_iconst (n := (-1)) d_Ta_kindOfVariable_19 (by decide) (G_pc (pc' := 20) rfl ?_)
    refine G_iret d_Ta_kindOfVariable_20 rfl (tokI (by decide)) rfl rfl ?_
    exact ret_e (by unfold vkD; first | (rw [if_pos (by omega)]) | (rw [if_neg (by omega)])) rfl
  · skip
    refine G_iload (i := 1) (n := 1) (len := 1) (Or.inl ⟨1, rfl, rfl, d_Ta_kindOfVariable_4⟩) rfl (G_pc (pc' := 5) rfl ?_)
    refine G_bipush (n := 26) d_Ta_kindOfVariable_5 (by decide) (G_pc (pc' := 7) rfl ?_)
    refine G_icmp_gt (tgt := 19) d_Ta_kindOfVariable_7 (by decide) (fun h2 => ?_) (fun h2 => G_pc (pc' := 10) rfl ?_)
    · skip
      refine G_iconst (n := (-1)) d_Ta_kindOfVariable_19 (by decide) (G_pc (pc' := 20) rfl ?_)
      refine G_iret d_Ta_kindOfVariable_20 rfl (tokI (by decide)) rfl rfl ?_
      exact ret_e (by unfold vkD; first | (rw [if_pos (by omega)]) | (rw [if_neg (by omega)])) rfl
    · skip
      refine G_aload (i := 0) (n := 0) (len := 1) (Or.inl ⟨0, rfl, rfl, d_Ta_kindOfVariable_10⟩) rfl (by decide) (G_pc (pc' := 11) rfl ?_)
      refine G_get (o := 4) (c := 6) (k := 2) (v := 7) d_Ta_kindOfVariable_11 fl_Ta_18 rfl (by decide) (by decide) rfl rfl (G_pc (pc' := 14) rfl ?_)
      refine G_iload (i := 1) (n := 1) (len := 1) (Or.inl ⟨1, rfl, rfl, d_Ta_kindOfVariable_14⟩) rfl (G_pc (pc' := 15) rfl ?_)
      refine G_iaload (o := 7) (n := 27) (i := n) (v := M 7 n) d_Ta_kindOfVariable_15 rfl ⟨by decide, by decide⟩ (by omega) (rd_arr rfl) (fun t3 => G_pc (pc' := 16) rfl ?_)
      have t3 := tok_i t3
      rw [show M 7 n = M 58 n from hT.2.2.1 _ (by omega) (by omega)]
      refine G_goto (tgt := 20) d_Ta_kindOfVariable_16 (by decide) ?_
      refine G_iret d_Ta_kindOfVariable_20 rfl (tokI (by have := hI8 n (by omega) (by omega); omega)) rfl rfl ?_
      exact ret_e (by unfold vkD; first | (rw [if_pos (by omega)]) | (rw [if_neg (by omega)])) rfl

theorem d_Ta_kindOfField_0 : decode b_Ta_kindOfField 0 = .ok (.iload_n 1, 1) := by decide +kernel
theorem d_Ta_kindOfField_1 : decode b_Ta_kindOfField 1 = .ok (.invokestatic 50, 3) := by decide +kernel
theorem d_Ta_kindOfField_4 : decode b_Ta_kindOfField 4 = .ok (.ifCond .eq 13, 3) := by decide +kernel
theorem d_Ta_kindOfField_7 : decode b_Ta_kindOfField 7 = .ok (.iload_n 2, 1) := by decide +kernel
theorem d_Ta_kindOfField_8 : decode b_Ta_kindOfField 8 = .ok (.ifCond .lt 9, 3) := by decide +kernel
theorem d_Ta_kindOfField_11 : decode b_Ta_kindOfField 11 = .ok (.iload_n 2, 1) := by decide +kernel
theorem d_Ta_kindOfField_12 : decode b_Ta_kindOfField 12 = .ok (.bipush 26, 2) := by decide +kernel
theorem d_Ta_kindOfField_14 : decode b_Ta_kindOfField 14 = .ok (.if_icmp .lt 5, 3) := by decide +kernel
theorem d_Ta_kindOfField_17 : decode b_Ta_kindOfField 17 = .ok (.iconst (-1), 1) := by decide +kernel
theorem d_Ta_kindOfField_18 : decode b_Ta_kindOfField 18 = .ok (.ireturn, 1) := by decide +kernel
theorem d_Ta_kindOfField_19 : decode b_Ta_kindOfField 19 = .ok (.iload_n 1, 1) := by decide +kernel
theorem d_Ta_kindOfField_20 : decode b_Ta_kindOfField 20 = .ok (.iconst 4, 1) := by decide +kernel
theorem d_Ta_kindOfField_21 : decode b_Ta_kindOfField 21 = .ok (.isub, 1) := by decide +kernel
theorem d_Ta_kindOfField_22 : decode b_Ta_kindOfField 22 = .ok (.istore_n 3, 1) := by decide +kernel
theorem d_Ta_kindOfField_23 : decode b_Ta_kindOfField 23 = .ok (.iconst 0, 1) := by decide +kernel
theorem d_Ta_kindOfField_24 : decode b_Ta_kindOfField 24 = .ok (.istore 4, 2) := by decide +kernel
theorem d_Ta_kindOfField_26 : decode b_Ta_kindOfField 26 = .ok (.iload 4, 2) := by decide +kernel
theorem d_Ta_kindOfField_28 : decode b_Ta_kindOfField 28 = .ok (.bipush 6, 2) := by decide +kernel
theorem d_Ta_kindOfField_30 : decode b_Ta_kindOfField 30 = .ok (.if_icmp .ge 47, 3) := by decide +kernel
theorem d_Ta_kindOfField_33 : decode b_Ta_kindOfField 33 = .ok (.iload_n 3, 1) := by decide +kernel
theorem d_Ta_kindOfField_34 : decode b_Ta_kindOfField 34 = .ok (.ifCond .lt 43, 3) := by decide +kernel
theorem d_Ta_kindOfField_37 : decode b_Ta_kindOfField 37 = .ok (.aload_n 0, 1) := by decide +kernel
theorem d_Ta_kindOfField_38 : decode b_Ta_kindOfField 38 = .ok (.getfield 15, 3) := by decide +kernel
theorem d_Ta_kindOfField_41 : decode b_Ta_kindOfField 41 = .ok (.iload_n 3, 1) := by decide +kernel
theorem d_Ta_kindOfField_42 : decode b_Ta_kindOfField 42 = .ok (.bipush 26, 2) := by decide +kernel
theorem d_Ta_kindOfField_44 : decode b_Ta_kindOfField 44 = .ok (.imul, 1) := by decide +kernel
theorem d_Ta_kindOfField_45 : decode b_Ta_kindOfField 45 = .ok (.iload_n 2, 1) := by decide +kernel
theorem d_Ta_kindOfField_46 : decode b_Ta_kindOfField 46 = .ok (.iadd, 1) := by decide +kernel
theorem d_Ta_kindOfField_47 : decode b_Ta_kindOfField 47 = .ok (.iaload, 1) := by decide +kernel
theorem d_Ta_kindOfField_48 : decode b_Ta_kindOfField 48 = .ok (.iconst (-1), 1) := by decide +kernel
theorem d_Ta_kindOfField_49 : decode b_Ta_kindOfField 49 = .ok (.if_icmp .eq 15, 3) := by decide +kernel
theorem d_Ta_kindOfField_52 : decode b_Ta_kindOfField 52 = .ok (.aload_n 0, 1) := by decide +kernel
theorem d_Ta_kindOfField_53 : decode b_Ta_kindOfField 53 = .ok (.getfield 15, 3) := by decide +kernel
theorem d_Ta_kindOfField_56 : decode b_Ta_kindOfField 56 = .ok (.iload_n 3, 1) := by decide +kernel
theorem d_Ta_kindOfField_57 : decode b_Ta_kindOfField 57 = .ok (.bipush 26, 2) := by decide +kernel
theorem d_Ta_kindOfField_59 : decode b_Ta_kindOfField 59 = .ok (.imul, 1) := by decide +kernel
theorem d_Ta_kindOfField_60 : decode b_Ta_kindOfField 60 = .ok (.iload_n 2, 1) := by decide +kernel
theorem d_Ta_kindOfField_61 : decode b_Ta_kindOfField 61 = .ok (.iadd, 1) := by decide +kernel
theorem d_Ta_kindOfField_62 : decode b_Ta_kindOfField 62 = .ok (.iaload, 1) := by decide +kernel
theorem d_Ta_kindOfField_63 : decode b_Ta_kindOfField 63 = .ok (.ireturn, 1) := by decide +kernel
theorem d_Ta_kindOfField_64 : decode b_Ta_kindOfField 64 = .ok (.aload_n 0, 1) := by decide +kernel
theorem d_Ta_kindOfField_65 : decode b_Ta_kindOfField 65 = .ok (.getfield 9, 3) := by decide +kernel
theorem d_Ta_kindOfField_68 : decode b_Ta_kindOfField 68 = .ok (.iload_n 3, 1) := by decide +kernel
theorem d_Ta_kindOfField_69 : decode b_Ta_kindOfField 69 = .ok (.iaload, 1) := by decide +kernel
theorem d_Ta_kindOfField_70 : decode b_Ta_kindOfField 70 = .ok (.istore_n 3, 1) := by decide +kernel
theorem d_Ta_kindOfField_71 : decode b_Ta_kindOfField 71 = .ok (.iinc 4 1, 3) := by decide +kernel
theorem d_Ta_kindOfField_74 : decode b_Ta_kindOfField 74 = .ok (.goto (-48), 3) := by decide +kernel
theorem d_Ta_kindOfField_77 : decode b_Ta_kindOfField 77 = .ok (.iconst (-1), 1) := by decide +kernel
theorem d_Ta_kindOfField_78 : decode b_Ta_kindOfField 78 = .ok (.ireturn, 1) := by decide +kernel
theorem g_Ta_kindOfField {X : WX} {d : Nat} (hd : 1 ≤ d) (k n : Int) (M : Mem) (hT : RT M) (hI : TI M) : MG X gt d KE KE y_Ta_kindOfField b_Ta_kindOfField 5 (some .int) [vr 4, vi k, vi n] M (fun r M' => r = some (vi (fkD M k n)) ∧ M' = M) := by
  refine MG_of_G (by decide) (Nat.le_of_ble_eq_true rfl) (Nat.le_refl _) (by decide) ?_
  show G X gt d KE KE y_Ta_kindOfField b_Ta_kindOfField 5 (some .int) _ 0 [(0, vr 4), (1, vi k), (2, vi n)] [] KE M
  have hI0 := hI
  obtain ⟨hI1, hI2, hI3, hI4, hI5, hI6, hI7, hI8, hI9, hI10, hI11, hI12, hI13, hI14⟩ := hI
  refine G_rngl (i := 1) rfl (fun hr1 => ?_)
  refine G_rngl (i := 2) rfl (fun hr2 => ?_)
  have loop : ∀ (g : Nat) (j c : Int), j + g = 6 → 0 ≤ j → (-1 ≤ c ∧ c < 6) → (0 ≤ n ∧ n < 26) → foF (fun q => M 56 q) (fun q => M 57 q) n g c = fkD M k n → G X gt d KE KE y_Ta_kindOfField b_Ta_kindOfField 5 (some .int) (fun r M' => r = some (vi (fkD M k n)) ∧ M' = M) 26 [(4, vi j), (3, vi c), (0, vr 4), (1, vi k), (2, vi n)] [] KE M := by
    intro g
    induction g with
    | zero =>
      intro j c h1 h2 h3 hn h4
      refine G_iload (i := 4) (n := 0) (len := 2) (Or.inr ⟨rfl, d_Ta_kindOfField_26⟩) rfl (G_pc (pc' := 28) rfl ?_)
      refine G_bipush (n := 6) d_Ta_kindOfField_28 (by decide) (G_pc (pc' := 30) rfl ?_)
      refine G_icmp_ge (tgt := 77) d_Ta_kindOfField_30 (by decide) (fun h901 => ?_) (fun h901 => absurd h901 (by omega))
      refine G_iconst (n := (-1)) d_Ta_kindOfField_77 (by decide) (G_pc (pc' := 78) rfl ?_)
      refine G_iret d_Ta_kindOfField_78 rfl (tokI (by decide)) rfl rfl ?_
      first | exact ret_e (by unfold fkD; rw [if_neg (by omega)]) rfl | exact ret_e (h4.symm.trans (foF_neg (by omega))).symm rfl | exact ret_e h4 rfl
    | succ g ih =>
      intro j c h1 h2 h3 hn h4
      refine G_iload (i := 4) (n := 0) (len := 2) (Or.inr ⟨rfl, d_Ta_kindOfField_26⟩) rfl (G_pc (pc' := 28) rfl ?_)
      refine G_bipush (n := 6) d_Ta_kindOfField_28 (by decide) (G_pc (pc' := 30) rfl ?_)
      refine G_icmp_ge (tgt := 77) d_Ta_kindOfField_30 (by decide) (fun h1001 => absurd h1001 (by omega)) (fun h1001 => G_pc (pc' := 33) rfl ?_)
      refine G_iload (i := 3) (n := 1) (len := 1) (Or.inl ⟨3, rfl, rfl, d_Ta_kindOfField_33⟩) rfl (G_pc (pc' := 34) rfl ?_)
      refine G_if_lt (tgt := 77) d_Ta_kindOfField_34 (by decide) (fun h1002 => ?_) (fun h1002 => G_pc (pc' := 37) rfl ?_)
      · skip
        refine G_iconst (n := (-1)) d_Ta_kindOfField_77 (by decide) (G_pc (pc' := 78) rfl ?_)
        refine G_iret d_Ta_kindOfField_78 rfl (tokI (by decide)) rfl rfl ?_
        first | exact ret_e (by unfold fkD; rw [if_neg (by omega)]) rfl | exact ret_e (h4.symm.trans (foF_neg (by omega))).symm rfl | exact ret_e h4 rfl
      · skip
        refine G_aload (i := 0) (n := 2) (len := 1) (Or.inl ⟨0, rfl, rfl, d_Ta_kindOfField_37⟩) rfl (by decide) (G_pc (pc' := 38) rfl ?_)
        refine G_get (o := 4) (c := 6) (k := 1) (v := 6) d_Ta_kindOfField_38 fl_Ta_15 rfl (by decide) (by decide) rfl rfl (G_pc (pc' := 41) rfl ?_)
        refine G_iload (i := 3) (n := 1) (len := 1) (Or.inl ⟨3, rfl, rfl, d_Ta_kindOfField_41⟩) rfl (G_pc (pc' := 42) rfl ?_)
        refine G_bipush (n := 26) d_Ta_kindOfField_42 (by decide) (G_pc (pc' := 44) rfl ?_)
        refine G_imul d_Ta_kindOfField_44 (by omega) (G_pc (pc' := 45) rfl ?_)
        refine G_iload (i := 2) (n := 4) (len := 1) (Or.inl ⟨2, rfl, rfl, d_Ta_kindOfField_45⟩) rfl (G_pc (pc' := 46) rfl ?_)
        refine G_iadd d_Ta_kindOfField_46 (by omega) (G_pc (pc' := 47) rfl ?_)
        have hd7 := hI7 (26 * c + n) (by omega) (by omega)
        refine G_iaload (o := 6) (n := 156) (i := (c * 26) + n) (v := M 6 ((c * 26) + n)) d_Ta_kindOfField_47 rfl ⟨by decide, by decide⟩ (by omega) (rd_arr rfl) (fun t1003 => G_pc (pc' := 48) rfl ?_)
        have t1003 := tok_i t1003
        rw [show M 6 ((c * 26) + n) = M 57 (26 * c + n) from by rw [show (c * 26) + n = 26 * c + n by omega]; exact hT.2.1 _ (by omega) (by omega)]
        refine G_iconst (n := (-1)) d_Ta_kindOfField_48 (by decide) (G_pc (pc' := 49) rfl ?_)
        refine G_icmp_eq (tgt := 64) d_Ta_kindOfField_49 (by decide) (fun h1004 => ?_) (fun h1004 => G_pc (pc' := 52) rfl ?_)
        · skip
          refine G_aload (i := 0) (n := 2) (len := 1) (Or.inl ⟨0, rfl, rfl, d_Ta_kindOfField_64⟩) rfl (by decide) (G_pc (pc' := 65) rfl ?_)
          refine G_get (o := 4) (c := 6) (k := 0) (v := 5) d_Ta_kindOfField_65 fl_Ta_9 rfl (by decide) (by decide) rfl rfl (G_pc (pc' := 68) rfl ?_)
          refine G_iload (i := 3) (n := 1) (len := 1) (Or.inl ⟨3, rfl, rfl, d_Ta_kindOfField_68⟩) rfl (G_pc (pc' := 69) rfl ?_)
          refine G_iaload (o := 5) (n := 6) (i := c) (v := M 5 c) d_Ta_kindOfField_69 rfl ⟨by decide, by decide⟩ (by omega) (rd_arr rfl) (fun t1005 => G_pc (pc' := 70) rfl ?_)
          have t1005 := tok_i t1005
          rw [show M 5 c = M 56 c from hT.1 _ (by omega) (by omega)]
          refine G_istore (i := 3) (len := 1) (ls' := [(3, vi (M 56 c)), (4, vi j), (0, vr 4), (1, vi k), (2, vi n)]) (Or.inl ⟨3, rfl, rfl, d_Ta_kindOfField_70⟩) (by decide) rfl (G_pc (pc' := 71) rfl ?_)
          refine G_iinc (i := 4) (n := 1) (z := 1) (ls' := [(4, vi (j + 1)), (3, vi (M 56 c)), (0, vr 4), (1, vi k), (2, vi n)]) d_Ta_kindOfField_71 rfl (by decide) (by omega) rfl (G_pc (pc' := 74) rfl ?_)
          refine G_goto (tgt := 26) d_Ta_kindOfField_74 (by decide) ?_
          have hd5 := hI5 c (by omega) (by omega)
          have hd7 := hI7 (26 * c + n) (by omega) (by omega)
          exact ih (j + 1) (M 56 c) (by omega) (by omega) (by omega) hn (h4 ▸ (foF_s (by omega) (by omega)).symm)
        · skip
          refine G_aload (i := 0) (n := 2) (len := 1) (Or.inl ⟨0, rfl, rfl, d_Ta_kindOfField_52⟩) rfl (by decide) (G_pc (pc' := 53) rfl ?_)
          refine G_get (o := 4) (c := 6) (k := 1) (v := 6) d_Ta_kindOfField_53 fl_Ta_15 rfl (by decide) (by decide) rfl rfl (G_pc (pc' := 56) rfl ?_)
          refine G_iload (i := 3) (n := 1) (len := 1) (Or.inl ⟨3, rfl, rfl, d_Ta_kindOfField_56⟩) rfl (G_pc (pc' := 57) rfl ?_)
          refine G_bipush (n := 26) d_Ta_kindOfField_57 (by decide) (G_pc (pc' := 59) rfl ?_)
          refine G_imul d_Ta_kindOfField_59 (by omega) (G_pc (pc' := 60) rfl ?_)
          refine G_iload (i := 2) (n := 4) (len := 1) (Or.inl ⟨2, rfl, rfl, d_Ta_kindOfField_60⟩) rfl (G_pc (pc' := 61) rfl ?_)
          refine G_iadd d_Ta_kindOfField_61 (by omega) (G_pc (pc' := 62) rfl ?_)
          refine G_iaload (o := 6) (n := 156) (i := (c * 26) + n) (v := M 6 ((c * 26) + n)) d_Ta_kindOfField_62 rfl ⟨by decide, by decide⟩ (by omega) (rd_arr rfl) (fun t1006 => G_pc (pc' := 63) rfl ?_)
          have t1006 := tok_i t1006
          rw [show M 6 ((c * 26) + n) = M 57 (26 * c + n) from by rw [show (c * 26) + n = 26 * c + n by omega]; exact hT.2.1 _ (by omega) (by omega)]
          refine G_iret d_Ta_kindOfField_63 rfl (tokI (by omega)) rfl rfl ?_
          exact ret_e ((foF_hit (by omega) (by omega)).symm.trans h4) rfl
  refine G_iload (i := 1) (n := 1) (len := 1) (Or.inl ⟨1, rfl, rfl, d_Ta_kindOfField_0⟩) rfl (G_pc (pc' := 1) rfl ?_)
  refine G_callS (K1 := KE) (d2 := 0) (as := [vi k]) (rest := []) d_Ta_kindOfField_1 mf_Ki_isClass ml_Ta_50 rfl rfl (Nat.le_of_ble_eq_true rfl) (by omega) ⟨Nat.le_refl _, Nat.le_refl _⟩ (g_Ki_isClass (by omega) k _) (fun r1 M2 kq3 q3 => ?_)
  clear kq3; obtain ⟨q3a, q3b⟩ := q3; subst r1; subst M2
  refine G_ps (pc' := 4) (st' := [vi (b2i (clB k))]) rfl rfl ?_
  refine G_if_eq (tgt := 17) d_Ta_kindOfField_4 (by decide) (fun h4 => ?_) (fun h4 => G_pc (pc' := 7) rfl ?_)
  · skip
    replace h4 := b2i_0.mp h4
    replace h4 := clB_f.mp h4
    refine G_iconst (n := (-1)) d_Ta_kindOfField_17 (by decide) (G_pc (pc' := 18) rfl ?_)
    refine G_iret d_Ta_kindOfField_18 rfl (tokI (by decide)) rfl rfl ?_
    first | exact ret_e (by unfold fkD; rw [if_neg (by omega)]) rfl | exact ret_e (h4.symm.trans (foF_neg (by omega))).symm rfl | exact ret_e h4 rfl
  · skip
    replace h4 := b2i_nz.mp h4
    replace h4 := clB_t.mp h4
    refine G_iload (i := 2) (n := 2) (len := 1) (Or.inl ⟨2, rfl, rfl, d_Ta_kindOfField_7⟩) rfl (G_pc (pc' := 8) rfl ?_)
    refine G_if_lt (tgt := 17) d_Ta_kindOfField_8 (by decide) (fun h5 => ?_) (fun h5 => G_pc (pc' := 11) rfl ?_)
    · skip
      refine G_iconst (n := (-1)) d_Ta_kindOfField_17 (by decide) (G_pc (pc' := 18) rfl ?_)
      refine G_iret d_Ta_kindOfField_18 rfl (tokI (by decide)) rfl rfl ?_
      first | exact ret_e (by unfold fkD; rw [if_neg (by omega)]) rfl | exact ret_e (h4.symm.trans (foF_neg (by omega))).symm rfl | exact ret_e h4 rfl
    · skip
      refine G_iload (i := 2) (n := 2) (len := 1) (Or.inl ⟨2, rfl, rfl, d_Ta_kindOfField_11⟩) rfl (G_pc (pc' := 12) rfl ?_)
      refine G_bipush (n := 26) d_Ta_kindOfField_12 (by decide) (G_pc (pc' := 14) rfl ?_)
      refine G_icmp_lt (tgt := 19) d_Ta_kindOfField_14 (by decide) (fun h6 => ?_) (fun h6 => G_pc (pc' := 17) rfl ?_)
      · skip
        refine G_iload (i := 1) (n := 1) (len := 1) (Or.inl ⟨1, rfl, rfl, d_Ta_kindOfField_19⟩) rfl (G_pc (pc' := 20) rfl ?_)
        refine G_iconst (n := 4) d_Ta_kindOfField_20 (by decide) (G_pc (pc' := 21) rfl ?_)
        refine G_isub d_Ta_kindOfField_21 (by omega) (G_pc (pc' := 22) rfl ?_)
        refine G_istore (i := 3) (len := 1) (ls' := [(3, vi (k - 4)), (0, vr 4), (1, vi k), (2, vi n)]) (Or.inl ⟨3, rfl, rfl, d_Ta_kindOfField_22⟩) (by decide) rfl (G_pc (pc' := 23) rfl ?_)
        refine G_iconst (n := 0) d_Ta_kindOfField_23 (by decide) (G_pc (pc' := 24) rfl ?_)
        refine G_istore (i := 4) (len := 2) (ls' := [(4, vi 0), (3, vi (k - 4)), (0, vr 4), (1, vi k), (2, vi n)]) (Or.inr ⟨rfl, d_Ta_kindOfField_24⟩) (by decide) rfl (G_pc (pc' := 26) rfl ?_)
        exact loop 6 0 (k - 4) (by omega) (by omega) (by omega) (by omega) (by unfold fkD; rw [if_pos (by omega)]; rfl)
      · skip
        refine G_iconst (n := (-1)) d_Ta_kindOfField_17 (by decide) (G_pc (pc' := 18) rfl ?_)
        refine G_iret d_Ta_kindOfField_18 rfl (tokI (by decide)) rfl rfl ?_
        first | exact ret_e (by unfold fkD; rw [if_neg (by omega)]) rfl | exact ret_e (h4.symm.trans (foF_neg (by omega))).symm rfl | exact ret_e h4 rfl

theorem elD_e {a : Int} : elD a = elemM a := by unfold elD elemM; split <;> omega
theorem d_Ta_kindOfPart_0 : decode b_Ta_kindOfPart 0 = .ok (.iload_n 1, 1) := by decide +kernel
theorem d_Ta_kindOfPart_1 : decode b_Ta_kindOfPart 1 = .ok (.iconst 1, 1) := by decide +kernel
theorem d_Ta_kindOfPart_2 : decode b_Ta_kindOfPart 2 = .ok (.if_icmp .lt 11, 3) := by decide +kernel
theorem d_Ta_kindOfPart_5 : decode b_Ta_kindOfPart 5 = .ok (.iload_n 1, 1) := by decide +kernel
theorem d_Ta_kindOfPart_6 : decode b_Ta_kindOfPart 6 = .ok (.aload_n 0, 1) := by decide +kernel
theorem d_Ta_kindOfPart_7 : decode b_Ta_kindOfPart 7 = .ok (.getfield 58, 3) := by decide +kernel
theorem d_Ta_kindOfPart_10 : decode b_Ta_kindOfPart 10 = .ok (.if_icmp .le 5, 3) := by decide +kernel
theorem d_Ta_kindOfPart_13 : decode b_Ta_kindOfPart 13 = .ok (.iconst (-1), 1) := by decide +kernel
theorem d_Ta_kindOfPart_14 : decode b_Ta_kindOfPart 14 = .ok (.ireturn, 1) := by decide +kernel
theorem d_Ta_kindOfPart_15 : decode b_Ta_kindOfPart 15 = .ok (.aload_n 0, 1) := by decide +kernel
theorem d_Ta_kindOfPart_16 : decode b_Ta_kindOfPart 16 = .ok (.iload_n 1, 1) := by decide +kernel
theorem d_Ta_kindOfPart_17 : decode b_Ta_kindOfPart 17 = .ok (.invokevirtual 85, 3) := by decide +kernel
theorem d_Ta_kindOfPart_20 : decode b_Ta_kindOfPart 20 = .ok (.istore_n 3, 1) := by decide +kernel
theorem d_Ta_kindOfPart_21 : decode b_Ta_kindOfPart 21 = .ok (.iload_n 3, 1) := by decide +kernel
theorem d_Ta_kindOfPart_22 : decode b_Ta_kindOfPart 22 = .ok (.invokestatic 50, 3) := by decide +kernel
theorem d_Ta_kindOfPart_25 : decode b_Ta_kindOfPart 25 = .ok (.ifCond .eq 10, 3) := by decide +kernel
theorem d_Ta_kindOfPart_28 : decode b_Ta_kindOfPart 28 = .ok (.aload_n 0, 1) := by decide +kernel
theorem d_Ta_kindOfPart_29 : decode b_Ta_kindOfPart 29 = .ok (.iload_n 3, 1) := by decide +kernel
theorem d_Ta_kindOfPart_30 : decode b_Ta_kindOfPart 30 = .ok (.iload_n 2, 1) := by decide +kernel
theorem d_Ta_kindOfPart_31 : decode b_Ta_kindOfPart 31 = .ok (.invokevirtual 88, 3) := by decide +kernel
theorem d_Ta_kindOfPart_34 : decode b_Ta_kindOfPart 34 = .ok (.ireturn, 1) := by decide +kernel
theorem d_Ta_kindOfPart_35 : decode b_Ta_kindOfPart 35 = .ok (.iload_n 2, 1) := by decide +kernel
theorem d_Ta_kindOfPart_36 : decode b_Ta_kindOfPart 36 = .ok (.ifCond .lt 24, 3) := by decide +kernel
theorem d_Ta_kindOfPart_39 : decode b_Ta_kindOfPart 39 = .ok (.iload_n 2, 1) := by decide +kernel
theorem d_Ta_kindOfPart_40 : decode b_Ta_kindOfPart 40 = .ok (.i2l, 1) := by decide +kernel
theorem d_Ta_kindOfPart_41 : decode b_Ta_kindOfPart 41 = .ok (.aload_n 0, 1) := by decide +kernel
theorem d_Ta_kindOfPart_42 : decode b_Ta_kindOfPart 42 = .ok (.getfield 21, 3) := by decide +kernel
theorem d_Ta_kindOfPart_45 : decode b_Ta_kindOfPart 45 = .ok (.iload_n 1, 1) := by decide +kernel
theorem d_Ta_kindOfPart_46 : decode b_Ta_kindOfPart 46 = .ok (.bipush 26, 2) := by decide +kernel
theorem d_Ta_kindOfPart_48 : decode b_Ta_kindOfPart 48 = .ok (.invokestatic 64, 3) := by decide +kernel
theorem d_Ta_kindOfPart_51 : decode b_Ta_kindOfPart 51 = .ok (.laload, 1) := by decide +kernel
theorem d_Ta_kindOfPart_52 : decode b_Ta_kindOfPart 52 = .ok (.lcmp, 1) := by decide +kernel
theorem d_Ta_kindOfPart_53 : decode b_Ta_kindOfPart 53 = .ok (.ifCond .ge 7, 3) := by decide +kernel
theorem d_Ta_kindOfPart_56 : decode b_Ta_kindOfPart 56 = .ok (.iconst 1, 1) := by decide +kernel
theorem d_Ta_kindOfPart_57 : decode b_Ta_kindOfPart 57 = .ok (.goto 4, 3) := by decide +kernel
theorem d_Ta_kindOfPart_60 : decode b_Ta_kindOfPart 60 = .ok (.iconst 0, 1) := by decide +kernel
theorem d_Ta_kindOfPart_61 : decode b_Ta_kindOfPart 61 = .ok (.istore 4, 2) := by decide +kernel
theorem d_Ta_kindOfPart_63 : decode b_Ta_kindOfPart 63 = .ok (.iload 4, 2) := by decide +kernel
theorem d_Ta_kindOfPart_65 : decode b_Ta_kindOfPart 65 = .ok (.ifCond .eq 10, 3) := by decide +kernel
theorem d_Ta_kindOfPart_68 : decode b_Ta_kindOfPart 68 = .ok (.iload_n 3, 1) := by decide +kernel
theorem d_Ta_kindOfPart_69 : decode b_Ta_kindOfPart 69 = .ok (.invokestatic 91, 3) := by decide +kernel
theorem d_Ta_kindOfPart_72 : decode b_Ta_kindOfPart 72 = .ok (.goto 4, 3) := by decide +kernel
theorem d_Ta_kindOfPart_75 : decode b_Ta_kindOfPart 75 = .ok (.iconst (-1), 1) := by decide +kernel
theorem d_Ta_kindOfPart_76 : decode b_Ta_kindOfPart 76 = .ok (.ireturn, 1) := by decide +kernel
theorem g_Ta_kindOfPart {X : WX} {d : Nat} (hd : 2 ≤ d) (o p : Int) (M : Mem) (hT : RT M) (hI : TI M) : MG X gt d KE KE y_Ta_kindOfPart b_Ta_kindOfPart 5 (some .int) [vr 4, vi o, vi p] M (fun r M' => r = some (vi (pkD M o p)) ∧ M' = M) := by
  refine MG_of_G (by decide) (Nat.le_of_ble_eq_true rfl) (Nat.le_refl _) (by decide) ?_
  show G X gt d KE KE y_Ta_kindOfPart b_Ta_kindOfPart 5 (some .int) _ 0 [(0, vr 4), (1, vi o), (2, vi p)] [] KE M
  have hI0 := hI
  obtain ⟨hI1, hI2, hI3, hI4, hI5, hI6, hI7, hI8, hI9, hI10, hI11, hI12, hI13, hI14⟩ := hI
  refine G_rngl (i := 1) rfl (fun hr1 => ?_)
  refine G_rngl (i := 2) rfl (fun hr2 => ?_)
  refine G_iload (i := 1) (n := 1) (len := 1) (Or.inl ⟨1, rfl, rfl, d_Ta_kindOfPart_0⟩) rfl (G_pc (pc' := 1) rfl ?_)
  refine G_iconst (n := 1) d_Ta_kindOfPart_1 (by decide) (G_pc (pc' := 2) rfl ?_)
  refine G_icmp_lt (tgt := 13) d_Ta_kindOfPart_2 (by decide) (fun h1 => ?_) (fun h1 => G_pc (pc' := 5) rfl ?_)
  · skip
    refine G_iconst (n := (-1)) d_Ta_kindOfPart_13 (by decide) (G_pc (pc' := 14) rfl ?_)
    refine G_iret d_Ta_kindOfPart_14 rfl (tokI (by decide)) rfl rfl ?_
    exact ret_e (by unfold pkD; first | (rw [if_neg (by omega)]) | (rw [if_pos (by omega), if_neg (by omega), if_neg (by omega)])) rfl
  · skip
    refine G_iload (i := 1) (n := 1) (len := 1) (Or.inl ⟨1, rfl, rfl, d_Ta_kindOfPart_5⟩) rfl (G_pc (pc' := 6) rfl ?_)
    refine G_aload (i := 0) (n := 0) (len := 1) (Or.inl ⟨0, rfl, rfl, d_Ta_kindOfPart_6⟩) rfl (by decide) (G_pc (pc' := 7) rfl ?_)
    refine G_get (o := 4) (c := 6) (k := 5) (v := M 4 5) d_Ta_kindOfPart_7 fl_Ta_58 rfl (by decide) (by decide) rfl rfl (G_pc (pc' := 10) rfl ?_)
    rw [show M 4 5 = M 55 5 from hT.2.2.2.1.2.1]
    refine G_icmp_le (tgt := 15) d_Ta_kindOfPart_10 (by decide) (fun h2 => ?_) (fun h2 => G_pc (pc' := 13) rfl ?_)
    · skip
      have hk9 := hI9 o (by omega) (by omega); have hs9 := hI11 o (by omega) (by omega)
      refine G_aload (i := 0) (n := 0) (len := 1) (Or.inl ⟨0, rfl, rfl, d_Ta_kindOfPart_15⟩) rfl (by decide) (G_pc (pc' := 16) rfl ?_)
      refine G_iload (i := 1) (n := 1) (len := 1) (Or.inl ⟨1, rfl, rfl, d_Ta_kindOfPart_16⟩) rfl (G_pc (pc' := 17) rfl ?_)
      refine G_callV (K1 := KE) (d2 := 1) (o := 4) (cl := 6) (as := [vi o]) (rest := []) d_Ta_kindOfPart_17 mf_Ta_kindOfObject ml_Ta_85 rfl rfl (by decide) rfl rfl (Nat.le_of_ble_eq_true rfl) (by omega) ⟨Nat.le_refl _, Nat.le_refl _⟩ (g_Ta_kindOfObject (by omega) o M hT hI0 (by omega)) (fun r3 M4 kq5 q5 => ?_)
      clear kq5; obtain ⟨q5a, q5b⟩ := q5; subst r3; subst M4
      refine G_ps (pc' := 20) (st' := [vi (M 60 o)]) rfl rfl ?_
      refine G_istore (i := 3) (len := 1) (ls' := [(3, vi (M 60 o)), (0, vr 4), (1, vi o), (2, vi p)]) (Or.inl ⟨3, rfl, rfl, d_Ta_kindOfPart_20⟩) (by decide) rfl (G_pc (pc' := 21) rfl ?_)
      refine G_iload (i := 3) (n := 0) (len := 1) (Or.inl ⟨3, rfl, rfl, d_Ta_kindOfPart_21⟩) rfl (G_pc (pc' := 22) rfl ?_)
      refine G_callS (K1 := KE) (d2 := 0) (as := [vi (M 60 o)]) (rest := []) d_Ta_kindOfPart_22 mf_Ki_isClass ml_Ta_50 rfl rfl (Nat.le_of_ble_eq_true rfl) (by omega) ⟨Nat.le_refl _, Nat.le_refl _⟩ (g_Ki_isClass (by omega) (M 60 o) _) (fun r6 M7 kq8 q8 => ?_)
      clear kq8; obtain ⟨q8a, q8b⟩ := q8; subst r6; subst M7
      refine G_ps (pc' := 25) (st' := [vi (b2i (clB (M 60 o)))]) rfl rfl ?_
      refine G_if_eq (tgt := 35) d_Ta_kindOfPart_25 (by decide) (fun h9 => ?_) (fun h9 => G_pc (pc' := 28) rfl ?_)
      · skip
        replace h9 := b2i_0.mp h9
        replace h9 := clB_f.mp h9
        refine G_iload (i := 2) (n := 3) (len := 1) (Or.inl ⟨2, rfl, rfl, d_Ta_kindOfPart_35⟩) rfl (G_pc (pc' := 36) rfl ?_)
        refine G_if_lt (tgt := 60) d_Ta_kindOfPart_36 (by decide) (fun h10 => ?_) (fun h10 => G_pc (pc' := 39) rfl ?_)
        · skip
          refine G_iconst (n := 0) d_Ta_kindOfPart_60 (by decide) (G_pc (pc' := 61) rfl ?_)
          refine G_istore (i := 4) (len := 2) (ls' := [(4, vi 0), (3, vi (M 60 o)), (0, vr 4), (1, vi o), (2, vi p)]) (Or.inr ⟨rfl, d_Ta_kindOfPart_61⟩) (by decide) rfl (G_pc (pc' := 63) rfl ?_)
          refine G_iload (i := 4) (n := 0) (len := 2) (Or.inr ⟨rfl, d_Ta_kindOfPart_63⟩) rfl (G_pc (pc' := 65) rfl ?_)
          refine G_if_eq (tgt := 75) d_Ta_kindOfPart_65 (by decide) (fun h11 => ?_) (fun h11 => absurd h11 (by decide))
          refine G_iconst (n := (-1)) d_Ta_kindOfPart_75 (by decide) (G_pc (pc' := 76) rfl ?_)
          refine G_iret d_Ta_kindOfPart_76 rfl (tokI (by decide)) rfl rfl ?_
          exact ret_e (by unfold pkD; first | (rw [if_neg (by omega)]) | (rw [if_pos (by omega), if_neg (by omega), if_neg (by omega)])) rfl
        · skip
          refine G_iload (i := 2) (n := 3) (len := 1) (Or.inl ⟨2, rfl, rfl, d_Ta_kindOfPart_39⟩) rfl (G_pc (pc' := 40) rfl ?_)
          refine G_i2l d_Ta_kindOfPart_40 (G_pc (pc' := 41) rfl ?_)
          refine G_aload (i := 0) (n := 1) (len := 1) (Or.inl ⟨0, rfl, rfl, d_Ta_kindOfPart_41⟩) rfl (by decide) (G_pc (pc' := 42) rfl ?_)
          refine G_get (o := 4) (c := 6) (k := 3) (v := 8) d_Ta_kindOfPart_42 fl_Ta_21 rfl (by decide) (by decide) rfl rfl (G_pc (pc' := 45) rfl ?_)
          refine G_iload (i := 1) (n := 2) (len := 1) (Or.inl ⟨1, rfl, rfl, d_Ta_kindOfPart_45⟩) rfl (G_pc (pc' := 46) rfl ?_)
          refine G_bipush (n := 26) d_Ta_kindOfPart_46 (by decide) (G_pc (pc' := 48) rfl ?_)
          refine G_callN (K1 := KE) (d2 := 0) (as := [vi o, vi 26]) (rest := [vr 8, vl p]) d_Ta_kindOfPart_48 mf_De_placeOf (by decide) rfl rfl (Nat.le_of_ble_eq_true rfl) (by omega) ⟨Nat.le_refl _, Nat.le_refl _⟩ (g_De_placeOf (by omega) o 26 _ (by omega) (by omega)) (fun r12 M13 kq14 q14 => ?_)
          clear kq14; obtain ⟨q14a, q14b⟩ := q14; subst r12; subst M13
          refine G_ps (pc' := 51) (st' := [vi (28 * o + 26), vr 8, vl p]) rfl rfl ?_
          refine G_laload (o := 8) (n := 364) (i := 28 * o + 26) (v := M 8 (28 * o + 26)) d_Ta_kindOfPart_51 rfl ⟨by decide, by decide⟩ (by omega) (rd_arr rfl) (fun t15 => G_pc (pc' := 52) rfl ?_)
          have t15 := tok_l t15
          rw [show M 8 (28 * o + 26) = M 61 o from (hT.2.2.2.2.2.2 o (by omega) (by omega)).1]
          refine G_lcmp_ge (tgt := 60) d_Ta_kindOfPart_52 d_Ta_kindOfPart_53 (by decide) (fun h16 => ?_) (fun h16 => G_pc (pc' := 56) rfl ?_)
          · skip
            refine G_iconst (n := 0) d_Ta_kindOfPart_60 (by decide) (G_pc (pc' := 61) rfl ?_)
            refine G_istore (i := 4) (len := 2) (ls' := [(4, vi 0), (3, vi (M 60 o)), (0, vr 4), (1, vi o), (2, vi p)]) (Or.inr ⟨rfl, d_Ta_kindOfPart_61⟩) (by decide) rfl (G_pc (pc' := 63) rfl ?_)
            refine G_iload (i := 4) (n := 0) (len := 2) (Or.inr ⟨rfl, d_Ta_kindOfPart_63⟩) rfl (G_pc (pc' := 65) rfl ?_)
            refine G_if_eq (tgt := 75) d_Ta_kindOfPart_65 (by decide) (fun h17 => ?_) (fun h17 => absurd h17 (by decide))
            refine G_iconst (n := (-1)) d_Ta_kindOfPart_75 (by decide) (G_pc (pc' := 76) rfl ?_)
            refine G_iret d_Ta_kindOfPart_76 rfl (tokI (by decide)) rfl rfl ?_
            exact ret_e (by unfold pkD; first | (rw [if_neg (by omega)]) | (rw [if_pos (by omega), if_neg (by omega), if_neg (by omega)])) rfl
          · skip
            refine G_iconst (n := 1) d_Ta_kindOfPart_56 (by decide) (G_pc (pc' := 57) rfl ?_)
            refine G_goto (tgt := 61) d_Ta_kindOfPart_57 (by decide) ?_
            refine G_istore (i := 4) (len := 2) (ls' := [(4, vi 1), (3, vi (M 60 o)), (0, vr 4), (1, vi o), (2, vi p)]) (Or.inr ⟨rfl, d_Ta_kindOfPart_61⟩) (by decide) rfl (G_pc (pc' := 63) rfl ?_)
            refine G_iload (i := 4) (n := 0) (len := 2) (Or.inr ⟨rfl, d_Ta_kindOfPart_63⟩) rfl (G_pc (pc' := 65) rfl ?_)
            refine G_if_eq (tgt := 75) d_Ta_kindOfPart_65 (by decide) (fun h18 => absurd h18 (by decide)) (fun h18 => G_pc (pc' := 68) rfl ?_)
            refine G_iload (i := 3) (n := 1) (len := 1) (Or.inl ⟨3, rfl, rfl, d_Ta_kindOfPart_68⟩) rfl (G_pc (pc' := 69) rfl ?_)
            refine G_callS (K1 := KE) (d2 := 0) (as := [vi (M 60 o)]) (rest := []) d_Ta_kindOfPart_69 mf_Ki_elementOf ml_Ta_91 rfl rfl (Nat.le_of_ble_eq_true rfl) (by omega) ⟨Nat.le_refl _, Nat.le_refl _⟩ (g_Ki_elementOf (by omega) (M 60 o) _ (by omega)) (fun r19 M20 kq21 q21 => ?_)
            clear kq21; obtain ⟨q21a, q21b⟩ := q21; subst r19; subst M20
            refine G_ps (pc' := 72) (st' := [vi (elD (M 60 o))]) rfl rfl ?_
            refine G_goto (tgt := 76) d_Ta_kindOfPart_72 (by decide) ?_
            refine G_iret d_Ta_kindOfPart_76 rfl (tokI (by first | (have := fkD_rng hI0 (M 60 o) p; omega) | (rw [elD_e]; have := elemM_rng (a := M 60 o) (by omega); omega))) rfl rfl ?_
            exact ret_e (by unfold pkD; rw [if_pos (by omega), if_neg (by omega), if_pos (by omega), elD_e]) rfl
      · skip
        replace h9 := b2i_nz.mp h9
        replace h9 := clB_t.mp h9
        refine G_aload (i := 0) (n := 1) (len := 1) (Or.inl ⟨0, rfl, rfl, d_Ta_kindOfPart_28⟩) rfl (by decide) (G_pc (pc' := 29) rfl ?_)
        refine G_iload (i := 3) (n := 0) (len := 1) (Or.inl ⟨3, rfl, rfl, d_Ta_kindOfPart_29⟩) rfl (G_pc (pc' := 30) rfl ?_)
        refine G_iload (i := 2) (n := 3) (len := 1) (Or.inl ⟨2, rfl, rfl, d_Ta_kindOfPart_30⟩) rfl (G_pc (pc' := 31) rfl ?_)
        refine G_callV (K1 := KE) (d2 := 1) (o := 4) (cl := 6) (as := [vi (M 60 o), vi p]) (rest := []) d_Ta_kindOfPart_31 mf_Ta_kindOfField ml_Ta_88 rfl rfl (by decide) rfl rfl (Nat.le_of_ble_eq_true rfl) (by omega) ⟨Nat.le_refl _, Nat.le_refl _⟩ (g_Ta_kindOfField (by omega) (M 60 o) p M hT hI0 ) (fun r22 M23 kq24 q24 => ?_)
        clear kq24; obtain ⟨q24a, q24b⟩ := q24; subst r22; subst M23
        refine G_ps (pc' := 34) (st' := [vi (fkD M (M 60 o) p)]) rfl rfl ?_
        refine G_iret d_Ta_kindOfPart_34 rfl (tokI (by first | (have := fkD_rng hI0 (M 60 o) p; omega) | (rw [elD_e]; have := elemM_rng (a := M 60 o) (by omega); omega))) rfl rfl ?_
        exact ret_e (by unfold pkD; rw [if_pos (by omega), if_pos (by omega)]) rfl
    · skip
      refine G_iconst (n := (-1)) d_Ta_kindOfPart_13 (by decide) (G_pc (pc' := 14) rfl ?_)
      refine G_iret d_Ta_kindOfPart_14 rfl (tokI (by decide)) rfl rfl ?_
      exact ret_e (by unfold pkD; first | (rw [if_neg (by omega)]) | (rw [if_pos (by omega), if_neg (by omega), if_neg (by omega)])) rfl

theorem d_Ta_sortOfPiece_0 : decode b_Ta_sortOfPiece 0 = .ok (.iload_n 1, 1) := by decide +kernel
theorem d_Ta_sortOfPiece_1 : decode b_Ta_sortOfPiece 1 = .ok (.ifCond .ne 5, 3) := by decide +kernel
theorem d_Ta_sortOfPiece_4 : decode b_Ta_sortOfPiece 4 = .ok (.iconst 0, 1) := by decide +kernel
theorem d_Ta_sortOfPiece_5 : decode b_Ta_sortOfPiece 5 = .ok (.ireturn, 1) := by decide +kernel
theorem d_Ta_sortOfPiece_6 : decode b_Ta_sortOfPiece 6 = .ok (.iload_n 2, 1) := by decide +kernel
theorem d_Ta_sortOfPiece_7 : decode b_Ta_sortOfPiece 7 = .ok (.bipush 26, 2) := by decide +kernel
theorem d_Ta_sortOfPiece_9 : decode b_Ta_sortOfPiece 9 = .ok (.if_icmp .ne 5, 3) := by decide +kernel
theorem d_Ta_sortOfPiece_12 : decode b_Ta_sortOfPiece 12 = .ok (.iconst 3, 1) := by decide +kernel
theorem d_Ta_sortOfPiece_13 : decode b_Ta_sortOfPiece 13 = .ok (.ireturn, 1) := by decide +kernel
theorem d_Ta_sortOfPiece_14 : decode b_Ta_sortOfPiece 14 = .ok (.iload_n 2, 1) := by decide +kernel
theorem d_Ta_sortOfPiece_15 : decode b_Ta_sortOfPiece 15 = .ok (.bipush 27, 2) := by decide +kernel
theorem d_Ta_sortOfPiece_17 : decode b_Ta_sortOfPiece 17 = .ok (.if_icmp .ne 5, 3) := by decide +kernel
theorem d_Ta_sortOfPiece_20 : decode b_Ta_sortOfPiece 20 = .ok (.iconst 4, 1) := by decide +kernel
theorem d_Ta_sortOfPiece_21 : decode b_Ta_sortOfPiece 21 = .ok (.ireturn, 1) := by decide +kernel
theorem d_Ta_sortOfPiece_22 : decode b_Ta_sortOfPiece 22 = .ok (.aload_n 0, 1) := by decide +kernel
theorem d_Ta_sortOfPiece_23 : decode b_Ta_sortOfPiece 23 = .ok (.iload_n 1, 1) := by decide +kernel
theorem d_Ta_sortOfPiece_24 : decode b_Ta_sortOfPiece 24 = .ok (.invokevirtual 85, 3) := by decide +kernel
theorem d_Ta_sortOfPiece_27 : decode b_Ta_sortOfPiece 27 = .ok (.invokestatic 55, 3) := by decide +kernel
theorem d_Ta_sortOfPiece_30 : decode b_Ta_sortOfPiece 30 = .ok (.ifCond .eq 7, 3) := by decide +kernel
theorem d_Ta_sortOfPiece_33 : decode b_Ta_sortOfPiece 33 = .ok (.iconst 2, 1) := by decide +kernel
theorem d_Ta_sortOfPiece_34 : decode b_Ta_sortOfPiece 34 = .ok (.goto 4, 3) := by decide +kernel
theorem d_Ta_sortOfPiece_37 : decode b_Ta_sortOfPiece 37 = .ok (.iconst 1, 1) := by decide +kernel
theorem d_Ta_sortOfPiece_38 : decode b_Ta_sortOfPiece 38 = .ok (.ireturn, 1) := by decide +kernel
theorem g_Ta_sortOfPiece {X : WX} {d : Nat} (hd : 2 ≤ d) (o p : Int) (M : Mem) (hT : RT M) (hI : TI M) (ho : 0 ≤ o ∧ o ≤ 12) : MG X gt d KE KE y_Ta_sortOfPiece b_Ta_sortOfPiece 3 (some .int) [vr 4, vi o, vi p] M (fun r M' => r = some (vi (if o = 0 then 0 else if p = 26 then 3 else if p = 27 then 4 else if 10 ≤ M 60 o then 2 else 1)) ∧ M' = M) := by
  refine MG_of_G (by decide) (Nat.le_of_ble_eq_true rfl) (Nat.le_refl _) (by decide) ?_
  show G X gt d KE KE y_Ta_sortOfPiece b_Ta_sortOfPiece 3 (some .int) _ 0 [(0, vr 4), (1, vi o), (2, vi p)] [] KE M
  have hI0 := hI
  obtain ⟨hI1, hI2, hI3, hI4, hI5, hI6, hI7, hI8, hI9, hI10, hI11, hI12, hI13, hI14⟩ := hI
  have hk0 := hI10 o (by omega) (by omega)
  refine G_rngl (i := 1) rfl (fun hr1 => ?_)
  refine G_rngl (i := 2) rfl (fun hr2 => ?_)
  refine G_iload (i := 1) (n := 1) (len := 1) (Or.inl ⟨1, rfl, rfl, d_Ta_sortOfPiece_0⟩) rfl (G_pc (pc' := 1) rfl ?_)
  refine G_if_ne (tgt := 6) d_Ta_sortOfPiece_1 (by decide) (fun h1 => ?_) (fun h1 => G_pc (pc' := 4) rfl ?_)
  · skip
    refine G_iload (i := 2) (n := 2) (len := 1) (Or.inl ⟨2, rfl, rfl, d_Ta_sortOfPiece_6⟩) rfl (G_pc (pc' := 7) rfl ?_)
    refine G_bipush (n := 26) d_Ta_sortOfPiece_7 (by decide) (G_pc (pc' := 9) rfl ?_)
    refine G_icmp_ne (tgt := 14) d_Ta_sortOfPiece_9 (by decide) (fun h2 => ?_) (fun h2 => G_pc (pc' := 12) rfl ?_)
    · skip
      refine G_iload (i := 2) (n := 2) (len := 1) (Or.inl ⟨2, rfl, rfl, d_Ta_sortOfPiece_14⟩) rfl (G_pc (pc' := 15) rfl ?_)
      refine G_bipush (n := 27) d_Ta_sortOfPiece_15 (by decide) (G_pc (pc' := 17) rfl ?_)
      refine G_icmp_ne (tgt := 22) d_Ta_sortOfPiece_17 (by decide) (fun h3 => ?_) (fun h3 => G_pc (pc' := 20) rfl ?_)
      · skip
        refine G_aload (i := 0) (n := 0) (len := 1) (Or.inl ⟨0, rfl, rfl, d_Ta_sortOfPiece_22⟩) rfl (by decide) (G_pc (pc' := 23) rfl ?_)
        refine G_iload (i := 1) (n := 1) (len := 1) (Or.inl ⟨1, rfl, rfl, d_Ta_sortOfPiece_23⟩) rfl (G_pc (pc' := 24) rfl ?_)
        refine G_callV (K1 := KE) (d2 := 1) (o := 4) (cl := 6) (as := [vi o]) (rest := []) d_Ta_sortOfPiece_24 mf_Ta_kindOfObject ml_Ta_85 rfl rfl (by decide) rfl rfl (Nat.le_of_ble_eq_true rfl) (by omega) ⟨Nat.le_refl _, Nat.le_refl _⟩ (g_Ta_kindOfObject (by omega) o M hT hI0 (by omega)) (fun r4 M5 kq6 q6 => ?_)
        clear kq6; obtain ⟨q6a, q6b⟩ := q6; subst r4; subst M5
        refine G_ps (pc' := 27) (st' := [vi (M 60 o)]) rfl rfl ?_
        refine G_callS (K1 := KE) (d2 := 0) (as := [vi (M 60 o)]) (rest := []) d_Ta_sortOfPiece_27 mf_Ki_isArray ml_Ta_55 rfl rfl (Nat.le_of_ble_eq_true rfl) (by omega) ⟨Nat.le_refl _, Nat.le_refl _⟩ (g_Ki_isArray (by omega) (M 60 o) _) (fun r7 M8 kq9 q9 => ?_)
        clear kq9; obtain ⟨q9a, q9b⟩ := q9; subst r7; subst M8
        refine G_ps (pc' := 30) (st' := [vi (b2i (arB (M 60 o)))]) rfl rfl ?_
        refine G_if_eq (tgt := 37) d_Ta_sortOfPiece_30 (by decide) (fun h10 => ?_) (fun h10 => G_pc (pc' := 33) rfl ?_)
        · skip
          replace h10 := b2i_0.mp h10
          replace h10 := arB_f.mp h10
          refine G_iconst (n := 1) d_Ta_sortOfPiece_37 (by decide) (G_pc (pc' := 38) rfl ?_)
          refine G_iret d_Ta_sortOfPiece_38 rfl (tokI (by decide)) rfl rfl ?_
          exact ret_e (by first | (rw [if_pos (by omega)]) | (rw [if_neg (by omega), if_pos (by omega)]) | (rw [if_neg (by omega), if_neg (by omega), if_pos (by omega)]) | (rw [if_neg (by omega), if_neg (by omega), if_neg (by omega), if_pos (by omega)]) | (rw [if_neg (by omega), if_neg (by omega), if_neg (by omega), if_neg (by omega)])) rfl
        · skip
          replace h10 := b2i_nz.mp h10
          replace h10 := arB_t.mp h10
          refine G_iconst (n := 2) d_Ta_sortOfPiece_33 (by decide) (G_pc (pc' := 34) rfl ?_)
          refine G_goto (tgt := 38) d_Ta_sortOfPiece_34 (by decide) ?_
          refine G_iret d_Ta_sortOfPiece_38 rfl (tokI (by decide)) rfl rfl ?_
          exact ret_e (by first | (rw [if_pos (by omega)]) | (rw [if_neg (by omega), if_pos (by omega)]) | (rw [if_neg (by omega), if_neg (by omega), if_pos (by omega)]) | (rw [if_neg (by omega), if_neg (by omega), if_neg (by omega), if_pos (by omega)]) | (rw [if_neg (by omega), if_neg (by omega), if_neg (by omega), if_neg (by omega)])) rfl
      · skip
        refine G_iconst (n := 4) d_Ta_sortOfPiece_20 (by decide) (G_pc (pc' := 21) rfl ?_)
        refine G_iret d_Ta_sortOfPiece_21 rfl (tokI (by decide)) rfl rfl ?_
        exact ret_e (by first | (rw [if_pos (by omega)]) | (rw [if_neg (by omega), if_pos (by omega)]) | (rw [if_neg (by omega), if_neg (by omega), if_pos (by omega)]) | (rw [if_neg (by omega), if_neg (by omega), if_neg (by omega), if_pos (by omega)]) | (rw [if_neg (by omega), if_neg (by omega), if_neg (by omega), if_neg (by omega)])) rfl
    · skip
      refine G_iconst (n := 3) d_Ta_sortOfPiece_12 (by decide) (G_pc (pc' := 13) rfl ?_)
      refine G_iret d_Ta_sortOfPiece_13 rfl (tokI (by decide)) rfl rfl ?_
      exact ret_e (by first | (rw [if_pos (by omega)]) | (rw [if_neg (by omega), if_pos (by omega)]) | (rw [if_neg (by omega), if_neg (by omega), if_pos (by omega)]) | (rw [if_neg (by omega), if_neg (by omega), if_neg (by omega), if_pos (by omega)]) | (rw [if_neg (by omega), if_neg (by omega), if_neg (by omega), if_neg (by omega)])) rfl
  · skip
    refine G_iconst (n := 0) d_Ta_sortOfPiece_4 (by decide) (G_pc (pc' := 5) rfl ?_)
    refine G_iret d_Ta_sortOfPiece_5 rfl (tokI (by decide)) rfl rfl ?_
    exact ret_e (by first | (rw [if_pos (by omega)]) | (rw [if_neg (by omega), if_pos (by omega)]) | (rw [if_neg (by omega), if_neg (by omega), if_pos (by omega)]) | (rw [if_neg (by omega), if_neg (by omega), if_neg (by omega), if_pos (by omega)]) | (rw [if_neg (by omega), if_neg (by omega), if_neg (by omega), if_neg (by omega)])) rfl

theorem nar2 {v : Int} : v = w32 v % 65536 ↔ 0 ≤ v ∧ v ≤ 65535 := by
  have h := w32_in v
  constructor
  · intro e; omega
  · intro e; rw [w32_id (by omega)]; omega
def valD (M : Mem) (k v : Int) : Bool := if k = -1 then false else validB M k v
theorem val_0 {M : Mem} {v : Int} : validB M 0 v = decide (v = w32 v) := rfl
theorem val_1 {M : Mem} {v : Int} : validB M 1 v = true := by unfold validB; simp
theorem val_2 {M : Mem} {v : Int} : validB M 2 v = decide (0 ≤ v ∧ v ≤ 65535) := by unfold validB; simp
theorem val_3 {M : Mem} {v : Int} : validB M 3 v = decide (0 ≤ v ∧ v ≤ 1) := by unfold validB; simp
theorem val_r {M : Mem} {k v : Int} (h : 4 ≤ k) : validB M k v = true ↔ v = 0 ∨ ((0 < v ∧ v ≤ M 55 5) ∧ suitsB M (M 60 v) k = true) := by
  unfold validB
  rw [if_neg (by omega), if_neg (by omega)]
  simp
theorem d_Ta_isValue_0 : decode b_Ta_isValue 0 = .ok (.iload_n 1, 1) := by decide +kernel
theorem d_Ta_isValue_1 : decode b_Ta_isValue 1 = .ok (.tableswitch 73 (-1) 3 #[35, 37, 53, 37, 55], 35) := by decide +kernel
theorem d_Ta_isValue_36 : decode b_Ta_isValue 36 = .ok (.iconst 0, 1) := by decide +kernel
theorem d_Ta_isValue_37 : decode b_Ta_isValue 37 = .ok (.ireturn, 1) := by decide +kernel
theorem d_Ta_isValue_38 : decode b_Ta_isValue 38 = .ok (.lload_n 2, 1) := by decide +kernel
theorem d_Ta_isValue_39 : decode b_Ta_isValue 39 = .ok (.iload_n 1, 1) := by decide +kernel
theorem d_Ta_isValue_40 : decode b_Ta_isValue 40 = .ok (.lload_n 2, 1) := by decide +kernel
theorem d_Ta_isValue_41 : decode b_Ta_isValue 41 = .ok (.invokestatic 94, 3) := by decide +kernel
theorem d_Ta_isValue_44 : decode b_Ta_isValue 44 = .ok (.lcmp, 1) := by decide +kernel
theorem d_Ta_isValue_45 : decode b_Ta_isValue 45 = .ok (.ifCond .ne 7, 3) := by decide +kernel
theorem d_Ta_isValue_48 : decode b_Ta_isValue 48 = .ok (.iconst 1, 1) := by decide +kernel
theorem d_Ta_isValue_49 : decode b_Ta_isValue 49 = .ok (.goto 4, 3) := by decide +kernel
theorem d_Ta_isValue_52 : decode b_Ta_isValue 52 = .ok (.iconst 0, 1) := by decide +kernel
theorem d_Ta_isValue_53 : decode b_Ta_isValue 53 = .ok (.ireturn, 1) := by decide +kernel
theorem d_Ta_isValue_54 : decode b_Ta_isValue 54 = .ok (.iconst 1, 1) := by decide +kernel
theorem d_Ta_isValue_55 : decode b_Ta_isValue 55 = .ok (.ireturn, 1) := by decide +kernel
theorem d_Ta_isValue_56 : decode b_Ta_isValue 56 = .ok (.lload_n 2, 1) := by decide +kernel
theorem d_Ta_isValue_57 : decode b_Ta_isValue 57 = .ok (.lconst 0, 1) := by decide +kernel
theorem d_Ta_isValue_58 : decode b_Ta_isValue 58 = .ok (.lcmp, 1) := by decide +kernel
theorem d_Ta_isValue_59 : decode b_Ta_isValue 59 = .ok (.ifCond .eq 9, 3) := by decide +kernel
theorem d_Ta_isValue_62 : decode b_Ta_isValue 62 = .ok (.lload_n 2, 1) := by decide +kernel
theorem d_Ta_isValue_63 : decode b_Ta_isValue 63 = .ok (.lconst 1, 1) := by decide +kernel
theorem d_Ta_isValue_64 : decode b_Ta_isValue 64 = .ok (.lcmp, 1) := by decide +kernel
theorem d_Ta_isValue_65 : decode b_Ta_isValue 65 = .ok (.ifCond .ne 7, 3) := by decide +kernel
theorem d_Ta_isValue_68 : decode b_Ta_isValue 68 = .ok (.iconst 1, 1) := by decide +kernel
theorem d_Ta_isValue_69 : decode b_Ta_isValue 69 = .ok (.goto 4, 3) := by decide +kernel
theorem d_Ta_isValue_72 : decode b_Ta_isValue 72 = .ok (.iconst 0, 1) := by decide +kernel
theorem d_Ta_isValue_73 : decode b_Ta_isValue 73 = .ok (.ireturn, 1) := by decide +kernel
theorem d_Ta_isValue_74 : decode b_Ta_isValue 74 = .ok (.lload_n 2, 1) := by decide +kernel
theorem d_Ta_isValue_75 : decode b_Ta_isValue 75 = .ok (.lconst 0, 1) := by decide +kernel
theorem d_Ta_isValue_76 : decode b_Ta_isValue 76 = .ok (.lcmp, 1) := by decide +kernel
theorem d_Ta_isValue_77 : decode b_Ta_isValue 77 = .ok (.ifCond .eq 33, 3) := by decide +kernel
theorem d_Ta_isValue_80 : decode b_Ta_isValue 80 = .ok (.lload_n 2, 1) := by decide +kernel
theorem d_Ta_isValue_81 : decode b_Ta_isValue 81 = .ok (.lconst 0, 1) := by decide +kernel
theorem d_Ta_isValue_82 : decode b_Ta_isValue 82 = .ok (.lcmp, 1) := by decide +kernel
theorem d_Ta_isValue_83 : decode b_Ta_isValue 83 = .ok (.ifCond .le 31, 3) := by decide +kernel
theorem d_Ta_isValue_86 : decode b_Ta_isValue 86 = .ok (.lload_n 2, 1) := by decide +kernel
theorem d_Ta_isValue_87 : decode b_Ta_isValue 87 = .ok (.aload_n 0, 1) := by decide +kernel
theorem d_Ta_isValue_88 : decode b_Ta_isValue 88 = .ok (.getfield 58, 3) := by decide +kernel
theorem d_Ta_isValue_91 : decode b_Ta_isValue 91 = .ok (.i2l, 1) := by decide +kernel
theorem d_Ta_isValue_92 : decode b_Ta_isValue 92 = .ok (.lcmp, 1) := by decide +kernel
theorem d_Ta_isValue_93 : decode b_Ta_isValue 93 = .ok (.ifCond .gt 21, 3) := by decide +kernel
theorem d_Ta_isValue_96 : decode b_Ta_isValue 96 = .ok (.aload_n 0, 1) := by decide +kernel
theorem d_Ta_isValue_97 : decode b_Ta_isValue 97 = .ok (.aload_n 0, 1) := by decide +kernel
theorem d_Ta_isValue_98 : decode b_Ta_isValue 98 = .ok (.lload_n 2, 1) := by decide +kernel
theorem d_Ta_isValue_99 : decode b_Ta_isValue 99 = .ok (.l2i, 1) := by decide +kernel
theorem d_Ta_isValue_100 : decode b_Ta_isValue 100 = .ok (.invokevirtual 85, 3) := by decide +kernel
theorem d_Ta_isValue_103 : decode b_Ta_isValue 103 = .ok (.iload_n 1, 1) := by decide +kernel
theorem d_Ta_isValue_104 : decode b_Ta_isValue 104 = .ok (.invokevirtual 82, 3) := by decide +kernel
theorem d_Ta_isValue_107 : decode b_Ta_isValue 107 = .ok (.ifCond .eq 7, 3) := by decide +kernel
theorem d_Ta_isValue_110 : decode b_Ta_isValue 110 = .ok (.iconst 1, 1) := by decide +kernel
theorem d_Ta_isValue_111 : decode b_Ta_isValue 111 = .ok (.goto 4, 3) := by decide +kernel
theorem d_Ta_isValue_114 : decode b_Ta_isValue 114 = .ok (.iconst 0, 1) := by decide +kernel
theorem d_Ta_isValue_115 : decode b_Ta_isValue 115 = .ok (.ireturn, 1) := by decide +kernel
set_option maxHeartbeats 1000000 in
theorem g_Ta_isValue {X : WX} {d : Nat} (hd : 2 ≤ d) (k v : Int) (M : Mem) (hT : RT M) (hI : TI M) (hk : -1 ≤ k) (hkv : ¬ k = -1 → isKindB (M 55 0) k = true) : MG X gt d KE KE y_Ta_isValue b_Ta_isValue 4 (some .boolean) [vr 4, vi k, vl v] M (fun r M' => r = some (vi (b2i (valD M k v))) ∧ M' = M) := by
  refine MG_of_G (by decide) (Nat.le_of_ble_eq_true rfl) (Nat.le_refl _) (by decide) ?_
  show G X gt d KE KE y_Ta_isValue b_Ta_isValue 4 (some .boolean) _ 0 [(0, vr 4), (1, vi k), (2, vl v)] [] KE M
  have hI0 := hI
  obtain ⟨hI1, hI2, hI3, hI4, hI5, hI6, hI7, hI8, hI9, hI10, hI11, hI12, hI13, hI14⟩ := hI
  refine G_rngl (i := 1) rfl (fun hr1 => ?_)
  refine G_rngL (i := 2) rfl (fun hr2 => ?_)
  refine G_iload (i := 1) (n := 1) (len := 1) (Or.inl ⟨1, rfl, rfl, d_Ta_isValue_0⟩) rfl (G_pc (pc' := 1) rfl ?_)
  by_cases h1 : k = (-1)
  · skip
    have e2o : (#[35, 37, 53, 37, 55] : Array Int)[(k - (-1)).toNat]? = some 35 := by rw [h1]; rfl
    refine G_tableIn (off := 35) (tgt := 36) d_Ta_isValue_1 (by omega) e2o (by decide) ?_
    refine G_iconst (n := 0) d_Ta_isValue_36 (by decide) (G_pc (pc' := 37) rfl ?_)
    refine G_iret d_Ta_isValue_37 rfl (tokZ (by decide)) rfl rfl ?_
    first | (exact ret_f (by unfold valD; rw [if_pos (by omega)]) rfl) | (exact ret_f (by unfold valD; rw [if_neg (by omega), show k = 1 by omega]; exact val_1) rfl) | (exact ret_f (by unfold valD; rw [if_neg (by omega), show k = 3 by omega, val_3]; exact decide_eq_false (by omega)) rfl) | (exact ret_f (by unfold valD; rw [if_neg (by omega)]; rw [Bool.eq_false_iff]; intro h9; exact ((val_r (by omega)).mp h9).elim (fun h8 => by omega) (fun h8 => by first | omega | simp_all)) rfl)
  by_cases h1 : k = 0 ∨ k = 2
  · skip
    have e3o : (#[35, 37, 53, 37, 55] : Array Int)[(k - (-1)).toNat]? = some 37 := by rcases h1 with e3 | e3 <;> rw [e3] <;> rfl
    refine G_tableIn (off := 37) (tgt := 38) d_Ta_isValue_1 (by omega) e3o (by decide) ?_
    have hk02 : k = 0 ∨ k = 2 := by omega
    refine G_lload (i := 2) (n := 2) (len := 1) (Or.inl ⟨2, rfl, rfl, d_Ta_isValue_38⟩) rfl (G_pc (pc' := 39) rfl ?_)
    refine G_iload (i := 1) (n := 1) (len := 1) (Or.inl ⟨1, rfl, rfl, d_Ta_isValue_39⟩) rfl (G_pc (pc' := 40) rfl ?_)
    refine G_lload (i := 2) (n := 2) (len := 1) (Or.inl ⟨2, rfl, rfl, d_Ta_isValue_40⟩) rfl (G_pc (pc' := 41) rfl ?_)
    refine G_callS (K1 := KE) (d2 := 0) (as := [vi k, vl v]) (rest := [vl v]) d_Ta_isValue_41 mf_Ki_narrowed ml_Ta_94 rfl rfl (Nat.le_of_ble_eq_true rfl) (by omega) ⟨Nat.le_refl _, Nat.le_refl _⟩ (g_Ki_narrowed (by omega) k v _) (fun r4 M5 kq6 q6 => ?_)
    clear kq6; obtain ⟨q6a, q6b⟩ := q6; subst r4; subst M5
    refine G_ps (pc' := 44) (st' := [vl (naD k v), vl v]) rfl rfl ?_
    refine G_lcmp_ne (tgt := 52) d_Ta_isValue_44 d_Ta_isValue_45 (by decide) (fun h7 => ?_) (fun h7 => G_pc (pc' := 48) rfl ?_)
    · skip
      refine G_iconst (n := 0) d_Ta_isValue_52 (by decide) (G_pc (pc' := 53) rfl ?_)
      refine G_iret d_Ta_isValue_53 rfl (tokZ (by decide)) rfl rfl ?_
      rcases hk02 with rfl | rfl
      · exact ret_f (by unfold valD; rw [if_neg (by decide), val_0]; exact decide_eq_false (by have h9 : naD 0 v = w32 v := rfl; rw [← h9]; assumption)) rfl
      · exact ret_f (by unfold valD; rw [if_neg (by decide), val_2]; exact decide_eq_false (by rw [← nar2]; have h9 : naD 2 v = w32 v % 65536 := rfl; rw [← h9]; assumption)) rfl
    · skip
      refine G_iconst (n := 1) d_Ta_isValue_48 (by decide) (G_pc (pc' := 49) rfl ?_)
      refine G_goto (tgt := 53) d_Ta_isValue_49 (by decide) ?_
      refine G_iret d_Ta_isValue_53 rfl (tokZ (by decide)) rfl rfl ?_
      rcases hk02 with rfl | rfl
      · exact ret_t (by unfold valD; rw [if_neg (by decide), val_0]; exact decide_eq_true (by have h9 : naD 0 v = w32 v := rfl; rw [← h9]; assumption)) rfl
      · exact ret_t (by unfold valD; rw [if_neg (by decide), val_2]; exact decide_eq_true (by rw [← nar2]; have h9 : naD 2 v = w32 v % 65536 := rfl; rw [← h9]; assumption)) rfl
  by_cases h1 : k = 1
  · skip
    have e8o : (#[35, 37, 53, 37, 55] : Array Int)[(k - (-1)).toNat]? = some 53 := by rw [h1]; rfl
    refine G_tableIn (off := 53) (tgt := 54) d_Ta_isValue_1 (by omega) e8o (by decide) ?_
    refine G_iconst (n := 1) d_Ta_isValue_54 (by decide) (G_pc (pc' := 55) rfl ?_)
    refine G_iret d_Ta_isValue_55 rfl (tokZ (by decide)) rfl rfl ?_
    first | (exact ret_t (by unfold valD; rw [if_pos (by omega)]) rfl) | (exact ret_t (by unfold valD; rw [if_neg (by omega), show k = 1 by omega]; exact val_1) rfl) | (exact ret_t (by unfold valD; rw [if_neg (by omega), show k = 3 by omega, val_3]; exact decide_eq_true (by omega)) rfl) | (exact ret_t (by unfold valD; rw [if_neg (by omega)]; exact (val_r (by omega)).mpr (by first | (left; omega) | (right; exact ⟨by omega, by assumption⟩))) rfl)
  by_cases h1 : k = 3
  · skip
    have e9o : (#[35, 37, 53, 37, 55] : Array Int)[(k - (-1)).toNat]? = some 55 := by rw [h1]; rfl
    refine G_tableIn (off := 55) (tgt := 56) d_Ta_isValue_1 (by omega) e9o (by decide) ?_
    refine G_lload (i := 2) (n := 2) (len := 1) (Or.inl ⟨2, rfl, rfl, d_Ta_isValue_56⟩) rfl (G_pc (pc' := 57) rfl ?_)
    refine G_lconst0 d_Ta_isValue_57 (G_pc (pc' := 58) rfl ?_)
    refine G_lcmp_eq (tgt := 68) d_Ta_isValue_58 d_Ta_isValue_59 (by decide) (fun h10 => ?_) (fun h10 => G_pc (pc' := 62) rfl ?_)
    · skip
      refine G_iconst (n := 1) d_Ta_isValue_68 (by decide) (G_pc (pc' := 69) rfl ?_)
      refine G_goto (tgt := 73) d_Ta_isValue_69 (by decide) ?_
      refine G_iret d_Ta_isValue_73 rfl (tokZ (by decide)) rfl rfl ?_
      first | (exact ret_t (by unfold valD; rw [if_pos (by omega)]) rfl) | (exact ret_t (by unfold valD; rw [if_neg (by omega), show k = 1 by omega]; exact val_1) rfl) | (exact ret_t (by unfold valD; rw [if_neg (by omega), show k = 3 by omega, val_3]; exact decide_eq_true (by omega)) rfl) | (exact ret_t (by unfold valD; rw [if_neg (by omega)]; exact (val_r (by omega)).mpr (by first | (left; omega) | (right; exact ⟨by omega, by assumption⟩))) rfl)
    · skip
      refine G_lload (i := 2) (n := 2) (len := 1) (Or.inl ⟨2, rfl, rfl, d_Ta_isValue_62⟩) rfl (G_pc (pc' := 63) rfl ?_)
      refine G_lconst1 d_Ta_isValue_63 (G_pc (pc' := 64) rfl ?_)
      refine G_lcmp_ne (tgt := 72) d_Ta_isValue_64 d_Ta_isValue_65 (by decide) (fun h11 => ?_) (fun h11 => G_pc (pc' := 68) rfl ?_)
      · skip
        refine G_iconst (n := 0) d_Ta_isValue_72 (by decide) (G_pc (pc' := 73) rfl ?_)
        refine G_iret d_Ta_isValue_73 rfl (tokZ (by decide)) rfl rfl ?_
        first | (exact ret_f (by unfold valD; rw [if_pos (by omega)]) rfl) | (exact ret_f (by unfold valD; rw [if_neg (by omega), show k = 1 by omega]; exact val_1) rfl) | (exact ret_f (by unfold valD; rw [if_neg (by omega), show k = 3 by omega, val_3]; exact decide_eq_false (by omega)) rfl) | (exact ret_f (by unfold valD; rw [if_neg (by omega)]; rw [Bool.eq_false_iff]; intro h9; exact ((val_r (by omega)).mp h9).elim (fun h8 => by omega) (fun h8 => by first | omega | simp_all)) rfl)
      · skip
        refine G_iconst (n := 1) d_Ta_isValue_68 (by decide) (G_pc (pc' := 69) rfl ?_)
        refine G_goto (tgt := 73) d_Ta_isValue_69 (by decide) ?_
        refine G_iret d_Ta_isValue_73 rfl (tokZ (by decide)) rfl rfl ?_
        first | (exact ret_t (by unfold valD; rw [if_pos (by omega)]) rfl) | (exact ret_t (by unfold valD; rw [if_neg (by omega), show k = 1 by omega]; exact val_1) rfl) | (exact ret_t (by unfold valD; rw [if_neg (by omega), show k = 3 by omega, val_3]; exact decide_eq_true (by omega)) rfl) | (exact ret_t (by unfold valD; rw [if_neg (by omega)]; exact (val_r (by omega)).mpr (by first | (left; omega) | (right; exact ⟨by omega, by assumption⟩))) rfl)
  refine G_tableOut (tgt := 74) d_Ta_isValue_1 (by omega) (by decide) ?_
  refine G_lload (i := 2) (n := 2) (len := 1) (Or.inl ⟨2, rfl, rfl, d_Ta_isValue_74⟩) rfl (G_pc (pc' := 75) rfl ?_)
  refine G_lconst0 d_Ta_isValue_75 (G_pc (pc' := 76) rfl ?_)
  refine G_lcmp_eq (tgt := 110) d_Ta_isValue_76 d_Ta_isValue_77 (by decide) (fun h13 => ?_) (fun h13 => G_pc (pc' := 80) rfl ?_)
  · skip
    refine G_iconst (n := 1) d_Ta_isValue_110 (by decide) (G_pc (pc' := 111) rfl ?_)
    refine G_goto (tgt := 115) d_Ta_isValue_111 (by decide) ?_
    refine G_iret d_Ta_isValue_115 rfl (tokZ (by decide)) rfl rfl ?_
    first | (exact ret_t (by unfold valD; rw [if_pos (by omega)]) rfl) | (exact ret_t (by unfold valD; rw [if_neg (by omega), show k = 1 by omega]; exact val_1) rfl) | (exact ret_t (by unfold valD; rw [if_neg (by omega), show k = 3 by omega, val_3]; exact decide_eq_true (by omega)) rfl) | (exact ret_t (by unfold valD; rw [if_neg (by omega)]; exact (val_r (by omega)).mpr (by first | (left; omega) | (right; exact ⟨by omega, by assumption⟩))) rfl)
  · skip
    refine G_lload (i := 2) (n := 2) (len := 1) (Or.inl ⟨2, rfl, rfl, d_Ta_isValue_80⟩) rfl (G_pc (pc' := 81) rfl ?_)
    refine G_lconst0 d_Ta_isValue_81 (G_pc (pc' := 82) rfl ?_)
    refine G_lcmp_le (tgt := 114) d_Ta_isValue_82 d_Ta_isValue_83 (by decide) (fun h14 => ?_) (fun h14 => G_pc (pc' := 86) rfl ?_)
    · skip
      refine G_iconst (n := 0) d_Ta_isValue_114 (by decide) (G_pc (pc' := 115) rfl ?_)
      refine G_iret d_Ta_isValue_115 rfl (tokZ (by decide)) rfl rfl ?_
      first | (exact ret_f (by unfold valD; rw [if_pos (by omega)]) rfl) | (exact ret_f (by unfold valD; rw [if_neg (by omega), show k = 1 by omega]; exact val_1) rfl) | (exact ret_f (by unfold valD; rw [if_neg (by omega), show k = 3 by omega, val_3]; exact decide_eq_false (by omega)) rfl) | (exact ret_f (by unfold valD; rw [if_neg (by omega)]; rw [Bool.eq_false_iff]; intro h9; exact ((val_r (by omega)).mp h9).elim (fun h8 => by omega) (fun h8 => by first | omega | simp_all)) rfl)
    · skip
      refine G_lload (i := 2) (n := 2) (len := 1) (Or.inl ⟨2, rfl, rfl, d_Ta_isValue_86⟩) rfl (G_pc (pc' := 87) rfl ?_)
      refine G_aload (i := 0) (n := 0) (len := 1) (Or.inl ⟨0, rfl, rfl, d_Ta_isValue_87⟩) rfl (by decide) (G_pc (pc' := 88) rfl ?_)
      refine G_get (o := 4) (c := 6) (k := 5) (v := M 4 5) d_Ta_isValue_88 fl_Ta_58 rfl (by decide) (by decide) rfl rfl (G_pc (pc' := 91) rfl ?_)
      rw [show M 4 5 = M 55 5 from hT.2.2.2.1.2.1]
      refine G_i2l d_Ta_isValue_91 (G_pc (pc' := 92) rfl ?_)
      refine G_lcmp_gt (tgt := 114) d_Ta_isValue_92 d_Ta_isValue_93 (by decide) (fun h15 => ?_) (fun h15 => G_pc (pc' := 96) rfl ?_)
      · skip
        refine G_iconst (n := 0) d_Ta_isValue_114 (by decide) (G_pc (pc' := 115) rfl ?_)
        refine G_iret d_Ta_isValue_115 rfl (tokZ (by decide)) rfl rfl ?_
        first | (exact ret_f (by unfold valD; rw [if_pos (by omega)]) rfl) | (exact ret_f (by unfold valD; rw [if_neg (by omega), show k = 1 by omega]; exact val_1) rfl) | (exact ret_f (by unfold valD; rw [if_neg (by omega), show k = 3 by omega, val_3]; exact decide_eq_false (by omega)) rfl) | (exact ret_f (by unfold valD; rw [if_neg (by omega)]; rw [Bool.eq_false_iff]; intro h9; exact ((val_r (by omega)).mp h9).elim (fun h8 => by omega) (fun h8 => by first | omega | simp_all)) rfl)
      · skip
        have hko := hI12 v (by omega) (by omega)
        refine G_aload (i := 0) (n := 0) (len := 1) (Or.inl ⟨0, rfl, rfl, d_Ta_isValue_96⟩) rfl (by decide) (G_pc (pc' := 97) rfl ?_)
        refine G_aload (i := 0) (n := 0) (len := 1) (Or.inl ⟨0, rfl, rfl, d_Ta_isValue_97⟩) rfl (by decide) (G_pc (pc' := 98) rfl ?_)
        refine G_lload (i := 2) (n := 2) (len := 1) (Or.inl ⟨2, rfl, rfl, d_Ta_isValue_98⟩) rfl (G_pc (pc' := 99) rfl ?_)
        refine G_l2i d_Ta_isValue_99 (G_pc (pc' := 100) rfl ?_)
        rw [show w32 v = v from w32_id (by omega)]
        refine G_callV (K1 := KE) (d2 := 1) (o := 4) (cl := 6) (as := [vi v]) (rest := [vr 4]) d_Ta_isValue_100 mf_Ta_kindOfObject ml_Ta_85 rfl rfl (by decide) rfl rfl (Nat.le_of_ble_eq_true rfl) (by omega) ⟨Nat.le_refl _, Nat.le_refl _⟩ (g_Ta_kindOfObject (by omega) v M hT hI0 (by omega)) (fun r16 M17 kq18 q18 => ?_)
        clear kq18; obtain ⟨q18a, q18b⟩ := q18; subst r16; subst M17
        refine G_ps (pc' := 103) (st' := [vi (M 60 v), vr 4]) rfl rfl ?_
        refine G_iload (i := 1) (n := 1) (len := 1) (Or.inl ⟨1, rfl, rfl, d_Ta_isValue_103⟩) rfl (G_pc (pc' := 104) rfl ?_)
        refine G_callV (K1 := KE) (d2 := 1) (o := 4) (cl := 6) (as := [vi (M 60 v), vi k]) (rest := []) d_Ta_isValue_104 mf_Ta_fits ml_Ta_82 rfl rfl (by decide) rfl rfl (Nat.le_of_ble_eq_true rfl) (by omega) ⟨Nat.le_refl _, Nat.le_refl _⟩ (g_Ta_fits (by omega) (M 60 v) k M hT hI0 (Or.inl hko) (Or.inl (hkv (by omega)))) (fun r19 M20 kq21 q21 => ?_)
        clear kq21; obtain ⟨q21a, q21b⟩ := q21; subst r19; subst M20
        refine G_ps (pc' := 107) (st' := [vi (b2i (suitsB M (M 60 v) k))]) rfl rfl ?_
        refine G_if_eq (tgt := 114) d_Ta_isValue_107 (by decide) (fun h22 => ?_) (fun h22 => G_pc (pc' := 110) rfl ?_)
        · skip
          replace h22 := b2i_0.mp h22
          refine G_iconst (n := 0) d_Ta_isValue_114 (by decide) (G_pc (pc' := 115) rfl ?_)
          refine G_iret d_Ta_isValue_115 rfl (tokZ (by decide)) rfl rfl ?_
          first | (exact ret_f (by unfold valD; rw [if_pos (by omega)]) rfl) | (exact ret_f (by unfold valD; rw [if_neg (by omega), show k = 1 by omega]; exact val_1) rfl) | (exact ret_f (by unfold valD; rw [if_neg (by omega), show k = 3 by omega, val_3]; exact decide_eq_false (by omega)) rfl) | (exact ret_f (by unfold valD; rw [if_neg (by omega)]; rw [Bool.eq_false_iff]; intro h9; exact ((val_r (by omega)).mp h9).elim (fun h8 => by omega) (fun h8 => by first | omega | simp_all)) rfl)
        · skip
          replace h22 := b2i_nz.mp h22
          refine G_iconst (n := 1) d_Ta_isValue_110 (by decide) (G_pc (pc' := 111) rfl ?_)
          refine G_goto (tgt := 115) d_Ta_isValue_111 (by decide) ?_
          refine G_iret d_Ta_isValue_115 rfl (tokZ (by decide)) rfl rfl ?_
          first | (exact ret_t (by unfold valD; rw [if_pos (by omega)]) rfl) | (exact ret_t (by unfold valD; rw [if_neg (by omega), show k = 1 by omega]; exact val_1) rfl) | (exact ret_t (by unfold valD; rw [if_neg (by omega), show k = 3 by omega, val_3]; exact decide_eq_true (by omega)) rfl) | (exact ret_t (by unfold valD; rw [if_neg (by omega)]; exact (val_r (by omega)).mpr (by first | (left; omega) | (right; exact ⟨by omega, by assumption⟩))) rfl)

