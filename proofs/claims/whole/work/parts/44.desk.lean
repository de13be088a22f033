theorem mset_ne {M : Mem} {k k' : Nat} {i i' v : Int} (h : k' ≠ k) : mset M k i v k' i' = M k' i' := if_neg (fun e => h e.1)
theorem mset_ni {M : Mem} {k k' : Nat} {i i' v : Int} (h : i' ≠ i) : mset M k i v k' i' = M k' i' := if_neg (fun e => h e.2)
theorem mset_eq {M : Mem} {k : Nat} {i i' v : Int} (h : i' = i) : mset M k i v k i' = v := if_pos ⟨rfl, h⟩
theorem rdw {M : Mem} {k : Nat} {i v : Int} (h : gt k i = none) (h2 : M k i = v) : rd gt M k i = v := by
  unfold rd; rw [h]; exact h2
theorem e4 {P : Nat → Prop} (h0 : P 0) (h1 : P 1) (h2 : P 2) (h3 : P 3) {e : Nat} (he : e < 4) : P e := by
  rcases (show e = 0 ∨ e = 1 ∨ e = 2 ∨ e = 3 by omega) with rfl | rfl | rfl | rfl
  · exact h0
  · exact h1
  · exact h2
  · exact h3
theorem gt_len {o k : Nat} (h : (gtl.getD o []).length ≤ k) : gt o (k : Int) = none := by
  show (gtl.getD o []).getD k none = none
  rw [List.getD_eq_getElem?_getD, List.getElem?_eq_none h]; rfl
theorem kd_Ev {e : Nat} (he : e < 4) : kd (19 + 9 * e) = .inl 1 := e4 (P := fun e => kd (19 + 9 * e) = .inl 1) rfl rfl rfl rfl he
theorem kd_St {e : Nat} (he : e < 4) : kd (20 + 9 * e) = .inl 5 := e4 (P := fun e => kd (20 + 9 * e) = .inl 5) rfl rfl rfl rfl he
theorem gn_Ev {e k : Nat} (he : e < 4) (hk : 6 ≤ k) : gt (19 + 9 * e) (k : Int) = none := gt_len (e4 (P := fun e => (gtl.getD (19 + 9 * e) []).length ≤ k) hk hk hk hk he)
theorem gn_St {e : Nat} (he : e < 4) : gt (20 + 9 * e) ((6 : Nat) : Int) = none := e4 (P := fun e => gt (20 + 9 * e) ((6 : Nat) : Int) = none) rfl rfl rfl rfl he
theorem gf_Ev0 {M : Mem} {e : Nat} (he : e < 4) : rd gt M (19 + 9 * e) ((0 : Nat) : Int) = 4 := e4 (P := fun e => rd gt M (19 + 9 * e) ((0 : Nat) : Int) = 4) rfl rfl rfl rfl he
theorem gf_Ev1 {M : Mem} {e : Nat} (he : e < 4) : rd gt M (19 + 9 * e) ((1 : Nat) : Int) = 9 := e4 (P := fun e => rd gt M (19 + 9 * e) ((1 : Nat) : Int) = 9) rfl rfl rfl rfl he
theorem gf_Ev2 {M : Mem} {e : Nat} (he : e < 4) : rd gt M (19 + 9 * e) ((2 : Nat) : Int) = 13 := e4 (P := fun e => rd gt M (19 + 9 * e) ((2 : Nat) : Int) = 13) rfl rfl rfl rfl he
theorem gf_Ev3 {M : Mem} {e : Nat} (he : e < 4) : rd gt M (19 + 9 * e) ((3 : Nat) : Int) = 18 := e4 (P := fun e => rd gt M (19 + 9 * e) ((3 : Nat) : Int) = 18) rfl rfl rfl rfl he
theorem gf_Ev4 {M : Mem} {e : Nat} (he : e < 4) : rd gt M (19 + 9 * e) ((4 : Nat) : Int) = ((20 + 9 * e : Nat) : Int) := e4 (P := fun e => rd gt M (19 + 9 * e) ((4 : Nat) : Int) = ((20 + 9 * e : Nat) : Int)) rfl rfl rfl rfl he
theorem gf_Ev5 {M : Mem} {e : Nat} (he : e < 4) : rd gt M (19 + 9 * e) ((5 : Nat) : Int) = ((27 + 9 * e : Nat) : Int) := e4 (P := fun e => rd gt M (19 + 9 * e) ((5 : Nat) : Int) = ((27 + 9 * e : Nat) : Int)) rfl rfl rfl rfl he
theorem gf_St0 {M : Mem} {e : Nat} (he : e < 4) : rd gt M (20 + 9 * e) ((0 : Nat) : Int) = ((21 + 9 * e : Nat) : Int) := e4 (P := fun e => rd gt M (20 + 9 * e) ((0 : Nat) : Int) = ((21 + 9 * e : Nat) : Int)) rfl rfl rfl rfl he
theorem gf_St1 {M : Mem} {e : Nat} (he : e < 4) : rd gt M (20 + 9 * e) ((1 : Nat) : Int) = ((22 + 9 * e : Nat) : Int) := e4 (P := fun e => rd gt M (20 + 9 * e) ((1 : Nat) : Int) = ((22 + 9 * e : Nat) : Int)) rfl rfl rfl rfl he
theorem gf_St2 {M : Mem} {e : Nat} (he : e < 4) : rd gt M (20 + 9 * e) ((2 : Nat) : Int) = ((23 + 9 * e : Nat) : Int) := e4 (P := fun e => rd gt M (20 + 9 * e) ((2 : Nat) : Int) = ((23 + 9 * e : Nat) : Int)) rfl rfl rfl rfl he
theorem gf_St3 {M : Mem} {e : Nat} (he : e < 4) : rd gt M (20 + 9 * e) ((3 : Nat) : Int) = ((24 + 9 * e : Nat) : Int) := e4 (P := fun e => rd gt M (20 + 9 * e) ((3 : Nat) : Int) = ((24 + 9 * e : Nat) : Int)) rfl rfl rfl rfl he
theorem gf_St4 {M : Mem} {e : Nat} (he : e < 4) : rd gt M (20 + 9 * e) ((4 : Nat) : Int) = ((25 + 9 * e : Nat) : Int) := e4 (P := fun e => rd gt M (20 + 9 * e) ((4 : Nat) : Int) = ((25 + 9 * e : Nat) : Int)) rfl rfl rfl rfl he
theorem gf_St5 {M : Mem} {e : Nat} (he : e < 4) : rd gt M (20 + 9 * e) ((5 : Nat) : Int) = ((26 + 9 * e : Nat) : Int) := e4 (P := fun e => rd gt M (20 + 9 * e) ((5 : Nat) : Int) = ((26 + 9 * e : Nat) : Int)) rfl rfl rfl rfl he
theorem kd_S0 {e : Nat} (he : e < 4) : kd (21 + 9 * e) = .inr (.int, 48) := e4 (P := fun e => kd (21 + 9 * e) = .inr (.int, 48)) rfl rfl rfl rfl he
theorem gn_S0 {e : Nat} (he : e < 4) (i : Int) : gt (21 + 9 * e) i = none := gt_arr (e4 (P := fun e => gtl.getD (21 + 9 * e) [] = []) rfl rfl rfl rfl he) i
theorem kd_S1 {e : Nat} (he : e < 4) : kd (22 + 9 * e) = .inr (.int, 48) := e4 (P := fun e => kd (22 + 9 * e) = .inr (.int, 48)) rfl rfl rfl rfl he
theorem gn_S1 {e : Nat} (he : e < 4) (i : Int) : gt (22 + 9 * e) i = none := gt_arr (e4 (P := fun e => gtl.getD (22 + 9 * e) [] = []) rfl rfl rfl rfl he) i
theorem kd_S2 {e : Nat} (he : e < 4) : kd (23 + 9 * e) = .inr (.int, 48) := e4 (P := fun e => kd (23 + 9 * e) = .inr (.int, 48)) rfl rfl rfl rfl he
theorem gn_S2 {e : Nat} (he : e < 4) (i : Int) : gt (23 + 9 * e) i = none := gt_arr (e4 (P := fun e => gtl.getD (23 + 9 * e) [] = []) rfl rfl rfl rfl he) i
theorem kd_S3 {e : Nat} (he : e < 4) : kd (24 + 9 * e) = .inr (.int, 48) := e4 (P := fun e => kd (24 + 9 * e) = .inr (.int, 48)) rfl rfl rfl rfl he
theorem gn_S3 {e : Nat} (he : e < 4) (i : Int) : gt (24 + 9 * e) i = none := gt_arr (e4 (P := fun e => gtl.getD (24 + 9 * e) [] = []) rfl rfl rfl rfl he) i
theorem kd_S4 {e : Nat} (he : e < 4) : kd (25 + 9 * e) = .inr (.int, 48) := e4 (P := fun e => kd (25 + 9 * e) = .inr (.int, 48)) rfl rfl rfl rfl he
theorem gn_S4 {e : Nat} (he : e < 4) (i : Int) : gt (25 + 9 * e) i = none := gt_arr (e4 (P := fun e => gtl.getD (25 + 9 * e) [] = []) rfl rfl rfl rfl he) i
theorem kd_S5 {e : Nat} (he : e < 4) : kd (26 + 9 * e) = .inr (.long, 48) := e4 (P := fun e => kd (26 + 9 * e) = .inr (.long, 48)) rfl rfl rfl rfl he
theorem gn_S5 {e : Nat} (he : e < 4) (i : Int) : gt (26 + 9 * e) i = none := gt_arr (e4 (P := fun e => gtl.getD (26 + 9 * e) [] = []) rfl rfl rfl rfl he) i
theorem kd_S6 {e : Nat} (he : e < 4) : kd (27 + 9 * e) = .inr (.char, 40) := e4 (P := fun e => kd (27 + 9 * e) = .inr (.char, 40)) rfl rfl rfl rfl he
theorem gn_S6 {e : Nat} (he : e < 4) (i : Int) : gt (27 + 9 * e) i = none := gt_arr (e4 (P := fun e => gtl.getD (27 + 9 * e) [] = []) rfl rfl rfl rfl he) i
def nuB (k : Int) : Bool := decide (0 ≤ k ∧ k ≤ 2)
theorem nuB_t {k : Int} : nuB k = true ↔ 0 ≤ k ∧ k ≤ 2 := decide_eq_true_iff
theorem nuB_f {k : Int} : nuB k = false ↔ ¬ (0 ≤ k ∧ k ≤ 2) := decide_eq_false_iff_not
theorem d_Ki_isNumeric_0 : decode b_Ki_isNumeric 0 = .ok (.iload_n 0, 1) := by decide +kernel
theorem d_Ki_isNumeric_1 : decode b_Ki_isNumeric 1 = .ok (.ifCond .lt 12, 3) := by decide +kernel
theorem d_Ki_isNumeric_4 : decode b_Ki_isNumeric 4 = .ok (.iload_n 0, 1) := by decide +kernel
theorem d_Ki_isNumeric_5 : decode b_Ki_isNumeric 5 = .ok (.iconst 2, 1) := by decide +kernel
theorem d_Ki_isNumeric_6 : decode b_Ki_isNumeric 6 = .ok (.if_icmp .gt 7, 3) := by decide +kernel
theorem d_Ki_isNumeric_9 : decode b_Ki_isNumeric 9 = .ok (.iconst 1, 1) := by decide +kernel
theorem d_Ki_isNumeric_10 : decode b_Ki_isNumeric 10 = .ok (.goto 4, 3) := by decide +kernel
theorem d_Ki_isNumeric_13 : decode b_Ki_isNumeric 13 = .ok (.iconst 0, 1) := by decide +kernel
theorem d_Ki_isNumeric_14 : decode b_Ki_isNumeric 14 = .ok (.ireturn, 1) := by decide +kernel
theorem g_Ki_isNumeric {X : WX} {d : Nat} (hd : 0 ≤ d) (k : Int) (M : Mem)  : MG X gt d KE KE y_Ki_isNumeric b_Ki_isNumeric 1 (some .boolean) [vi k] M (fun r M' => r = some (vi (b2i (nuB k))) ∧ M' = M) := by
  refine MG_of_G (by decide) (Nat.le_of_ble_eq_true rfl) (Nat.le_refl _) (by decide) ?_
  show G X gt d KE KE y_Ki_isNumeric b_Ki_isNumeric 1 (some .boolean) _ 0 [(0, vi k)] [] KE M
  refine G_rngl (i := 0) rfl (fun hr0 => ?_)
  refine G_iload (i := 0) (n := 0) (len := 1) (Or.inl ⟨0, rfl, rfl, d_Ki_isNumeric_0⟩) rfl (G_pc (pc' := 1) rfl ?_)
  refine G_if_lt (tgt := 13) d_Ki_isNumeric_1 (by decide) (fun h1 => ?_) (fun h1 => G_pc (pc' := 4) rfl ?_)
  · skip
    refine G_iconst (n := 0) d_Ki_isNumeric_13 (by decide) (G_pc (pc' := 14) rfl ?_)
    refine G_iret d_Ki_isNumeric_14 rfl (tokZ (by decide)) rfl rfl ?_
    exact ret_f (nuB_f.mpr (by omega)) rfl
  · skip
    refine G_iload (i := 0) (n := 0) (len := 1) (Or.inl ⟨0, rfl, rfl, d_Ki_isNumeric_4⟩) rfl (G_pc (pc' := 5) rfl ?_)
    refine G_iconst (n := 2) d_Ki_isNumeric_5 (by decide) (G_pc (pc' := 6) rfl ?_)
    refine G_icmp_gt (tgt := 13) d_Ki_isNumeric_6 (by decide) (fun h2 => ?_) (fun h2 => G_pc (pc' := 9) rfl ?_)
    · skip
      refine G_iconst (n := 0) d_Ki_isNumeric_13 (by decide) (G_pc (pc' := 14) rfl ?_)
      refine G_iret d_Ki_isNumeric_14 rfl (tokZ (by decide)) rfl rfl ?_
      exact ret_f (nuB_f.mpr (by omega)) rfl
    · skip
      refine G_iconst (n := 1) d_Ki_isNumeric_9 (by decide) (G_pc (pc' := 10) rfl ?_)
      refine G_goto (tgt := 14) d_Ki_isNumeric_10 (by decide) ?_
      refine G_iret d_Ki_isNumeric_14 rfl (tokZ (by decide)) rfl rfl ?_
      exact ret_t (nuB_t.mpr (by omega)) rfl

def clB (k : Int) : Bool := decide (4 ≤ k ∧ k ≤ 9)
theorem clB_t {k : Int} : clB k = true ↔ 4 ≤ k ∧ k ≤ 9 := decide_eq_true_iff
theorem clB_f {k : Int} : clB k = false ↔ ¬ (4 ≤ k ∧ k ≤ 9) := decide_eq_false_iff_not
theorem d_Ki_isClass_0 : decode b_Ki_isClass 0 = .ok (.iload_n 0, 1) := by decide +kernel
theorem d_Ki_isClass_1 : decode b_Ki_isClass 1 = .ok (.iconst 4, 1) := by decide +kernel
theorem d_Ki_isClass_2 : decode b_Ki_isClass 2 = .ok (.if_icmp .lt 13, 3) := by decide +kernel
theorem d_Ki_isClass_5 : decode b_Ki_isClass 5 = .ok (.iload_n 0, 1) := by decide +kernel
theorem d_Ki_isClass_6 : decode b_Ki_isClass 6 = .ok (.bipush 9, 2) := by decide +kernel
theorem d_Ki_isClass_8 : decode b_Ki_isClass 8 = .ok (.if_icmp .gt 7, 3) := by decide +kernel
theorem d_Ki_isClass_11 : decode b_Ki_isClass 11 = .ok (.iconst 1, 1) := by decide +kernel
theorem d_Ki_isClass_12 : decode b_Ki_isClass 12 = .ok (.goto 4, 3) := by decide +kernel
theorem d_Ki_isClass_15 : decode b_Ki_isClass 15 = .ok (.iconst 0, 1) := by decide +kernel
theorem d_Ki_isClass_16 : decode b_Ki_isClass 16 = .ok (.ireturn, 1) := by decide +kernel
theorem g_Ki_isClass {X : WX} {d : Nat} (hd : 0 ≤ d) (k : Int) (M : Mem)  : MG X gt d KE KE y_Ki_isClass b_Ki_isClass 1 (some .boolean) [vi k] M (fun r M' => r = some (vi (b2i (clB k))) ∧ M' = M) := by
  refine MG_of_G (by decide) (Nat.le_of_ble_eq_true rfl) (Nat.le_refl _) (by decide) ?_
  show G X gt d KE KE y_Ki_isClass b_Ki_isClass 1 (some .boolean) _ 0 [(0, vi k)] [] KE M
  refine G_rngl (i := 0) rfl (fun hr0 => ?_)
  refine G_iload (i := 0) (n := 0) (len := 1) (Or.inl ⟨0, rfl, rfl, d_Ki_isClass_0⟩) rfl (G_pc (pc' := 1) rfl ?_)
  refine G_iconst (n := 4) d_Ki_isClass_1 (by decide) (G_pc (pc' := 2) rfl ?_)
  refine G_icmp_lt (tgt := 15) d_Ki_isClass_2 (by decide) (fun h1 => ?_) (fun h1 => G_pc (pc' := 5) rfl ?_)
  · skip
    refine G_iconst (n := 0) d_Ki_isClass_15 (by decide) (G_pc (pc' := 16) rfl ?_)
    refine G_iret d_Ki_isClass_16 rfl (tokZ (by decide)) rfl rfl ?_
    exact ret_f (clB_f.mpr (by omega)) rfl
  · skip
    refine G_iload (i := 0) (n := 0) (len := 1) (Or.inl ⟨0, rfl, rfl, d_Ki_isClass_5⟩) rfl (G_pc (pc' := 6) rfl ?_)
    refine G_bipush (n := 9) d_Ki_isClass_6 (by decide) (G_pc (pc' := 8) rfl ?_)
    refine G_icmp_gt (tgt := 15) d_Ki_isClass_8 (by decide) (fun h2 => ?_) (fun h2 => G_pc (pc' := 11) rfl ?_)
    · skip
      refine G_iconst (n := 0) d_Ki_isClass_15 (by decide) (G_pc (pc' := 16) rfl ?_)
      refine G_iret d_Ki_isClass_16 rfl (tokZ (by decide)) rfl rfl ?_
      exact ret_f (clB_f.mpr (by omega)) rfl
    · skip
      refine G_iconst (n := 1) d_Ki_isClass_11 (by decide) (G_pc (pc' := 12) rfl ?_)
      refine G_goto (tgt := 16) d_Ki_isClass_12 (by decide) ?_
      refine G_iret d_Ki_isClass_16 rfl (tokZ (by decide)) rfl rfl ?_
      exact ret_t (clB_t.mpr (by omega)) rfl

def arB (k : Int) : Bool := decide (10 ≤ k ∧ k ≤ 16)
theorem arB_t {k : Int} : arB k = true ↔ 10 ≤ k ∧ k ≤ 16 := decide_eq_true_iff
theorem arB_f {k : Int} : arB k = false ↔ ¬ (10 ≤ k ∧ k ≤ 16) := decide_eq_false_iff_not
theorem d_Ki_isArray_0 : decode b_Ki_isArray 0 = .ok (.iload_n 0, 1) := by decide +kernel
theorem d_Ki_isArray_1 : decode b_Ki_isArray 1 = .ok (.bipush 10, 2) := by decide +kernel
theorem d_Ki_isArray_3 : decode b_Ki_isArray 3 = .ok (.if_icmp .lt 13, 3) := by decide +kernel
theorem d_Ki_isArray_6 : decode b_Ki_isArray 6 = .ok (.iload_n 0, 1) := by decide +kernel
theorem d_Ki_isArray_7 : decode b_Ki_isArray 7 = .ok (.bipush 16, 2) := by decide +kernel
theorem d_Ki_isArray_9 : decode b_Ki_isArray 9 = .ok (.if_icmp .gt 7, 3) := by decide +kernel
theorem d_Ki_isArray_12 : decode b_Ki_isArray 12 = .ok (.iconst 1, 1) := by decide +kernel
theorem d_Ki_isArray_13 : decode b_Ki_isArray 13 = .ok (.goto 4, 3) := by decide +kernel
theorem d_Ki_isArray_16 : decode b_Ki_isArray 16 = .ok (.iconst 0, 1) := by decide +kernel
theorem d_Ki_isArray_17 : decode b_Ki_isArray 17 = .ok (.ireturn, 1) := by decide +kernel
theorem g_Ki_isArray {X : WX} {d : Nat} (hd : 0 ≤ d) (k : Int) (M : Mem)  : MG X gt d KE KE y_Ki_isArray b_Ki_isArray 1 (some .boolean) [vi k] M (fun r M' => r = some (vi (b2i (arB k))) ∧ M' = M) := by
  refine MG_of_G (by decide) (Nat.le_of_ble_eq_true rfl) (Nat.le_refl _) (by decide) ?_
  show G X gt d KE KE y_Ki_isArray b_Ki_isArray 1 (some .boolean) _ 0 [(0, vi k)] [] KE M
  refine G_rngl (i := 0) rfl (fun hr0 => ?_)
  refine G_iload (i := 0) (n := 0) (len := 1) (Or.inl ⟨0, rfl, rfl, d_Ki_isArray_0⟩) rfl (G_pc (pc' := 1) rfl ?_)
  refine G_bipush (n := 10) d_Ki_isArray_1 (by decide) (G_pc (pc' := 3) rfl ?_)
  refine G_icmp_lt (tgt := 16) d_Ki_isArray_3 (by decide) (fun h1 => ?_) (fun h1 => G_pc (pc' := 6) rfl ?_)
  · skip
    refine G_iconst (n := 0) d_Ki_isArray_16 (by decide) (G_pc (pc' := 17) rfl ?_)
    refine G_iret d_Ki_isArray_17 rfl (tokZ (by decide)) rfl rfl ?_
    exact ret_f (arB_f.mpr (by omega)) rfl
  · skip
    refine G_iload (i := 0) (n := 0) (len := 1) (Or.inl ⟨0, rfl, rfl, d_Ki_isArray_6⟩) rfl (G_pc (pc' := 7) rfl ?_)
    refine G_bipush (n := 16) d_Ki_isArray_7 (by decide) (G_pc (pc' := 9) rfl ?_)
    refine G_icmp_gt (tgt := 16) d_Ki_isArray_9 (by decide) (fun h2 => ?_) (fun h2 => G_pc (pc' := 12) rfl ?_)
    · skip
      refine G_iconst (n := 0) d_Ki_isArray_16 (by decide) (G_pc (pc' := 17) rfl ?_)
      refine G_iret d_Ki_isArray_17 rfl (tokZ (by decide)) rfl rfl ?_
      exact ret_f (arB_f.mpr (by omega)) rfl
    · skip
      refine G_iconst (n := 1) d_Ki_isArray_12 (by decide) (G_pc (pc' := 13) rfl ?_)
      refine G_goto (tgt := 17) d_Ki_isArray_13 (by decide) ?_
      refine G_iret d_Ki_isArray_17 rfl (tokZ (by decide)) rfl rfl ?_
      exact ret_t (arB_t.mpr (by omega)) rfl

def reB (k : Int) : Bool := decide (4 ≤ k ∧ k ≤ 17)
theorem reB_t {k : Int} : reB k = true ↔ 4 ≤ k ∧ k ≤ 17 := decide_eq_true_iff
theorem reB_f {k : Int} : reB k = false ↔ ¬ (4 ≤ k ∧ k ≤ 17) := decide_eq_false_iff_not
theorem d_Ki_isReference_0 : decode b_Ki_isReference 0 = .ok (.iload_n 0, 1) := by decide +kernel
theorem d_Ki_isReference_1 : decode b_Ki_isReference 1 = .ok (.iconst 4, 1) := by decide +kernel
theorem d_Ki_isReference_2 : decode b_Ki_isReference 2 = .ok (.if_icmp .lt 13, 3) := by decide +kernel
theorem d_Ki_isReference_5 : decode b_Ki_isReference 5 = .ok (.iload_n 0, 1) := by decide +kernel
theorem d_Ki_isReference_6 : decode b_Ki_isReference 6 = .ok (.bipush 17, 2) := by decide +kernel
theorem d_Ki_isReference_8 : decode b_Ki_isReference 8 = .ok (.if_icmp .gt 7, 3) := by decide +kernel
theorem d_Ki_isReference_11 : decode b_Ki_isReference 11 = .ok (.iconst 1, 1) := by decide +kernel
theorem d_Ki_isReference_12 : decode b_Ki_isReference 12 = .ok (.goto 4, 3) := by decide +kernel
theorem d_Ki_isReference_15 : decode b_Ki_isReference 15 = .ok (.iconst 0, 1) := by decide +kernel
theorem d_Ki_isReference_16 : decode b_Ki_isReference 16 = .ok (.ireturn, 1) := by decide +kernel
theorem g_Ki_isReference {X : WX} {d : Nat} (hd : 0 ≤ d) (k : Int) (M : Mem)  : MG X gt d KE KE y_Ki_isReference b_Ki_isReference 1 (some .boolean) [vi k] M (fun r M' => r = some (vi (b2i (reB k))) ∧ M' = M) := by
  refine MG_of_G (by decide) (Nat.le_of_ble_eq_true rfl) (Nat.le_refl _) (by decide) ?_
  show G X gt d KE KE y_Ki_isReference b_Ki_isReference 1 (some .boolean) _ 0 [(0, vi k)] [] KE M
  refine G_rngl (i := 0) rfl (fun hr0 => ?_)
  refine G_iload (i := 0) (n := 0) (len := 1) (Or.inl ⟨0, rfl, rfl, d_Ki_isReference_0⟩) rfl (G_pc (pc' := 1) rfl ?_)
  refine G_iconst (n := 4) d_Ki_isReference_1 (by decide) (G_pc (pc' := 2) rfl ?_)
  refine G_icmp_lt (tgt := 15) d_Ki_isReference_2 (by decide) (fun h1 => ?_) (fun h1 => G_pc (pc' := 5) rfl ?_)
  · skip
    refine G_iconst (n := 0) d_Ki_isReference_15 (by decide) (G_pc (pc' := 16) rfl ?_)
    refine G_iret d_Ki_isReference_16 rfl (tokZ (by decide)) rfl rfl ?_
    exact ret_f (reB_f.mpr (by omega)) rfl
  · skip
    refine G_iload (i := 0) (n := 0) (len := 1) (Or.inl ⟨0, rfl, rfl, d_Ki_isReference_5⟩) rfl (G_pc (pc' := 6) rfl ?_)
    refine G_bipush (n := 17) d_Ki_isReference_6 (by decide) (G_pc (pc' := 8) rfl ?_)
    refine G_icmp_gt (tgt := 15) d_Ki_isReference_8 (by decide) (fun h2 => ?_) (fun h2 => G_pc (pc' := 11) rfl ?_)
    · skip
      refine G_iconst (n := 0) d_Ki_isReference_15 (by decide) (G_pc (pc' := 16) rfl ?_)
      refine G_iret d_Ki_isReference_16 rfl (tokZ (by decide)) rfl rfl ?_
      exact ret_f (reB_f.mpr (by omega)) rfl
    · skip
      refine G_iconst (n := 1) d_Ki_isReference_11 (by decide) (G_pc (pc' := 12) rfl ?_)
      refine G_goto (tgt := 16) d_Ki_isReference_12 (by decide) ?_
      refine G_iret d_Ki_isReference_16 rfl (tokZ (by decide)) rfl rfl ?_
      exact ret_t (reB_t.mpr (by omega)) rfl

def elD (a : Int) : Int := if a = 10 then 0 else a - 11 + 4
theorem d_Ki_elementOf_0 : decode b_Ki_elementOf 0 = .ok (.iload_n 0, 1) := by decide +kernel
theorem d_Ki_elementOf_1 : decode b_Ki_elementOf 1 = .ok (.bipush 10, 2) := by decide +kernel
theorem d_Ki_elementOf_3 : decode b_Ki_elementOf 3 = .ok (.if_icmp .ne 7, 3) := by decide +kernel
theorem d_Ki_elementOf_6 : decode b_Ki_elementOf 6 = .ok (.iconst 0, 1) := by decide +kernel
theorem d_Ki_elementOf_7 : decode b_Ki_elementOf 7 = .ok (.goto 9, 3) := by decide +kernel
theorem d_Ki_elementOf_10 : decode b_Ki_elementOf 10 = .ok (.iload_n 0, 1) := by decide +kernel
theorem d_Ki_elementOf_11 : decode b_Ki_elementOf 11 = .ok (.bipush 11, 2) := by decide +kernel
theorem d_Ki_elementOf_13 : decode b_Ki_elementOf 13 = .ok (.isub, 1) := by decide +kernel
theorem d_Ki_elementOf_14 : decode b_Ki_elementOf 14 = .ok (.iconst 4, 1) := by decide +kernel
theorem d_Ki_elementOf_15 : decode b_Ki_elementOf 15 = .ok (.iadd, 1) := by decide +kernel
theorem d_Ki_elementOf_16 : decode b_Ki_elementOf 16 = .ok (.ireturn, 1) := by decide +kernel
theorem g_Ki_elementOf {X : WX} {d : Nat} (hd : 0 ≤ d) (a : Int) (M : Mem) (ha : 0 ≤ a ∧ a < 18) : MG X gt d KE KE y_Ki_elementOf b_Ki_elementOf 1 (some .int) [vi a] M (fun r M' => r = some (vi (elD a)) ∧ M' = M) := by
  refine MG_of_G (by decide) (Nat.le_of_ble_eq_true rfl) (Nat.le_refl _) (by decide) ?_
  show G X gt d KE KE y_Ki_elementOf b_Ki_elementOf 1 (some .int) _ 0 [(0, vi a)] [] KE M
  refine G_rngl (i := 0) rfl (fun hr0 => ?_)
  refine G_iload (i := 0) (n := 0) (len := 1) (Or.inl ⟨0, rfl, rfl, d_Ki_elementOf_0⟩) rfl (G_pc (pc' := 1) rfl ?_)
  refine G_bipush (n := 10) d_Ki_elementOf_1 (by decide) (G_pc (pc' := 3) rfl ?_)
  refine G_icmp_ne (tgt := 10) d_Ki_elementOf_3 (by decide) (fun h1 => ?_) (fun h1 => G_pc (pc' := 6) rfl ?_)
  · skip
    refine G_iload (i := 0) (n := 0) (len := 1) (Or.inl ⟨0, rfl, rfl, d_Ki_elementOf_10⟩) rfl (G_pc (pc' := 11) rfl ?_)
    refine G_bipush (n := 11) d_Ki_elementOf_11 (by decide) (G_pc (pc' := 13) rfl ?_)
    refine G_isub d_Ki_elementOf_13 (by omega) (G_pc (pc' := 14) rfl ?_)
    refine G_iconst (n := 4) d_Ki_elementOf_14 (by decide) (G_pc (pc' := 15) rfl ?_)
    refine G_iadd d_Ki_elementOf_15 (by omega) (G_pc (pc' := 16) rfl ?_)
    refine G_iret d_Ki_elementOf_16 rfl (tokI (by omega)) rfl rfl ?_
    exact ret_e (by unfold elD; grind) rfl
  · skip
    refine G_iconst (n := 0) d_Ki_elementOf_6 (by decide) (G_pc (pc' := 7) rfl ?_)
    refine G_goto (tgt := 16) d_Ki_elementOf_7 (by decide) ?_
    refine G_iret d_Ki_elementOf_16 rfl (tokI (by decide)) rfl rfl ?_
    exact ret_e (by unfold elD; grind) rfl

def aoD (k : Int) : Int := if k = 0 then 10 else if 4 ≤ k ∧ k ≤ 9 then k - 4 + 11 else -1
theorem d_Ki_arrayOf_0 : decode b_Ki_arrayOf 0 = .ok (.iload_n 0, 1) := by decide +kernel
theorem d_Ki_arrayOf_1 : decode b_Ki_arrayOf 1 = .ok (.ifCond .ne 6, 3) := by decide +kernel
theorem d_Ki_arrayOf_4 : decode b_Ki_arrayOf 4 = .ok (.bipush 10, 2) := by decide +kernel
theorem d_Ki_arrayOf_6 : decode b_Ki_arrayOf 6 = .ok (.ireturn, 1) := by decide +kernel
theorem d_Ki_arrayOf_7 : decode b_Ki_arrayOf 7 = .ok (.iload_n 0, 1) := by decide +kernel
theorem d_Ki_arrayOf_8 : decode b_Ki_arrayOf 8 = .ok (.invokestatic 9, 3) := by decide +kernel
theorem d_Ki_arrayOf_11 : decode b_Ki_arrayOf 11 = .ok (.ifCond .eq 12, 3) := by decide +kernel
theorem d_Ki_arrayOf_14 : decode b_Ki_arrayOf 14 = .ok (.iload_n 0, 1) := by decide +kernel
theorem d_Ki_arrayOf_15 : decode b_Ki_arrayOf 15 = .ok (.iconst 4, 1) := by decide +kernel
theorem d_Ki_arrayOf_16 : decode b_Ki_arrayOf 16 = .ok (.isub, 1) := by decide +kernel
theorem d_Ki_arrayOf_17 : decode b_Ki_arrayOf 17 = .ok (.bipush 11, 2) := by decide +kernel
theorem d_Ki_arrayOf_19 : decode b_Ki_arrayOf 19 = .ok (.iadd, 1) := by decide +kernel
theorem d_Ki_arrayOf_20 : decode b_Ki_arrayOf 20 = .ok (.goto 4, 3) := by decide +kernel
theorem d_Ki_arrayOf_23 : decode b_Ki_arrayOf 23 = .ok (.iconst (-1), 1) := by decide +kernel
theorem d_Ki_arrayOf_24 : decode b_Ki_arrayOf 24 = .ok (.ireturn, 1) := by decide +kernel
theorem g_Ki_arrayOf {X : WX} {d : Nat} (hd : 1 ≤ d) (k : Int) (M : Mem)  : MG X gt d KE KE y_Ki_arrayOf b_Ki_arrayOf 1 (some .int) [vi k] M (fun r M' => r = some (vi (aoD k)) ∧ M' = M) := by
  refine MG_of_G (by decide) (Nat.le_of_ble_eq_true rfl) (Nat.le_refl _) (by decide) ?_
  show G X gt d KE KE y_Ki_arrayOf b_Ki_arrayOf 1 (some .int) _ 0 [(0, vi k)] [] KE M
  refine G_rngl (i := 0) rfl (fun hr0 => ?_)
  refine G_iload (i := 0) (n := 0) (len := 1) (Or.inl ⟨0, rfl, rfl, d_Ki_arrayOf_0⟩) rfl (G_pc (pc' := 1) rfl ?_)
  refine G_if_ne (tgt := 7) d_Ki_arrayOf_1 (by decide) (fun h1 => ?_) (fun h1 => G_pc (pc' := 4) rfl ?_)
  · skip
    refine G_iload (i := 0) (n := 0) (len := 1) (Or.inl ⟨0, rfl, rfl, d_Ki_arrayOf_7⟩) rfl (G_pc (pc' := 8) rfl ?_)
    refine G_callS (K1 := KE) (d2 := 0) (as := [vi k]) (rest := []) d_Ki_arrayOf_8 mf_Ki_isClass ml_Ki_9 rfl rfl (Nat.le_of_ble_eq_true rfl) (by omega) ⟨Nat.le_refl _, Nat.le_refl _⟩ (g_Ki_isClass (by omega) k _) (fun r2 M3 kq4 q4 => ?_)
    clear kq4; obtain ⟨q4a, q4b⟩ := q4; subst r2; subst M3
    refine G_ps (pc' := 11) (st' := [vi (b2i (clB k))]) rfl rfl ?_
    refine G_if_eq (tgt := 23) d_Ki_arrayOf_11 (by decide) (fun h5 => ?_) (fun h5 => G_pc (pc' := 14) rfl ?_)
    · skip
      replace h5 := b2i_0.mp h5
      replace h5 := clB_f.mp h5
      refine G_iconst (n := (-1)) d_Ki_arrayOf_23 (by decide) (G_pc (pc' := 24) rfl ?_)
      refine G_iret d_Ki_arrayOf_24 rfl (tokI (by decide)) rfl rfl ?_
      exact ret_e (by unfold aoD; grind) rfl
    · skip
      replace h5 := b2i_nz.mp h5
      replace h5 := clB_t.mp h5
      refine G_iload (i := 0) (n := 0) (len := 1) (Or.inl ⟨0, rfl, rfl, d_Ki_arrayOf_14⟩) rfl (G_pc (pc' := 15) rfl ?_)
      refine G_iconst (n := 4) d_Ki_arrayOf_15 (by decide) (G_pc (pc' := 16) rfl ?_)
      refine G_isub d_Ki_arrayOf_16 (by omega) (G_pc (pc' := 17) rfl ?_)
      refine G_bipush (n := 11) d_Ki_arrayOf_17 (by decide) (G_pc (pc' := 19) rfl ?_)
      refine G_iadd d_Ki_arrayOf_19 (by omega) (G_pc (pc' := 20) rfl ?_)
      refine G_goto (tgt := 24) d_Ki_arrayOf_20 (by decide) ?_
      refine G_iret d_Ki_arrayOf_24 rfl (tokI (by omega)) rfl rfl ?_
      exact ret_e (by unfold aoD; grind) rfl
  · skip
    refine G_bipush (n := 10) d_Ki_arrayOf_4 (by decide) (G_pc (pc' := 6) rfl ?_)
    refine G_iret d_Ki_arrayOf_6 rfl (tokI (by decide)) rfl rfl ?_
    exact ret_e (by unfold aoD; grind) rfl

def coD (a b : Int) : Int := if ¬ (0 ≤ a ∧ a ≤ 2) ∨ ¬ (0 ≤ b ∧ b ≤ 2) then -1 else if a = 1 ∨ b = 1 then 1 else 0
theorem d_Ki_common_0 : decode b_Ki_common 0 = .ok (.iload_n 0, 1) := by decide +kernel
theorem d_Ki_common_1 : decode b_Ki_common 1 = .ok (.invokestatic 15, 3) := by decide +kernel
theorem d_Ki_common_4 : decode b_Ki_common 4 = .ok (.ifCond .eq 10, 3) := by decide +kernel
theorem d_Ki_common_7 : decode b_Ki_common 7 = .ok (.iload_n 1, 1) := by decide +kernel
theorem d_Ki_common_8 : decode b_Ki_common 8 = .ok (.invokestatic 15, 3) := by decide +kernel
theorem d_Ki_common_11 : decode b_Ki_common 11 = .ok (.ifCond .ne 5, 3) := by decide +kernel
theorem d_Ki_common_14 : decode b_Ki_common 14 = .ok (.iconst (-1), 1) := by decide +kernel
theorem d_Ki_common_15 : decode b_Ki_common 15 = .ok (.ireturn, 1) := by decide +kernel
theorem d_Ki_common_16 : decode b_Ki_common 16 = .ok (.iload_n 0, 1) := by decide +kernel
theorem d_Ki_common_17 : decode b_Ki_common 17 = .ok (.iconst 1, 1) := by decide +kernel
theorem d_Ki_common_18 : decode b_Ki_common 18 = .ok (.if_icmp .eq 8, 3) := by decide +kernel
theorem d_Ki_common_21 : decode b_Ki_common 21 = .ok (.iload_n 1, 1) := by decide +kernel
theorem d_Ki_common_22 : decode b_Ki_common 22 = .ok (.iconst 1, 1) := by decide +kernel
theorem d_Ki_common_23 : decode b_Ki_common 23 = .ok (.if_icmp .ne 7, 3) := by decide +kernel
theorem d_Ki_common_26 : decode b_Ki_common 26 = .ok (.iconst 1, 1) := by decide +kernel
theorem d_Ki_common_27 : decode b_Ki_common 27 = .ok (.goto 4, 3) := by decide +kernel
theorem d_Ki_common_30 : decode b_Ki_common 30 = .ok (.iconst 0, 1) := by decide +kernel
theorem d_Ki_common_31 : decode b_Ki_common 31 = .ok (.ireturn, 1) := by decide +kernel
theorem g_Ki_common {X : WX} {d : Nat} (hd : 1 ≤ d) (a b : Int) (M : Mem)  : MG X gt d KE KE y_Ki_common b_Ki_common 2 (some .int) [vi a, vi b] M (fun r M' => r = some (vi (coD a b)) ∧ M' = M) := by
  refine MG_of_G (by decide) (Nat.le_of_ble_eq_true rfl) (Nat.le_refl _) (by decide) ?_
  show G X gt d KE KE y_Ki_common b_Ki_common 2 (some .int) _ 0 [(0, vi a), (1, vi b)] [] KE M
  refine G_rngl (i := 0) rfl (fun hr0 => ?_)
  refine G_rngl (i := 1) rfl (fun hr1 => ?_)
  refine G_iload (i := 0) (n := 0) (len := 1) (Or.inl ⟨0, rfl, rfl, d_Ki_common_0⟩) rfl (G_pc (pc' := 1) rfl ?_)
  refine G_callS (K1 := KE) (d2 := 0) (as := [vi a]) (rest := []) d_Ki_common_1 mf_Ki_isNumeric ml_Ki_15 rfl rfl (Nat.le_of_ble_eq_true rfl) (by omega) ⟨Nat.le_refl _, Nat.le_refl _⟩ (g_Ki_isNumeric (by omega) a _) (fun r1 M2 kq3 q3 => ?_)
  clear kq3; obtain ⟨q3a, q3b⟩ := q3; subst r1; subst M2
  refine G_ps (pc' := 4) (st' := [vi (b2i (nuB a))]) rfl rfl ?_
  refine G_if_eq (tgt := 14) d_Ki_common_4 (by decide) (fun h4 => ?_) (fun h4 => G_pc (pc' := 7) rfl ?_)
  · skip
    replace h4 := b2i_0.mp h4
    replace h4 := nuB_f.mp h4
    refine G_iconst (n := (-1)) d_Ki_common_14 (by decide) (G_pc (pc' := 15) rfl ?_)
    refine G_iret d_Ki_common_15 rfl (tokI (by decide)) rfl rfl ?_
    exact ret_e (by unfold coD; grind) rfl
  · skip
    replace h4 := b2i_nz.mp h4
    replace h4 := nuB_t.mp h4
    refine G_iload (i := 1) (n := 1) (len := 1) (Or.inl ⟨1, rfl, rfl, d_Ki_common_7⟩) rfl (G_pc (pc' := 8) rfl ?_)
    refine G_callS (K1 := KE) (d2 := 0) (as := [vi b]) (rest := []) d_Ki_common_8 mf_Ki_isNumeric ml_Ki_15 rfl rfl (Nat.le_of_ble_eq_true rfl) (by omega) ⟨Nat.le_refl _, Nat.le_refl _⟩ (g_Ki_isNumeric (by omega) b _) (fun r5 M6 kq7 q7 => ?_)
    clear kq7; obtain ⟨q7a, q7b⟩ := q7; subst r5; subst M6
    refine G_ps (pc' := 11) (st' := [vi (b2i (nuB b))]) rfl rfl ?_
    refine G_if_ne (tgt := 16) d_Ki_common_11 (by decide) (fun h8 => ?_) (fun h8 => G_pc (pc' := 14) rfl ?_)
    · skip
      replace h8 := b2i_nz.mp h8
      replace h8 := nuB_t.mp h8
      refine G_iload (i := 0) (n := 0) (len := 1) (Or.inl ⟨0, rfl, rfl, d_Ki_common_16⟩) rfl (G_pc (pc' := 17) rfl ?_)
      refine G_iconst (n := 1) d_Ki_common_17 (by decide) (G_pc (pc' := 18) rfl ?_)
      refine G_icmp_eq (tgt := 26) d_Ki_common_18 (by decide) (fun h9 => ?_) (fun h9 => G_pc (pc' := 21) rfl ?_)
      · skip
        refine G_iconst (n := 1) d_Ki_common_26 (by decide) (G_pc (pc' := 27) rfl ?_)
        refine G_goto (tgt := 31) d_Ki_common_27 (by decide) ?_
        refine G_iret d_Ki_common_31 rfl (tokI (by decide)) rfl rfl ?_
        exact ret_e (by unfold coD; grind) rfl
      · skip
        refine G_iload (i := 1) (n := 1) (len := 1) (Or.inl ⟨1, rfl, rfl, d_Ki_common_21⟩) rfl (G_pc (pc' := 22) rfl ?_)
        refine G_iconst (n := 1) d_Ki_common_22 (by decide) (G_pc (pc' := 23) rfl ?_)
        refine G_icmp_ne (tgt := 30) d_Ki_common_23 (by decide) (fun h10 => ?_) (fun h10 => G_pc (pc' := 26) rfl ?_)
        · skip
          refine G_iconst (n := 0) d_Ki_common_30 (by decide) (G_pc (pc' := 31) rfl ?_)
          refine G_iret d_Ki_common_31 rfl (tokI (by decide)) rfl rfl ?_
          exact ret_e (by unfold coD; grind) rfl
        · skip
          refine G_iconst (n := 1) d_Ki_common_26 (by decide) (G_pc (pc' := 27) rfl ?_)
          refine G_goto (tgt := 31) d_Ki_common_27 (by decide) ?_
          refine G_iret d_Ki_common_31 rfl (tokI (by decide)) rfl rfl ?_
          exact ret_e (by unfold coD; grind) rfl
    · skip
      replace h8 := b2i_0.mp h8
      replace h8 := nuB_f.mp h8
      refine G_iconst (n := (-1)) d_Ki_common_14 (by decide) (G_pc (pc' := 15) rfl ?_)
      refine G_iret d_Ki_common_15 rfl (tokI (by decide)) rfl rfl ?_
      exact ret_e (by unfold coD; grind) rfl

theorem coD_rng (a b : Int) : -1 ≤ coD a b ∧ coD a b ≤ 1 := by unfold coD; grind
theorem d_Ki_promoted_0 : decode b_Ki_promoted 0 = .ok (.iload_n 0, 1) := by decide +kernel
theorem d_Ki_promoted_1 : decode b_Ki_promoted 1 = .ok (.iconst 0, 1) := by decide +kernel
theorem d_Ki_promoted_2 : decode b_Ki_promoted 2 = .ok (.invokestatic 18, 3) := by decide +kernel
theorem d_Ki_promoted_5 : decode b_Ki_promoted 5 = .ok (.ireturn, 1) := by decide +kernel
theorem g_Ki_promoted {X : WX} {d : Nat} (hd : 2 ≤ d) (a : Int) (M : Mem)  : MG X gt d KE KE y_Ki_promoted b_Ki_promoted 1 (some .int) [vi a] M (fun r M' => r = some (vi (coD a 0)) ∧ M' = M) := by
  refine MG_of_G (by decide) (Nat.le_of_ble_eq_true rfl) (Nat.le_refl _) (by decide) ?_
  show G X gt d KE KE y_Ki_promoted b_Ki_promoted 1 (some .int) _ 0 [(0, vi a)] [] KE M
  refine G_rngl (i := 0) rfl (fun hr0 => ?_)
  refine G_iload (i := 0) (n := 0) (len := 1) (Or.inl ⟨0, rfl, rfl, d_Ki_promoted_0⟩) rfl (G_pc (pc' := 1) rfl ?_)
  refine G_iconst (n := 0) d_Ki_promoted_1 (by decide) (G_pc (pc' := 2) rfl ?_)
  refine G_callS (K1 := KE) (d2 := 1) (as := [vi a, vi 0]) (rest := []) d_Ki_promoted_2 mf_Ki_common ml_Ki_18 rfl rfl (Nat.le_of_ble_eq_true rfl) (by omega) ⟨Nat.le_refl _, Nat.le_refl _⟩ (g_Ki_common (by omega) a 0 _) (fun r1 M2 kq3 q3 => ?_)
  clear kq3; obtain ⟨q3a, q3b⟩ := q3; subst r1; subst M2
  refine G_ps (pc' := 5) (st' := [vi (coD a 0)]) rfl rfl ?_
  refine G_iret d_Ki_promoted_5 rfl (tokI (by have := coD_rng a 0; omega)) rfl rfl ?_
  exact ret_e rfl rfl

def abB (a b : Int) : Bool := decide (a = 3 ∧ b = 3)
theorem abB_t {a b : Int} : abB a b = true ↔ a = 3 ∧ b = 3 := decide_eq_true_iff
theorem abB_f {a b : Int} : abB a b = false ↔ ¬ (a = 3 ∧ b = 3) := decide_eq_false_iff_not
theorem d_Ki_areBoolean_0 : decode b_Ki_areBoolean 0 = .ok (.iload_n 0, 1) := by decide +kernel
theorem d_Ki_areBoolean_1 : decode b_Ki_areBoolean 1 = .ok (.iconst 3, 1) := by decide +kernel
theorem d_Ki_areBoolean_2 : decode b_Ki_areBoolean 2 = .ok (.if_icmp .ne 12, 3) := by decide +kernel
theorem d_Ki_areBoolean_5 : decode b_Ki_areBoolean 5 = .ok (.iload_n 1, 1) := by decide +kernel
theorem d_Ki_areBoolean_6 : decode b_Ki_areBoolean 6 = .ok (.iconst 3, 1) := by decide +kernel
theorem d_Ki_areBoolean_7 : decode b_Ki_areBoolean 7 = .ok (.if_icmp .ne 7, 3) := by decide +kernel
theorem d_Ki_areBoolean_10 : decode b_Ki_areBoolean 10 = .ok (.iconst 1, 1) := by decide +kernel
theorem d_Ki_areBoolean_11 : decode b_Ki_areBoolean 11 = .ok (.goto 4, 3) := by decide +kernel
theorem d_Ki_areBoolean_14 : decode b_Ki_areBoolean 14 = .ok (.iconst 0, 1) := by decide +kernel
theorem d_Ki_areBoolean_15 : decode b_Ki_areBoolean 15 = .ok (.ireturn, 1) := by decide +kernel
theorem g_Ki_areBoolean {X : WX} {d : Nat} (hd : 0 ≤ d) (a b : Int) (M : Mem)  : MG X gt d KE KE y_Ki_areBoolean b_Ki_areBoolean 2 (some .boolean) [vi a, vi b] M (fun r M' => r = some (vi (b2i (abB a b))) ∧ M' = M) := by
  refine MG_of_G (by decide) (Nat.le_of_ble_eq_true rfl) (Nat.le_refl _) (by decide) ?_
  show G X gt d KE KE y_Ki_areBoolean b_Ki_areBoolean 2 (some .boolean) _ 0 [(0, vi a), (1, vi b)] [] KE M
  refine G_rngl (i := 0) rfl (fun hr0 => ?_)
  refine G_rngl (i := 1) rfl (fun hr1 => ?_)
  refine G_iload (i := 0) (n := 0) (len := 1) (Or.inl ⟨0, rfl, rfl, d_Ki_areBoolean_0⟩) rfl (G_pc (pc' := 1) rfl ?_)
  refine G_iconst (n := 3) d_Ki_areBoolean_1 (by decide) (G_pc (pc' := 2) rfl ?_)
  refine G_icmp_ne (tgt := 14) d_Ki_areBoolean_2 (by decide) (fun h1 => ?_) (fun h1 => G_pc (pc' := 5) rfl ?_)
  · skip
    refine G_iconst (n := 0) d_Ki_areBoolean_14 (by decide) (G_pc (pc' := 15) rfl ?_)
    refine G_iret d_Ki_areBoolean_15 rfl (tokZ (by decide)) rfl rfl ?_
    exact ret_f (abB_f.mpr (by omega)) rfl
  · skip
    refine G_iload (i := 1) (n := 1) (len := 1) (Or.inl ⟨1, rfl, rfl, d_Ki_areBoolean_5⟩) rfl (G_pc (pc' := 6) rfl ?_)
    refine G_iconst (n := 3) d_Ki_areBoolean_6 (by decide) (G_pc (pc' := 7) rfl ?_)
    refine G_icmp_ne (tgt := 14) d_Ki_areBoolean_7 (by decide) (fun h2 => ?_) (fun h2 => G_pc (pc' := 10) rfl ?_)
    · skip
      refine G_iconst (n := 0) d_Ki_areBoolean_14 (by decide) (G_pc (pc' := 15) rfl ?_)
      refine G_iret d_Ki_areBoolean_15 rfl (tokZ (by decide)) rfl rfl ?_
      exact ret_f (abB_f.mpr (by omega)) rfl
    · skip
      refine G_iconst (n := 1) d_Ki_areBoolean_10 (by decide) (G_pc (pc' := 11) rfl ?_)
      refine G_goto (tgt := 15) d_Ki_areBoolean_11 (by decide) ?_
      refine G_iret d_Ki_areBoolean_15 rfl (tokZ (by decide)) rfl rfl ?_
      exact ret_t (abB_t.mpr (by omega)) rfl

def naD (k v : Int) : Int := if k = 0 then w32 v else if k = 2 then w32 v % 65536 else v
theorem d_Ki_narrowed_0 : decode b_Ki_narrowed 0 = .ok (.iload_n 0, 1) := by decide +kernel
theorem d_Ki_narrowed_1 : decode b_Ki_narrowed 1 = .ok (.ifCond .ne 7, 3) := by decide +kernel
theorem d_Ki_narrowed_4 : decode b_Ki_narrowed 4 = .ok (.lload_n 1, 1) := by decide +kernel
theorem d_Ki_narrowed_5 : decode b_Ki_narrowed 5 = .ok (.l2i, 1) := by decide +kernel
theorem d_Ki_narrowed_6 : decode b_Ki_narrowed 6 = .ok (.i2l, 1) := by decide +kernel
theorem d_Ki_narrowed_7 : decode b_Ki_narrowed 7 = .ok (.lreturn, 1) := by decide +kernel
theorem d_Ki_narrowed_8 : decode b_Ki_narrowed 8 = .ok (.iload_n 0, 1) := by decide +kernel
theorem d_Ki_narrowed_9 : decode b_Ki_narrowed 9 = .ok (.iconst 2, 1) := by decide +kernel
theorem d_Ki_narrowed_10 : decode b_Ki_narrowed 10 = .ok (.if_icmp .ne 10, 3) := by decide +kernel
theorem d_Ki_narrowed_13 : decode b_Ki_narrowed 13 = .ok (.lload_n 1, 1) := by decide +kernel
theorem d_Ki_narrowed_14 : decode b_Ki_narrowed 14 = .ok (.l2i, 1) := by decide +kernel
theorem d_Ki_narrowed_15 : decode b_Ki_narrowed 15 = .ok (.i2c, 1) := by decide +kernel
theorem d_Ki_narrowed_16 : decode b_Ki_narrowed 16 = .ok (.i2l, 1) := by decide +kernel
theorem d_Ki_narrowed_17 : decode b_Ki_narrowed 17 = .ok (.goto 4, 3) := by decide +kernel
theorem d_Ki_narrowed_20 : decode b_Ki_narrowed 20 = .ok (.lload_n 1, 1) := by decide +kernel
theorem d_Ki_narrowed_21 : decode b_Ki_narrowed 21 = .ok (.lreturn, 1) := by decide +kernel
theorem g_Ki_narrowed {X : WX} {d : Nat} (hd : 0 ≤ d) (k v : Int) (M : Mem)  : MG X gt d KE KE y_Ki_narrowed b_Ki_narrowed 3 (some .long) [vi k, vl v] M (fun r M' => r = some (vl (naD k v)) ∧ M' = M) := by
  refine MG_of_G (by decide) (Nat.le_of_ble_eq_true rfl) (Nat.le_refl _) (by decide) ?_
  show G X gt d KE KE y_Ki_narrowed b_Ki_narrowed 3 (some .long) _ 0 [(0, vi k), (1, vl v)] [] KE M
  refine G_rngl (i := 0) rfl (fun hr0 => ?_)
  refine G_rngL (i := 1) rfl (fun hr1 => ?_)
  refine G_iload (i := 0) (n := 0) (len := 1) (Or.inl ⟨0, rfl, rfl, d_Ki_narrowed_0⟩) rfl (G_pc (pc' := 1) rfl ?_)
  refine G_if_ne (tgt := 8) d_Ki_narrowed_1 (by decide) (fun h1 => ?_) (fun h1 => G_pc (pc' := 4) rfl ?_)
  · skip
    refine G_iload (i := 0) (n := 0) (len := 1) (Or.inl ⟨0, rfl, rfl, d_Ki_narrowed_8⟩) rfl (G_pc (pc' := 9) rfl ?_)
    refine G_iconst (n := 2) d_Ki_narrowed_9 (by decide) (G_pc (pc' := 10) rfl ?_)
    refine G_icmp_ne (tgt := 20) d_Ki_narrowed_10 (by decide) (fun h2 => ?_) (fun h2 => G_pc (pc' := 13) rfl ?_)
    · skip
      refine G_lload (i := 1) (n := 1) (len := 1) (Or.inl ⟨1, rfl, rfl, d_Ki_narrowed_20⟩) rfl (G_pc (pc' := 21) rfl ?_)
      refine G_lret d_Ki_narrowed_21 rfl rfl ?_
      exact ret_l (by unfold naD; grind) rfl
    · skip
      refine G_lload (i := 1) (n := 1) (len := 1) (Or.inl ⟨1, rfl, rfl, d_Ki_narrowed_13⟩) rfl (G_pc (pc' := 14) rfl ?_)
      refine G_l2i d_Ki_narrowed_14 (G_pc (pc' := 15) rfl ?_)
      refine G_i2c d_Ki_narrowed_15 (G_pc (pc' := 16) rfl ?_)
      refine G_i2l d_Ki_narrowed_16 (G_pc (pc' := 17) rfl ?_)
      refine G_goto (tgt := 21) d_Ki_narrowed_17 (by decide) ?_
      refine G_lret d_Ki_narrowed_21 rfl rfl ?_
      exact ret_l (by unfold naD; grind) rfl
  · skip
    refine G_lload (i := 1) (n := 1) (len := 1) (Or.inl ⟨1, rfl, rfl, d_Ki_narrowed_4⟩) rfl (G_pc (pc' := 5) rfl ?_)
    refine G_l2i d_Ki_narrowed_5 (G_pc (pc' := 6) rfl ?_)
    refine G_i2l d_Ki_narrowed_6 (G_pc (pc' := 7) rfl ?_)
    refine G_lret d_Ki_narrowed_7 rfl rfl ?_
    exact ret_l (by unfold naD; grind) rfl

theorem d_St_clear_0 : decode b_St_clear 0 = .ok (.aload_n 0, 1) := by decide +kernel
theorem d_St_clear_1 : decode b_St_clear 1 = .ok (.iconst 0, 1) := by decide +kernel
theorem d_St_clear_2 : decode b_St_clear 2 = .ok (.putfield 31, 3) := by decide +kernel
theorem d_St_clear_5 : decode b_St_clear 5 = .ok (.return_, 1) := by decide +kernel
theorem g_St_clear {X : WX} {d : Nat} (hd : 0 ≤ d) (e : Nat) (M : Mem) (he : e < 4) : MG X gt d KE KE y_St_clear b_St_clear 1 none [vr ((20 + 9 * e : Nat) : Int)] M (fun r M' => r = none ∧ M' = mset M (20 + 9 * e) 6 0) := by
  refine MG_of_G (by decide) (Nat.le_of_ble_eq_true rfl) (Nat.le_refl _) (by decide) ?_
  show G X gt d KE KE y_St_clear b_St_clear 1 none _ 0 [(0, vr ((20 + 9 * e : Nat) : Int))] [] KE M
  refine G_aload (i := 0) (n := 0) (len := 1) (Or.inl ⟨0, rfl, rfl, d_St_clear_0⟩) rfl (by omega) (G_pc (pc' := 1) rfl ?_)
  refine G_iconst (n := 0) d_St_clear_1 (by decide) (G_pc (pc' := 2) rfl ?_)
  refine G_putL (o := (20 + 9 * e)) (c := 5) (k := 6) (ki := 6) (x := 0) d_St_clear_2 fl_St_31 rfl (kd_St he) (by decide) (by show 20 + 9 * e < 87; omega) (by decide) rfl (gn_St he) (tokI (by decide)) rfl (G_pc (pc' := 5) rfl ?_)
  refine G_vret d_St_clear_5 rfl rfl ?_
  exact ⟨rfl, rfl⟩

theorem d_St_size_0 : decode b_St_size 0 = .ok (.aload_n 0, 1) := by decide +kernel
theorem d_St_size_1 : decode b_St_size 1 = .ok (.getfield 31, 3) := by decide +kernel
theorem d_St_size_4 : decode b_St_size 4 = .ok (.ireturn, 1) := by decide +kernel
theorem g_St_size {X : WX} {d : Nat} (hd : 0 ≤ d) (e : Nat) (M : Mem) (he : e < 4) : MG X gt d KE KE y_St_size b_St_size 1 (some .int) [vr ((20 + 9 * e : Nat) : Int)] M (fun r M' => r = some (vi (M (20 + 9 * e) 6)) ∧ M' = M) := by
  refine MG_of_G (by decide) (Nat.le_of_ble_eq_true rfl) (Nat.le_refl _) (by decide) ?_
  show G X gt d KE KE y_St_size b_St_size 1 (some .int) _ 0 [(0, vr ((20 + 9 * e : Nat) : Int))] [] KE M
  refine G_aload (i := 0) (n := 0) (len := 1) (Or.inl ⟨0, rfl, rfl, d_St_size_0⟩) rfl (by omega) (G_pc (pc' := 1) rfl ?_)
  refine G_get (o := (20 + 9 * e)) (c := 5) (k := 6) (v := M (20 + 9 * e) 6) d_St_size_1 fl_St_31 (kd_St he) (by decide) (by show 20 + 9 * e < 87; omega) (rdw (gn_St he) (by first | rfl | (repeat (first | rfl | exact mset_eq (by omega) | refine (mset_ne (by omega)).trans ?_ | refine (mset_ni (by omega)).trans ?_)))) rfl (G_pc (pc' := 4) rfl ?_)
  refine G_mem (fun hmo _ => ?_)
  have t1 := tok_i (Eq.mp (congrArg (tok .int) (show rd gt M (20 + 9 * e) ((6 : Nat) : Int) = M (20 + 9 * e) 6 from (rdw (gn_St he) (by first | rfl | (repeat (first | rfl | exact mset_eq (by omega) | refine (mset_ne (by omega)).trans ?_ | refine (mset_ni (by omega)).trans ?_)))))) (hmo (20 + 9 * e) (by omega) (by show 20 + 9 * e < 87; omega) 5 (kd_St he) 6 (by decide)))
  clear hmo
  refine G_iret d_St_size_4 rfl (tokI (by omega)) rfl rfl ?_
  exact ret_e rfl rfl

theorem d_St_codeAt_0 : decode b_St_codeAt 0 = .ok (.aload_n 0, 1) := by decide +kernel
theorem d_St_codeAt_1 : decode b_St_codeAt 1 = .ok (.getfield 9, 3) := by decide +kernel
theorem d_St_codeAt_4 : decode b_St_codeAt 4 = .ok (.iload_n 1, 1) := by decide +kernel
theorem d_St_codeAt_5 : decode b_St_codeAt 5 = .ok (.iaload, 1) := by decide +kernel
theorem d_St_codeAt_6 : decode b_St_codeAt 6 = .ok (.ireturn, 1) := by decide +kernel
theorem g_St_codeAt {X : WX} {d : Nat} (hd : 0 ≤ d) (e : Nat) (i : Int) (M : Mem) (he : e < 4) (hi : 0 ≤ i ∧ i < 48) : MG X gt d KE KE y_St_codeAt b_St_codeAt 2 (some .int) [vr ((20 + 9 * e : Nat) : Int), vi i] M (fun r M' => r = some (vi (M (21 + 9 * e) i)) ∧ M' = M) := by
  refine MG_of_G (by decide) (Nat.le_of_ble_eq_true rfl) (Nat.le_refl _) (by decide) ?_
  show G X gt d KE KE y_St_codeAt b_St_codeAt 2 (some .int) _ 0 [(0, vr ((20 + 9 * e : Nat) : Int)), (1, vi i)] [] KE M
  refine G_rngl (i := 1) rfl (fun hr1 => ?_)
  refine G_aload (i := 0) (n := 0) (len := 1) (Or.inl ⟨0, rfl, rfl, d_St_codeAt_0⟩) rfl (by omega) (G_pc (pc' := 1) rfl ?_)
  refine G_get (o := (20 + 9 * e)) (c := 5) (k := 0) (v := ((21 + 9 * e : Nat) : Int)) d_St_codeAt_1 fl_St_9 (kd_St he) (by decide) (by show 20 + 9 * e < 87; omega) (gf_St0 he) rfl (G_pc (pc' := 4) rfl ?_)
  refine G_iload (i := 1) (n := 1) (len := 1) (Or.inl ⟨1, rfl, rfl, d_St_codeAt_4⟩) rfl (G_pc (pc' := 5) rfl ?_)
  refine G_iaload (o := (21 + 9 * e)) (n := 48) (i := i) (v := M (21 + 9 * e) i) d_St_codeAt_5 (kd_S0 he) ⟨by omega, (by show 21 + 9 * e < 87; omega)⟩ (by omega) (rdw (gn_S0 he _) (by first | rfl | (repeat (first | rfl | exact mset_eq (by omega) | refine (mset_ne (by omega)).trans ?_ | refine (mset_ni (by omega)).trans ?_)))) (fun t1 => G_pc (pc' := 6) rfl ?_)
  have t1 := tok_i t1
  refine G_iret d_St_codeAt_6 rfl (tokI (by omega)) rfl rfl ?_
  exact ret_e rfl rfl

theorem d_St_firstOf_0 : decode b_St_firstOf 0 = .ok (.aload_n 0, 1) := by decide +kernel
theorem d_St_firstOf_1 : decode b_St_firstOf 1 = .ok (.getfield 15, 3) := by decide +kernel
theorem d_St_firstOf_4 : decode b_St_firstOf 4 = .ok (.iload_n 1, 1) := by decide +kernel
theorem d_St_firstOf_5 : decode b_St_firstOf 5 = .ok (.iaload, 1) := by decide +kernel
theorem d_St_firstOf_6 : decode b_St_firstOf 6 = .ok (.ireturn, 1) := by decide +kernel
theorem g_St_firstOf {X : WX} {d : Nat} (hd : 0 ≤ d) (e : Nat) (i : Int) (M : Mem) (he : e < 4) (hi : 0 ≤ i ∧ i < 48) : MG X gt d KE KE y_St_firstOf b_St_firstOf 2 (some .int) [vr ((20 + 9 * e : Nat) : Int), vi i] M (fun r M' => r = some (vi (M (22 + 9 * e) i)) ∧ M' = M) := by
  refine MG_of_G (by decide) (Nat.le_of_ble_eq_true rfl) (Nat.le_refl _) (by decide) ?_
  show G X gt d KE KE y_St_firstOf b_St_firstOf 2 (some .int) _ 0 [(0, vr ((20 + 9 * e : Nat) : Int)), (1, vi i)] [] KE M
  refine G_rngl (i := 1) rfl (fun hr1 => ?_)
  refine G_aload (i := 0) (n := 0) (len := 1) (Or.inl ⟨0, rfl, rfl, d_St_firstOf_0⟩) rfl (by omega) (G_pc (pc' := 1) rfl ?_)
  refine G_get (o := (20 + 9 * e)) (c := 5) (k := 1) (v := ((22 + 9 * e : Nat) : Int)) d_St_firstOf_1 fl_St_15 (kd_St he) (by decide) (by show 20 + 9 * e < 87; omega) (gf_St1 he) rfl (G_pc (pc' := 4) rfl ?_)
  refine G_iload (i := 1) (n := 1) (len := 1) (Or.inl ⟨1, rfl, rfl, d_St_firstOf_4⟩) rfl (G_pc (pc' := 5) rfl ?_)
  refine G_iaload (o := (22 + 9 * e)) (n := 48) (i := i) (v := M (22 + 9 * e) i) d_St_firstOf_5 (kd_S1 he) ⟨by omega, (by show 22 + 9 * e < 87; omega)⟩ (by omega) (rdw (gn_S1 he _) (by first | rfl | (repeat (first | rfl | exact mset_eq (by omega) | refine (mset_ne (by omega)).trans ?_ | refine (mset_ni (by omega)).trans ?_)))) (fun t1 => G_pc (pc' := 6) rfl ?_)
  have t1 := tok_i t1
  refine G_iret d_St_firstOf_6 rfl (tokI (by omega)) rfl rfl ?_
  exact ret_e rfl rfl

theorem d_St_secondOf_0 : decode b_St_secondOf 0 = .ok (.aload_n 0, 1) := by decide +kernel
theorem d_St_secondOf_1 : decode b_St_secondOf 1 = .ok (.getfield 18, 3) := by decide +kernel
theorem d_St_secondOf_4 : decode b_St_secondOf 4 = .ok (.iload_n 1, 1) := by decide +kernel
theorem d_St_secondOf_5 : decode b_St_secondOf 5 = .ok (.iaload, 1) := by decide +kernel
theorem d_St_secondOf_6 : decode b_St_secondOf 6 = .ok (.ireturn, 1) := by decide +kernel
theorem g_St_secondOf {X : WX} {d : Nat} (hd : 0 ≤ d) (e : Nat) (i : Int) (M : Mem) (he : e < 4) (hi : 0 ≤ i ∧ i < 48) : MG X gt d KE KE y_St_secondOf b_St_secondOf 2 (some .int) [vr ((20 + 9 * e : Nat) : Int), vi i] M (fun r M' => r = some (vi (M (23 + 9 * e) i)) ∧ M' = M) := by
  refine MG_of_G (by decide) (Nat.le_of_ble_eq_true rfl) (Nat.le_refl _) (by decide) ?_
  show G X gt d KE KE y_St_secondOf b_St_secondOf 2 (some .int) _ 0 [(0, vr ((20 + 9 * e : Nat) : Int)), (1, vi i)] [] KE M
  refine G_rngl (i := 1) rfl (fun hr1 => ?_)
  refine G_aload (i := 0) (n := 0) (len := 1) (Or.inl ⟨0, rfl, rfl, d_St_secondOf_0⟩) rfl (by omega) (G_pc (pc' := 1) rfl ?_)
  refine G_get (o := (20 + 9 * e)) (c := 5) (k := 2) (v := ((23 + 9 * e : Nat) : Int)) d_St_secondOf_1 fl_St_18 (kd_St he) (by decide) (by show 20 + 9 * e < 87; omega) (gf_St2 he) rfl (G_pc (pc' := 4) rfl ?_)
  refine G_iload (i := 1) (n := 1) (len := 1) (Or.inl ⟨1, rfl, rfl, d_St_secondOf_4⟩) rfl (G_pc (pc' := 5) rfl ?_)
  refine G_iaload (o := (23 + 9 * e)) (n := 48) (i := i) (v := M (23 + 9 * e) i) d_St_secondOf_5 (kd_S2 he) ⟨by omega, (by show 23 + 9 * e < 87; omega)⟩ (by omega) (rdw (gn_S2 he _) (by first | rfl | (repeat (first | rfl | exact mset_eq (by omega) | refine (mset_ne (by omega)).trans ?_ | refine (mset_ni (by omega)).trans ?_)))) (fun t1 => G_pc (pc' := 6) rfl ?_)
  have t1 := tok_i t1
  refine G_iret d_St_secondOf_6 rfl (tokI (by omega)) rfl rfl ?_
  exact ret_e rfl rfl

theorem d_St_thirdOf_0 : decode b_St_thirdOf 0 = .ok (.aload_n 0, 1) := by decide +kernel
theorem d_St_thirdOf_1 : decode b_St_thirdOf 1 = .ok (.getfield 21, 3) := by decide +kernel
theorem d_St_thirdOf_4 : decode b_St_thirdOf 4 = .ok (.iload_n 1, 1) := by decide +kernel
theorem d_St_thirdOf_5 : decode b_St_thirdOf 5 = .ok (.iaload, 1) := by decide +kernel
theorem d_St_thirdOf_6 : decode b_St_thirdOf 6 = .ok (.ireturn, 1) := by decide +kernel
theorem g_St_thirdOf {X : WX} {d : Nat} (hd : 0 ≤ d) (e : Nat) (i : Int) (M : Mem) (he : e < 4) (hi : 0 ≤ i ∧ i < 48) : MG X gt d KE KE y_St_thirdOf b_St_thirdOf 2 (some .int) [vr ((20 + 9 * e : Nat) : Int), vi i] M (fun r M' => r = some (vi (M (24 + 9 * e) i)) ∧ M' = M) := by
  refine MG_of_G (by decide) (Nat.le_of_ble_eq_true rfl) (Nat.le_refl _) (by decide) ?_
  show G X gt d KE KE y_St_thirdOf b_St_thirdOf 2 (some .int) _ 0 [(0, vr ((20 + 9 * e : Nat) : Int)), (1, vi i)] [] KE M
  refine G_rngl (i := 1) rfl (fun hr1 => ?_)
  refine G_aload (i := 0) (n := 0) (len := 1) (Or.inl ⟨0, rfl, rfl, d_St_thirdOf_0⟩) rfl (by omega) (G_pc (pc' := 1) rfl ?_)
  refine G_get (o := (20 + 9 * e)) (c := 5) (k := 3) (v := ((24 + 9 * e : Nat) : Int)) d_St_thirdOf_1 fl_St_21 (kd_St he) (by decide) (by show 20 + 9 * e < 87; omega) (gf_St3 he) rfl (G_pc (pc' := 4) rfl ?_)
  refine G_iload (i := 1) (n := 1) (len := 1) (Or.inl ⟨1, rfl, rfl, d_St_thirdOf_4⟩) rfl (G_pc (pc' := 5) rfl ?_)
  refine G_iaload (o := (24 + 9 * e)) (n := 48) (i := i) (v := M (24 + 9 * e) i) d_St_thirdOf_5 (kd_S3 he) ⟨by omega, (by show 24 + 9 * e < 87; omega)⟩ (by omega) (rdw (gn_S3 he _) (by first | rfl | (repeat (first | rfl | exact mset_eq (by omega) | refine (mset_ne (by omega)).trans ?_ | refine (mset_ni (by omega)).trans ?_)))) (fun t1 => G_pc (pc' := 6) rfl ?_)
  have t1 := tok_i t1
  refine G_iret d_St_thirdOf_6 rfl (tokI (by omega)) rfl rfl ?_
  exact ret_e rfl rfl

theorem d_St_kindAt_0 : decode b_St_kindAt 0 = .ok (.aload_n 0, 1) := by decide +kernel
theorem d_St_kindAt_1 : decode b_St_kindAt 1 = .ok (.getfield 24, 3) := by decide +kernel
theorem d_St_kindAt_4 : decode b_St_kindAt 4 = .ok (.iload_n 1, 1) := by decide +kernel
theorem d_St_kindAt_5 : decode b_St_kindAt 5 = .ok (.iaload, 1) := by decide +kernel
theorem d_St_kindAt_6 : decode b_St_kindAt 6 = .ok (.ireturn, 1) := by decide +kernel
theorem g_St_kindAt {X : WX} {d : Nat} (hd : 0 ≤ d) (e : Nat) (i : Int) (M : Mem) (he : e < 4) (hi : 0 ≤ i ∧ i < 48) : MG X gt d KE KE y_St_kindAt b_St_kindAt 2 (some .int) [vr ((20 + 9 * e : Nat) : Int), vi i] M (fun r M' => r = some (vi (M (25 + 9 * e) i)) ∧ M' = M) := by
  refine MG_of_G (by decide) (Nat.le_of_ble_eq_true rfl) (Nat.le_refl _) (by decide) ?_
  show G X gt d KE KE y_St_kindAt b_St_kindAt 2 (some .int) _ 0 [(0, vr ((20 + 9 * e : Nat) : Int)), (1, vi i)] [] KE M
  refine G_rngl (i := 1) rfl (fun hr1 => ?_)
  refine G_aload (i := 0) (n := 0) (len := 1) (Or.inl ⟨0, rfl, rfl, d_St_kindAt_0⟩) rfl (by omega) (G_pc (pc' := 1) rfl ?_)
  refine G_get (o := (20 + 9 * e)) (c := 5) (k := 4) (v := ((25 + 9 * e : Nat) : Int)) d_St_kindAt_1 fl_St_24 (kd_St he) (by decide) (by show 20 + 9 * e < 87; omega) (gf_St4 he) rfl (G_pc (pc' := 4) rfl ?_)
  refine G_iload (i := 1) (n := 1) (len := 1) (Or.inl ⟨1, rfl, rfl, d_St_kindAt_4⟩) rfl (G_pc (pc' := 5) rfl ?_)
  refine G_iaload (o := (25 + 9 * e)) (n := 48) (i := i) (v := M (25 + 9 * e) i) d_St_kindAt_5 (kd_S4 he) ⟨by omega, (by show 25 + 9 * e < 87; omega)⟩ (by omega) (rdw (gn_S4 he _) (by first | rfl | (repeat (first | rfl | exact mset_eq (by omega) | refine (mset_ne (by omega)).trans ?_ | refine (mset_ni (by omega)).trans ?_)))) (fun t1 => G_pc (pc' := 6) rfl ?_)
  have t1 := tok_i t1
  refine G_iret d_St_kindAt_6 rfl (tokI (by omega)) rfl rfl ?_
  exact ret_e rfl rfl

theorem d_St_valueAt_0 : decode b_St_valueAt 0 = .ok (.aload_n 0, 1) := by decide +kernel
theorem d_St_valueAt_1 : decode b_St_valueAt 1 = .ok (.getfield 27, 3) := by decide +kernel
theorem d_St_valueAt_4 : decode b_St_valueAt 4 = .ok (.iload_n 1, 1) := by decide +kernel
theorem d_St_valueAt_5 : decode b_St_valueAt 5 = .ok (.laload, 1) := by decide +kernel
theorem d_St_valueAt_6 : decode b_St_valueAt 6 = .ok (.lreturn, 1) := by decide +kernel
theorem g_St_valueAt {X : WX} {d : Nat} (hd : 0 ≤ d) (e : Nat) (i : Int) (M : Mem) (he : e < 4) (hi : 0 ≤ i ∧ i < 48) : MG X gt d KE KE y_St_valueAt b_St_valueAt 2 (some .long) [vr ((20 + 9 * e : Nat) : Int), vi i] M (fun r M' => r = some (vl (M (26 + 9 * e) i)) ∧ M' = M) := by
  refine MG_of_G (by decide) (Nat.le_of_ble_eq_true rfl) (Nat.le_refl _) (by decide) ?_
  show G X gt d KE KE y_St_valueAt b_St_valueAt 2 (some .long) _ 0 [(0, vr ((20 + 9 * e : Nat) : Int)), (1, vi i)] [] KE M
  refine G_rngl (i := 1) rfl (fun hr1 => ?_)
  refine G_aload (i := 0) (n := 0) (len := 1) (Or.inl ⟨0, rfl, rfl, d_St_valueAt_0⟩) rfl (by omega) (G_pc (pc' := 1) rfl ?_)
  refine G_get (o := (20 + 9 * e)) (c := 5) (k := 5) (v := ((26 + 9 * e : Nat) : Int)) d_St_valueAt_1 fl_St_27 (kd_St he) (by decide) (by show 20 + 9 * e < 87; omega) (gf_St5 he) rfl (G_pc (pc' := 4) rfl ?_)
  refine G_iload (i := 1) (n := 1) (len := 1) (Or.inl ⟨1, rfl, rfl, d_St_valueAt_4⟩) rfl (G_pc (pc' := 5) rfl ?_)
  refine G_laload (o := (26 + 9 * e)) (n := 48) (i := i) (v := M (26 + 9 * e) i) d_St_valueAt_5 (kd_S5 he) ⟨by omega, (by show 26 + 9 * e < 87; omega)⟩ (by omega) (rdw (gn_S5 he _) (by first | rfl | (repeat (first | rfl | exact mset_eq (by omega) | refine (mset_ne (by omega)).trans ?_ | refine (mset_ni (by omega)).trans ?_)))) (fun t1 => G_pc (pc' := 6) rfl ?_)
  have t1 := tok_l t1
  refine G_lret d_St_valueAt_6 rfl rfl ?_
  exact ret_l rfl rfl

theorem d_St_setKind_0 : decode b_St_setKind 0 = .ok (.aload_n 0, 1) := by decide +kernel
theorem d_St_setKind_1 : decode b_St_setKind 1 = .ok (.getfield 24, 3) := by decide +kernel
theorem d_St_setKind_4 : decode b_St_setKind 4 = .ok (.iload_n 1, 1) := by decide +kernel
theorem d_St_setKind_5 : decode b_St_setKind 5 = .ok (.iload_n 2, 1) := by decide +kernel
theorem d_St_setKind_6 : decode b_St_setKind 6 = .ok (.iastore, 1) := by decide +kernel
theorem d_St_setKind_7 : decode b_St_setKind 7 = .ok (.return_, 1) := by decide +kernel
theorem g_St_setKind {X : WX} {d : Nat} (hd : 0 ≤ d) (e : Nat) (i v : Int) (M : Mem) (he : e < 4) (hi : 0 ≤ i ∧ i < 48) : MG X gt d KE KE y_St_setKind b_St_setKind 3 none [vr ((20 + 9 * e : Nat) : Int), vi i, vi v] M (fun r M' => r = none ∧ M' = mset M (25 + 9 * e) i v) := by
  refine MG_of_G (by decide) (Nat.le_of_ble_eq_true rfl) (Nat.le_refl _) (by decide) ?_
  show G X gt d KE KE y_St_setKind b_St_setKind 3 none _ 0 [(0, vr ((20 + 9 * e : Nat) : Int)), (1, vi i), (2, vi v)] [] KE M
  refine G_rngl (i := 1) rfl (fun hr1 => ?_)
  refine G_rngl (i := 2) rfl (fun hr2 => ?_)
  refine G_aload (i := 0) (n := 0) (len := 1) (Or.inl ⟨0, rfl, rfl, d_St_setKind_0⟩) rfl (by omega) (G_pc (pc' := 1) rfl ?_)
  refine G_get (o := (20 + 9 * e)) (c := 5) (k := 4) (v := ((25 + 9 * e : Nat) : Int)) d_St_setKind_1 fl_St_24 (kd_St he) (by decide) (by show 20 + 9 * e < 87; omega) (gf_St4 he) rfl (G_pc (pc' := 4) rfl ?_)
  refine G_iload (i := 1) (n := 1) (len := 1) (Or.inl ⟨1, rfl, rfl, d_St_setKind_4⟩) rfl (G_pc (pc' := 5) rfl ?_)
  refine G_iload (i := 2) (n := 2) (len := 1) (Or.inl ⟨2, rfl, rfl, d_St_setKind_5⟩) rfl (G_pc (pc' := 6) rfl ?_)
  refine G_iastore (o := (25 + 9 * e)) (n := 48) (i := i) (x := v) d_St_setKind_6 (kd_S4 he) ⟨by omega, (by show 25 + 9 * e < 87; omega)⟩ (by decide) (gn_S4 he _) (by omega) (tokI (by omega)) (G_pc (pc' := 7) rfl ?_)
  refine G_vret d_St_setKind_7 rfl rfl ?_
  exact ⟨rfl, rfl⟩

theorem d_St_setValue_0 : decode b_St_setValue 0 = .ok (.aload_n 0, 1) := by decide +kernel
theorem d_St_setValue_1 : decode b_St_setValue 1 = .ok (.getfield 27, 3) := by decide +kernel
theorem d_St_setValue_4 : decode b_St_setValue 4 = .ok (.iload_n 1, 1) := by decide +kernel
theorem d_St_setValue_5 : decode b_St_setValue 5 = .ok (.lload_n 2, 1) := by decide +kernel
theorem d_St_setValue_6 : decode b_St_setValue 6 = .ok (.lastore, 1) := by decide +kernel
theorem d_St_setValue_7 : decode b_St_setValue 7 = .ok (.return_, 1) := by decide +kernel
theorem g_St_setValue {X : WX} {d : Nat} (hd : 0 ≤ d) (e : Nat) (i v : Int) (M : Mem) (he : e < 4) (hi : 0 ≤ i ∧ i < 48) : MG X gt d KE KE y_St_setValue b_St_setValue 4 none [vr ((20 + 9 * e : Nat) : Int), vi i, vl v] M (fun r M' => r = none ∧ M' = mset M (26 + 9 * e) i v) := by
  refine MG_of_G (by decide) (Nat.le_of_ble_eq_true rfl) (Nat.le_refl _) (by decide) ?_
  show G X gt d KE KE y_St_setValue b_St_setValue 4 none _ 0 [(0, vr ((20 + 9 * e : Nat) : Int)), (1, vi i), (2, vl v)] [] KE M
  refine G_rngl (i := 1) rfl (fun hr1 => ?_)
  refine G_rngL (i := 2) rfl (fun hr2 => ?_)
  refine G_aload (i := 0) (n := 0) (len := 1) (Or.inl ⟨0, rfl, rfl, d_St_setValue_0⟩) rfl (by omega) (G_pc (pc' := 1) rfl ?_)
  refine G_get (o := (20 + 9 * e)) (c := 5) (k := 5) (v := ((26 + 9 * e : Nat) : Int)) d_St_setValue_1 fl_St_27 (kd_St he) (by decide) (by show 20 + 9 * e < 87; omega) (gf_St5 he) rfl (G_pc (pc' := 4) rfl ?_)
  refine G_iload (i := 1) (n := 1) (len := 1) (Or.inl ⟨1, rfl, rfl, d_St_setValue_4⟩) rfl (G_pc (pc' := 5) rfl ?_)
  refine G_lload (i := 2) (n := 2) (len := 1) (Or.inl ⟨2, rfl, rfl, d_St_setValue_5⟩) rfl (G_pc (pc' := 6) rfl ?_)
  refine G_lastore (o := (26 + 9 * e)) (n := 48) (i := i) (x := v) d_St_setValue_6 (kd_S5 he) ⟨by omega, (by show 26 + 9 * e < 87; omega)⟩ (by decide) (gn_S5 he _) (by omega) (tokJ (by omega)) (G_pc (pc' := 7) rfl ?_)
  refine G_vret d_St_setValue_7 rfl rfl ?_
  exact ⟨rfl, rfl⟩

theorem d_St_leadSkip_0 : decode b_St_leadSkip 0 = .ok (.aload_n 0, 1) := by decide +kernel
theorem d_St_leadSkip_1 : decode b_St_leadSkip 1 = .ok (.getfield 18, 3) := by decide +kernel
theorem d_St_leadSkip_4 : decode b_St_leadSkip 4 = .ok (.iload_n 1, 1) := by decide +kernel
theorem d_St_leadSkip_5 : decode b_St_leadSkip 5 = .ok (.iload_n 2, 1) := by decide +kernel
theorem d_St_leadSkip_6 : decode b_St_leadSkip 6 = .ok (.iastore, 1) := by decide +kernel
theorem d_St_leadSkip_7 : decode b_St_leadSkip 7 = .ok (.return_, 1) := by decide +kernel
theorem g_St_leadSkip {X : WX} {d : Nat} (hd : 0 ≤ d) (e : Nat) (i v : Int) (M : Mem) (he : e < 4) (hi : 0 ≤ i ∧ i < 48) : MG X gt d KE KE y_St_leadSkip b_St_leadSkip 3 none [vr ((20 + 9 * e : Nat) : Int), vi i, vi v] M (fun r M' => r = none ∧ M' = mset M (23 + 9 * e) i v) := by
  refine MG_of_G (by decide) (Nat.le_of_ble_eq_true rfl) (Nat.le_refl _) (by decide) ?_
  show G X gt d KE KE y_St_leadSkip b_St_leadSkip 3 none _ 0 [(0, vr ((20 + 9 * e : Nat) : Int)), (1, vi i), (2, vi v)] [] KE M
  refine G_rngl (i := 1) rfl (fun hr1 => ?_)
  refine G_rngl (i := 2) rfl (fun hr2 => ?_)
  refine G_aload (i := 0) (n := 0) (len := 1) (Or.inl ⟨0, rfl, rfl, d_St_leadSkip_0⟩) rfl (by omega) (G_pc (pc' := 1) rfl ?_)
  refine G_get (o := (20 + 9 * e)) (c := 5) (k := 2) (v := ((23 + 9 * e : Nat) : Int)) d_St_leadSkip_1 fl_St_18 (kd_St he) (by decide) (by show 20 + 9 * e < 87; omega) (gf_St2 he) rfl (G_pc (pc' := 4) rfl ?_)
  refine G_iload (i := 1) (n := 1) (len := 1) (Or.inl ⟨1, rfl, rfl, d_St_leadSkip_4⟩) rfl (G_pc (pc' := 5) rfl ?_)
  refine G_iload (i := 2) (n := 2) (len := 1) (Or.inl ⟨2, rfl, rfl, d_St_leadSkip_5⟩) rfl (G_pc (pc' := 6) rfl ?_)
  refine G_iastore (o := (23 + 9 * e)) (n := 48) (i := i) (x := v) d_St_leadSkip_6 (kd_S2 he) ⟨by omega, (by show 23 + 9 * e < 87; omega)⟩ (by decide) (gn_S2 he _) (by omega) (tokI (by omega)) (G_pc (pc' := 7) rfl ?_)
  refine G_vret d_St_leadSkip_7 rfl rfl ?_
  exact ⟨rfl, rfl⟩

def addT (e : Nat) (M : Mem) (c f s t : Int) : Mem := mset (mset (mset (mset (mset M (21 + 9 * e) (M (20 + 9 * e) 6) c) (22 + 9 * e) (M (20 + 9 * e) 6) f) (23 + 9 * e) (M (20 + 9 * e) 6) s) (24 + 9 * e) (M (20 + 9 * e) 6) t) (20 + 9 * e) 6 (M (20 + 9 * e) 6 + 1)
theorem d_St_addThree_0 : decode b_St_addThree 0 = .ok (.aload_n 0, 1) := by decide +kernel
theorem d_St_addThree_1 : decode b_St_addThree 1 = .ok (.getfield 31, 3) := by decide +kernel
theorem d_St_addThree_4 : decode b_St_addThree 4 = .ok (.bipush 48, 2) := by decide +kernel
theorem d_St_addThree_6 : decode b_St_addThree 6 = .ok (.if_icmp .ne 5, 3) := by decide +kernel
theorem d_St_addThree_9 : decode b_St_addThree 9 = .ok (.iconst (-1), 1) := by decide +kernel
theorem d_St_addThree_10 : decode b_St_addThree 10 = .ok (.ireturn, 1) := by decide +kernel
theorem d_St_addThree_11 : decode b_St_addThree 11 = .ok (.aload_n 0, 1) := by decide +kernel
theorem d_St_addThree_12 : decode b_St_addThree 12 = .ok (.getfield 9, 3) := by decide +kernel
theorem d_St_addThree_15 : decode b_St_addThree 15 = .ok (.aload_n 0, 1) := by decide +kernel
theorem d_St_addThree_16 : decode b_St_addThree 16 = .ok (.getfield 31, 3) := by decide +kernel
theorem d_St_addThree_19 : decode b_St_addThree 19 = .ok (.iload_n 1, 1) := by decide +kernel
theorem d_St_addThree_20 : decode b_St_addThree 20 = .ok (.iastore, 1) := by decide +kernel
theorem d_St_addThree_21 : decode b_St_addThree 21 = .ok (.aload_n 0, 1) := by decide +kernel
theorem d_St_addThree_22 : decode b_St_addThree 22 = .ok (.getfield 15, 3) := by decide +kernel
theorem d_St_addThree_25 : decode b_St_addThree 25 = .ok (.aload_n 0, 1) := by decide +kernel
theorem d_St_addThree_26 : decode b_St_addThree 26 = .ok (.getfield 31, 3) := by decide +kernel
theorem d_St_addThree_29 : decode b_St_addThree 29 = .ok (.iload_n 2, 1) := by decide +kernel
theorem d_St_addThree_30 : decode b_St_addThree 30 = .ok (.iastore, 1) := by decide +kernel
theorem d_St_addThree_31 : decode b_St_addThree 31 = .ok (.aload_n 0, 1) := by decide +kernel
theorem d_St_addThree_32 : decode b_St_addThree 32 = .ok (.getfield 18, 3) := by decide +kernel
theorem d_St_addThree_35 : decode b_St_addThree 35 = .ok (.aload_n 0, 1) := by decide +kernel
theorem d_St_addThree_36 : decode b_St_addThree 36 = .ok (.getfield 31, 3) := by decide +kernel
theorem d_St_addThree_39 : decode b_St_addThree 39 = .ok (.iload_n 3, 1) := by decide +kernel
theorem d_St_addThree_40 : decode b_St_addThree 40 = .ok (.iastore, 1) := by decide +kernel
theorem d_St_addThree_41 : decode b_St_addThree 41 = .ok (.aload_n 0, 1) := by decide +kernel
theorem d_St_addThree_42 : decode b_St_addThree 42 = .ok (.getfield 21, 3) := by decide +kernel
theorem d_St_addThree_45 : decode b_St_addThree 45 = .ok (.aload_n 0, 1) := by decide +kernel
theorem d_St_addThree_46 : decode b_St_addThree 46 = .ok (.getfield 31, 3) := by decide +kernel
theorem d_St_addThree_49 : decode b_St_addThree 49 = .ok (.iload 4, 2) := by decide +kernel
theorem d_St_addThree_51 : decode b_St_addThree 51 = .ok (.iastore, 1) := by decide +kernel
theorem d_St_addThree_52 : decode b_St_addThree 52 = .ok (.aload_n 0, 1) := by decide +kernel
theorem d_St_addThree_53 : decode b_St_addThree 53 = .ok (.dup, 1) := by decide +kernel
theorem d_St_addThree_54 : decode b_St_addThree 54 = .ok (.getfield 31, 3) := by decide +kernel
theorem d_St_addThree_57 : decode b_St_addThree 57 = .ok (.iconst 1, 1) := by decide +kernel
theorem d_St_addThree_58 : decode b_St_addThree 58 = .ok (.iadd, 1) := by decide +kernel
theorem d_St_addThree_59 : decode b_St_addThree 59 = .ok (.putfield 31, 3) := by decide +kernel
theorem d_St_addThree_62 : decode b_St_addThree 62 = .ok (.aload_n 0, 1) := by decide +kernel
theorem d_St_addThree_63 : decode b_St_addThree 63 = .ok (.getfield 31, 3) := by decide +kernel
theorem d_St_addThree_66 : decode b_St_addThree 66 = .ok (.iconst 1, 1) := by decide +kernel
theorem d_St_addThree_67 : decode b_St_addThree 67 = .ok (.isub, 1) := by decide +kernel
theorem d_St_addThree_68 : decode b_St_addThree 68 = .ok (.ireturn, 1) := by decide +kernel
theorem g_St_addThree {X : WX} {d : Nat} (hd : 0 ≤ d) (e : Nat) (c f s t : Int) (M : Mem) (he : e < 4) (hs : 0 ≤ M (20 + 9 * e) 6 ∧ M (20 + 9 * e) 6 < 48) : MG X gt d KE KE y_St_addThree b_St_addThree 5 (some .int) [vr ((20 + 9 * e : Nat) : Int), vi c, vi f, vi s, vi t] M (fun r M' => r = some (vi (M (20 + 9 * e) 6)) ∧ M' = addT e M c f s t) := by
  refine MG_of_G (by decide) (Nat.le_of_ble_eq_true rfl) (Nat.le_refl _) (by decide) ?_
  show G X gt d KE KE y_St_addThree b_St_addThree 5 (some .int) _ 0 [(0, vr ((20 + 9 * e : Nat) : Int)), (1, vi c), (2, vi f), (3, vi s), (4, vi t)] [] KE M
  refine G_rngl (i := 1) rfl (fun hr1 => ?_)
  refine G_rngl (i := 2) rfl (fun hr2 => ?_)
  refine G_rngl (i := 3) rfl (fun hr3 => ?_)
  refine G_rngl (i := 4) rfl (fun hr4 => ?_)
  refine G_aload (i := 0) (n := 0) (len := 1) (Or.inl ⟨0, rfl, rfl, d_St_addThree_0⟩) rfl (by omega) (G_pc (pc' := 1) rfl ?_)
  refine G_get (o := (20 + 9 * e)) (c := 5) (k := 6) (v := M (20 + 9 * e) 6) d_St_addThree_1 fl_St_31 (kd_St he) (by decide) (by show 20 + 9 * e < 87; omega) (rdw (gn_St he) (by first | rfl | (repeat (first | rfl | exact mset_eq (by omega) | refine (mset_ne (by omega)).trans ?_ | refine (mset_ni (by omega)).trans ?_)))) rfl (G_pc (pc' := 4) rfl ?_)
  refine G_mem (fun hmo _ => ?_)
  have t1 := tok_i (Eq.mp (congrArg (tok .int) (show rd gt M (20 + 9 * e) ((6 : Nat) : Int) = M (20 + 9 * e) 6 from (rdw (gn_St he) (by first | rfl | (repeat (first | rfl | exact mset_eq (by omega) | refine (mset_ne (by omega)).trans ?_ | refine (mset_ni (by omega)).trans ?_)))))) (hmo (20 + 9 * e) (by omega) (by show 20 + 9 * e < 87; omega) 5 (kd_St he) 6 (by decide)))
  clear hmo
  refine G_bipush (n := 48) d_St_addThree_4 (by decide) (G_pc (pc' := 6) rfl ?_)
  refine G_icmp_ne (tgt := 11) d_St_addThree_6 (by decide) (fun h2 => ?_) (fun h2 => G_pc (pc' := 9) rfl ?_)
  · skip
    refine G_aload (i := 0) (n := 0) (len := 1) (Or.inl ⟨0, rfl, rfl, d_St_addThree_11⟩) rfl (by omega) (G_pc (pc' := 12) rfl ?_)
    refine G_get (o := (20 + 9 * e)) (c := 5) (k := 0) (v := ((21 + 9 * e : Nat) : Int)) d_St_addThree_12 fl_St_9 (kd_St he) (by decide) (by show 20 + 9 * e < 87; omega) (gf_St0 he) rfl (G_pc (pc' := 15) rfl ?_)
    refine G_aload (i := 0) (n := 0) (len := 1) (Or.inl ⟨0, rfl, rfl, d_St_addThree_15⟩) rfl (by omega) (G_pc (pc' := 16) rfl ?_)
    refine G_get (o := (20 + 9 * e)) (c := 5) (k := 6) (v := M (20 + 9 * e) 6) d_St_addThree_16 fl_St_31 (kd_St he) (by decide) (by show 20 + 9 * e < 87; omega) (rdw (gn_St he) (by first | rfl | (repeat (first | rfl | exact mset_eq (by omega) | refine (mset_ne (by omega)).trans ?_ | refine (mset_ni (by omega)).trans ?_)))) rfl (G_pc (pc' := 19) rfl ?_)
    refine G_mem (fun hmo _ => ?_)
    have t3 := tok_i (Eq.mp (congrArg (tok .int) (show rd gt M (20 + 9 * e) ((6 : Nat) : Int) = M (20 + 9 * e) 6 from (rdw (gn_St he) (by first | rfl | (repeat (first | rfl | exact mset_eq (by omega) | refine (mset_ne (by omega)).trans ?_ | refine (mset_ni (by omega)).trans ?_)))))) (hmo (20 + 9 * e) (by omega) (by show 20 + 9 * e < 87; omega) 5 (kd_St he) 6 (by decide)))
    clear hmo
    refine G_iload (i := 1) (n := 1) (len := 1) (Or.inl ⟨1, rfl, rfl, d_St_addThree_19⟩) rfl (G_pc (pc' := 20) rfl ?_)
    refine G_iastore (o := (21 + 9 * e)) (n := 48) (i := M (20 + 9 * e) 6) (x := c) d_St_addThree_20 (kd_S0 he) ⟨by omega, (by show 21 + 9 * e < 87; omega)⟩ (by decide) (gn_S0 he _) (by omega) (tokI (by omega)) (G_pc (pc' := 21) rfl ?_)
    refine G_aload (i := 0) (n := 0) (len := 1) (Or.inl ⟨0, rfl, rfl, d_St_addThree_21⟩) rfl (by omega) (G_pc (pc' := 22) rfl ?_)
    refine G_get (o := (20 + 9 * e)) (c := 5) (k := 1) (v := ((22 + 9 * e : Nat) : Int)) d_St_addThree_22 fl_St_15 (kd_St he) (by decide) (by show 20 + 9 * e < 87; omega) (gf_St1 he) rfl (G_pc (pc' := 25) rfl ?_)
    refine G_aload (i := 0) (n := 0) (len := 1) (Or.inl ⟨0, rfl, rfl, d_St_addThree_25⟩) rfl (by omega) (G_pc (pc' := 26) rfl ?_)
    refine G_get (o := (20 + 9 * e)) (c := 5) (k := 6) (v := M (20 + 9 * e) 6) d_St_addThree_26 fl_St_31 (kd_St he) (by decide) (by show 20 + 9 * e < 87; omega) (rdw (gn_St he) (by first | rfl | (repeat (first | rfl | exact mset_eq (by omega) | refine (mset_ne (by omega)).trans ?_ | refine (mset_ni (by omega)).trans ?_)))) rfl (G_pc (pc' := 29) rfl ?_)
    refine G_mem (fun hmo _ => ?_)
    have t4 := tok_i (Eq.mp (congrArg (tok .int) (show rd gt (mset M (21 + 9 * e) (M (20 + 9 * e) 6) c) (20 + 9 * e) ((6 : Nat) : Int) = M (20 + 9 * e) 6 from (rdw (gn_St he) (by first | rfl | (repeat (first | rfl | exact mset_eq (by omega) | refine (mset_ne (by omega)).trans ?_ | refine (mset_ni (by omega)).trans ?_)))))) (hmo (20 + 9 * e) (by omega) (by show 20 + 9 * e < 87; omega) 5 (kd_St he) 6 (by decide)))
    clear hmo
    refine G_iload (i := 2) (n := 2) (len := 1) (Or.inl ⟨2, rfl, rfl, d_St_addThree_29⟩) rfl (G_pc (pc' := 30) rfl ?_)
    refine G_iastore (o := (22 + 9 * e)) (n := 48) (i := M (20 + 9 * e) 6) (x := f) d_St_addThree_30 (kd_S1 he) ⟨by omega, (by show 22 + 9 * e < 87; omega)⟩ (by decide) (gn_S1 he _) (by omega) (tokI (by omega)) (G_pc (pc' := 31) rfl ?_)
    refine G_aload (i := 0) (n := 0) (len := 1) (Or.inl ⟨0, rfl, rfl, d_St_addThree_31⟩) rfl (by omega) (G_pc (pc' := 32) rfl ?_)
    refine G_get (o := (20 + 9 * e)) (c := 5) (k := 2) (v := ((23 + 9 * e : Nat) : Int)) d_St_addThree_32 fl_St_18 (kd_St he) (by decide) (by show 20 + 9 * e < 87; omega) (gf_St2 he) rfl (G_pc (pc' := 35) rfl ?_)
    refine G_aload (i := 0) (n := 0) (len := 1) (Or.inl ⟨0, rfl, rfl, d_St_addThree_35⟩) rfl (by omega) (G_pc (pc' := 36) rfl ?_)
    refine G_get (o := (20 + 9 * e)) (c := 5) (k := 6) (v := M (20 + 9 * e) 6) d_St_addThree_36 fl_St_31 (kd_St he) (by decide) (by show 20 + 9 * e < 87; omega) (rdw (gn_St he) (by first | rfl | (repeat (first | rfl | exact mset_eq (by omega) | refine (mset_ne (by omega)).trans ?_ | refine (mset_ni (by omega)).trans ?_)))) rfl (G_pc (pc' := 39) rfl ?_)
    refine G_mem (fun hmo _ => ?_)
    have t5 := tok_i (Eq.mp (congrArg (tok .int) (show rd gt (mset (mset M (21 + 9 * e) (M (20 + 9 * e) 6) c) (22 + 9 * e) (M (20 + 9 * e) 6) f) (20 + 9 * e) ((6 : Nat) : Int) = M (20 + 9 * e) 6 from (rdw (gn_St he) (by first | rfl | (repeat (first | rfl | exact mset_eq (by omega) | refine (mset_ne (by omega)).trans ?_ | refine (mset_ni (by omega)).trans ?_)))))) (hmo (20 + 9 * e) (by omega) (by show 20 + 9 * e < 87; omega) 5 (kd_St he) 6 (by decide)))
    clear hmo
    refine G_iload (i := 3) (n := 3) (len := 1) (Or.inl ⟨3, rfl, rfl, d_St_addThree_39⟩) rfl (G_pc (pc' := 40) rfl ?_)
    refine G_iastore (o := (23 + 9 * e)) (n := 48) (i := M (20 + 9 * e) 6) (x := s) d_St_addThree_40 (kd_S2 he) ⟨by omega, (by show 23 + 9 * e < 87; omega)⟩ (by decide) (gn_S2 he _) (by omega) (tokI (by omega)) (G_pc (pc' := 41) rfl ?_)
    refine G_aload (i := 0) (n := 0) (len := 1) (Or.inl ⟨0, rfl, rfl, d_St_addThree_41⟩) rfl (by omega) (G_pc (pc' := 42) rfl ?_)
    refine G_get (o := (20 + 9 * e)) (c := 5) (k := 3) (v := ((24 + 9 * e : Nat) : Int)) d_St_addThree_42 fl_St_21 (kd_St he) (by decide) (by show 20 + 9 * e < 87; omega) (gf_St3 he) rfl (G_pc (pc' := 45) rfl ?_)
    refine G_aload (i := 0) (n := 0) (len := 1) (Or.inl ⟨0, rfl, rfl, d_St_addThree_45⟩) rfl (by omega) (G_pc (pc' := 46) rfl ?_)
    refine G_get (o := (20 + 9 * e)) (c := 5) (k := 6) (v := M (20 + 9 * e) 6) d_St_addThree_46 fl_St_31 (kd_St he) (by decide) (by show 20 + 9 * e < 87; omega) (rdw (gn_St he) (by first | rfl | (repeat (first | rfl | exact mset_eq (by omega) | refine (mset_ne (by omega)).trans ?_ | refine (mset_ni (by omega)).trans ?_)))) rfl (G_pc (pc' := 49) rfl ?_)
    refine G_mem (fun hmo _ => ?_)
    have t6 := tok_i (Eq.mp (congrArg (tok .int) (show rd gt (mset (mset (mset M (21 + 9 * e) (M (20 + 9 * e) 6) c) (22 + 9 * e) (M (20 + 9 * e) 6) f) (23 + 9 * e) (M (20 + 9 * e) 6) s) (20 + 9 * e) ((6 : Nat) : Int) = M (20 + 9 * e) 6 from (rdw (gn_St he) (by first | rfl | (repeat (first | rfl | exact mset_eq (by omega) | refine (mset_ne (by omega)).trans ?_ | refine (mset_ni (by omega)).trans ?_)))))) (hmo (20 + 9 * e) (by omega) (by show 20 + 9 * e < 87; omega) 5 (kd_St he) 6 (by decide)))
    clear hmo
    refine G_iload (i := 4) (n := 4) (len := 2) (Or.inr ⟨rfl, d_St_addThree_49⟩) rfl (G_pc (pc' := 51) rfl ?_)
    refine G_iastore (o := (24 + 9 * e)) (n := 48) (i := M (20 + 9 * e) 6) (x := t) d_St_addThree_51 (kd_S3 he) ⟨by omega, (by show 24 + 9 * e < 87; omega)⟩ (by decide) (gn_S3 he _) (by omega) (tokI (by omega)) (G_pc (pc' := 52) rfl ?_)
    refine G_aload (i := 0) (n := 0) (len := 1) (Or.inl ⟨0, rfl, rfl, d_St_addThree_52⟩) rfl (by omega) (G_pc (pc' := 53) rfl ?_)
    refine G_dup d_St_addThree_53 (fun _ h => by cases h) (G_pc (pc' := 54) rfl ?_)
    refine G_get (o := (20 + 9 * e)) (c := 5) (k := 6) (v := M (20 + 9 * e) 6) d_St_addThree_54 fl_St_31 (kd_St he) (by decide) (by show 20 + 9 * e < 87; omega) (rdw (gn_St he) (by first | rfl | (repeat (first | rfl | exact mset_eq (by omega) | refine (mset_ne (by omega)).trans ?_ | refine (mset_ni (by omega)).trans ?_)))) rfl (G_pc (pc' := 57) rfl ?_)
    refine G_mem (fun hmo _ => ?_)
    have t7 := tok_i (Eq.mp (congrArg (tok .int) (show rd gt (mset (mset (mset (mset M (21 + 9 * e) (M (20 + 9 * e) 6) c) (22 + 9 * e) (M (20 + 9 * e) 6) f) (23 + 9 * e) (M (20 + 9 * e) 6) s) (24 + 9 * e) (M (20 + 9 * e) 6) t) (20 + 9 * e) ((6 : Nat) : Int) = M (20 + 9 * e) 6 from (rdw (gn_St he) (by first | rfl | (repeat (first | rfl | exact mset_eq (by omega) | refine (mset_ne (by omega)).trans ?_ | refine (mset_ni (by omega)).trans ?_)))))) (hmo (20 + 9 * e) (by omega) (by show 20 + 9 * e < 87; omega) 5 (kd_St he) 6 (by decide)))
    clear hmo
    refine G_iconst (n := 1) d_St_addThree_57 (by decide) (G_pc (pc' := 58) rfl ?_)
    refine G_iadd d_St_addThree_58 (by omega) (G_pc (pc' := 59) rfl ?_)
    refine G_putL (o := (20 + 9 * e)) (c := 5) (k := 6) (ki := 6) (x := (M (20 + 9 * e) 6) + 1) d_St_addThree_59 fl_St_31 rfl (kd_St he) (by decide) (by show 20 + 9 * e < 87; omega) (by decide) rfl (gn_St he) (tokI (by omega)) rfl (G_pc (pc' := 62) rfl ?_)
    refine G_aload (i := 0) (n := 0) (len := 1) (Or.inl ⟨0, rfl, rfl, d_St_addThree_62⟩) rfl (by omega) (G_pc (pc' := 63) rfl ?_)
    refine G_get (o := (20 + 9 * e)) (c := 5) (k := 6) (v := (M (20 + 9 * e) 6) + 1) d_St_addThree_63 fl_St_31 (kd_St he) (by decide) (by show 20 + 9 * e < 87; omega) (rdw (gn_St he) (by first | rfl | (repeat (first | rfl | exact mset_eq (by omega) | refine (mset_ne (by omega)).trans ?_ | refine (mset_ni (by omega)).trans ?_)))) rfl (G_pc (pc' := 66) rfl ?_)
    refine G_mem (fun hmo _ => ?_)
    have t8 := tok_i (Eq.mp (congrArg (tok .int) (show rd gt (mset (mset (mset (mset (mset M (21 + 9 * e) (M (20 + 9 * e) 6) c) (22 + 9 * e) (M (20 + 9 * e) 6) f) (23 + 9 * e) (M (20 + 9 * e) 6) s) (24 + 9 * e) (M (20 + 9 * e) 6) t) (20 + 9 * e) 6 ((M (20 + 9 * e) 6) + 1)) (20 + 9 * e) ((6 : Nat) : Int) = (M (20 + 9 * e) 6) + 1 from (rdw (gn_St he) (by first | rfl | (repeat (first | rfl | exact mset_eq (by omega) | refine (mset_ne (by omega)).trans ?_ | refine (mset_ni (by omega)).trans ?_)))))) (hmo (20 + 9 * e) (by omega) (by show 20 + 9 * e < 87; omega) 5 (kd_St he) 6 (by decide)))
    clear hmo
    refine G_iconst (n := 1) d_St_addThree_66 (by decide) (G_pc (pc' := 67) rfl ?_)
    refine G_isub d_St_addThree_67 (by omega) (G_pc (pc' := 68) rfl ?_)
    refine G_iret d_St_addThree_68 rfl (tokI (by omega)) rfl rfl ?_
    exact ⟨by rw [show M (20 + 9 * e) 6 + 1 - 1 = M (20 + 9 * e) 6 by omega], rfl⟩
  · skip
    refine G_iconst (n := (-1)) d_St_addThree_9 (by decide) (G_pc (pc' := 10) rfl ?_)
    refine G_iret d_St_addThree_10 rfl (tokI (by decide)) rfl rfl ?_
    exfalso; omega

theorem d_St_add_0 : decode b_St_add 0 = .ok (.aload_n 0, 1) := by decide +kernel
theorem d_St_add_1 : decode b_St_add 1 = .ok (.iload_n 1, 1) := by decide +kernel
theorem d_St_add_2 : decode b_St_add 2 = .ok (.iload_n 2, 1) := by decide +kernel
theorem d_St_add_3 : decode b_St_add 3 = .ok (.iload_n 3, 1) := by decide +kernel
theorem d_St_add_4 : decode b_St_add 4 = .ok (.iconst 0, 1) := by decide +kernel
theorem d_St_add_5 : decode b_St_add 5 = .ok (.invokevirtual 35, 3) := by decide +kernel
theorem d_St_add_8 : decode b_St_add 8 = .ok (.ireturn, 1) := by decide +kernel
theorem g_St_add {X : WX} {d : Nat} (hd : 1 ≤ d) (e : Nat) (c f s : Int) (M : Mem) (he : e < 4) (hs : 0 ≤ M (20 + 9 * e) 6 ∧ M (20 + 9 * e) 6 < 48) : MG X gt d KE KE y_St_add b_St_add 4 (some .int) [vr ((20 + 9 * e : Nat) : Int), vi c, vi f, vi s] M (fun r M' => r = some (vi (M (20 + 9 * e) 6)) ∧ M' = addT e M c f s 0) := by
  refine MG_of_G (by decide) (Nat.le_of_ble_eq_true rfl) (Nat.le_refl _) (by decide) ?_
  show G X gt d KE KE y_St_add b_St_add 4 (some .int) _ 0 [(0, vr ((20 + 9 * e : Nat) : Int)), (1, vi c), (2, vi f), (3, vi s)] [] KE M
  refine G_rngl (i := 1) rfl (fun hr1 => ?_)
  refine G_rngl (i := 2) rfl (fun hr2 => ?_)
  refine G_rngl (i := 3) rfl (fun hr3 => ?_)
  refine G_aload (i := 0) (n := 0) (len := 1) (Or.inl ⟨0, rfl, rfl, d_St_add_0⟩) rfl (by omega) (G_pc (pc' := 1) rfl ?_)
  refine G_iload (i := 1) (n := 1) (len := 1) (Or.inl ⟨1, rfl, rfl, d_St_add_1⟩) rfl (G_pc (pc' := 2) rfl ?_)
  refine G_iload (i := 2) (n := 2) (len := 1) (Or.inl ⟨2, rfl, rfl, d_St_add_2⟩) rfl (G_pc (pc' := 3) rfl ?_)
  refine G_iload (i := 3) (n := 3) (len := 1) (Or.inl ⟨3, rfl, rfl, d_St_add_3⟩) rfl (G_pc (pc' := 4) rfl ?_)
  refine G_iconst (n := 0) d_St_add_4 (by decide) (G_pc (pc' := 5) rfl ?_)
  refine G_callV (K1 := KE) (d2 := 0) (o := (20 + 9 * e)) (cl := 5) (as := [vi c, vi f, vi s, vi 0]) (rest := []) d_St_add_5 mf_St_addThree ml_St_35 (kd_St he) rfl (by show 20 + 9 * e < 87; omega) rfl rfl (Nat.le_of_ble_eq_true rfl) (by omega) ⟨Nat.le_refl _, Nat.le_refl _⟩ (g_St_addThree (by omega) e c f s 0 _ he hs) (fun r1 M2 kq3 q3 => ?_)
  clear kq3; obtain ⟨q3a, q3b⟩ := q3; subst r1; subst M2
  refine G_ps (pc' := 8) (st' := [vi (M (20 + 9 * e) 6)]) rfl rfl ?_
  refine G_iret d_St_add_8 rfl (tokI (by omega)) rfl rfl ?_
  exact ⟨rfl, rfl⟩

theorem d_St_addConstant_0 : decode b_St_addConstant 0 = .ok (.aload_n 0, 1) := by decide +kernel
theorem d_St_addConstant_1 : decode b_St_addConstant 1 = .ok (.sipush 137, 3) := by decide +kernel
theorem d_St_addConstant_4 : decode b_St_addConstant 4 = .ok (.iconst 0, 1) := by decide +kernel
theorem d_St_addConstant_5 : decode b_St_addConstant 5 = .ok (.iconst 0, 1) := by decide +kernel
theorem d_St_addConstant_6 : decode b_St_addConstant 6 = .ok (.iconst 0, 1) := by decide +kernel
theorem d_St_addConstant_7 : decode b_St_addConstant 7 = .ok (.invokevirtual 35, 3) := by decide +kernel
theorem d_St_addConstant_10 : decode b_St_addConstant 10 = .ok (.istore 4, 2) := by decide +kernel
theorem d_St_addConstant_12 : decode b_St_addConstant 12 = .ok (.iload 4, 2) := by decide +kernel
theorem d_St_addConstant_14 : decode b_St_addConstant 14 = .ok (.iconst (-1), 1) := by decide +kernel
theorem d_St_addConstant_15 : decode b_St_addConstant 15 = .ok (.if_icmp .eq 19, 3) := by decide +kernel
theorem d_St_addConstant_18 : decode b_St_addConstant 18 = .ok (.aload_n 0, 1) := by decide +kernel
theorem d_St_addConstant_19 : decode b_St_addConstant 19 = .ok (.getfield 24, 3) := by decide +kernel
theorem d_St_addConstant_22 : decode b_St_addConstant 22 = .ok (.iload 4, 2) := by decide +kernel
theorem d_St_addConstant_24 : decode b_St_addConstant 24 = .ok (.iload_n 1, 1) := by decide +kernel
theorem d_St_addConstant_25 : decode b_St_addConstant 25 = .ok (.iastore, 1) := by decide +kernel
theorem d_St_addConstant_26 : decode b_St_addConstant 26 = .ok (.aload_n 0, 1) := by decide +kernel
theorem d_St_addConstant_27 : decode b_St_addConstant 27 = .ok (.getfield 27, 3) := by decide +kernel
theorem d_St_addConstant_30 : decode b_St_addConstant 30 = .ok (.iload 4, 2) := by decide +kernel
theorem d_St_addConstant_32 : decode b_St_addConstant 32 = .ok (.lload_n 2, 1) := by decide +kernel
theorem d_St_addConstant_33 : decode b_St_addConstant 33 = .ok (.lastore, 1) := by decide +kernel
theorem d_St_addConstant_34 : decode b_St_addConstant 34 = .ok (.iload 4, 2) := by decide +kernel
theorem d_St_addConstant_36 : decode b_St_addConstant 36 = .ok (.ireturn, 1) := by decide +kernel
theorem g_St_addConstant {X : WX} {d : Nat} (hd : 1 ≤ d) (e : Nat) (kk v : Int) (M : Mem) (he : e < 4) (hs : 0 ≤ M (20 + 9 * e) 6 ∧ M (20 + 9 * e) 6 < 48) : MG X gt d KE KE y_St_addConstant b_St_addConstant 5 (some .int) [vr ((20 + 9 * e : Nat) : Int), vi kk, vl v] M (fun r M' => r = some (vi (M (20 + 9 * e) 6)) ∧ M' = mset (mset (addT e M 137 0 0 0) (25 + 9 * e) (M (20 + 9 * e) 6) kk) (26 + 9 * e) (M (20 + 9 * e) 6) v) := by
  refine MG_of_G (by decide) (Nat.le_of_ble_eq_true rfl) (Nat.le_refl _) (by decide) ?_
  show G X gt d KE KE y_St_addConstant b_St_addConstant 5 (some .int) _ 0 [(0, vr ((20 + 9 * e : Nat) : Int)), (1, vi kk), (2, vl v)] [] KE M
  refine G_rngl (i := 1) rfl (fun hr1 => ?_)
  refine G_rngL (i := 2) rfl (fun hr2 => ?_)
  refine G_aload (i := 0) (n := 0) (len := 1) (Or.inl ⟨0, rfl, rfl, d_St_addConstant_0⟩) rfl (by omega) (G_pc (pc' := 1) rfl ?_)
  refine G_sipush (n := 137) d_St_addConstant_1 (by decide) (G_pc (pc' := 4) rfl ?_)
  refine G_iconst (n := 0) d_St_addConstant_4 (by decide) (G_pc (pc' := 5) rfl ?_)
  refine G_iconst (n := 0) d_St_addConstant_5 (by decide) (G_pc (pc' := 6) rfl ?_)
  refine G_iconst (n := 0) d_St_addConstant_6 (by decide) (G_pc (pc' := 7) rfl ?_)
  refine G_callV (K1 := KE) (d2 := 0) (o := (20 + 9 * e)) (cl := 5) (as := [vi 137, vi 0, vi 0, vi 0]) (rest := []) d_St_addConstant_7 mf_St_addThree ml_St_35 (kd_St he) rfl (by show 20 + 9 * e < 87; omega) rfl rfl (Nat.le_of_ble_eq_true rfl) (by omega) ⟨Nat.le_refl _, Nat.le_refl _⟩ (g_St_addThree (by omega) e 137 0 0 0 _ he hs) (fun r1 M2 kq3 q3 => ?_)
  clear kq3; obtain ⟨q3a, q3b⟩ := q3; subst r1; subst M2
  refine G_ps (pc' := 10) (st' := [vi (M (20 + 9 * e) 6)]) rfl rfl ?_
  refine G_istore (i := 4) (len := 2) (ls' := [(4, vi (M (20 + 9 * e) 6)), (0, vr ((20 + 9 * e : Nat) : Int)), (1, vi kk), (2, vl v)]) (Or.inr ⟨rfl, d_St_addConstant_10⟩) (by decide) rfl (G_pc (pc' := 12) rfl ?_)
  refine G_iload (i := 4) (n := 0) (len := 2) (Or.inr ⟨rfl, d_St_addConstant_12⟩) rfl (G_pc (pc' := 14) rfl ?_)
  refine G_iconst (n := (-1)) d_St_addConstant_14 (by decide) (G_pc (pc' := 15) rfl ?_)
  refine G_icmp_eq (tgt := 34) d_St_addConstant_15 (by decide) (fun h4 => ?_) (fun h4 => G_pc (pc' := 18) rfl ?_)
  · skip
    refine G_iload (i := 4) (n := 0) (len := 2) (Or.inr ⟨rfl, d_St_addConstant_34⟩) rfl (G_pc (pc' := 36) rfl ?_)
    refine G_iret d_St_addConstant_36 rfl (tokI (by omega)) rfl rfl ?_
    exfalso; omega
  · skip
    refine G_aload (i := 0) (n := 1) (len := 1) (Or.inl ⟨0, rfl, rfl, d_St_addConstant_18⟩) rfl (by omega) (G_pc (pc' := 19) rfl ?_)
    refine G_get (o := (20 + 9 * e)) (c := 5) (k := 4) (v := ((25 + 9 * e : Nat) : Int)) d_St_addConstant_19 fl_St_24 (kd_St he) (by decide) (by show 20 + 9 * e < 87; omega) (gf_St4 he) rfl (G_pc (pc' := 22) rfl ?_)
    refine G_iload (i := 4) (n := 0) (len := 2) (Or.inr ⟨rfl, d_St_addConstant_22⟩) rfl (G_pc (pc' := 24) rfl ?_)
    refine G_iload (i := 1) (n := 2) (len := 1) (Or.inl ⟨1, rfl, rfl, d_St_addConstant_24⟩) rfl (G_pc (pc' := 25) rfl ?_)
    refine G_iastore (o := (25 + 9 * e)) (n := 48) (i := M (20 + 9 * e) 6) (x := kk) d_St_addConstant_25 (kd_S4 he) ⟨by omega, (by show 25 + 9 * e < 87; omega)⟩ (by decide) (gn_S4 he _) (by omega) (tokI (by omega)) (G_pc (pc' := 26) rfl ?_)
    refine G_aload (i := 0) (n := 1) (len := 1) (Or.inl ⟨0, rfl, rfl, d_St_addConstant_26⟩) rfl (by omega) (G_pc (pc' := 27) rfl ?_)
    refine G_get (o := (20 + 9 * e)) (c := 5) (k := 5) (v := ((26 + 9 * e : Nat) : Int)) d_St_addConstant_27 fl_St_27 (kd_St he) (by decide) (by show 20 + 9 * e < 87; omega) (gf_St5 he) rfl (G_pc (pc' := 30) rfl ?_)
    refine G_iload (i := 4) (n := 0) (len := 2) (Or.inr ⟨rfl, d_St_addConstant_30⟩) rfl (G_pc (pc' := 32) rfl ?_)
    refine G_lload (i := 2) (n := 3) (len := 1) (Or.inl ⟨2, rfl, rfl, d_St_addConstant_32⟩) rfl (G_pc (pc' := 33) rfl ?_)
    refine G_lastore (o := (26 + 9 * e)) (n := 48) (i := M (20 + 9 * e) 6) (x := v) d_St_addConstant_33 (kd_S5 he) ⟨by omega, (by show 26 + 9 * e < 87; omega)⟩ (by decide) (gn_S5 he _) (by omega) (tokJ (by omega)) (G_pc (pc' := 34) rfl ?_)
    refine G_iload (i := 4) (n := 0) (len := 2) (Or.inr ⟨rfl, d_St_addConstant_34⟩) rfl (G_pc (pc' := 36) rfl ?_)
    refine G_iret d_St_addConstant_36 rfl (tokI (by omega)) rfl rfl ?_
    exact ⟨rfl, rfl⟩

