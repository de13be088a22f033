def canC (M : Mem) (a k : Int) : Bool := (nuB a && nuB k) || abB a k || (isKindB (M 55 0) k && relB M a k)
def choD (M : Mem) (a b : Int) : Int := if a = b then a else if relB M a b = true then (if suitsB M a b = true then b else a) else coD a b
def kelD (a b : Int) : Int := if arB a = true ∧ (b = 0 ∨ b = 2) then elD a else -1
def twoD (M : Mem) (c a b : Int) : Int := if c = 145 then kelD a b else if c = 130 ∨ c = 131 ∨ c = 132 then (if coD a b = -1 then -1 else coD a 0)
  else if c = 60 ∨ c = 62 ∨ c = 128 ∨ c = 129 then (if coD a b = -1 then -1 else 3) else if c = 133 ∨ c = 134 then (if coD a b = -1 ∧ ¬ abB a b = true ∧ ¬ relB M a b = true then -1 else 3)
  else if c = 38 ∨ c = 94 ∨ c = 124 then (if abB a b = true then 3 else coD a b) else if c = 135 ∨ c = 136 then (if abB a b = true then 3 else -1) else coD a b
def kdS (M : Mem) (c a s b t own : Int) : Int := if c = 137 then own else if c = 143 then vkD M s else if c = 144 then fkD M a s else if c = 142 then (if arB a = true then 0 else -1)
  else if c = 146 then (if canC M a s = true then s else -1) else if c = 141 then (if isKindB (M 55 0) s = true ∧ relB M a s = true then 3 else -1) else if c = 147 ∨ c = 148 ∨ c = 126 then coD a 0
  else if c = 150 ∨ c = 151 ∨ c = 152 ∨ c = 33 then (if a = 3 then 3 else -1) else if c = 149 then choD M b t else twoD M c a b
theorem b2i_v {b : Bool} (h : ¬ b2i b = 0) : b = true := b2i_nz.mp h
theorem d_Ck_booleanIf_0 : decode b_Ck_booleanIf 0 = .ok (.iload_n 0, 1) := by decide +kernel
theorem d_Ck_booleanIf_1 : decode b_Ck_booleanIf 1 = .ok (.ifCond .eq 7, 3) := by decide +kernel
theorem d_Ck_booleanIf_4 : decode b_Ck_booleanIf 4 = .ok (.iconst 3, 1) := by decide +kernel
theorem d_Ck_booleanIf_5 : decode b_Ck_booleanIf 5 = .ok (.goto 4, 3) := by decide +kernel
theorem d_Ck_booleanIf_8 : decode b_Ck_booleanIf 8 = .ok (.iconst (-1), 1) := by decide +kernel
theorem d_Ck_booleanIf_9 : decode b_Ck_booleanIf 9 = .ok (.ireturn, 1) := by decide +kernel
theorem g_Ck_booleanIf {X : WX} {d : Nat} (hd : 0 ≤ d) (z : Int) (M : Mem) (hz : 0 ≤ z ∧ z ≤ 1) : MG X gt d KE KE y_Ck_booleanIf b_Ck_booleanIf 1 (some .int) [vi z] M (fun r M' => r = some (vi (if z = 0 then -1 else 3)) ∧ M' = M) := by
  refine MG_of_G (by decide) (Nat.le_of_ble_eq_true rfl) (Nat.le_refl _) (by decide) ?_
  show G X gt d KE KE y_Ck_booleanIf b_Ck_booleanIf 1 (some .int) _ 0 [(0, vi z)] [] KE M
  refine G_rngl (i := 0) rfl (fun hr0 => ?_)
  refine G_iload (i := 0) (n := 0) (len := 1) (Or.inl ⟨0, rfl, rfl, d_Ck_booleanIf_0⟩) rfl (G_pc (pc' := 1) rfl ?_)
  refine G_if_eq (tgt := 8) d_Ck_booleanIf_1 (by decide) (fun h1 => ?_) (fun h1 => G_pc (pc' := 4) rfl ?_)
  · skip
    refine G_iconst (n := (-1)) d_Ck_booleanIf_8 (by decide) (G_pc (pc' := 9) rfl ?_)
    refine G_iret d_Ck_booleanIf_9 rfl (tokI (by decide)) rfl rfl ?_
    exact ret_e (by first | rw [if_pos (by omega)] | rw [if_neg (by omega)]) rfl
  · skip
    refine G_iconst (n := 3) d_Ck_booleanIf_4 (by decide) (G_pc (pc' := 5) rfl ?_)
    refine G_goto (tgt := 9) d_Ck_booleanIf_5 (by decide) ?_
    refine G_iret d_Ck_booleanIf_9 rfl (tokI (by decide)) rfl rfl ?_
    exact ret_e (by first | rw [if_pos (by omega)] | rw [if_neg (by omega)]) rfl

theorem d_Ck_canCast_0 : decode b_Ck_canCast 0 = .ok (.iload_n 1, 1) := by decide +kernel
theorem d_Ck_canCast_1 : decode b_Ck_canCast 1 = .ok (.invokestatic 87, 3) := by decide +kernel
theorem d_Ck_canCast_4 : decode b_Ck_canCast 4 = .ok (.ifCond .eq 10, 3) := by decide +kernel
theorem d_Ck_canCast_7 : decode b_Ck_canCast 7 = .ok (.iload_n 2, 1) := by decide +kernel
theorem d_Ck_canCast_8 : decode b_Ck_canCast 8 = .ok (.invokestatic 87, 3) := by decide +kernel
theorem d_Ck_canCast_11 : decode b_Ck_canCast 11 = .ok (.ifCond .ne 34, 3) := by decide +kernel
theorem d_Ck_canCast_14 : decode b_Ck_canCast 14 = .ok (.iload_n 1, 1) := by decide +kernel
theorem d_Ck_canCast_15 : decode b_Ck_canCast 15 = .ok (.iload_n 2, 1) := by decide +kernel
theorem d_Ck_canCast_16 : decode b_Ck_canCast 16 = .ok (.invokestatic 90, 3) := by decide +kernel
theorem d_Ck_canCast_19 : decode b_Ck_canCast 19 = .ok (.ifCond .ne 26, 3) := by decide +kernel
theorem d_Ck_canCast_22 : decode b_Ck_canCast 22 = .ok (.aload_n 0, 1) := by decide +kernel
theorem d_Ck_canCast_23 : decode b_Ck_canCast 23 = .ok (.getfield 9, 3) := by decide +kernel
theorem d_Ck_canCast_26 : decode b_Ck_canCast 26 = .ok (.iload_n 2, 1) := by decide +kernel
theorem d_Ck_canCast_27 : decode b_Ck_canCast 27 = .ok (.invokevirtual 64, 3) := by decide +kernel
theorem d_Ck_canCast_30 : decode b_Ck_canCast 30 = .ok (.ifCond .eq 19, 3) := by decide +kernel
theorem d_Ck_canCast_33 : decode b_Ck_canCast 33 = .ok (.aload_n 0, 1) := by decide +kernel
theorem d_Ck_canCast_34 : decode b_Ck_canCast 34 = .ok (.getfield 9, 3) := by decide +kernel
theorem d_Ck_canCast_37 : decode b_Ck_canCast 37 = .ok (.iload_n 1, 1) := by decide +kernel
theorem d_Ck_canCast_38 : decode b_Ck_canCast 38 = .ok (.iload_n 2, 1) := by decide +kernel
theorem d_Ck_canCast_39 : decode b_Ck_canCast 39 = .ok (.invokevirtual 67, 3) := by decide +kernel
theorem d_Ck_canCast_42 : decode b_Ck_canCast 42 = .ok (.ifCond .eq 7, 3) := by decide +kernel
theorem d_Ck_canCast_45 : decode b_Ck_canCast 45 = .ok (.iconst 1, 1) := by decide +kernel
theorem d_Ck_canCast_46 : decode b_Ck_canCast 46 = .ok (.goto 4, 3) := by decide +kernel
theorem d_Ck_canCast_49 : decode b_Ck_canCast 49 = .ok (.iconst 0, 1) := by decide +kernel
theorem d_Ck_canCast_50 : decode b_Ck_canCast 50 = .ok (.ireturn, 1) := by decide +kernel
set_option maxHeartbeats 1000000 in
theorem g_Ck_canCast {X : WX} {d : Nat} (hd : 3 ≤ d) (a k : Int) (M : Mem) (hT : RT M) (hI : TI M) (ha : vK M a) : MG X gt d KE KE y_Ck_canCast b_Ck_canCast 3 (some .boolean) [vr 18, vi a, vi k] M (fun r M' => r = some (vi (b2i (canC M a k))) ∧ M' = M) := by
  refine MG_of_G (by decide) (Nat.le_of_ble_eq_true rfl) (Nat.le_refl _) (by decide) ?_
  show G X gt d KE KE y_Ck_canCast b_Ck_canCast 3 (some .boolean) _ 0 [(0, vr 18), (1, vi a), (2, vi k)] [] KE M
  have hI0 := hI
  obtain ⟨hI1, hI2, hI3, hI4, hI5, hI6, hI7, hI8, hI9, hI10, hI11, hI12, hI13, hI14⟩ := hI
  refine G_rngl (i := 1) rfl (fun hr1 => ?_)
  refine G_rngl (i := 2) rfl (fun hr2 => ?_)
  refine G_iload (i := 1) (n := 1) (len := 1) (Or.inl ⟨1, rfl, rfl, d_Ck_canCast_0⟩) rfl (G_pc (pc' := 1) rfl ?_)
  refine G_callS (K1 := KE) (d2 := 0) (as := [vi a]) (rest := []) d_Ck_canCast_1 mf_Ki_isNumeric ml_Ck_87 rfl rfl (Nat.le_of_ble_eq_true rfl) (by omega) ⟨Nat.le_refl _, Nat.le_refl _⟩ (g_Ki_isNumeric (by omega) a _) (fun r1 M2 kq3 q3 => ?_)
  clear kq3; obtain ⟨q3a, q3b⟩ := q3; subst r1; subst M2
  refine G_ps (pc' := 4) (st' := [vi (b2i (nuB a))]) rfl rfl ?_
  refine G_if_eq (tgt := 14) d_Ck_canCast_4 (by decide) (fun h4 => ?_) (fun h4 => G_pc (pc' := 7) rfl ?_)
  · skip
    replace h4 := b2i_0.mp h4
    refine G_iload (i := 1) (n := 1) (len := 1) (Or.inl ⟨1, rfl, rfl, d_Ck_canCast_14⟩) rfl (G_pc (pc' := 15) rfl ?_)
    refine G_iload (i := 2) (n := 2) (len := 1) (Or.inl ⟨2, rfl, rfl, d_Ck_canCast_15⟩) rfl (G_pc (pc' := 16) rfl ?_)
    refine G_callS (K1 := KE) (d2 := 0) (as := [vi a, vi k]) (rest := []) d_Ck_canCast_16 mf_Ki_areBoolean ml_Ck_90 rfl rfl (Nat.le_of_ble_eq_true rfl) (by omega) ⟨Nat.le_refl _, Nat.le_refl _⟩ (g_Ki_areBoolean (by omega) a k _) (fun r5 M6 kq7 q7 => ?_)
    clear kq7; obtain ⟨q7a, q7b⟩ := q7; subst r5; subst M6
    refine G_ps (pc' := 19) (st' := [vi (b2i (abB a k))]) rfl rfl ?_
    refine G_if_ne (tgt := 45) d_Ck_canCast_19 (by decide) (fun h8 => ?_) (fun h8 => G_pc (pc' := 22) rfl ?_)
    · skip
      replace h8 := b2i_nz.mp h8
      refine G_iconst (n := 1) d_Ck_canCast_45 (by decide) (G_pc (pc' := 46) rfl ?_)
      refine G_goto (tgt := 50) d_Ck_canCast_46 (by decide) ?_
      refine G_iret d_Ck_canCast_50 rfl (tokZ (by decide)) rfl rfl ?_
      exact ret_t (by unfold canC; simp [*]) rfl
    · skip
      replace h8 := b2i_0.mp h8
      refine G_aload (i := 0) (n := 0) (len := 1) (Or.inl ⟨0, rfl, rfl, d_Ck_canCast_22⟩) rfl (by decide) (G_pc (pc' := 23) rfl ?_)
      refine G_get (o := 18) (c := 0) (k := 0) (v := 4) d_Ck_canCast_23 fl_Ck_9 rfl (by decide) (by decide) rfl rfl (G_pc (pc' := 26) rfl ?_)
      refine G_iload (i := 2) (n := 2) (len := 1) (Or.inl ⟨2, rfl, rfl, d_Ck_canCast_26⟩) rfl (G_pc (pc' := 27) rfl ?_)
      refine G_callV (K1 := KE) (d2 := 1) (o := 4) (cl := 6) (as := [vi k]) (rest := []) d_Ck_canCast_27 mf_Ta_isThere ml_Ck_64 rfl rfl (by decide) rfl rfl (Nat.le_of_ble_eq_true rfl) (by omega) ⟨Nat.le_refl _, Nat.le_refl _⟩ (g_Ta_isThere (by omega) k M hT hI0 ) (fun r9 M10 kq11 q11 => ?_)
      clear kq11; obtain ⟨q11a, q11b⟩ := q11; subst r9; subst M10
      refine G_ps (pc' := 30) (st' := [vi (b2i (isKindB (M 55 0) k))]) rfl rfl ?_
      refine G_if_eq (tgt := 49) d_Ck_canCast_30 (by decide) (fun h12 => ?_) (fun h12 => G_pc (pc' := 33) rfl ?_)
      · skip
        replace h12 := b2i_0.mp h12
        refine G_iconst (n := 0) d_Ck_canCast_49 (by decide) (G_pc (pc' := 50) rfl ?_)
        refine G_iret d_Ck_canCast_50 rfl (tokZ (by decide)) rfl rfl ?_
        exact ret_f (by unfold canC; simp [*]) rfl
      · skip
        replace h12 := b2i_nz.mp h12
        refine G_aload (i := 0) (n := 0) (len := 1) (Or.inl ⟨0, rfl, rfl, d_Ck_canCast_33⟩) rfl (by decide) (G_pc (pc' := 34) rfl ?_)
        refine G_get (o := 18) (c := 0) (k := 0) (v := 4) d_Ck_canCast_34 fl_Ck_9 rfl (by decide) (by decide) rfl rfl (G_pc (pc' := 37) rfl ?_)
        refine G_iload (i := 1) (n := 1) (len := 1) (Or.inl ⟨1, rfl, rfl, d_Ck_canCast_37⟩) rfl (G_pc (pc' := 38) rfl ?_)
        refine G_iload (i := 2) (n := 2) (len := 1) (Or.inl ⟨2, rfl, rfl, d_Ck_canCast_38⟩) rfl (G_pc (pc' := 39) rfl ?_)
        refine G_callV (K1 := KE) (d2 := 2) (o := 4) (cl := 6) (as := [vi a, vi k]) (rest := []) d_Ck_canCast_39 mf_Ta_areRelated ml_Ck_67 rfl rfl (by decide) rfl rfl (Nat.le_of_ble_eq_true rfl) (by omega) ⟨Nat.le_refl _, Nat.le_refl _⟩ (g_Ta_areRelated (by omega) a k M hT hI0 ha (Or.inl (by assumption))) (fun r13 M14 kq15 q15 => ?_)
        clear kq15; obtain ⟨q15a, q15b⟩ := q15; subst r13; subst M14
        refine G_ps (pc' := 42) (st' := [vi (b2i (relB M a k))]) rfl rfl ?_
        refine G_if_eq (tgt := 49) d_Ck_canCast_42 (by decide) (fun h16 => ?_) (fun h16 => G_pc (pc' := 45) rfl ?_)
        · skip
          replace h16 := b2i_0.mp h16
          refine G_iconst (n := 0) d_Ck_canCast_49 (by decide) (G_pc (pc' := 50) rfl ?_)
          refine G_iret d_Ck_canCast_50 rfl (tokZ (by decide)) rfl rfl ?_
          exact ret_f (by unfold canC; simp [*]) rfl
        · skip
          replace h16 := b2i_nz.mp h16
          refine G_iconst (n := 1) d_Ck_canCast_45 (by decide) (G_pc (pc' := 46) rfl ?_)
          refine G_goto (tgt := 50) d_Ck_canCast_46 (by decide) ?_
          refine G_iret d_Ck_canCast_50 rfl (tokZ (by decide)) rfl rfl ?_
          exact ret_t (by unfold canC; simp [*]) rfl
  · skip
    replace h4 := b2i_nz.mp h4
    refine G_iload (i := 2) (n := 2) (len := 1) (Or.inl ⟨2, rfl, rfl, d_Ck_canCast_7⟩) rfl (G_pc (pc' := 8) rfl ?_)
    refine G_callS (K1 := KE) (d2 := 0) (as := [vi k]) (rest := []) d_Ck_canCast_8 mf_Ki_isNumeric ml_Ck_87 rfl rfl (Nat.le_of_ble_eq_true rfl) (by omega) ⟨Nat.le_refl _, Nat.le_refl _⟩ (g_Ki_isNumeric (by omega) k _) (fun r17 M18 kq19 q19 => ?_)
    clear kq19; obtain ⟨q19a, q19b⟩ := q19; subst r17; subst M18
    refine G_ps (pc' := 11) (st' := [vi (b2i (nuB k))]) rfl rfl ?_
    refine G_if_ne (tgt := 45) d_Ck_canCast_11 (by decide) (fun h20 => ?_) (fun h20 => G_pc (pc' := 14) rfl ?_)
    · skip
      replace h20 := b2i_nz.mp h20
      refine G_iconst (n := 1) d_Ck_canCast_45 (by decide) (G_pc (pc' := 46) rfl ?_)
      refine G_goto (tgt := 50) d_Ck_canCast_46 (by decide) ?_
      refine G_iret d_Ck_canCast_50 rfl (tokZ (by decide)) rfl rfl ?_
      exact ret_t (by unfold canC; simp [*]) rfl
    · skip
      replace h20 := b2i_0.mp h20
      refine G_iload (i := 1) (n := 1) (len := 1) (Or.inl ⟨1, rfl, rfl, d_Ck_canCast_14⟩) rfl (G_pc (pc' := 15) rfl ?_)
      refine G_iload (i := 2) (n := 2) (len := 1) (Or.inl ⟨2, rfl, rfl, d_Ck_canCast_15⟩) rfl (G_pc (pc' := 16) rfl ?_)
      refine G_callS (K1 := KE) (d2 := 0) (as := [vi a, vi k]) (rest := []) d_Ck_canCast_16 mf_Ki_areBoolean ml_Ck_90 rfl rfl (Nat.le_of_ble_eq_true rfl) (by omega) ⟨Nat.le_refl _, Nat.le_refl _⟩ (g_Ki_areBoolean (by omega) a k _) (fun r21 M22 kq23 q23 => ?_)
      clear kq23; obtain ⟨q23a, q23b⟩ := q23; subst r21; subst M22
      refine G_ps (pc' := 19) (st' := [vi (b2i (abB a k))]) rfl rfl ?_
      refine G_if_ne (tgt := 45) d_Ck_canCast_19 (by decide) (fun h24 => ?_) (fun h24 => G_pc (pc' := 22) rfl ?_)
      · skip
        replace h24 := b2i_nz.mp h24
        refine G_iconst (n := 1) d_Ck_canCast_45 (by decide) (G_pc (pc' := 46) rfl ?_)
        refine G_goto (tgt := 50) d_Ck_canCast_46 (by decide) ?_
        refine G_iret d_Ck_canCast_50 rfl (tokZ (by decide)) rfl rfl ?_
        exact ret_t (by unfold canC; simp [*]) rfl
      · skip
        replace h24 := b2i_0.mp h24
        refine G_aload (i := 0) (n := 0) (len := 1) (Or.inl ⟨0, rfl, rfl, d_Ck_canCast_22⟩) rfl (by decide) (G_pc (pc' := 23) rfl ?_)
        refine G_get (o := 18) (c := 0) (k := 0) (v := 4) d_Ck_canCast_23 fl_Ck_9 rfl (by decide) (by decide) rfl rfl (G_pc (pc' := 26) rfl ?_)
        refine G_iload (i := 2) (n := 2) (len := 1) (Or.inl ⟨2, rfl, rfl, d_Ck_canCast_26⟩) rfl (G_pc (pc' := 27) rfl ?_)
        refine G_callV (K1 := KE) (d2 := 1) (o := 4) (cl := 6) (as := [vi k]) (rest := []) d_Ck_canCast_27 mf_Ta_isThere ml_Ck_64 rfl rfl (by decide) rfl rfl (Nat.le_of_ble_eq_true rfl) (by omega) ⟨Nat.le_refl _, Nat.le_refl _⟩ (g_Ta_isThere (by omega) k M hT hI0 ) (fun r25 M26 kq27 q27 => ?_)
        clear kq27; obtain ⟨q27a, q27b⟩ := q27; subst r25; subst M26
        refine G_ps (pc' := 30) (st' := [vi (b2i (isKindB (M 55 0) k))]) rfl rfl ?_
        refine G_if_eq (tgt := 49) d_Ck_canCast_30 (by decide) (fun h28 => ?_) (fun h28 => G_pc (pc' := 33) rfl ?_)
        · skip
          replace h28 := b2i_0.mp h28
          refine G_iconst (n := 0) d_Ck_canCast_49 (by decide) (G_pc (pc' := 50) rfl ?_)
          refine G_iret d_Ck_canCast_50 rfl (tokZ (by decide)) rfl rfl ?_
          exact ret_f (by unfold canC; simp [*]) rfl
        · skip
          replace h28 := b2i_nz.mp h28
          refine G_aload (i := 0) (n := 0) (len := 1) (Or.inl ⟨0, rfl, rfl, d_Ck_canCast_33⟩) rfl (by decide) (G_pc (pc' := 34) rfl ?_)
          refine G_get (o := 18) (c := 0) (k := 0) (v := 4) d_Ck_canCast_34 fl_Ck_9 rfl (by decide) (by decide) rfl rfl (G_pc (pc' := 37) rfl ?_)
          refine G_iload (i := 1) (n := 1) (len := 1) (Or.inl ⟨1, rfl, rfl, d_Ck_canCast_37⟩) rfl (G_pc (pc' := 38) rfl ?_)
          refine G_iload (i := 2) (n := 2) (len := 1) (Or.inl ⟨2, rfl, rfl, d_Ck_canCast_38⟩) rfl (G_pc (pc' := 39) rfl ?_)
          refine G_callV (K1 := KE) (d2 := 2) (o := 4) (cl := 6) (as := [vi a, vi k]) (rest := []) d_Ck_canCast_39 mf_Ta_areRelated ml_Ck_67 rfl rfl (by decide) rfl rfl (Nat.le_of_ble_eq_true rfl) (by omega) ⟨Nat.le_refl _, Nat.le_refl _⟩ (g_Ta_areRelated (by omega) a k M hT hI0 ha (Or.inl (by assumption))) (fun r29 M30 kq31 q31 => ?_)
          clear kq31; obtain ⟨q31a, q31b⟩ := q31; subst r29; subst M30
          refine G_ps (pc' := 42) (st' := [vi (b2i (relB M a k))]) rfl rfl ?_
          refine G_if_eq (tgt := 49) d_Ck_canCast_42 (by decide) (fun h32 => ?_) (fun h32 => G_pc (pc' := 45) rfl ?_)
          · skip
            replace h32 := b2i_0.mp h32
            refine G_iconst (n := 0) d_Ck_canCast_49 (by decide) (G_pc (pc' := 50) rfl ?_)
            refine G_iret d_Ck_canCast_50 rfl (tokZ (by decide)) rfl rfl ?_
            exact ret_f (by unfold canC; simp [*]) rfl
          · skip
            replace h32 := b2i_nz.mp h32
            refine G_iconst (n := 1) d_Ck_canCast_45 (by decide) (G_pc (pc' := 46) rfl ?_)
            refine G_goto (tgt := 50) d_Ck_canCast_46 (by decide) ?_
            refine G_iret d_Ck_canCast_50 rfl (tokZ (by decide)) rfl rfl ?_
            exact ret_t (by unfold canC; simp [*]) rfl

theorem d_Ck_kindOfChoice_0 : decode b_Ck_kindOfChoice 0 = .ok (.iload_n 1, 1) := by decide +kernel
theorem d_Ck_kindOfChoice_1 : decode b_Ck_kindOfChoice 1 = .ok (.iload_n 2, 1) := by decide +kernel
theorem d_Ck_kindOfChoice_2 : decode b_Ck_kindOfChoice 2 = .ok (.if_icmp .ne 5, 3) := by decide +kernel
theorem d_Ck_kindOfChoice_5 : decode b_Ck_kindOfChoice 5 = .ok (.iload_n 1, 1) := by decide +kernel
theorem d_Ck_kindOfChoice_6 : decode b_Ck_kindOfChoice 6 = .ok (.ireturn, 1) := by decide +kernel
theorem d_Ck_kindOfChoice_7 : decode b_Ck_kindOfChoice 7 = .ok (.aload_n 0, 1) := by decide +kernel
theorem d_Ck_kindOfChoice_8 : decode b_Ck_kindOfChoice 8 = .ok (.getfield 9, 3) := by decide +kernel
theorem d_Ck_kindOfChoice_11 : decode b_Ck_kindOfChoice 11 = .ok (.iload_n 1, 1) := by decide +kernel
theorem d_Ck_kindOfChoice_12 : decode b_Ck_kindOfChoice 12 = .ok (.iload_n 2, 1) := by decide +kernel
theorem d_Ck_kindOfChoice_13 : decode b_Ck_kindOfChoice 13 = .ok (.invokevirtual 67, 3) := by decide +kernel
theorem d_Ck_kindOfChoice_16 : decode b_Ck_kindOfChoice 16 = .ok (.ifCond .ne 9, 3) := by decide +kernel
theorem d_Ck_kindOfChoice_19 : decode b_Ck_kindOfChoice 19 = .ok (.iload_n 1, 1) := by decide +kernel
theorem d_Ck_kindOfChoice_20 : decode b_Ck_kindOfChoice 20 = .ok (.iload_n 2, 1) := by decide +kernel
theorem d_Ck_kindOfChoice_21 : decode b_Ck_kindOfChoice 21 = .ok (.invokestatic 93, 3) := by decide +kernel
theorem d_Ck_kindOfChoice_24 : decode b_Ck_kindOfChoice 24 = .ok (.ireturn, 1) := by decide +kernel
theorem d_Ck_kindOfChoice_25 : decode b_Ck_kindOfChoice 25 = .ok (.aload_n 0, 1) := by decide +kernel
theorem d_Ck_kindOfChoice_26 : decode b_Ck_kindOfChoice 26 = .ok (.getfield 9, 3) := by decide +kernel
theorem d_Ck_kindOfChoice_29 : decode b_Ck_kindOfChoice 29 = .ok (.iload_n 1, 1) := by decide +kernel
theorem d_Ck_kindOfChoice_30 : decode b_Ck_kindOfChoice 30 = .ok (.iload_n 2, 1) := by decide +kernel
theorem d_Ck_kindOfChoice_31 : decode b_Ck_kindOfChoice 31 = .ok (.invokevirtual 96, 3) := by decide +kernel
theorem d_Ck_kindOfChoice_34 : decode b_Ck_kindOfChoice 34 = .ok (.ifCond .eq 7, 3) := by decide +kernel
theorem d_Ck_kindOfChoice_37 : decode b_Ck_kindOfChoice 37 = .ok (.iload_n 2, 1) := by decide +kernel
theorem d_Ck_kindOfChoice_38 : decode b_Ck_kindOfChoice 38 = .ok (.goto 4, 3) := by decide +kernel
theorem d_Ck_kindOfChoice_41 : decode b_Ck_kindOfChoice 41 = .ok (.iload_n 1, 1) := by decide +kernel
theorem d_Ck_kindOfChoice_42 : decode b_Ck_kindOfChoice 42 = .ok (.ireturn, 1) := by decide +kernel
theorem g_Ck_kindOfChoice {X : WX} {d : Nat} (hd : 3 ≤ d) (a b : Int) (M : Mem) (hT : RT M) (hI : TI M) (ha : vK M a) (hb : vK M b) : MG X gt d KE KE y_Ck_kindOfChoice b_Ck_kindOfChoice 3 (some .int) [vr 18, vi a, vi b] M (fun r M' => r = some (vi (choD M a b)) ∧ M' = M) := by
  refine MG_of_G (by decide) (Nat.le_of_ble_eq_true rfl) (Nat.le_refl _) (by decide) ?_
  show G X gt d KE KE y_Ck_kindOfChoice b_Ck_kindOfChoice 3 (some .int) _ 0 [(0, vr 18), (1, vi a), (2, vi b)] [] KE M
  have hI0 := hI
  obtain ⟨hI1, hI2, hI3, hI4, hI5, hI6, hI7, hI8, hI9, hI10, hI11, hI12, hI13, hI14⟩ := hI
  refine G_rngl (i := 1) rfl (fun hr1 => ?_)
  refine G_rngl (i := 2) rfl (fun hr2 => ?_)
  refine G_iload (i := 1) (n := 1) (len := 1) (Or.inl ⟨1, rfl, rfl, d_Ck_kindOfChoice_0⟩) rfl (G_pc (pc' := 1) rfl ?_)
  refine G_iload (i := 2) (n := 2) (len := 1) (Or.inl ⟨2, rfl, rfl, d_Ck_kindOfChoice_1⟩) rfl (G_pc (pc' := 2) rfl ?_)
  refine G_icmp_ne (tgt := 7) d_Ck_kindOfChoice_2 (by decide) (fun h1 => ?_) (fun h1 => G_pc (pc' := 5) rfl ?_)
  · skip
    refine G_aload (i := 0) (n := 0) (len := 1) (Or.inl ⟨0, rfl, rfl, d_Ck_kindOfChoice_7⟩) rfl (by decide) (G_pc (pc' := 8) rfl ?_)
    refine G_get (o := 18) (c := 0) (k := 0) (v := 4) d_Ck_kindOfChoice_8 fl_Ck_9 rfl (by decide) (by decide) rfl rfl (G_pc (pc' := 11) rfl ?_)
    refine G_iload (i := 1) (n := 1) (len := 1) (Or.inl ⟨1, rfl, rfl, d_Ck_kindOfChoice_11⟩) rfl (G_pc (pc' := 12) rfl ?_)
    refine G_iload (i := 2) (n := 2) (len := 1) (Or.inl ⟨2, rfl, rfl, d_Ck_kindOfChoice_12⟩) rfl (G_pc (pc' := 13) rfl ?_)
    refine G_callV (K1 := KE) (d2 := 2) (o := 4) (cl := 6) (as := [vi a, vi b]) (rest := []) d_Ck_kindOfChoice_13 mf_Ta_areRelated ml_Ck_67 rfl rfl (by decide) rfl rfl (Nat.le_of_ble_eq_true rfl) (by omega) ⟨Nat.le_refl _, Nat.le_refl _⟩ (g_Ta_areRelated (by omega) a b M hT hI0 (by assumption) (by assumption)) (fun r2 M3 kq4 q4 => ?_)
    clear kq4; obtain ⟨q4a, q4b⟩ := q4; subst r2; subst M3
    refine G_ps (pc' := 16) (st' := [vi (b2i (relB M a b))]) rfl rfl ?_
    refine G_if_ne (tgt := 25) d_Ck_kindOfChoice_16 (by decide) (fun h5 => ?_) (fun h5 => G_pc (pc' := 19) rfl ?_)
    · skip
      replace h5 := b2i_nz.mp h5
      refine G_aload (i := 0) (n := 0) (len := 1) (Or.inl ⟨0, rfl, rfl, d_Ck_kindOfChoice_25⟩) rfl (by decide) (G_pc (pc' := 26) rfl ?_)
      refine G_get (o := 18) (c := 0) (k := 0) (v := 4) d_Ck_kindOfChoice_26 fl_Ck_9 rfl (by decide) (by decide) rfl rfl (G_pc (pc' := 29) rfl ?_)
      refine G_iload (i := 1) (n := 1) (len := 1) (Or.inl ⟨1, rfl, rfl, d_Ck_kindOfChoice_29⟩) rfl (G_pc (pc' := 30) rfl ?_)
      refine G_iload (i := 2) (n := 2) (len := 1) (Or.inl ⟨2, rfl, rfl, d_Ck_kindOfChoice_30⟩) rfl (G_pc (pc' := 31) rfl ?_)
      refine G_callV (K1 := KE) (d2 := 1) (o := 4) (cl := 6) (as := [vi a, vi b]) (rest := []) d_Ck_kindOfChoice_31 mf_Ta_fits ml_Ck_96 rfl rfl (by decide) rfl rfl (Nat.le_of_ble_eq_true rfl) (by omega) ⟨Nat.le_refl _, Nat.le_refl _⟩ (g_Ta_fits (by omega) a b M hT hI0 (by assumption) (by assumption)) (fun r6 M7 kq8 q8 => ?_)
      clear kq8; obtain ⟨q8a, q8b⟩ := q8; subst r6; subst M7
      refine G_ps (pc' := 34) (st' := [vi (b2i (suitsB M a b))]) rfl rfl ?_
      refine G_if_eq (tgt := 41) d_Ck_kindOfChoice_34 (by decide) (fun h9 => ?_) (fun h9 => G_pc (pc' := 37) rfl ?_)
      · skip
        replace h9 := b2i_0.mp h9
        refine G_iload (i := 1) (n := 1) (len := 1) (Or.inl ⟨1, rfl, rfl, d_Ck_kindOfChoice_41⟩) rfl (G_pc (pc' := 42) rfl ?_)
        refine G_iret d_Ck_kindOfChoice_42 rfl (tokI (by have := coD_rng a b; omega)) rfl rfl ?_
        exact ret_e (by unfold choD; simp [*]) rfl
      · skip
        replace h9 := b2i_nz.mp h9
        refine G_iload (i := 2) (n := 2) (len := 1) (Or.inl ⟨2, rfl, rfl, d_Ck_kindOfChoice_37⟩) rfl (G_pc (pc' := 38) rfl ?_)
        refine G_goto (tgt := 42) d_Ck_kindOfChoice_38 (by decide) ?_
        refine G_iret d_Ck_kindOfChoice_42 rfl (tokI (by have := coD_rng a b; omega)) rfl rfl ?_
        exact ret_e (by unfold choD; simp [*]) rfl
    · skip
      replace h5 := b2i_0.mp h5
      refine G_iload (i := 1) (n := 1) (len := 1) (Or.inl ⟨1, rfl, rfl, d_Ck_kindOfChoice_19⟩) rfl (G_pc (pc' := 20) rfl ?_)
      refine G_iload (i := 2) (n := 2) (len := 1) (Or.inl ⟨2, rfl, rfl, d_Ck_kindOfChoice_20⟩) rfl (G_pc (pc' := 21) rfl ?_)
      refine G_callS (K1 := KE) (d2 := 1) (as := [vi a, vi b]) (rest := []) d_Ck_kindOfChoice_21 mf_Ki_common ml_Ck_93 rfl rfl (Nat.le_of_ble_eq_true rfl) (by omega) ⟨Nat.le_refl _, Nat.le_refl _⟩ (g_Ki_common (by omega) a b _) (fun r10 M11 kq12 q12 => ?_)
      clear kq12; obtain ⟨q12a, q12b⟩ := q12; subst r10; subst M11
      refine G_ps (pc' := 24) (st' := [vi (coD a b)]) rfl rfl ?_
      refine G_iret d_Ck_kindOfChoice_24 rfl (tokI (by have := coD_rng a b; omega)) rfl rfl ?_
      exact ret_e (by unfold choD; simp [*]) rfl
  · skip
    refine G_iload (i := 1) (n := 1) (len := 1) (Or.inl ⟨1, rfl, rfl, d_Ck_kindOfChoice_5⟩) rfl (G_pc (pc' := 6) rfl ?_)
    refine G_iret d_Ck_kindOfChoice_6 rfl (tokI (by have := coD_rng a b; omega)) rfl rfl ?_
    exact ret_e (by unfold choD; simp [*]) rfl

theorem d_Ck_kindOfElement_0 : decode b_Ck_kindOfElement 0 = .ok (.iload_n 0, 1) := by decide +kernel
theorem d_Ck_kindOfElement_1 : decode b_Ck_kindOfElement 1 = .ok (.invokestatic 54, 3) := by decide +kernel
theorem d_Ck_kindOfElement_4 : decode b_Ck_kindOfElement 4 = .ok (.ifCond .eq 16, 3) := by decide +kernel
theorem d_Ck_kindOfElement_7 : decode b_Ck_kindOfElement 7 = .ok (.iload_n 1, 1) := by decide +kernel
theorem d_Ck_kindOfElement_8 : decode b_Ck_kindOfElement 8 = .ok (.ifCond .eq 8, 3) := by decide +kernel
theorem d_Ck_kindOfElement_11 : decode b_Ck_kindOfElement 11 = .ok (.iload_n 1, 1) := by decide +kernel
theorem d_Ck_kindOfElement_12 : decode b_Ck_kindOfElement 12 = .ok (.iconst 2, 1) := by decide +kernel
theorem d_Ck_kindOfElement_13 : decode b_Ck_kindOfElement 13 = .ok (.if_icmp .ne 7, 3) := by decide +kernel
theorem d_Ck_kindOfElement_16 : decode b_Ck_kindOfElement 16 = .ok (.iconst 1, 1) := by decide +kernel
theorem d_Ck_kindOfElement_17 : decode b_Ck_kindOfElement 17 = .ok (.goto 4, 3) := by decide +kernel
theorem d_Ck_kindOfElement_20 : decode b_Ck_kindOfElement 20 = .ok (.iconst 0, 1) := by decide +kernel
theorem d_Ck_kindOfElement_21 : decode b_Ck_kindOfElement 21 = .ok (.istore_n 2, 1) := by decide +kernel
theorem d_Ck_kindOfElement_22 : decode b_Ck_kindOfElement 22 = .ok (.iload_n 2, 1) := by decide +kernel
theorem d_Ck_kindOfElement_23 : decode b_Ck_kindOfElement 23 = .ok (.ifCond .eq 10, 3) := by decide +kernel
theorem d_Ck_kindOfElement_26 : decode b_Ck_kindOfElement 26 = .ok (.iload_n 0, 1) := by decide +kernel
theorem d_Ck_kindOfElement_27 : decode b_Ck_kindOfElement 27 = .ok (.invokestatic 102, 3) := by decide +kernel
theorem d_Ck_kindOfElement_30 : decode b_Ck_kindOfElement 30 = .ok (.goto 4, 3) := by decide +kernel
theorem d_Ck_kindOfElement_33 : decode b_Ck_kindOfElement 33 = .ok (.iconst (-1), 1) := by decide +kernel
theorem d_Ck_kindOfElement_34 : decode b_Ck_kindOfElement 34 = .ok (.ireturn, 1) := by decide +kernel
theorem g_Ck_kindOfElement {X : WX} {d : Nat} (hd : 1 ≤ d) (a b : Int) (M : Mem)  : MG X gt d KE KE y_Ck_kindOfElement b_Ck_kindOfElement 3 (some .int) [vi a, vi b] M (fun r M' => r = some (vi (kelD a b)) ∧ M' = M) := by
  refine MG_of_G (by decide) (Nat.le_of_ble_eq_true rfl) (Nat.le_refl _) (by decide) ?_
  show G X gt d KE KE y_Ck_kindOfElement b_Ck_kindOfElement 3 (some .int) _ 0 [(0, vi a), (1, vi b)] [] KE M
  refine G_rngl (i := 0) rfl (fun hr0 => ?_)
  refine G_rngl (i := 1) rfl (fun hr1 => ?_)
  refine G_iload (i := 0) (n := 0) (len := 1) (Or.inl ⟨0, rfl, rfl, d_Ck_kindOfElement_0⟩) rfl (G_pc (pc' := 1) rfl ?_)
  refine G_callS (K1 := KE) (d2 := 0) (as := [vi a]) (rest := []) d_Ck_kindOfElement_1 mf_Ki_isArray ml_Ck_54 rfl rfl (Nat.le_of_ble_eq_true rfl) (by omega) ⟨Nat.le_refl _, Nat.le_refl _⟩ (g_Ki_isArray (by omega) a _) (fun r1 M2 kq3 q3 => ?_)
  clear kq3; obtain ⟨q3a, q3b⟩ := q3; subst r1; subst M2
  refine G_ps (pc' := 4) (st' := [vi (b2i (arB a))]) rfl rfl ?_
  refine G_if_eq (tgt := 20) d_Ck_kindOfElement_4 (by decide) (fun h4 => ?_) (fun h4 => G_pc (pc' := 7) rfl ?_)
  · skip
    replace h4 := b2i_0.mp h4
    have h4x := arB_f.mp h4
    refine G_iconst (n := 0) d_Ck_kindOfElement_20 (by decide) (G_pc (pc' := 21) rfl ?_)
    refine G_istore (i := 2) (len := 1) (ls' := [(2, vi 0), (0, vi a), (1, vi b)]) (Or.inl ⟨2, rfl, rfl, d_Ck_kindOfElement_21⟩) (by decide) rfl (G_pc (pc' := 22) rfl ?_)
    refine G_iload (i := 2) (n := 0) (len := 1) (Or.inl ⟨2, rfl, rfl, d_Ck_kindOfElement_22⟩) rfl (G_pc (pc' := 23) rfl ?_)
    refine G_if_eq (tgt := 33) d_Ck_kindOfElement_23 (by decide) (fun h5 => ?_) (fun h5 => absurd h5 (by decide))
    refine G_iconst (n := (-1)) d_Ck_kindOfElement_33 (by decide) (G_pc (pc' := 34) rfl ?_)
    refine G_iret d_Ck_kindOfElement_34 rfl (tokI (by decide)) rfl rfl ?_
    exact ret_e (by unfold kelD; rw [if_neg (by intro h9; have := arB_t.mp h9.1; omega)]) rfl
  · skip
    replace h4 := b2i_nz.mp h4
    have h4x := arB_t.mp h4
    refine G_iload (i := 1) (n := 1) (len := 1) (Or.inl ⟨1, rfl, rfl, d_Ck_kindOfElement_7⟩) rfl (G_pc (pc' := 8) rfl ?_)
    refine G_if_eq (tgt := 16) d_Ck_kindOfElement_8 (by decide) (fun h6 => ?_) (fun h6 => G_pc (pc' := 11) rfl ?_)
    · skip
      refine G_iconst (n := 1) d_Ck_kindOfElement_16 (by decide) (G_pc (pc' := 17) rfl ?_)
      refine G_goto (tgt := 21) d_Ck_kindOfElement_17 (by decide) ?_
      refine G_istore (i := 2) (len := 1) (ls' := [(2, vi 1), (0, vi a), (1, vi b)]) (Or.inl ⟨2, rfl, rfl, d_Ck_kindOfElement_21⟩) (by decide) rfl (G_pc (pc' := 22) rfl ?_)
      refine G_iload (i := 2) (n := 0) (len := 1) (Or.inl ⟨2, rfl, rfl, d_Ck_kindOfElement_22⟩) rfl (G_pc (pc' := 23) rfl ?_)
      refine G_if_eq (tgt := 33) d_Ck_kindOfElement_23 (by decide) (fun h7 => absurd h7 (by decide)) (fun h7 => G_pc (pc' := 26) rfl ?_)
      refine G_iload (i := 0) (n := 1) (len := 1) (Or.inl ⟨0, rfl, rfl, d_Ck_kindOfElement_26⟩) rfl (G_pc (pc' := 27) rfl ?_)
      refine G_callS (K1 := KE) (d2 := 0) (as := [vi a]) (rest := []) d_Ck_kindOfElement_27 mf_Ki_elementOf ml_Ck_102 rfl rfl (Nat.le_of_ble_eq_true rfl) (by omega) ⟨Nat.le_refl _, Nat.le_refl _⟩ (g_Ki_elementOf (by omega) a _ (by omega)) (fun r8 M9 kq10 q10 => ?_)
      clear kq10; obtain ⟨q10a, q10b⟩ := q10; subst r8; subst M9
      refine G_ps (pc' := 30) (st' := [vi (elD a)]) rfl rfl ?_
      refine G_goto (tgt := 34) d_Ck_kindOfElement_30 (by decide) ?_
      refine G_iret d_Ck_kindOfElement_34 rfl (tokI (by unfold elD; split <;> omega)) rfl rfl ?_
      exact ret_e (by unfold kelD; rw [if_pos ⟨by assumption, by omega⟩]) rfl
    · skip
      refine G_iload (i := 1) (n := 1) (len := 1) (Or.inl ⟨1, rfl, rfl, d_Ck_kindOfElement_11⟩) rfl (G_pc (pc' := 12) rfl ?_)
      refine G_iconst (n := 2) d_Ck_kindOfElement_12 (by decide) (G_pc (pc' := 13) rfl ?_)
      refine G_icmp_ne (tgt := 20) d_Ck_kindOfElement_13 (by decide) (fun h11 => ?_) (fun h11 => G_pc (pc' := 16) rfl ?_)
      · skip
        refine G_iconst (n := 0) d_Ck_kindOfElement_20 (by decide) (G_pc (pc' := 21) rfl ?_)
        refine G_istore (i := 2) (len := 1) (ls' := [(2, vi 0), (0, vi a), (1, vi b)]) (Or.inl ⟨2, rfl, rfl, d_Ck_kindOfElement_21⟩) (by decide) rfl (G_pc (pc' := 22) rfl ?_)
        refine G_iload (i := 2) (n := 0) (len := 1) (Or.inl ⟨2, rfl, rfl, d_Ck_kindOfElement_22⟩) rfl (G_pc (pc' := 23) rfl ?_)
        refine G_if_eq (tgt := 33) d_Ck_kindOfElement_23 (by decide) (fun h12 => ?_) (fun h12 => absurd h12 (by decide))
        refine G_iconst (n := (-1)) d_Ck_kindOfElement_33 (by decide) (G_pc (pc' := 34) rfl ?_)
        refine G_iret d_Ck_kindOfElement_34 rfl (tokI (by decide)) rfl rfl ?_
        exact ret_e (by unfold kelD; rw [if_neg (by intro h9; have := arB_t.mp h9.1; omega)]) rfl
      · skip
        refine G_iconst (n := 1) d_Ck_kindOfElement_16 (by decide) (G_pc (pc' := 17) rfl ?_)
        refine G_goto (tgt := 21) d_Ck_kindOfElement_17 (by decide) ?_
        refine G_istore (i := 2) (len := 1) (ls' := [(2, vi 1), (0, vi a), (1, vi b)]) (Or.inl ⟨2, rfl, rfl, d_Ck_kindOfElement_21⟩) (by decide) rfl (G_pc (pc' := 22) rfl ?_)
        refine G_iload (i := 2) (n := 0) (len := 1) (Or.inl ⟨2, rfl, rfl, d_Ck_kindOfElement_22⟩) rfl (G_pc (pc' := 23) rfl ?_)
        refine G_if_eq (tgt := 33) d_Ck_kindOfElement_23 (by decide) (fun h13 => absurd h13 (by decide)) (fun h13 => G_pc (pc' := 26) rfl ?_)
        refine G_iload (i := 0) (n := 1) (len := 1) (Or.inl ⟨0, rfl, rfl, d_Ck_kindOfElement_26⟩) rfl (G_pc (pc' := 27) rfl ?_)
        refine G_callS (K1 := KE) (d2 := 0) (as := [vi a]) (rest := []) d_Ck_kindOfElement_27 mf_Ki_elementOf ml_Ck_102 rfl rfl (Nat.le_of_ble_eq_true rfl) (by omega) ⟨Nat.le_refl _, Nat.le_refl _⟩ (g_Ki_elementOf (by omega) a _ (by omega)) (fun r14 M15 kq16 q16 => ?_)
        clear kq16; obtain ⟨q16a, q16b⟩ := q16; subst r14; subst M15
        refine G_ps (pc' := 30) (st' := [vi (elD a)]) rfl rfl ?_
        refine G_goto (tgt := 34) d_Ck_kindOfElement_30 (by decide) ?_
        refine G_iret d_Ck_kindOfElement_34 rfl (tokI (by unfold elD; split <;> omega)) rfl rfl ?_
        exact ret_e (by unfold kelD; rw [if_pos ⟨by assumption, by omega⟩]) rfl

theorem kelD_rng (a b : Int) : -1 ≤ kelD a b ∧ kelD a b ≤ 9 := by
  unfold kelD elD arB
  split
  · rename_i h; have := of_decide_eq_true h.1; split <;> omega
  · omega
theorem d_Ck_kindOfTwo_0 : decode b_Ck_kindOfTwo 0 = .ok (.iload_n 2, 1) := by decide +kernel
theorem d_Ck_kindOfTwo_1 : decode b_Ck_kindOfTwo 1 = .ok (.iload_n 3, 1) := by decide +kernel
theorem d_Ck_kindOfTwo_2 : decode b_Ck_kindOfTwo 2 = .ok (.invokestatic 93, 3) := by decide +kernel
theorem d_Ck_kindOfTwo_5 : decode b_Ck_kindOfTwo 5 = .ok (.istore 4, 2) := by decide +kernel
theorem d_Ck_kindOfTwo_7 : decode b_Ck_kindOfTwo 7 = .ok (.iload_n 2, 1) := by decide +kernel
theorem d_Ck_kindOfTwo_8 : decode b_Ck_kindOfTwo 8 = .ok (.iload_n 3, 1) := by decide +kernel
theorem d_Ck_kindOfTwo_9 : decode b_Ck_kindOfTwo 9 = .ok (.invokestatic 90, 3) := by decide +kernel
theorem d_Ck_kindOfTwo_12 : decode b_Ck_kindOfTwo 12 = .ok (.istore 5, 2) := by decide +kernel
theorem d_Ck_kindOfTwo_14 : decode b_Ck_kindOfTwo 14 = .ok (.iload_n 1, 1) := by decide +kernel
theorem d_Ck_kindOfTwo_15 : decode b_Ck_kindOfTwo 15 = .ok (.lookupswitch 215 #[(38, 197), (60, 150), (62, 150), (94, 197), (124, 197), (128, 150), (129, 150), (130, 135), (131, 135), (132, 135), (133, 165), (134, 165), (135, 209), (136, 209), (145, 129)], 129) := by decide +kernel
theorem d_Ck_kindOfTwo_144 : decode b_Ck_kindOfTwo 144 = .ok (.iload_n 2, 1) := by decide +kernel
theorem d_Ck_kindOfTwo_145 : decode b_Ck_kindOfTwo 145 = .ok (.iload_n 3, 1) := by decide +kernel
theorem d_Ck_kindOfTwo_146 : decode b_Ck_kindOfTwo 146 = .ok (.invokestatic 99, 3) := by decide +kernel
theorem d_Ck_kindOfTwo_149 : decode b_Ck_kindOfTwo 149 = .ok (.ireturn, 1) := by decide +kernel
theorem d_Ck_kindOfTwo_150 : decode b_Ck_kindOfTwo 150 = .ok (.iload 4, 2) := by decide +kernel
theorem d_Ck_kindOfTwo_152 : decode b_Ck_kindOfTwo 152 = .ok (.iconst (-1), 1) := by decide +kernel
theorem d_Ck_kindOfTwo_153 : decode b_Ck_kindOfTwo 153 = .ok (.if_icmp .ne 7, 3) := by decide +kernel
theorem d_Ck_kindOfTwo_156 : decode b_Ck_kindOfTwo 156 = .ok (.iconst (-1), 1) := by decide +kernel
theorem d_Ck_kindOfTwo_157 : decode b_Ck_kindOfTwo 157 = .ok (.goto 7, 3) := by decide +kernel
theorem d_Ck_kindOfTwo_160 : decode b_Ck_kindOfTwo 160 = .ok (.iload_n 2, 1) := by decide +kernel
theorem d_Ck_kindOfTwo_161 : decode b_Ck_kindOfTwo 161 = .ok (.invokestatic 74, 3) := by decide +kernel
theorem d_Ck_kindOfTwo_164 : decode b_Ck_kindOfTwo 164 = .ok (.ireturn, 1) := by decide +kernel
theorem d_Ck_kindOfTwo_165 : decode b_Ck_kindOfTwo 165 = .ok (.iload 4, 2) := by decide +kernel
theorem d_Ck_kindOfTwo_167 : decode b_Ck_kindOfTwo 167 = .ok (.iconst (-1), 1) := by decide +kernel
theorem d_Ck_kindOfTwo_168 : decode b_Ck_kindOfTwo 168 = .ok (.if_icmp .eq 7, 3) := by decide +kernel
theorem d_Ck_kindOfTwo_171 : decode b_Ck_kindOfTwo 171 = .ok (.iconst 1, 1) := by decide +kernel
theorem d_Ck_kindOfTwo_172 : decode b_Ck_kindOfTwo 172 = .ok (.goto 4, 3) := by decide +kernel
theorem d_Ck_kindOfTwo_175 : decode b_Ck_kindOfTwo 175 = .ok (.iconst 0, 1) := by decide +kernel
theorem d_Ck_kindOfTwo_176 : decode b_Ck_kindOfTwo 176 = .ok (.invokestatic 70, 3) := by decide +kernel
theorem d_Ck_kindOfTwo_179 : decode b_Ck_kindOfTwo 179 = .ok (.ireturn, 1) := by decide +kernel
theorem d_Ck_kindOfTwo_180 : decode b_Ck_kindOfTwo 180 = .ok (.iload 4, 2) := by decide +kernel
theorem d_Ck_kindOfTwo_182 : decode b_Ck_kindOfTwo 182 = .ok (.iconst (-1), 1) := by decide +kernel
theorem d_Ck_kindOfTwo_183 : decode b_Ck_kindOfTwo 183 = .ok (.if_icmp .ne 20, 3) := by decide +kernel
theorem d_Ck_kindOfTwo_186 : decode b_Ck_kindOfTwo 186 = .ok (.iload 5, 2) := by decide +kernel
theorem d_Ck_kindOfTwo_188 : decode b_Ck_kindOfTwo 188 = .ok (.ifCond .ne 15, 3) := by decide +kernel
theorem d_Ck_kindOfTwo_191 : decode b_Ck_kindOfTwo 191 = .ok (.aload_n 0, 1) := by decide +kernel
theorem d_Ck_kindOfTwo_192 : decode b_Ck_kindOfTwo 192 = .ok (.getfield 9, 3) := by decide +kernel
theorem d_Ck_kindOfTwo_195 : decode b_Ck_kindOfTwo 195 = .ok (.iload_n 2, 1) := by decide +kernel
theorem d_Ck_kindOfTwo_196 : decode b_Ck_kindOfTwo 196 = .ok (.iload_n 3, 1) := by decide +kernel
theorem d_Ck_kindOfTwo_197 : decode b_Ck_kindOfTwo 197 = .ok (.invokevirtual 67, 3) := by decide +kernel
theorem d_Ck_kindOfTwo_200 : decode b_Ck_kindOfTwo 200 = .ok (.ifCond .eq 7, 3) := by decide +kernel
theorem d_Ck_kindOfTwo_203 : decode b_Ck_kindOfTwo 203 = .ok (.iconst 1, 1) := by decide +kernel
theorem d_Ck_kindOfTwo_204 : decode b_Ck_kindOfTwo 204 = .ok (.goto 4, 3) := by decide +kernel
theorem d_Ck_kindOfTwo_207 : decode b_Ck_kindOfTwo 207 = .ok (.iconst 0, 1) := by decide +kernel
theorem d_Ck_kindOfTwo_208 : decode b_Ck_kindOfTwo 208 = .ok (.invokestatic 70, 3) := by decide +kernel
theorem d_Ck_kindOfTwo_211 : decode b_Ck_kindOfTwo 211 = .ok (.ireturn, 1) := by decide +kernel
theorem d_Ck_kindOfTwo_212 : decode b_Ck_kindOfTwo 212 = .ok (.iload 5, 2) := by decide +kernel
theorem d_Ck_kindOfTwo_214 : decode b_Ck_kindOfTwo 214 = .ok (.ifCond .eq 7, 3) := by decide +kernel
theorem d_Ck_kindOfTwo_217 : decode b_Ck_kindOfTwo 217 = .ok (.iconst 3, 1) := by decide +kernel
theorem d_Ck_kindOfTwo_218 : decode b_Ck_kindOfTwo 218 = .ok (.goto 5, 3) := by decide +kernel
theorem d_Ck_kindOfTwo_221 : decode b_Ck_kindOfTwo 221 = .ok (.iload 4, 2) := by decide +kernel
theorem d_Ck_kindOfTwo_223 : decode b_Ck_kindOfTwo 223 = .ok (.ireturn, 1) := by decide +kernel
theorem d_Ck_kindOfTwo_224 : decode b_Ck_kindOfTwo 224 = .ok (.iload 5, 2) := by decide +kernel
theorem d_Ck_kindOfTwo_226 : decode b_Ck_kindOfTwo 226 = .ok (.invokestatic 70, 3) := by decide +kernel
theorem d_Ck_kindOfTwo_229 : decode b_Ck_kindOfTwo 229 = .ok (.ireturn, 1) := by decide +kernel
theorem d_Ck_kindOfTwo_230 : decode b_Ck_kindOfTwo 230 = .ok (.iload 4, 2) := by decide +kernel
theorem d_Ck_kindOfTwo_232 : decode b_Ck_kindOfTwo 232 = .ok (.ireturn, 1) := by decide +kernel
set_option maxHeartbeats 2000000 in
theorem g_Ck_kindOfTwo {X : WX} {d : Nat} (hd : 3 ≤ d) (c a b : Int) (M : Mem) (hT : RT M) (hI : TI M) (ha : vK M a) (hb : vK M b) : MG X gt d KE KE y_Ck_kindOfTwo b_Ck_kindOfTwo 6 (some .int) [vr 18, vi c, vi a, vi b] M (fun r M' => r = some (vi (twoD M c a b)) ∧ M' = M) := by
  refine MG_of_G (by decide) (Nat.le_of_ble_eq_true rfl) (Nat.le_refl _) (by decide) ?_
  show G X gt d KE KE y_Ck_kindOfTwo b_Ck_kindOfTwo 6 (some .int) _ 0 [(0, vr 18), (1, vi c), (2, vi a), (3, vi b)] [] KE M
  have hI0 := hI
  obtain ⟨hI1, hI2, hI3, hI4, hI5, hI6, hI7, hI8, hI9, hI10, hI11, hI12, hI13, hI14⟩ := hI
  refine G_rngl (i := 1) rfl (fun hr1 => ?_)
  refine G_rngl (i := 2) rfl (fun hr2 => ?_)
  refine G_rngl (i := 3) rfl (fun hr3 => ?_)
  refine G_iload (i := 2) (n := 2) (len := 1) (Or.inl ⟨2, rfl, rfl, d_Ck_kindOfTwo_0⟩) rfl (G_pc (pc' := 1) rfl ?_)
  refine G_iload (i := 3) (n := 3) (len := 1) (Or.inl ⟨3, rfl, rfl, d_Ck_kindOfTwo_1⟩) rfl (G_pc (pc' := 2) rfl ?_)
  refine G_callS (K1 := KE) (d2 := 1) (as := [vi a, vi b]) (rest := []) d_Ck_kindOfTwo_2 mf_Ki_common ml_Ck_93 rfl rfl (Nat.le_of_ble_eq_true rfl) (by omega) ⟨Nat.le_refl _, Nat.le_refl _⟩ (g_Ki_common (by omega) a b _) (fun r1 M2 kq3 q3 => ?_)
  clear kq3; obtain ⟨q3a, q3b⟩ := q3; subst r1; subst M2
  refine G_ps (pc' := 5) (st' := [vi (coD a b)]) rfl rfl ?_
  refine G_istore (i := 4) (len := 2) (ls' := [(4, vi (coD a b)), (0, vr 18), (1, vi c), (2, vi a), (3, vi b)]) (Or.inr ⟨rfl, d_Ck_kindOfTwo_5⟩) (by decide) rfl (G_pc (pc' := 7) rfl ?_)
  refine G_iload (i := 2) (n := 3) (len := 1) (Or.inl ⟨2, rfl, rfl, d_Ck_kindOfTwo_7⟩) rfl (G_pc (pc' := 8) rfl ?_)
  refine G_iload (i := 3) (n := 4) (len := 1) (Or.inl ⟨3, rfl, rfl, d_Ck_kindOfTwo_8⟩) rfl (G_pc (pc' := 9) rfl ?_)
  refine G_callS (K1 := KE) (d2 := 0) (as := [vi a, vi b]) (rest := []) d_Ck_kindOfTwo_9 mf_Ki_areBoolean ml_Ck_90 rfl rfl (Nat.le_of_ble_eq_true rfl) (by omega) ⟨Nat.le_refl _, Nat.le_refl _⟩ (g_Ki_areBoolean (by omega) a b _) (fun r4 M5 kq6 q6 => ?_)
  clear kq6; obtain ⟨q6a, q6b⟩ := q6; subst r4; subst M5
  refine G_ps (pc' := 12) (st' := [vi (b2i (abB a b))]) rfl rfl ?_
  refine G_istore (i := 5) (len := 2) (ls' := [(5, vi (b2i (abB a b))), (4, vi (coD a b)), (0, vr 18), (1, vi c), (2, vi a), (3, vi b)]) (Or.inr ⟨rfl, d_Ck_kindOfTwo_12⟩) (by decide) rfl (G_pc (pc' := 14) rfl ?_)
  refine G_iload (i := 1) (n := 3) (len := 1) (Or.inl ⟨1, rfl, rfl, d_Ck_kindOfTwo_14⟩) rfl (G_pc (pc' := 15) rfl ?_)
  by_cases h7 : c = 38 ∨ c = 94 ∨ c = 124
  · skip
    have e8o : Op.lookupswitch.offset [(38, 197), (60, 150), (62, 150), (94, 197), (124, 197), (128, 150), (129, 150), (130, 135), (131, 135), (132, 135), (133, 165), (134, 165), (135, 209), (136, 209), (145, 129)] 215 c = 197 := by rcases h7 with e8 | e8 | e8 <;> rw [e8] <;> rfl
    refine G_lookup (off := 197) (tgt := 212) d_Ck_kindOfTwo_15 (by decide) e8o (by decide) ?_
    refine G_iload (i := 5) (n := 0) (len := 2) (Or.inr ⟨rfl, d_Ck_kindOfTwo_212⟩) rfl (G_pc (pc' := 214) rfl ?_)
    refine G_if_eq (tgt := 221) d_Ck_kindOfTwo_214 (by decide) (fun h9 => ?_) (fun h9 => G_pc (pc' := 217) rfl ?_)
    · skip
      replace h9 := b2i_0.mp h9
      refine G_iload (i := 4) (n := 1) (len := 2) (Or.inr ⟨rfl, d_Ck_kindOfTwo_221⟩) rfl (G_pc (pc' := 223) rfl ?_)
      refine G_iret d_Ck_kindOfTwo_223 rfl (tokI (by have := coD_rng a b; have := coD_rng a 0; have := kelD_rng a b; first | omega | (split <;> omega))) rfl rfl ?_
      exact ret_e (by clear hT hI0 hI1 hI2 hI3 hI4 hI5 hI6 hI7 hI8 hI9 hI10 hI11 hI12 hI13 hI14 ha hb; unfold twoD; first | grind | grind [b2i]) rfl
    · skip
      replace h9 := b2i_nz.mp h9
      refine G_iconst (n := 3) d_Ck_kindOfTwo_217 (by decide) (G_pc (pc' := 218) rfl ?_)
      refine G_goto (tgt := 223) d_Ck_kindOfTwo_218 (by decide) ?_
      refine G_iret d_Ck_kindOfTwo_223 rfl (tokI (by decide)) rfl rfl ?_
      exact ret_e (by clear hT hI0 hI1 hI2 hI3 hI4 hI5 hI6 hI7 hI8 hI9 hI10 hI11 hI12 hI13 hI14 ha hb; unfold twoD; first | grind | grind [b2i]) rfl
  by_cases h7 : c = 60 ∨ c = 62 ∨ c = 128 ∨ c = 129
  · skip
    have e10o : Op.lookupswitch.offset [(38, 197), (60, 150), (62, 150), (94, 197), (124, 197), (128, 150), (129, 150), (130, 135), (131, 135), (132, 135), (133, 165), (134, 165), (135, 209), (136, 209), (145, 129)] 215 c = 150 := by rcases h7 with e10 | e10 | e10 | e10 <;> rw [e10] <;> rfl
    refine G_lookup (off := 150) (tgt := 165) d_Ck_kindOfTwo_15 (by decide) e10o (by decide) ?_
    refine G_iload (i := 4) (n := 1) (len := 2) (Or.inr ⟨rfl, d_Ck_kindOfTwo_165⟩) rfl (G_pc (pc' := 167) rfl ?_)
    refine G_iconst (n := (-1)) d_Ck_kindOfTwo_167 (by decide) (G_pc (pc' := 168) rfl ?_)
    refine G_icmp_eq (tgt := 175) d_Ck_kindOfTwo_168 (by decide) (fun h11 => ?_) (fun h11 => G_pc (pc' := 171) rfl ?_)
    · skip
      refine G_iconst (n := 0) d_Ck_kindOfTwo_175 (by decide) (G_pc (pc' := 176) rfl ?_)
      refine G_callS (K1 := KE) (d2 := 0) (as := [vi 0]) (rest := []) d_Ck_kindOfTwo_176 mf_Ck_booleanIf ml_Ck_70 rfl rfl (Nat.le_of_ble_eq_true rfl) (by omega) ⟨Nat.le_refl _, Nat.le_refl _⟩ (g_Ck_booleanIf (by omega) 0 M (by first | omega | exact b2i_in _)) (fun r12 M13 kq14 q14 => ?_)
      clear kq14; obtain ⟨q14a, q14b⟩ := q14; subst r12; subst M13
      refine G_ps (pc' := 179) (st' := [vi (-1)]) rfl rfl ?_
      refine G_iret d_Ck_kindOfTwo_179 rfl (tokI (by decide)) rfl rfl ?_
      exact ret_e (by clear hT hI0 hI1 hI2 hI3 hI4 hI5 hI6 hI7 hI8 hI9 hI10 hI11 hI12 hI13 hI14 ha hb; unfold twoD; first | grind | grind [b2i]) rfl
    · skip
      refine G_iconst (n := 1) d_Ck_kindOfTwo_171 (by decide) (G_pc (pc' := 172) rfl ?_)
      refine G_goto (tgt := 176) d_Ck_kindOfTwo_172 (by decide) ?_
      refine G_callS (K1 := KE) (d2 := 0) (as := [vi 1]) (rest := []) d_Ck_kindOfTwo_176 mf_Ck_booleanIf ml_Ck_70 rfl rfl (Nat.le_of_ble_eq_true rfl) (by omega) ⟨Nat.le_refl _, Nat.le_refl _⟩ (g_Ck_booleanIf (by omega) 1 M (by first | omega | exact b2i_in _)) (fun r15 M16 kq17 q17 => ?_)
      clear kq17; obtain ⟨q17a, q17b⟩ := q17; subst r15; subst M16
      refine G_ps (pc' := 179) (st' := [vi 3]) rfl rfl ?_
      refine G_iret d_Ck_kindOfTwo_179 rfl (tokI (by decide)) rfl rfl ?_
      exact ret_e (by clear hT hI0 hI1 hI2 hI3 hI4 hI5 hI6 hI7 hI8 hI9 hI10 hI11 hI12 hI13 hI14 ha hb; unfold twoD; first | grind | grind [b2i]) rfl
  by_cases h7 : c = 130 ∨ c = 131 ∨ c = 132
  · skip
    have e18o : Op.lookupswitch.offset [(38, 197), (60, 150), (62, 150), (94, 197), (124, 197), (128, 150), (129, 150), (130, 135), (131, 135), (132, 135), (133, 165), (134, 165), (135, 209), (136, 209), (145, 129)] 215 c = 135 := by rcases h7 with e18 | e18 | e18 <;> rw [e18] <;> rfl
    refine G_lookup (off := 135) (tgt := 150) d_Ck_kindOfTwo_15 (by decide) e18o (by decide) ?_
    refine G_iload (i := 4) (n := 1) (len := 2) (Or.inr ⟨rfl, d_Ck_kindOfTwo_150⟩) rfl (G_pc (pc' := 152) rfl ?_)
    refine G_iconst (n := (-1)) d_Ck_kindOfTwo_152 (by decide) (G_pc (pc' := 153) rfl ?_)
    refine G_icmp_ne (tgt := 160) d_Ck_kindOfTwo_153 (by decide) (fun h19 => ?_) (fun h19 => G_pc (pc' := 156) rfl ?_)
    · skip
      refine G_iload (i := 2) (n := 4) (len := 1) (Or.inl ⟨2, rfl, rfl, d_Ck_kindOfTwo_160⟩) rfl (G_pc (pc' := 161) rfl ?_)
      refine G_callS (K1 := KE) (d2 := 2) (as := [vi a]) (rest := []) d_Ck_kindOfTwo_161 mf_Ki_promoted ml_Ck_74 rfl rfl (Nat.le_of_ble_eq_true rfl) (by omega) ⟨Nat.le_refl _, Nat.le_refl _⟩ (g_Ki_promoted (by omega) a _) (fun r20 M21 kq22 q22 => ?_)
      clear kq22; obtain ⟨q22a, q22b⟩ := q22; subst r20; subst M21
      refine G_ps (pc' := 164) (st' := [vi (coD a 0)]) rfl rfl ?_
      refine G_iret d_Ck_kindOfTwo_164 rfl (tokI (by have := coD_rng a b; have := coD_rng a 0; have := kelD_rng a b; first | omega | (split <;> omega))) rfl rfl ?_
      exact ret_e (by clear hT hI0 hI1 hI2 hI3 hI4 hI5 hI6 hI7 hI8 hI9 hI10 hI11 hI12 hI13 hI14 ha hb; unfold twoD; first | grind | grind [b2i]) rfl
    · skip
      refine G_iconst (n := (-1)) d_Ck_kindOfTwo_156 (by decide) (G_pc (pc' := 157) rfl ?_)
      refine G_goto (tgt := 164) d_Ck_kindOfTwo_157 (by decide) ?_
      refine G_iret d_Ck_kindOfTwo_164 rfl (tokI (by decide)) rfl rfl ?_
      exact ret_e (by clear hT hI0 hI1 hI2 hI3 hI4 hI5 hI6 hI7 hI8 hI9 hI10 hI11 hI12 hI13 hI14 ha hb; unfold twoD; first | grind | grind [b2i]) rfl
  by_cases h7 : c = 133 ∨ c = 134
  · skip
    have e23o : Op.lookupswitch.offset [(38, 197), (60, 150), (62, 150), (94, 197), (124, 197), (128, 150), (129, 150), (130, 135), (131, 135), (132, 135), (133, 165), (134, 165), (135, 209), (136, 209), (145, 129)] 215 c = 165 := by rcases h7 with e23 | e23 <;> rw [e23] <;> rfl
    refine G_lookup (off := 165) (tgt := 180) d_Ck_kindOfTwo_15 (by decide) e23o (by decide) ?_
    refine G_iload (i := 4) (n := 1) (len := 2) (Or.inr ⟨rfl, d_Ck_kindOfTwo_180⟩) rfl (G_pc (pc' := 182) rfl ?_)
    refine G_iconst (n := (-1)) d_Ck_kindOfTwo_182 (by decide) (G_pc (pc' := 183) rfl ?_)
    refine G_icmp_ne (tgt := 203) d_Ck_kindOfTwo_183 (by decide) (fun h24 => ?_) (fun h24 => G_pc (pc' := 186) rfl ?_)
    · skip
      refine G_iconst (n := 1) d_Ck_kindOfTwo_203 (by decide) (G_pc (pc' := 204) rfl ?_)
      refine G_goto (tgt := 208) d_Ck_kindOfTwo_204 (by decide) ?_
      refine G_callS (K1 := KE) (d2 := 0) (as := [vi 1]) (rest := []) d_Ck_kindOfTwo_208 mf_Ck_booleanIf ml_Ck_70 rfl rfl (Nat.le_of_ble_eq_true rfl) (by omega) ⟨Nat.le_refl _, Nat.le_refl _⟩ (g_Ck_booleanIf (by omega) 1 M (by first | omega | exact b2i_in _)) (fun r25 M26 kq27 q27 => ?_)
      clear kq27; obtain ⟨q27a, q27b⟩ := q27; subst r25; subst M26
      refine G_ps (pc' := 211) (st' := [vi 3]) rfl rfl ?_
      refine G_iret d_Ck_kindOfTwo_211 rfl (tokI (by decide)) rfl rfl ?_
      exact ret_e (by clear hT hI0 hI1 hI2 hI3 hI4 hI5 hI6 hI7 hI8 hI9 hI10 hI11 hI12 hI13 hI14 ha hb; unfold twoD; first | grind | grind [b2i]) rfl
    · skip
      refine G_iload (i := 5) (n := 0) (len := 2) (Or.inr ⟨rfl, d_Ck_kindOfTwo_186⟩) rfl (G_pc (pc' := 188) rfl ?_)
      refine G_if_ne (tgt := 203) d_Ck_kindOfTwo_188 (by decide) (fun h28 => ?_) (fun h28 => G_pc (pc' := 191) rfl ?_)
      · skip
        replace h28 := b2i_nz.mp h28
        refine G_iconst (n := 1) d_Ck_kindOfTwo_203 (by decide) (G_pc (pc' := 204) rfl ?_)
        refine G_goto (tgt := 208) d_Ck_kindOfTwo_204 (by decide) ?_
        refine G_callS (K1 := KE) (d2 := 0) (as := [vi 1]) (rest := []) d_Ck_kindOfTwo_208 mf_Ck_booleanIf ml_Ck_70 rfl rfl (Nat.le_of_ble_eq_true rfl) (by omega) ⟨Nat.le_refl _, Nat.le_refl _⟩ (g_Ck_booleanIf (by omega) 1 M (by first | omega | exact b2i_in _)) (fun r29 M30 kq31 q31 => ?_)
        clear kq31; obtain ⟨q31a, q31b⟩ := q31; subst r29; subst M30
        refine G_ps (pc' := 211) (st' := [vi 3]) rfl rfl ?_
        refine G_iret d_Ck_kindOfTwo_211 rfl (tokI (by decide)) rfl rfl ?_
        exact ret_e (by clear hT hI0 hI1 hI2 hI3 hI4 hI5 hI6 hI7 hI8 hI9 hI10 hI11 hI12 hI13 hI14 ha hb; unfold twoD; first | grind | grind [b2i]) rfl
      · skip
        replace h28 := b2i_0.mp h28
        refine G_aload (i := 0) (n := 2) (len := 1) (Or.inl ⟨0, rfl, rfl, d_Ck_kindOfTwo_191⟩) rfl (by decide) (G_pc (pc' := 192) rfl ?_)
        refine G_get (o := 18) (c := 0) (k := 0) (v := 4) d_Ck_kindOfTwo_192 fl_Ck_9 rfl (by decide) (by decide) rfl rfl (G_pc (pc' := 195) rfl ?_)
        refine G_iload (i := 2) (n := 4) (len := 1) (Or.inl ⟨2, rfl, rfl, d_Ck_kindOfTwo_195⟩) rfl (G_pc (pc' := 196) rfl ?_)
        refine G_iload (i := 3) (n := 5) (len := 1) (Or.inl ⟨3, rfl, rfl, d_Ck_kindOfTwo_196⟩) rfl (G_pc (pc' := 197) rfl ?_)
        refine G_callV (K1 := KE) (d2 := 2) (o := 4) (cl := 6) (as := [vi a, vi b]) (rest := []) d_Ck_kindOfTwo_197 mf_Ta_areRelated ml_Ck_67 rfl rfl (by decide) rfl rfl (Nat.le_of_ble_eq_true rfl) (by omega) ⟨Nat.le_refl _, Nat.le_refl _⟩ (g_Ta_areRelated (by omega) a b M hT hI0 (by assumption) (by assumption)) (fun r32 M33 kq34 q34 => ?_)
        clear kq34; obtain ⟨q34a, q34b⟩ := q34; subst r32; subst M33
        refine G_ps (pc' := 200) (st' := [vi (b2i (relB M a b))]) rfl rfl ?_
        refine G_if_eq (tgt := 207) d_Ck_kindOfTwo_200 (by decide) (fun h35 => ?_) (fun h35 => G_pc (pc' := 203) rfl ?_)
        · skip
          replace h35 := b2i_0.mp h35
          refine G_iconst (n := 0) d_Ck_kindOfTwo_207 (by decide) (G_pc (pc' := 208) rfl ?_)
          refine G_callS (K1 := KE) (d2 := 0) (as := [vi 0]) (rest := []) d_Ck_kindOfTwo_208 mf_Ck_booleanIf ml_Ck_70 rfl rfl (Nat.le_of_ble_eq_true rfl) (by omega) ⟨Nat.le_refl _, Nat.le_refl _⟩ (g_Ck_booleanIf (by omega) 0 M (by first | omega | exact b2i_in _)) (fun r36 M37 kq38 q38 => ?_)
          clear kq38; obtain ⟨q38a, q38b⟩ := q38; subst r36; subst M37
          refine G_ps (pc' := 211) (st' := [vi (-1)]) rfl rfl ?_
          refine G_iret d_Ck_kindOfTwo_211 rfl (tokI (by decide)) rfl rfl ?_
          exact ret_e (by clear hT hI0 hI1 hI2 hI3 hI4 hI5 hI6 hI7 hI8 hI9 hI10 hI11 hI12 hI13 hI14 ha hb; unfold twoD; first | grind | grind [b2i]) rfl
        · skip
          replace h35 := b2i_nz.mp h35
          refine G_iconst (n := 1) d_Ck_kindOfTwo_203 (by decide) (G_pc (pc' := 204) rfl ?_)
          refine G_goto (tgt := 208) d_Ck_kindOfTwo_204 (by decide) ?_
          refine G_callS (K1 := KE) (d2 := 0) (as := [vi 1]) (rest := []) d_Ck_kindOfTwo_208 mf_Ck_booleanIf ml_Ck_70 rfl rfl (Nat.le_of_ble_eq_true rfl) (by omega) ⟨Nat.le_refl _, Nat.le_refl _⟩ (g_Ck_booleanIf (by omega) 1 M (by first | omega | exact b2i_in _)) (fun r39 M40 kq41 q41 => ?_)
          clear kq41; obtain ⟨q41a, q41b⟩ := q41; subst r39; subst M40
          refine G_ps (pc' := 211) (st' := [vi 3]) rfl rfl ?_
          refine G_iret d_Ck_kindOfTwo_211 rfl (tokI (by decide)) rfl rfl ?_
          exact ret_e (by clear hT hI0 hI1 hI2 hI3 hI4 hI5 hI6 hI7 hI8 hI9 hI10 hI11 hI12 hI13 hI14 ha hb; unfold twoD; first | grind | grind [b2i]) rfl
  by_cases h7 : c = 135 ∨ c = 136
  · skip
    have e42o : Op.lookupswitch.offset [(38, 197), (60, 150), (62, 150), (94, 197), (124, 197), (128, 150), (129, 150), (130, 135), (131, 135), (132, 135), (133, 165), (134, 165), (135, 209), (136, 209), (145, 129)] 215 c = 209 := by rcases h7 with e42 | e42 <;> rw [e42] <;> rfl
    refine G_lookup (off := 209) (tgt := 224) d_Ck_kindOfTwo_15 (by decide) e42o (by decide) ?_
    refine G_iload (i := 5) (n := 0) (len := 2) (Or.inr ⟨rfl, d_Ck_kindOfTwo_224⟩) rfl (G_pc (pc' := 226) rfl ?_)
    refine G_callS (K1 := KE) (d2 := 0) (as := [vi (b2i (abB a b))]) (rest := []) d_Ck_kindOfTwo_226 mf_Ck_booleanIf ml_Ck_70 rfl rfl (Nat.le_of_ble_eq_true rfl) (by omega) ⟨Nat.le_refl _, Nat.le_refl _⟩ (g_Ck_booleanIf (by omega) (b2i (abB a b)) M (by first | omega | exact b2i_in _)) (fun r43 M44 kq45 q45 => ?_)
    clear kq45; obtain ⟨q45a, q45b⟩ := q45; subst r43; subst M44
    refine G_ps (pc' := 229) (st' := [vi (if b2i (abB a b) = 0 then -1 else 3)]) rfl rfl ?_
    refine G_iret d_Ck_kindOfTwo_229 rfl (tokI (by have := coD_rng a b; have := coD_rng a 0; have := kelD_rng a b; first | omega | (split <;> omega))) rfl rfl ?_
    exact ret_e (by clear hT hI0 hI1 hI2 hI3 hI4 hI5 hI6 hI7 hI8 hI9 hI10 hI11 hI12 hI13 hI14 ha hb; unfold twoD; first | grind | grind [b2i]) rfl
  by_cases h7 : c = 145
  · skip
    have e46o : Op.lookupswitch.offset [(38, 197), (60, 150), (62, 150), (94, 197), (124, 197), (128, 150), (129, 150), (130, 135), (131, 135), (132, 135), (133, 165), (134, 165), (135, 209), (136, 209), (145, 129)] 215 c = 129 := by rw [h7]; rfl
    refine G_lookup (off := 129) (tgt := 144) d_Ck_kindOfTwo_15 (by decide) e46o (by decide) ?_
    refine G_iload (i := 2) (n := 4) (len := 1) (Or.inl ⟨2, rfl, rfl, d_Ck_kindOfTwo_144⟩) rfl (G_pc (pc' := 145) rfl ?_)
    refine G_iload (i := 3) (n := 5) (len := 1) (Or.inl ⟨3, rfl, rfl, d_Ck_kindOfTwo_145⟩) rfl (G_pc (pc' := 146) rfl ?_)
    refine G_callS (K1 := KE) (d2 := 1) (as := [vi a, vi b]) (rest := []) d_Ck_kindOfTwo_146 mf_Ck_kindOfElement ml_Ck_99 rfl rfl (Nat.le_of_ble_eq_true rfl) (by omega) ⟨Nat.le_refl _, Nat.le_refl _⟩ (g_Ck_kindOfElement (by omega) a b _) (fun r47 M48 kq49 q49 => ?_)
    clear kq49; obtain ⟨q49a, q49b⟩ := q49; subst r47; subst M48
    refine G_ps (pc' := 149) (st' := [vi (kelD a b)]) rfl rfl ?_
    refine G_iret d_Ck_kindOfTwo_149 rfl (tokI (by have := coD_rng a b; have := coD_rng a 0; have := kelD_rng a b; first | omega | (split <;> omega))) rfl rfl ?_
    exact ret_e (by clear hT hI0 hI1 hI2 hI3 hI4 hI5 hI6 hI7 hI8 hI9 hI10 hI11 hI12 hI13 hI14 ha hb; unfold twoD; first | grind | grind [b2i]) rfl
  have e50o : Op.lookupswitch.offset [(38, 197), (60, 150), (62, 150), (94, 197), (124, 197), (128, 150), (129, 150), (130, 135), (131, 135), (132, 135), (133, 165), (134, 165), (135, 209), (136, 209), (145, 129)] 215 c = 215 := by rw [lk_ne (by omega), lk_ne (by omega), lk_ne (by omega), lk_ne (by omega), lk_ne (by omega), lk_ne (by omega), lk_ne (by omega), lk_ne (by omega), lk_ne (by omega), lk_ne (by omega), lk_ne (by omega), lk_ne (by omega), lk_ne (by omega), lk_ne (by omega), lk_ne (by omega)]; rfl
  refine G_lookup (off := 215) (tgt := 230) d_Ck_kindOfTwo_15 (by decide) e50o (by decide) ?_
  refine G_iload (i := 4) (n := 1) (len := 2) (Or.inr ⟨rfl, d_Ck_kindOfTwo_230⟩) rfl (G_pc (pc' := 232) rfl ?_)
  refine G_iret d_Ck_kindOfTwo_232 rfl (tokI (by have := coD_rng a b; have := coD_rng a 0; have := kelD_rng a b; first | omega | (split <;> omega))) rfl rfl ?_
  exact ret_e (by clear hT hI0 hI1 hI2 hI3 hI4 hI5 hI6 hI7 hI8 hI9 hI10 hI11 hI12 hI13 hI14 ha hb; unfold twoD; first | grind | grind [b2i]) rfl

/-- W holds what M holds but for the evaluations -/
def agr (M W : Mem) : Prop := ∀ c : Nat, c ≤ 17 ∨ 55 ≤ c → W c = M c
theorem RT_ag {M W : Mem} (h : agr M W) (hT : RT M) : RT W := by
  have e4 := h 4 (by omega); have e5 := h 5 (by omega); have e6 := h 6 (by omega); have e7 := h 7 (by omega); have e8 := h 8 (by omega)
  have f5 := h 55 (by omega); have f6 := h 56 (by omega); have f7 := h 57 (by omega); have f8 := h 58 (by omega); have f9 := h 59 (by omega); have g0 := h 60 (by omega); have g1 := h 61 (by omega); have g2 := h 62 (by omega)
  unfold RT at hT ⊢
  simp only [e4, e5, e6, e7, e8, f5, f6, f7, f8, f9, g0, g1, g2]
  exact hT
theorem TI_ag {M W : Mem} (h : agr M W) (hI : TI M) : TI W := by
  have f5 := h 55 (by omega); have f6 := h 56 (by omega); have f7 := h 57 (by omega); have f8 := h 58 (by omega); have g0 := h 60 (by omega); have g1 := h 61 (by omega)
  unfold TI okP okF okK at hI ⊢
  simp only [f5, f6, f7, f8, g0, g1]
  exact hI
theorem suits_ag {M W : Mem} (h : agr M W) : suitsB W = suitsB M := by
  have f6 := h 56 (by omega)
  funext a b
  simp only [suitsB, isAm, f6]
theorem rel_ag {M W : Mem} (h : agr M W) : relB W = relB M := by
  have f6 := h 56 (by omega)
  funext a b
  simp only [relB, suitsB, isAm, f6]
theorem vK_ag {M W : Mem} (h : agr M W) (k : Int) : vK W k = vK M k := by
  have f5 := h 55 (by omega)
  simp only [vK, f5]
theorem kdS_ag {M W : Mem} (h : agr M W) (c a s b t own : Int) : kdS W c a s b t own = kdS M c a s b t own := by
  have f5 := h 55 (by omega); have f6 := h 56 (by omega); have f7 := h 57 (by omega); have f8 := h 58 (by omega)
  unfold kdS vkD fkD canC choD twoD relB suitsB isAm fieldM
  rw [f5, f6, f7, f8]
/-- codes of steps with one operand at the most -/
def oneC (c : Int) : Prop := c = 137 ∨ c = 143 ∨ c = 144 ∨ c = 142 ∨ c = 146 ∨ c = 141 ∨ c = 147 ∨ c = 148 ∨ c = 126 ∨ c = 150 ∨ c = 151 ∨ c = 152 ∨ c = 33
/-- what a step must be, for its kind to be told; K: the kinds of the steps -/
def stK (M : Mem) (e : Nat) (K : Int → Int) (i : Int) : Prop := (0 ≤ M (22 + 9 * e) i ∧ M (22 + 9 * e) i < 48)
  ∧ (¬ oneC (M (21 + 9 * e) i) → (0 ≤ M (23 + 9 * e) i ∧ M (23 + 9 * e) i < 48) ∧ vK M (K (M (23 + 9 * e) i)))
  ∧ (M (21 + 9 * e) i = 149 → (0 ≤ M (24 + 9 * e) i ∧ M (24 + 9 * e) i < 48) ∧ vK M (K (M (24 + 9 * e) i)))
  ∧ (¬ oneC (M (21 + 9 * e) i) ∨ M (21 + 9 * e) i = 146 ∨ M (21 + 9 * e) i = 141 ∨ M (21 + 9 * e) i = 142 → M (21 + 9 * e) i = 149 ∨ vK M (K (M (22 + 9 * e) i)))
  ∧ (M (21 + 9 * e) i = 137 → vK M (K i))
def kstK (M : Mem) (e : Nat) (K : Int → Int) (i : Int) : Int := kdS M (M (21 + 9 * e) i) (K (M (22 + 9 * e) i)) (M (23 + 9 * e) i) (K (M (23 + 9 * e) i)) (K (M (24 + 9 * e) i)) (K i)
theorem kdS_con {M : Mem} {c a s b t own : Int} (h : c = 137) : kdS M c a s b t own = own := by subst h; simp [kdS]
theorem kdS_var {M : Mem} {c a s b t own : Int} (h : c = 143) : kdS M c a s b t own = vkD M s := by subst h; simp [kdS]
theorem kdS_fld {M : Mem} {c a s b t own : Int} (h : c = 144) : kdS M c a s b t own = fkD M a s := by subst h; simp [kdS]
theorem kdS_len {M : Mem} {c a s b t own : Int} (h : c = 142) : kdS M c a s b t own = if arB a = true then 0 else -1 := by subst h; simp [kdS]
theorem kdS_cst {M : Mem} {c a s b t own : Int} (h : c = 146) : kdS M c a s b t own = if canC M a s = true then s else -1 := by subst h; simp [kdS]
theorem kdS_ins {M : Mem} {c a s b t own : Int} (h : c = 141) : kdS M c a s b t own = if isKindB (M 55 0) s = true ∧ relB M a s = true then 3 else -1 := by subst h; simp [kdS]
theorem kdS_una {M : Mem} {c a s b t own : Int} (h : c = 147 ∨ c = 148 ∨ c = 126) : kdS M c a s b t own = coD a 0 := by rcases h with rfl | rfl | rfl <;> simp [kdS]
theorem kdS_sk {M : Mem} {c a s b t own : Int} (h : c = 150 ∨ c = 151 ∨ c = 152 ∨ c = 33) : kdS M c a s b t own = if a = 3 then 3 else -1 := by rcases h with rfl | rfl | rfl | rfl <;> simp [kdS]
theorem kdS_cho {M : Mem} {c a s b t own : Int} (h : c = 149) : kdS M c a s b t own = choD M b t := by subst h; simp [kdS]
theorem kdS_two {M : Mem} {c a s b t own : Int} (h : ¬ oneC c) (h2 : ¬ c = 149) : kdS M c a s b t own = twoD M c a b := by
  unfold oneC at h
  unfold kdS
  rw [if_neg (by omega), if_neg (by omega), if_neg (by omega), if_neg (by omega), if_neg (by omega), if_neg (by omega), if_neg (by omega), if_neg (by omega), if_neg (by omega)]
theorem vK_c {M : Mem} {k : Int} (h : 0 ≤ k ∧ k < 4) : vK M k := Or.inl (isKindB_t.mpr (Or.inl h))
theorem vK_rng {M : Mem} (hI : TI M) {k : Int} (h : vK M k) : 0 ≤ k ∧ k < 18 := by
  have h9 := vK_e h
  have h8 := hI.1
  omega
theorem vkD_vK {M : Mem} (hI : TI M) (n : Int) : vkD M n = -1 ∨ vK M (vkD M n) := by
  unfold vkD
  split
  · by_cases h : M 58 n = -1
    · exact Or.inl h
    · exact Or.inr (Or.inl (hI.2.2.2.2.2.2.2.2.2.2.2.2.1 n (by omega) (by omega) h))
  · exact Or.inl rfl
theorem foF_vK {M : Mem} (hI : TI M) {name : Int} (hn : 0 ≤ name ∧ name < 26) : ∀ (n : Nat) (c : Int), c < 6 → foF (fun j => M 56 j) (fun j => M 57 j) name n c = -1 ∨ vK M (foF (fun j => M 56 j) (fun j => M 57 j) name n c) := by
  intro n
  induction n with
  | zero => intro c _; exact Or.inl rfl
  | succ n ih =>
    intro c hc
    by_cases h : c < 0
    · exact Or.inl (foF_neg h)
    · by_cases h2 : 0 ≤ M 57 (26 * c + name)
      · rw [foF_hit h h2]
        exact Or.inr (Or.inl (hI.2.2.2.2.2.2.2.2.2.2.2.2.2 (26 * c + name) (by omega) (by omega) (by omega)))
      · rw [foF_s h h2]
        exact ih _ (hI.2.2.2.2.1 c (by omega) (by omega)).2
theorem fkD_vK {M : Mem} (hI : TI M) (k n : Int) : fkD M k n = -1 ∨ vK M (fkD M k n) := by
  unfold fkD
  split
  · exact foF_vK hI (by omega) 6 _ (by omega)
  · exact Or.inl rfl
theorem coD_vK {M : Mem} (a b : Int) : coD a b = -1 ∨ vK M (coD a b) := by
  have h := coD_rng a b
  by_cases h2 : coD a b = -1
  · exact Or.inl h2
  · exact Or.inr (vK_c (by omega))
theorem canC_vK {M : Mem} {a k : Int} (h : canC M a k = true) : vK M k := by
  unfold canC at h
  rw [Bool.or_eq_true, Bool.or_eq_true, Bool.and_eq_true, Bool.and_eq_true] at h
  rcases h with (h | h) | h
  · have h9 : 0 ≤ k ∧ k ≤ 2 := of_decide_eq_true h.2
    exact vK_c (by omega)
  · have h9 : a = 3 ∧ k = 3 := of_decide_eq_true h
    exact vK_c (by omega)
  · exact Or.inl h.1
theorem choD_vK {M : Mem} {a b : Int} (ha : vK M a) (hb : vK M b) : choD M a b = -1 ∨ vK M (choD M a b) := by
  unfold choD
  split
  · exact Or.inr ha
  · split
    · split
      · exact Or.inr hb
      · exact Or.inr ha
    · exact coD_vK a b
theorem kelD_vK {M : Mem} {a b : Int} (ha : vK M a) : kelD a b = -1 ∨ vK M (kelD a b) := by
  unfold kelD
  split
  · rename_i h
    have h9 : 10 ≤ a ∧ a ≤ 16 := of_decide_eq_true h.1
    have h8 := vK_e ha
    refine Or.inr (Or.inl (isKindB_t.mpr ?_))
    unfold elD
    split <;> omega
  · exact Or.inl rfl
theorem twoD_vK {M : Mem} {c a b : Int} (ha : vK M a) : twoD M c a b = -1 ∨ vK M (twoD M c a b) := by
  have h3 : vK M 3 := vK_c (by omega)
  unfold twoD
  split
  · exact kelD_vK ha
  · split
    · split
      · exact Or.inl rfl
      · exact coD_vK a 0
    · split
      · split
        · exact Or.inl rfl
        · exact Or.inr h3
      · split
        · split
          · exact Or.inl rfl
          · exact Or.inr h3
        · split
          · split
            · exact Or.inr h3
            · exact coD_vK a b
          · split
            · split
              · exact Or.inr h3
              · exact Or.inl rfl
            · exact coD_vK a b
theorem ite_vK {M : Mem} {p : Prop} [Decidable p] {k : Int} (h : p → vK M k) : (if p then k else -1) = -1 ∨ vK M (if p then k else -1) := by
  split
  · rename_i h9; exact Or.inr (h h9)
  · exact Or.inl rfl
theorem kst_vK {M : Mem} {e : Nat} {K : Int → Int} {i : Int} (hI : TI M) (h : stK M e K i) : kstK M e K i = -1 ∨ vK M (kstK M e K i) := by
  have h3 : vK M 3 := vK_c (by omega)
  unfold kstK
  by_cases c1 : M (21 + 9 * e) i = 137
  · rw [kdS_con c1]; exact Or.inr (h.2.2.2.2 c1)
  by_cases c2 : M (21 + 9 * e) i = 143
  · rw [kdS_var c2]; exact vkD_vK hI _
  by_cases c3 : M (21 + 9 * e) i = 144
  · rw [kdS_fld c3]; exact fkD_vK hI _ _
  by_cases c4 : M (21 + 9 * e) i = 142
  · rw [kdS_len c4]; exact ite_vK (fun _ => vK_c (by omega))
  by_cases c5 : M (21 + 9 * e) i = 146
  · rw [kdS_cst c5]; exact ite_vK canC_vK
  by_cases c6 : M (21 + 9 * e) i = 141
  · rw [kdS_ins c6]; exact ite_vK (fun _ => h3)
  by_cases c7 : M (21 + 9 * e) i = 147 ∨ M (21 + 9 * e) i = 148 ∨ M (21 + 9 * e) i = 126
  · rw [kdS_una c7]; exact coD_vK _ _
  by_cases c8 : M (21 + 9 * e) i = 150 ∨ M (21 + 9 * e) i = 151 ∨ M (21 + 9 * e) i = 152 ∨ M (21 + 9 * e) i = 33
  · rw [kdS_sk c8]; exact ite_vK (fun _ => h3)
  have hno : ¬ oneC (M (21 + 9 * e) i) := by unfold oneC; omega
  by_cases c9 : M (21 + 9 * e) i = 149
  · rw [kdS_cho c9]; exact choD_vK (h.2.1 hno).2 (h.2.2.1 c9).2
  rw [kdS_two hno c9]
  exact twoD_vK ((h.2.2.2.1 (Or.inl hno)).resolve_left c9)
theorem kst_rng {M : Mem} {e : Nat} {K : Int → Int} {i : Int} (hI : TI M) (h : stK M e K i) : -1 ≤ kstK M e K i ∧ kstK M e K i < 18 := by
  rcases kst_vK hI h with h9 | h9
  · omega
  · have := vK_rng hI h9; omega
theorem d_Ck_kindOfStep_0 : decode b_Ck_kindOfStep 0 = .ok (.aload_n 0, 1) := by decide +kernel
theorem d_Ck_kindOfStep_1 : decode b_Ck_kindOfStep 1 = .ok (.getfield 15, 3) := by decide +kernel
theorem d_Ck_kindOfStep_4 : decode b_Ck_kindOfStep 4 = .ok (.aload_n 0, 1) := by decide +kernel
theorem d_Ck_kindOfStep_5 : decode b_Ck_kindOfStep 5 = .ok (.getfield 15, 3) := by decide +kernel
theorem d_Ck_kindOfStep_8 : decode b_Ck_kindOfStep 8 = .ok (.iload_n 1, 1) := by decide +kernel
theorem d_Ck_kindOfStep_9 : decode b_Ck_kindOfStep 9 = .ok (.invokevirtual 33, 3) := by decide +kernel
theorem d_Ck_kindOfStep_12 : decode b_Ck_kindOfStep 12 = .ok (.invokevirtual 36, 3) := by decide +kernel
theorem d_Ck_kindOfStep_15 : decode b_Ck_kindOfStep 15 = .ok (.istore_n 2, 1) := by decide +kernel
theorem d_Ck_kindOfStep_16 : decode b_Ck_kindOfStep 16 = .ok (.aload_n 0, 1) := by decide +kernel
theorem d_Ck_kindOfStep_17 : decode b_Ck_kindOfStep 17 = .ok (.getfield 15, 3) := by decide +kernel
theorem d_Ck_kindOfStep_20 : decode b_Ck_kindOfStep 20 = .ok (.iload_n 1, 1) := by decide +kernel
theorem d_Ck_kindOfStep_21 : decode b_Ck_kindOfStep 21 = .ok (.invokevirtual 39, 3) := by decide +kernel
theorem d_Ck_kindOfStep_24 : decode b_Ck_kindOfStep 24 = .ok (.istore_n 3, 1) := by decide +kernel
theorem d_Ck_kindOfStep_25 : decode b_Ck_kindOfStep 25 = .ok (.aload_n 0, 1) := by decide +kernel
theorem d_Ck_kindOfStep_26 : decode b_Ck_kindOfStep 26 = .ok (.getfield 15, 3) := by decide +kernel
theorem d_Ck_kindOfStep_29 : decode b_Ck_kindOfStep 29 = .ok (.iload_n 1, 1) := by decide +kernel
theorem d_Ck_kindOfStep_30 : decode b_Ck_kindOfStep 30 = .ok (.invokevirtual 42, 3) := by decide +kernel
theorem d_Ck_kindOfStep_33 : decode b_Ck_kindOfStep 33 = .ok (.lookupswitch 258 #[(33, 216), (126, 211), (137, 123), (141, 179), (142, 151), (143, 132), (144, 141), (146, 164), (147, 211), (148, 211), (149, 230), (150, 216), (151, 216), (152, 216)], 123) := by decide +kernel
theorem d_Ck_kindOfStep_156 : decode b_Ck_kindOfStep 156 = .ok (.aload_n 0, 1) := by decide +kernel
theorem d_Ck_kindOfStep_157 : decode b_Ck_kindOfStep 157 = .ok (.getfield 15, 3) := by decide +kernel
theorem d_Ck_kindOfStep_160 : decode b_Ck_kindOfStep 160 = .ok (.iload_n 1, 1) := by decide +kernel
theorem d_Ck_kindOfStep_161 : decode b_Ck_kindOfStep 161 = .ok (.invokevirtual 36, 3) := by decide +kernel
theorem d_Ck_kindOfStep_164 : decode b_Ck_kindOfStep 164 = .ok (.ireturn, 1) := by decide +kernel
theorem d_Ck_kindOfStep_165 : decode b_Ck_kindOfStep 165 = .ok (.aload_n 0, 1) := by decide +kernel
theorem d_Ck_kindOfStep_166 : decode b_Ck_kindOfStep 166 = .ok (.getfield 9, 3) := by decide +kernel
theorem d_Ck_kindOfStep_169 : decode b_Ck_kindOfStep 169 = .ok (.iload_n 3, 1) := by decide +kernel
theorem d_Ck_kindOfStep_170 : decode b_Ck_kindOfStep 170 = .ok (.invokevirtual 45, 3) := by decide +kernel
theorem d_Ck_kindOfStep_173 : decode b_Ck_kindOfStep 173 = .ok (.ireturn, 1) := by decide +kernel
theorem d_Ck_kindOfStep_174 : decode b_Ck_kindOfStep 174 = .ok (.aload_n 0, 1) := by decide +kernel
theorem d_Ck_kindOfStep_175 : decode b_Ck_kindOfStep 175 = .ok (.getfield 9, 3) := by decide +kernel
theorem d_Ck_kindOfStep_178 : decode b_Ck_kindOfStep 178 = .ok (.iload_n 2, 1) := by decide +kernel
theorem d_Ck_kindOfStep_179 : decode b_Ck_kindOfStep 179 = .ok (.iload_n 3, 1) := by decide +kernel
theorem d_Ck_kindOfStep_180 : decode b_Ck_kindOfStep 180 = .ok (.invokevirtual 50, 3) := by decide +kernel
theorem d_Ck_kindOfStep_183 : decode b_Ck_kindOfStep 183 = .ok (.ireturn, 1) := by decide +kernel
theorem d_Ck_kindOfStep_184 : decode b_Ck_kindOfStep 184 = .ok (.iload_n 2, 1) := by decide +kernel
theorem d_Ck_kindOfStep_185 : decode b_Ck_kindOfStep 185 = .ok (.invokestatic 54, 3) := by decide +kernel
theorem d_Ck_kindOfStep_188 : decode b_Ck_kindOfStep 188 = .ok (.ifCond .eq 7, 3) := by decide +kernel
theorem d_Ck_kindOfStep_191 : decode b_Ck_kindOfStep 191 = .ok (.iconst 0, 1) := by decide +kernel
theorem d_Ck_kindOfStep_192 : decode b_Ck_kindOfStep 192 = .ok (.goto 4, 3) := by decide +kernel
theorem d_Ck_kindOfStep_195 : decode b_Ck_kindOfStep 195 = .ok (.iconst (-1), 1) := by decide +kernel
theorem d_Ck_kindOfStep_196 : decode b_Ck_kindOfStep 196 = .ok (.ireturn, 1) := by decide +kernel
theorem d_Ck_kindOfStep_197 : decode b_Ck_kindOfStep 197 = .ok (.aload_n 0, 1) := by decide +kernel
theorem d_Ck_kindOfStep_198 : decode b_Ck_kindOfStep 198 = .ok (.iload_n 2, 1) := by decide +kernel
theorem d_Ck_kindOfStep_199 : decode b_Ck_kindOfStep 199 = .ok (.iload_n 3, 1) := by decide +kernel
theorem d_Ck_kindOfStep_200 : decode b_Ck_kindOfStep 200 = .ok (.invokevirtual 60, 3) := by decide +kernel
theorem d_Ck_kindOfStep_203 : decode b_Ck_kindOfStep 203 = .ok (.ifCond .eq 7, 3) := by decide +kernel
theorem d_Ck_kindOfStep_206 : decode b_Ck_kindOfStep 206 = .ok (.iload_n 3, 1) := by decide +kernel
theorem d_Ck_kindOfStep_207 : decode b_Ck_kindOfStep 207 = .ok (.goto 4, 3) := by decide +kernel
theorem d_Ck_kindOfStep_210 : decode b_Ck_kindOfStep 210 = .ok (.iconst (-1), 1) := by decide +kernel
theorem d_Ck_kindOfStep_211 : decode b_Ck_kindOfStep 211 = .ok (.ireturn, 1) := by decide +kernel
theorem d_Ck_kindOfStep_212 : decode b_Ck_kindOfStep 212 = .ok (.aload_n 0, 1) := by decide +kernel
theorem d_Ck_kindOfStep_213 : decode b_Ck_kindOfStep 213 = .ok (.getfield 9, 3) := by decide +kernel
theorem d_Ck_kindOfStep_216 : decode b_Ck_kindOfStep 216 = .ok (.iload_n 3, 1) := by decide +kernel
theorem d_Ck_kindOfStep_217 : decode b_Ck_kindOfStep 217 = .ok (.invokevirtual 64, 3) := by decide +kernel
theorem d_Ck_kindOfStep_220 : decode b_Ck_kindOfStep 220 = .ok (.ifCond .eq 19, 3) := by decide +kernel
theorem d_Ck_kindOfStep_223 : decode b_Ck_kindOfStep 223 = .ok (.aload_n 0, 1) := by decide +kernel
theorem d_Ck_kindOfStep_224 : decode b_Ck_kindOfStep 224 = .ok (.getfield 9, 3) := by decide +kernel
theorem d_Ck_kindOfStep_227 : decode b_Ck_kindOfStep 227 = .ok (.iload_n 2, 1) := by decide +kernel
theorem d_Ck_kindOfStep_228 : decode b_Ck_kindOfStep 228 = .ok (.iload_n 3, 1) := by decide +kernel
theorem d_Ck_kindOfStep_229 : decode b_Ck_kindOfStep 229 = .ok (.invokevirtual 67, 3) := by decide +kernel
theorem d_Ck_kindOfStep_232 : decode b_Ck_kindOfStep 232 = .ok (.ifCond .eq 7, 3) := by decide +kernel
theorem d_Ck_kindOfStep_235 : decode b_Ck_kindOfStep 235 = .ok (.iconst 1, 1) := by decide +kernel
theorem d_Ck_kindOfStep_236 : decode b_Ck_kindOfStep 236 = .ok (.goto 4, 3) := by decide +kernel
theorem d_Ck_kindOfStep_239 : decode b_Ck_kindOfStep 239 = .ok (.iconst 0, 1) := by decide +kernel
theorem d_Ck_kindOfStep_240 : decode b_Ck_kindOfStep 240 = .ok (.invokestatic 70, 3) := by decide +kernel
theorem d_Ck_kindOfStep_243 : decode b_Ck_kindOfStep 243 = .ok (.ireturn, 1) := by decide +kernel
theorem d_Ck_kindOfStep_244 : decode b_Ck_kindOfStep 244 = .ok (.iload_n 2, 1) := by decide +kernel
theorem d_Ck_kindOfStep_245 : decode b_Ck_kindOfStep 245 = .ok (.invokestatic 74, 3) := by decide +kernel
theorem d_Ck_kindOfStep_248 : decode b_Ck_kindOfStep 248 = .ok (.ireturn, 1) := by decide +kernel
theorem d_Ck_kindOfStep_249 : decode b_Ck_kindOfStep 249 = .ok (.iload_n 2, 1) := by decide +kernel
theorem d_Ck_kindOfStep_250 : decode b_Ck_kindOfStep 250 = .ok (.iconst 3, 1) := by decide +kernel
theorem d_Ck_kindOfStep_251 : decode b_Ck_kindOfStep 251 = .ok (.if_icmp .ne 7, 3) := by decide +kernel
theorem d_Ck_kindOfStep_254 : decode b_Ck_kindOfStep 254 = .ok (.iconst 1, 1) := by decide +kernel
theorem d_Ck_kindOfStep_255 : decode b_Ck_kindOfStep 255 = .ok (.goto 4, 3) := by decide +kernel
theorem d_Ck_kindOfStep_258 : decode b_Ck_kindOfStep 258 = .ok (.iconst 0, 1) := by decide +kernel
theorem d_Ck_kindOfStep_259 : decode b_Ck_kindOfStep 259 = .ok (.invokestatic 70, 3) := by decide +kernel
theorem d_Ck_kindOfStep_262 : decode b_Ck_kindOfStep 262 = .ok (.ireturn, 1) := by decide +kernel
theorem d_Ck_kindOfStep_263 : decode b_Ck_kindOfStep 263 = .ok (.aload_n 0, 1) := by decide +kernel
theorem d_Ck_kindOfStep_264 : decode b_Ck_kindOfStep 264 = .ok (.aload_n 0, 1) := by decide +kernel
theorem d_Ck_kindOfStep_265 : decode b_Ck_kindOfStep 265 = .ok (.getfield 15, 3) := by decide +kernel
theorem d_Ck_kindOfStep_268 : decode b_Ck_kindOfStep 268 = .ok (.iload_n 3, 1) := by decide +kernel
theorem d_Ck_kindOfStep_269 : decode b_Ck_kindOfStep 269 = .ok (.invokevirtual 36, 3) := by decide +kernel
theorem d_Ck_kindOfStep_272 : decode b_Ck_kindOfStep 272 = .ok (.aload_n 0, 1) := by decide +kernel
theorem d_Ck_kindOfStep_273 : decode b_Ck_kindOfStep 273 = .ok (.getfield 15, 3) := by decide +kernel
theorem d_Ck_kindOfStep_276 : decode b_Ck_kindOfStep 276 = .ok (.aload_n 0, 1) := by decide +kernel
theorem d_Ck_kindOfStep_277 : decode b_Ck_kindOfStep 277 = .ok (.getfield 15, 3) := by decide +kernel
theorem d_Ck_kindOfStep_280 : decode b_Ck_kindOfStep 280 = .ok (.iload_n 1, 1) := by decide +kernel
theorem d_Ck_kindOfStep_281 : decode b_Ck_kindOfStep 281 = .ok (.invokevirtual 77, 3) := by decide +kernel
theorem d_Ck_kindOfStep_284 : decode b_Ck_kindOfStep 284 = .ok (.invokevirtual 36, 3) := by decide +kernel
theorem d_Ck_kindOfStep_287 : decode b_Ck_kindOfStep 287 = .ok (.invokevirtual 80, 3) := by decide +kernel
theorem d_Ck_kindOfStep_290 : decode b_Ck_kindOfStep 290 = .ok (.ireturn, 1) := by decide +kernel
theorem d_Ck_kindOfStep_291 : decode b_Ck_kindOfStep 291 = .ok (.aload_n 0, 1) := by decide +kernel
theorem d_Ck_kindOfStep_292 : decode b_Ck_kindOfStep 292 = .ok (.aload_n 0, 1) := by decide +kernel
theorem d_Ck_kindOfStep_293 : decode b_Ck_kindOfStep 293 = .ok (.getfield 15, 3) := by decide +kernel
theorem d_Ck_kindOfStep_296 : decode b_Ck_kindOfStep 296 = .ok (.iload_n 1, 1) := by decide +kernel
theorem d_Ck_kindOfStep_297 : decode b_Ck_kindOfStep 297 = .ok (.invokevirtual 42, 3) := by decide +kernel
theorem d_Ck_kindOfStep_300 : decode b_Ck_kindOfStep 300 = .ok (.iload_n 2, 1) := by decide +kernel
theorem d_Ck_kindOfStep_301 : decode b_Ck_kindOfStep 301 = .ok (.aload_n 0, 1) := by decide +kernel
theorem d_Ck_kindOfStep_302 : decode b_Ck_kindOfStep 302 = .ok (.getfield 15, 3) := by decide +kernel
theorem d_Ck_kindOfStep_305 : decode b_Ck_kindOfStep 305 = .ok (.iload_n 3, 1) := by decide +kernel
theorem d_Ck_kindOfStep_306 : decode b_Ck_kindOfStep 306 = .ok (.invokevirtual 36, 3) := by decide +kernel
theorem d_Ck_kindOfStep_309 : decode b_Ck_kindOfStep 309 = .ok (.invokevirtual 83, 3) := by decide +kernel
theorem d_Ck_kindOfStep_312 : decode b_Ck_kindOfStep 312 = .ok (.ireturn, 1) := by decide +kernel
set_option maxHeartbeats 1000000 in
theorem g_Ck_kindOfStep {X : WX} {d : Nat} (hd : 4 ≤ d) (e : Nat) (i : Int) (M : Mem) (hT : RT M) (hI : TI M) (he : e < 4) (hck : M 18 1 = ((20 + 9 * e : Nat) : Int)) (hi : 0 ≤ i ∧ i < 48) (hst : stK M e (fun j => M (25 + 9 * e) j) i) : MG X gt d KE KE y_Ck_kindOfStep b_Ck_kindOfStep 4 (some .int) [vr 18, vi i] M (fun r M' => r = some (vi (kstK M e (fun j => M (25 + 9 * e) j) i)) ∧ M' = M) := by
  refine MG_of_G (by decide) (Nat.le_of_ble_eq_true rfl) (Nat.le_refl _) (by decide) ?_
  show G X gt d KE KE y_Ck_kindOfStep b_Ck_kindOfStep 4 (some .int) _ 0 [(0, vr 18), (1, vi i)] [] KE M
  have hI0 := hI
  obtain ⟨hI1, hI2, hI3, hI4, hI5, hI6, hI7, hI8, hI9, hI10, hI11, hI12, hI13, hI14⟩ := hI
  have hkr : ∀ z, kstK M e (fun j => M (25 + 9 * e) j) i = z → -2147483648 ≤ z ∧ z < 2147483648 := by
    intro z hz
    have h9 := kst_rng hI0 hst
    omega
  refine G_rngl (i := 1) rfl (fun hr1 => ?_)
  refine G_aload (i := 0) (n := 0) (len := 1) (Or.inl ⟨0, rfl, rfl, d_Ck_kindOfStep_0⟩) rfl (by decide) (G_pc (pc' := 1) rfl ?_)
  refine G_get (o := 18) (c := 0) (k := 1) (v := M 18 1) d_Ck_kindOfStep_1 fl_Ck_15 rfl (by decide) (by decide) rfl rfl (G_pc (pc' := 4) rfl ?_)
  rw [show M 18 1 = ((20 + 9 * e : Nat) : Int) from hck]
  refine G_aload (i := 0) (n := 0) (len := 1) (Or.inl ⟨0, rfl, rfl, d_Ck_kindOfStep_4⟩) rfl (by decide) (G_pc (pc' := 5) rfl ?_)
  refine G_get (o := 18) (c := 0) (k := 1) (v := M 18 1) d_Ck_kindOfStep_5 fl_Ck_15 rfl (by decide) (by decide) rfl rfl (G_pc (pc' := 8) rfl ?_)
  rw [show M 18 1 = ((20 + 9 * e : Nat) : Int) from hck]
  refine G_iload (i := 1) (n := 1) (len := 1) (Or.inl ⟨1, rfl, rfl, d_Ck_kindOfStep_8⟩) rfl (G_pc (pc' := 9) rfl ?_)
  refine G_callV (K1 := KE) (d2 := 0) (o := (20 + 9 * e)) (cl := 5) (as := [vi i]) (rest := [vr ((20 + 9 * e : Nat) : Int)]) d_Ck_kindOfStep_9 mf_St_firstOf ml_Ck_33 (kd_St he) rfl (by show 20 + 9 * e < 87; omega) rfl rfl (Nat.le_of_ble_eq_true rfl) (by omega) ⟨Nat.le_refl _, Nat.le_refl _⟩ (g_St_firstOf (by omega) e i _ he (by omega)) (fun r1 M2 kq3 q3 => ?_)
  clear kq3; obtain ⟨q3a, q3b⟩ := q3; subst r1; subst M2
  refine G_ps (pc' := 12) (st' := [vi (M (22 + 9 * e) i), vr ((20 + 9 * e : Nat) : Int)]) rfl rfl ?_
  refine G_callV (K1 := KE) (d2 := 0) (o := (20 + 9 * e)) (cl := 5) (as := [vi (M (22 + 9 * e) i)]) (rest := []) d_Ck_kindOfStep_12 mf_St_kindAt ml_Ck_36 (kd_St he) rfl (by show 20 + 9 * e < 87; omega) rfl rfl (Nat.le_of_ble_eq_true rfl) (by omega) ⟨Nat.le_refl _, Nat.le_refl _⟩ (g_St_kindAt (by omega) e (M (22 + 9 * e) i) _ he (by first | omega | exact hst.1 | exact (hst.2.1 (by unfold oneC; omega)).1 | exact (hst.2.2.1 (by omega)).1)) (fun r4 M5 kq6 q6 => ?_)
  clear kq6; obtain ⟨q6a, q6b⟩ := q6; subst r4; subst M5
  refine G_ps (pc' := 15) (st' := [vi (M (25 + 9 * e) (M (22 + 9 * e) i))]) rfl rfl ?_
  refine G_istore (i := 2) (len := 1) (ls' := [(2, vi (M (25 + 9 * e) (M (22 + 9 * e) i))), (0, vr 18), (1, vi i)]) (Or.inl ⟨2, rfl, rfl, d_Ck_kindOfStep_15⟩) (by decide) rfl (G_pc (pc' := 16) rfl ?_)
  refine G_aload (i := 0) (n := 1) (len := 1) (Or.inl ⟨0, rfl, rfl, d_Ck_kindOfStep_16⟩) rfl (by decide) (G_pc (pc' := 17) rfl ?_)
  refine G_get (o := 18) (c := 0) (k := 1) (v := M 18 1) d_Ck_kindOfStep_17 fl_Ck_15 rfl (by decide) (by decide) rfl rfl (G_pc (pc' := 20) rfl ?_)
  rw [show M 18 1 = ((20 + 9 * e : Nat) : Int) from hck]
  refine G_iload (i := 1) (n := 2) (len := 1) (Or.inl ⟨1, rfl, rfl, d_Ck_kindOfStep_20⟩) rfl (G_pc (pc' := 21) rfl ?_)
  refine G_callV (K1 := KE) (d2 := 0) (o := (20 + 9 * e)) (cl := 5) (as := [vi i]) (rest := []) d_Ck_kindOfStep_21 mf_St_secondOf ml_Ck_39 (kd_St he) rfl (by show 20 + 9 * e < 87; omega) rfl rfl (Nat.le_of_ble_eq_true rfl) (by omega) ⟨Nat.le_refl _, Nat.le_refl _⟩ (g_St_secondOf (by omega) e i _ he (by omega)) (fun r7 M8 kq9 q9 => ?_)
  clear kq9; obtain ⟨q9a, q9b⟩ := q9; subst r7; subst M8
  refine G_ps (pc' := 24) (st' := [vi (M (23 + 9 * e) i)]) rfl rfl ?_
  refine G_istore (i := 3) (len := 1) (ls' := [(3, vi (M (23 + 9 * e) i)), (2, vi (M (25 + 9 * e) (M (22 + 9 * e) i))), (0, vr 18), (1, vi i)]) (Or.inl ⟨3, rfl, rfl, d_Ck_kindOfStep_24⟩) (by decide) rfl (G_pc (pc' := 25) rfl ?_)
  refine G_aload (i := 0) (n := 2) (len := 1) (Or.inl ⟨0, rfl, rfl, d_Ck_kindOfStep_25⟩) rfl (by decide) (G_pc (pc' := 26) rfl ?_)
  refine G_get (o := 18) (c := 0) (k := 1) (v := M 18 1) d_Ck_kindOfStep_26 fl_Ck_15 rfl (by decide) (by decide) rfl rfl (G_pc (pc' := 29) rfl ?_)
  rw [show M 18 1 = ((20 + 9 * e : Nat) : Int) from hck]
  refine G_iload (i := 1) (n := 3) (len := 1) (Or.inl ⟨1, rfl, rfl, d_Ck_kindOfStep_29⟩) rfl (G_pc (pc' := 30) rfl ?_)
  refine G_callV (K1 := KE) (d2 := 0) (o := (20 + 9 * e)) (cl := 5) (as := [vi i]) (rest := []) d_Ck_kindOfStep_30 mf_St_codeAt ml_Ck_42 (kd_St he) rfl (by show 20 + 9 * e < 87; omega) rfl rfl (Nat.le_of_ble_eq_true rfl) (by omega) ⟨Nat.le_refl _, Nat.le_refl _⟩ (g_St_codeAt (by omega) e i _ he (by omega)) (fun r10 M11 kq12 q12 => ?_)
  clear kq12; obtain ⟨q12a, q12b⟩ := q12; subst r10; subst M11
  refine G_ps (pc' := 33) (st' := [vi (M (21 + 9 * e) i)]) rfl rfl ?_
  by_cases h13 : M (21 + 9 * e) i = 33 ∨ M (21 + 9 * e) i = 150 ∨ M (21 + 9 * e) i = 151 ∨ M (21 + 9 * e) i = 152
  · skip
    have e14o : Op.lookupswitch.offset [(33, 216), (126, 211), (137, 123), (141, 179), (142, 151), (143, 132), (144, 141), (146, 164), (147, 211), (148, 211), (149, 230), (150, 216), (151, 216), (152, 216)] 258 (M (21 + 9 * e) i) = 216 := by rcases h13 with e14 | e14 | e14 | e14 <;> rw [e14] <;> rfl
    refine G_lookup (off := 216) (tgt := 249) d_Ck_kindOfStep_33 (by decide) e14o (by decide) ?_
    refine G_iload (i := 2) (n := 1) (len := 1) (Or.inl ⟨2, rfl, rfl, d_Ck_kindOfStep_249⟩) rfl (G_pc (pc' := 250) rfl ?_)
    refine G_iconst (n := 3) d_Ck_kindOfStep_250 (by decide) (G_pc (pc' := 251) rfl ?_)
    refine G_icmp_ne (tgt := 258) d_Ck_kindOfStep_251 (by decide) (fun h15 => ?_) (fun h15 => G_pc (pc' := 254) rfl ?_)
    · skip
      refine G_iconst (n := 0) d_Ck_kindOfStep_258 (by decide) (G_pc (pc' := 259) rfl ?_)
      refine G_callS (K1 := KE) (d2 := 0) (as := [vi 0]) (rest := []) d_Ck_kindOfStep_259 mf_Ck_booleanIf ml_Ck_70 rfl rfl (Nat.le_of_ble_eq_true rfl) (by omega) ⟨Nat.le_refl _, Nat.le_refl _⟩ (g_Ck_booleanIf (by omega) 0 M (by first | omega | exact b2i_in _)) (fun r16 M17 kq18 q18 => ?_)
      clear kq18; obtain ⟨q18a, q18b⟩ := q18; subst r16; subst M17
      refine G_ps (pc' := 262) (st' := [vi (-1)]) rfl rfl ?_
      refine G_iret d_Ck_kindOfStep_262 rfl (tokI (by decide)) rfl rfl ?_
      exact ret_e (by unfold kstK; (try dsimp only); first | (rw [kdS_con (by omega)]; done) | (rw [kdS_var (by omega)]; done) | (rw [kdS_fld (by omega)]; done) | (rw [kdS_una (by omega)]; done) | (rw [kdS_cho (by omega)]; done) | (rw [kdS_len (by omega)]; simp [*]; done) | (rw [kdS_cst (by omega)]; simp [*]; done) | (rw [kdS_ins (by omega)]; simp [*]; done) | (rw [kdS_sk (by omega)]; simp [*]; done) | (rw [kdS_two (by unfold oneC; omega) (by omega)]; done)) rfl
    · skip
      refine G_iconst (n := 1) d_Ck_kindOfStep_254 (by decide) (G_pc (pc' := 255) rfl ?_)
      refine G_goto (tgt := 259) d_Ck_kindOfStep_255 (by decide) ?_
      refine G_callS (K1 := KE) (d2 := 0) (as := [vi 1]) (rest := []) d_Ck_kindOfStep_259 mf_Ck_booleanIf ml_Ck_70 rfl rfl (Nat.le_of_ble_eq_true rfl) (by omega) ⟨Nat.le_refl _, Nat.le_refl _⟩ (g_Ck_booleanIf (by omega) 1 M (by first | omega | exact b2i_in _)) (fun r19 M20 kq21 q21 => ?_)
      clear kq21; obtain ⟨q21a, q21b⟩ := q21; subst r19; subst M20
      refine G_ps (pc' := 262) (st' := [vi 3]) rfl rfl ?_
      refine G_iret d_Ck_kindOfStep_262 rfl (tokI (by decide)) rfl rfl ?_
      exact ret_e (by unfold kstK; (try dsimp only); first | (rw [kdS_con (by omega)]; done) | (rw [kdS_var (by omega)]; done) | (rw [kdS_fld (by omega)]; done) | (rw [kdS_una (by omega)]; done) | (rw [kdS_cho (by omega)]; done) | (rw [kdS_len (by omega)]; simp [*]; done) | (rw [kdS_cst (by omega)]; simp [*]; done) | (rw [kdS_ins (by omega)]; simp [*]; done) | (rw [kdS_sk (by omega)]; simp [*]; done) | (rw [kdS_two (by unfold oneC; omega) (by omega)]; done)) rfl
  by_cases h13 : M (21 + 9 * e) i = 126 ∨ M (21 + 9 * e) i = 147 ∨ M (21 + 9 * e) i = 148
  · skip
    have e22o : Op.lookupswitch.offset [(33, 216), (126, 211), (137, 123), (141, 179), (142, 151), (143, 132), (144, 141), (146, 164), (147, 211), (148, 211), (149, 230), (150, 216), (151, 216), (152, 216)] 258 (M (21 + 9 * e) i) = 211 := by rcases h13 with e22 | e22 | e22 <;> rw [e22] <;> rfl
    refine G_lookup (off := 211) (tgt := 244) d_Ck_kindOfStep_33 (by decide) e22o (by decide) ?_
    refine G_iload (i := 2) (n := 1) (len := 1) (Or.inl ⟨2, rfl, rfl, d_Ck_kindOfStep_244⟩) rfl (G_pc (pc' := 245) rfl ?_)
    refine G_callS (K1 := KE) (d2 := 2) (as := [vi (M (25 + 9 * e) (M (22 + 9 * e) i))]) (rest := []) d_Ck_kindOfStep_245 mf_Ki_promoted ml_Ck_74 rfl rfl (Nat.le_of_ble_eq_true rfl) (by omega) ⟨Nat.le_refl _, Nat.le_refl _⟩ (g_Ki_promoted (by omega) (M (25 + 9 * e) (M (22 + 9 * e) i)) _) (fun r23 M24 kq25 q25 => ?_)
    clear kq25; obtain ⟨q25a, q25b⟩ := q25; subst r23; subst M24
    refine G_ps (pc' := 248) (st' := [vi (coD (M (25 + 9 * e) (M (22 + 9 * e) i)) 0)]) rfl rfl ?_
    refine G_iret d_Ck_kindOfStep_248 rfl (tokI (by first | omega | exact hkr _ (by unfold kstK; (try dsimp only); first | (rw [kdS_con (by omega)]) | (rw [kdS_var (by omega)]) | (rw [kdS_fld (by omega)]) | (rw [kdS_una (by omega)]) | (rw [kdS_cho (by omega)]) | (rw [kdS_two (by unfold oneC; omega) (by omega)]) | (rw [kdS_cst (by omega), if_pos (by assumption)])))) rfl rfl ?_
    exact ret_e (by unfold kstK; (try dsimp only); first | (rw [kdS_con (by omega)]; done) | (rw [kdS_var (by omega)]; done) | (rw [kdS_fld (by omega)]; done) | (rw [kdS_una (by omega)]; done) | (rw [kdS_cho (by omega)]; done) | (rw [kdS_len (by omega)]; simp [*]; done) | (rw [kdS_cst (by omega)]; simp [*]; done) | (rw [kdS_ins (by omega)]; simp [*]; done) | (rw [kdS_sk (by omega)]; simp [*]; done) | (rw [kdS_two (by unfold oneC; omega) (by omega)]; done)) rfl
  by_cases h13 : M (21 + 9 * e) i = 137
  · skip
    have e26o : Op.lookupswitch.offset [(33, 216), (126, 211), (137, 123), (141, 179), (142, 151), (143, 132), (144, 141), (146, 164), (147, 211), (148, 211), (149, 230), (150, 216), (151, 216), (152, 216)] 258 (M (21 + 9 * e) i) = 123 := by rw [h13]; rfl
    refine G_lookup (off := 123) (tgt := 156) d_Ck_kindOfStep_33 (by decide) e26o (by decide) ?_
    refine G_aload (i := 0) (n := 2) (len := 1) (Or.inl ⟨0, rfl, rfl, d_Ck_kindOfStep_156⟩) rfl (by decide) (G_pc (pc' := 157) rfl ?_)
    refine G_get (o := 18) (c := 0) (k := 1) (v := M 18 1) d_Ck_kindOfStep_157 fl_Ck_15 rfl (by decide) (by decide) rfl rfl (G_pc (pc' := 160) rfl ?_)
    rw [show M 18 1 = ((20 + 9 * e : Nat) : Int) from hck]
    refine G_iload (i := 1) (n := 3) (len := 1) (Or.inl ⟨1, rfl, rfl, d_Ck_kindOfStep_160⟩) rfl (G_pc (pc' := 161) rfl ?_)
    refine G_callV (K1 := KE) (d2 := 0) (o := (20 + 9 * e)) (cl := 5) (as := [vi i]) (rest := []) d_Ck_kindOfStep_161 mf_St_kindAt ml_Ck_36 (kd_St he) rfl (by show 20 + 9 * e < 87; omega) rfl rfl (Nat.le_of_ble_eq_true rfl) (by omega) ⟨Nat.le_refl _, Nat.le_refl _⟩ (g_St_kindAt (by omega) e i _ he (by first | omega | exact hst.1 | exact (hst.2.1 (by unfold oneC; omega)).1 | exact (hst.2.2.1 (by omega)).1)) (fun r27 M28 kq29 q29 => ?_)
    clear kq29; obtain ⟨q29a, q29b⟩ := q29; subst r27; subst M28
    refine G_ps (pc' := 164) (st' := [vi (M (25 + 9 * e) i)]) rfl rfl ?_
    refine G_iret d_Ck_kindOfStep_164 rfl (tokI (by first | omega | exact hkr _ (by unfold kstK; (try dsimp only); first | (rw [kdS_con (by omega)]) | (rw [kdS_var (by omega)]) | (rw [kdS_fld (by omega)]) | (rw [kdS_una (by omega)]) | (rw [kdS_cho (by omega)]) | (rw [kdS_two (by unfold oneC; omega) (by omega)]) | (rw [kdS_cst (by omega), if_pos (by assumption)])))) rfl rfl ?_
    exact ret_e (by unfold kstK; (try dsimp only); first | (rw [kdS_con (by omega)]; done) | (rw [kdS_var (by omega)]; done) | (rw [kdS_fld (by omega)]; done) | (rw [kdS_una (by omega)]; done) | (rw [kdS_cho (by omega)]; done) | (rw [kdS_len (by omega)]; simp [*]; done) | (rw [kdS_cst (by omega)]; simp [*]; done) | (rw [kdS_ins (by omega)]; simp [*]; done) | (rw [kdS_sk (by omega)]; simp [*]; done) | (rw [kdS_two (by unfold oneC; omega) (by omega)]; done)) rfl
  by_cases h13 : M (21 + 9 * e) i = 141
  · skip
    have e30o : Op.lookupswitch.offset [(33, 216), (126, 211), (137, 123), (141, 179), (142, 151), (143, 132), (144, 141), (146, 164), (147, 211), (148, 211), (149, 230), (150, 216), (151, 216), (152, 216)] 258 (M (21 + 9 * e) i) = 179 := by rw [h13]; rfl
    refine G_lookup (off := 179) (tgt := 212) d_Ck_kindOfStep_33 (by decide) e30o (by decide) ?_
    refine G_aload (i := 0) (n := 2) (len := 1) (Or.inl ⟨0, rfl, rfl, d_Ck_kindOfStep_212⟩) rfl (by decide) (G_pc (pc' := 213) rfl ?_)
    refine G_get (o := 18) (c := 0) (k := 0) (v := 4) d_Ck_kindOfStep_213 fl_Ck_9 rfl (by decide) (by decide) rfl rfl (G_pc (pc' := 216) rfl ?_)
    refine G_iload (i := 3) (n := 0) (len := 1) (Or.inl ⟨3, rfl, rfl, d_Ck_kindOfStep_216⟩) rfl (G_pc (pc' := 217) rfl ?_)
    refine G_callV (K1 := KE) (d2 := 1) (o := 4) (cl := 6) (as := [vi (M (23 + 9 * e) i)]) (rest := []) d_Ck_kindOfStep_217 mf_Ta_isThere ml_Ck_64 rfl rfl (by decide) rfl rfl (Nat.le_of_ble_eq_true rfl) (by omega) ⟨Nat.le_refl _, Nat.le_refl _⟩ (g_Ta_isThere (by omega) (M (23 + 9 * e) i) M hT hI0 ) (fun r31 M32 kq33 q33 => ?_)
    clear kq33; obtain ⟨q33a, q33b⟩ := q33; subst r31; subst M32
    refine G_ps (pc' := 220) (st' := [vi (b2i (isKindB (M 55 0) (M (23 + 9 * e) i)))]) rfl rfl ?_
    refine G_if_eq (tgt := 239) d_Ck_kindOfStep_220 (by decide) (fun h34 => ?_) (fun h34 => G_pc (pc' := 223) rfl ?_)
    · skip
      replace h34 := b2i_0.mp h34
      refine G_iconst (n := 0) d_Ck_kindOfStep_239 (by decide) (G_pc (pc' := 240) rfl ?_)
      refine G_callS (K1 := KE) (d2 := 0) (as := [vi 0]) (rest := []) d_Ck_kindOfStep_240 mf_Ck_booleanIf ml_Ck_70 rfl rfl (Nat.le_of_ble_eq_true rfl) (by omega) ⟨Nat.le_refl _, Nat.le_refl _⟩ (g_Ck_booleanIf (by omega) 0 M (by first | omega | exact b2i_in _)) (fun r35 M36 kq37 q37 => ?_)
      clear kq37; obtain ⟨q37a, q37b⟩ := q37; subst r35; subst M36
      refine G_ps (pc' := 243) (st' := [vi (-1)]) rfl rfl ?_
      refine G_iret d_Ck_kindOfStep_243 rfl (tokI (by decide)) rfl rfl ?_
      exact ret_e (by unfold kstK; (try dsimp only); first | (rw [kdS_con (by omega)]; done) | (rw [kdS_var (by omega)]; done) | (rw [kdS_fld (by omega)]; done) | (rw [kdS_una (by omega)]; done) | (rw [kdS_cho (by omega)]; done) | (rw [kdS_len (by omega)]; simp [*]; done) | (rw [kdS_cst (by omega)]; simp [*]; done) | (rw [kdS_ins (by omega)]; simp [*]; done) | (rw [kdS_sk (by omega)]; simp [*]; done) | (rw [kdS_two (by unfold oneC; omega) (by omega)]; done)) rfl
    · skip
      replace h34 := b2i_nz.mp h34
      refine G_aload (i := 0) (n := 2) (len := 1) (Or.inl ⟨0, rfl, rfl, d_Ck_kindOfStep_223⟩) rfl (by decide) (G_pc (pc' := 224) rfl ?_)
      refine G_get (o := 18) (c := 0) (k := 0) (v := 4) d_Ck_kindOfStep_224 fl_Ck_9 rfl (by decide) (by decide) rfl rfl (G_pc (pc' := 227) rfl ?_)
      refine G_iload (i := 2) (n := 1) (len := 1) (Or.inl ⟨2, rfl, rfl, d_Ck_kindOfStep_227⟩) rfl (G_pc (pc' := 228) rfl ?_)
      refine G_iload (i := 3) (n := 0) (len := 1) (Or.inl ⟨3, rfl, rfl, d_Ck_kindOfStep_228⟩) rfl (G_pc (pc' := 229) rfl ?_)
      refine G_callV (K1 := KE) (d2 := 2) (o := 4) (cl := 6) (as := [vi (M (25 + 9 * e) (M (22 + 9 * e) i)), vi (M (23 + 9 * e) i)]) (rest := []) d_Ck_kindOfStep_229 mf_Ta_areRelated ml_Ck_67 rfl rfl (by decide) rfl rfl (Nat.le_of_ble_eq_true rfl) (by omega) ⟨Nat.le_refl _, Nat.le_refl _⟩ (g_Ta_areRelated (by omega) (M (25 + 9 * e) (M (22 + 9 * e) i)) (M (23 + 9 * e) i) M hT hI0 ((hst.2.2.2.1 (by first | (left; unfold oneC; omega) | (right; omega))).resolve_left (by omega)) (Or.inl (by assumption))) (fun r38 M39 kq40 q40 => ?_)
      clear kq40; obtain ⟨q40a, q40b⟩ := q40; subst r38; subst M39
      refine G_ps (pc' := 232) (st' := [vi (b2i (relB M (M (25 + 9 * e) (M (22 + 9 * e) i)) (M (23 + 9 * e) i)))]) rfl rfl ?_
      refine G_if_eq (tgt := 239) d_Ck_kindOfStep_232 (by decide) (fun h41 => ?_) (fun h41 => G_pc (pc' := 235) rfl ?_)
      · skip
        replace h41 := b2i_0.mp h41
        refine G_iconst (n := 0) d_Ck_kindOfStep_239 (by decide) (G_pc (pc' := 240) rfl ?_)
        refine G_callS (K1 := KE) (d2 := 0) (as := [vi 0]) (rest := []) d_Ck_kindOfStep_240 mf_Ck_booleanIf ml_Ck_70 rfl rfl (Nat.le_of_ble_eq_true rfl) (by omega) ⟨Nat.le_refl _, Nat.le_refl _⟩ (g_Ck_booleanIf (by omega) 0 M (by first | omega | exact b2i_in _)) (fun r42 M43 kq44 q44 => ?_)
        clear kq44; obtain ⟨q44a, q44b⟩ := q44; subst r42; subst M43
        refine G_ps (pc' := 243) (st' := [vi (-1)]) rfl rfl ?_
        refine G_iret d_Ck_kindOfStep_243 rfl (tokI (by decide)) rfl rfl ?_
        exact ret_e (by unfold kstK; (try dsimp only); first | (rw [kdS_con (by omega)]; done) | (rw [kdS_var (by omega)]; done) | (rw [kdS_fld (by omega)]; done) | (rw [kdS_una (by omega)]; done) | (rw [kdS_cho (by omega)]; done) | (rw [kdS_len (by omega)]; simp [*]; done) | (rw [kdS_cst (by omega)]; simp [*]; done) | (rw [kdS_ins (by omega)]; simp [*]; done) | (rw [kdS_sk (by omega)]; simp [*]; done) | (rw [kdS_two (by unfold oneC; omega) (by omega)]; done)) rfl
      · skip
        replace h41 := b2i_nz.mp h41
        refine G_iconst (n := 1) d_Ck_kindOfStep_235 (by decide) (G_pc (pc' := 236) rfl ?_)
        refine G_goto (tgt := 240) d_Ck_kindOfStep_236 (by decide) ?_
        refine G_callS (K1 := KE) (d2 := 0) (as := [vi 1]) (rest := []) d_Ck_kindOfStep_240 mf_Ck_booleanIf ml_Ck_70 rfl rfl (Nat.le_of_ble_eq_true rfl) (by omega) ⟨Nat.le_refl _, Nat.le_refl _⟩ (g_Ck_booleanIf (by omega) 1 M (by first | omega | exact b2i_in _)) (fun r45 M46 kq47 q47 => ?_)
        clear kq47; obtain ⟨q47a, q47b⟩ := q47; subst r45; subst M46
        refine G_ps (pc' := 243) (st' := [vi 3]) rfl rfl ?_
        refine G_iret d_Ck_kindOfStep_243 rfl (tokI (by decide)) rfl rfl ?_
        exact ret_e (by unfold kstK; (try dsimp only); first | (rw [kdS_con (by omega)]; done) | (rw [kdS_var (by omega)]; done) | (rw [kdS_fld (by omega)]; done) | (rw [kdS_una (by omega)]; done) | (rw [kdS_cho (by omega)]; done) | (rw [kdS_len (by omega)]; simp [*]; done) | (rw [kdS_cst (by omega)]; simp [*]; done) | (rw [kdS_ins (by omega)]; simp [*]; done) | (rw [kdS_sk (by omega)]; simp [*]; done) | (rw [kdS_two (by unfold oneC; omega) (by omega)]; done)) rfl
  by_cases h13 : M (21 + 9 * e) i = 142
  · skip
    have e48o : Op.lookupswitch.offset [(33, 216), (126, 211), (137, 123), (141, 179), (142, 151), (143, 132), (144, 141), (146, 164), (147, 211), (148, 211), (149, 230), (150, 216), (151, 216), (152, 216)] 258 (M (21 + 9 * e) i) = 151 := by rw [h13]; rfl
    refine G_lookup (off := 151) (tgt := 184) d_Ck_kindOfStep_33 (by decide) e48o (by decide) ?_
    refine G_iload (i := 2) (n := 1) (len := 1) (Or.inl ⟨2, rfl, rfl, d_Ck_kindOfStep_184⟩) rfl (G_pc (pc' := 185) rfl ?_)
    refine G_callS (K1 := KE) (d2 := 0) (as := [vi (M (25 + 9 * e) (M (22 + 9 * e) i))]) (rest := []) d_Ck_kindOfStep_185 mf_Ki_isArray ml_Ck_54 rfl rfl (Nat.le_of_ble_eq_true rfl) (by omega) ⟨Nat.le_refl _, Nat.le_refl _⟩ (g_Ki_isArray (by omega) (M (25 + 9 * e) (M (22 + 9 * e) i)) _) (fun r49 M50 kq51 q51 => ?_)
    clear kq51; obtain ⟨q51a, q51b⟩ := q51; subst r49; subst M50
    refine G_ps (pc' := 188) (st' := [vi (b2i (arB (M (25 + 9 * e) (M (22 + 9 * e) i))))]) rfl rfl ?_
    refine G_if_eq (tgt := 195) d_Ck_kindOfStep_188 (by decide) (fun h52 => ?_) (fun h52 => G_pc (pc' := 191) rfl ?_)
    · skip
      replace h52 := b2i_0.mp h52
      refine G_iconst (n := (-1)) d_Ck_kindOfStep_195 (by decide) (G_pc (pc' := 196) rfl ?_)
      refine G_iret d_Ck_kindOfStep_196 rfl (tokI (by decide)) rfl rfl ?_
      exact ret_e (by unfold kstK; (try dsimp only); first | (rw [kdS_con (by omega)]; done) | (rw [kdS_var (by omega)]; done) | (rw [kdS_fld (by omega)]; done) | (rw [kdS_una (by omega)]; done) | (rw [kdS_cho (by omega)]; done) | (rw [kdS_len (by omega)]; simp [*]; done) | (rw [kdS_cst (by omega)]; simp [*]; done) | (rw [kdS_ins (by omega)]; simp [*]; done) | (rw [kdS_sk (by omega)]; simp [*]; done) | (rw [kdS_two (by unfold oneC; omega) (by omega)]; done)) rfl
    · skip
      replace h52 := b2i_nz.mp h52
      refine G_iconst (n := 0) d_Ck_kindOfStep_191 (by decide) (G_pc (pc' := 192) rfl ?_)
      refine G_goto (tgt := 196) d_Ck_kindOfStep_192 (by decide) ?_
      refine G_iret d_Ck_kindOfStep_196 rfl (tokI (by decide)) rfl rfl ?_
      exact ret_e (by unfold kstK; (try dsimp only); first | (rw [kdS_con (by omega)]; done) | (rw [kdS_var (by omega)]; done) | (rw [kdS_fld (by omega)]; done) | (rw [kdS_una (by omega)]; done) | (rw [kdS_cho (by omega)]; done) | (rw [kdS_len (by omega)]; simp [*]; done) | (rw [kdS_cst (by omega)]; simp [*]; done) | (rw [kdS_ins (by omega)]; simp [*]; done) | (rw [kdS_sk (by omega)]; simp [*]; done) | (rw [kdS_two (by unfold oneC; omega) (by omega)]; done)) rfl
  by_cases h13 : M (21 + 9 * e) i = 143
  · skip
    have e53o : Op.lookupswitch.offset [(33, 216), (126, 211), (137, 123), (141, 179), (142, 151), (143, 132), (144, 141), (146, 164), (147, 211), (148, 211), (149, 230), (150, 216), (151, 216), (152, 216)] 258 (M (21 + 9 * e) i) = 132 := by rw [h13]; rfl
    refine G_lookup (off := 132) (tgt := 165) d_Ck_kindOfStep_33 (by decide) e53o (by decide) ?_
    refine G_aload (i := 0) (n := 2) (len := 1) (Or.inl ⟨0, rfl, rfl, d_Ck_kindOfStep_165⟩) rfl (by decide) (G_pc (pc' := 166) rfl ?_)
    refine G_get (o := 18) (c := 0) (k := 0) (v := 4) d_Ck_kindOfStep_166 fl_Ck_9 rfl (by decide) (by decide) rfl rfl (G_pc (pc' := 169) rfl ?_)
    refine G_iload (i := 3) (n := 0) (len := 1) (Or.inl ⟨3, rfl, rfl, d_Ck_kindOfStep_169⟩) rfl (G_pc (pc' := 170) rfl ?_)
    refine G_callV (K1 := KE) (d2 := 0) (o := 4) (cl := 6) (as := [vi (M (23 + 9 * e) i)]) (rest := []) d_Ck_kindOfStep_170 mf_Ta_kindOfVariable ml_Ck_45 rfl rfl (by decide) rfl rfl (Nat.le_of_ble_eq_true rfl) (by omega) ⟨Nat.le_refl _, Nat.le_refl _⟩ (g_Ta_kindOfVariable (by omega) (M (23 + 9 * e) i) M hT hI0 ) (fun r54 M55 kq56 q56 => ?_)
    clear kq56; obtain ⟨q56a, q56b⟩ := q56; subst r54; subst M55
    refine G_ps (pc' := 173) (st' := [vi (vkD M (M (23 + 9 * e) i))]) rfl rfl ?_
    refine G_iret d_Ck_kindOfStep_173 rfl (tokI (by first | omega | exact hkr _ (by unfold kstK; (try dsimp only); first | (rw [kdS_con (by omega)]) | (rw [kdS_var (by omega)]) | (rw [kdS_fld (by omega)]) | (rw [kdS_una (by omega)]) | (rw [kdS_cho (by omega)]) | (rw [kdS_two (by unfold oneC; omega) (by omega)]) | (rw [kdS_cst (by omega), if_pos (by assumption)])))) rfl rfl ?_
    exact ret_e (by unfold kstK; (try dsimp only); first | (rw [kdS_con (by omega)]; done) | (rw [kdS_var (by omega)]; done) | (rw [kdS_fld (by omega)]; done) | (rw [kdS_una (by omega)]; done) | (rw [kdS_cho (by omega)]; done) | (rw [kdS_len (by omega)]; simp [*]; done) | (rw [kdS_cst (by omega)]; simp [*]; done) | (rw [kdS_ins (by omega)]; simp [*]; done) | (rw [kdS_sk (by omega)]; simp [*]; done) | (rw [kdS_two (by unfold oneC; omega) (by omega)]; done)) rfl
  by_cases h13 : M (21 + 9 * e) i = 144
  · skip
    have e57o : Op.lookupswitch.offset [(33, 216), (126, 211), (137, 123), (141, 179), (142, 151), (143, 132), (144, 141), (146, 164), (147, 211), (148, 211), (149, 230), (150, 216), (151, 216), (152, 216)] 258 (M (21 + 9 * e) i) = 141 := by rw [h13]; rfl
    refine G_lookup (off := 141) (tgt := 174) d_Ck_kindOfStep_33 (by decide) e57o (by decide) ?_
    refine G_aload (i := 0) (n := 2) (len := 1) (Or.inl ⟨0, rfl, rfl, d_Ck_kindOfStep_174⟩) rfl (by decide) (G_pc (pc' := 175) rfl ?_)
    refine G_get (o := 18) (c := 0) (k := 0) (v := 4) d_Ck_kindOfStep_175 fl_Ck_9 rfl (by decide) (by decide) rfl rfl (G_pc (pc' := 178) rfl ?_)
    refine G_iload (i := 2) (n := 1) (len := 1) (Or.inl ⟨2, rfl, rfl, d_Ck_kindOfStep_178⟩) rfl (G_pc (pc' := 179) rfl ?_)
    refine G_iload (i := 3) (n := 0) (len := 1) (Or.inl ⟨3, rfl, rfl, d_Ck_kindOfStep_179⟩) rfl (G_pc (pc' := 180) rfl ?_)
    refine G_callV (K1 := KE) (d2 := 1) (o := 4) (cl := 6) (as := [vi (M (25 + 9 * e) (M (22 + 9 * e) i)), vi (M (23 + 9 * e) i)]) (rest := []) d_Ck_kindOfStep_180 mf_Ta_kindOfField ml_Ck_50 rfl rfl (by decide) rfl rfl (Nat.le_of_ble_eq_true rfl) (by omega) ⟨Nat.le_refl _, Nat.le_refl _⟩ (g_Ta_kindOfField (by omega) (M (25 + 9 * e) (M (22 + 9 * e) i)) (M (23 + 9 * e) i) M hT hI0 ) (fun r58 M59 kq60 q60 => ?_)
    clear kq60; obtain ⟨q60a, q60b⟩ := q60; subst r58; subst M59
    refine G_ps (pc' := 183) (st' := [vi (fkD M (M (25 + 9 * e) (M (22 + 9 * e) i)) (M (23 + 9 * e) i))]) rfl rfl ?_
    refine G_iret d_Ck_kindOfStep_183 rfl (tokI (by first | omega | exact hkr _ (by unfold kstK; (try dsimp only); first | (rw [kdS_con (by omega)]) | (rw [kdS_var (by omega)]) | (rw [kdS_fld (by omega)]) | (rw [kdS_una (by omega)]) | (rw [kdS_cho (by omega)]) | (rw [kdS_two (by unfold oneC; omega) (by omega)]) | (rw [kdS_cst (by omega), if_pos (by assumption)])))) rfl rfl ?_
    exact ret_e (by unfold kstK; (try dsimp only); first | (rw [kdS_con (by omega)]; done) | (rw [kdS_var (by omega)]; done) | (rw [kdS_fld (by omega)]; done) | (rw [kdS_una (by omega)]; done) | (rw [kdS_cho (by omega)]; done) | (rw [kdS_len (by omega)]; simp [*]; done) | (rw [kdS_cst (by omega)]; simp [*]; done) | (rw [kdS_ins (by omega)]; simp [*]; done) | (rw [kdS_sk (by omega)]; simp [*]; done) | (rw [kdS_two (by unfold oneC; omega) (by omega)]; done)) rfl
  by_cases h13 : M (21 + 9 * e) i = 146
  · skip
    have e61o : Op.lookupswitch.offset [(33, 216), (126, 211), (137, 123), (141, 179), (142, 151), (143, 132), (144, 141), (146, 164), (147, 211), (148, 211), (149, 230), (150, 216), (151, 216), (152, 216)] 258 (M (21 + 9 * e) i) = 164 := by rw [h13]; rfl
    refine G_lookup (off := 164) (tgt := 197) d_Ck_kindOfStep_33 (by decide) e61o (by decide) ?_
    refine G_aload (i := 0) (n := 2) (len := 1) (Or.inl ⟨0, rfl, rfl, d_Ck_kindOfStep_197⟩) rfl (by decide) (G_pc (pc' := 198) rfl ?_)
    refine G_iload (i := 2) (n := 1) (len := 1) (Or.inl ⟨2, rfl, rfl, d_Ck_kindOfStep_198⟩) rfl (G_pc (pc' := 199) rfl ?_)
    refine G_iload (i := 3) (n := 0) (len := 1) (Or.inl ⟨3, rfl, rfl, d_Ck_kindOfStep_199⟩) rfl (G_pc (pc' := 200) rfl ?_)
    refine G_callV (K1 := KE) (d2 := 3) (o := 18) (cl := 0) (as := [vi (M (25 + 9 * e) (M (22 + 9 * e) i)), vi (M (23 + 9 * e) i)]) (rest := []) d_Ck_kindOfStep_200 mf_Ck_canCast ml_Ck_60 rfl rfl (by decide) rfl rfl (Nat.le_of_ble_eq_true rfl) (by omega) ⟨Nat.le_refl _, Nat.le_refl _⟩ (g_Ck_canCast (by omega) (M (25 + 9 * e) (M (22 + 9 * e) i)) (M (23 + 9 * e) i) M hT hI0 ((hst.2.2.2.1 (by first | (left; unfold oneC; omega) | (right; omega))).resolve_left (by omega))) (fun r62 M63 kq64 q64 => ?_)
    clear kq64; obtain ⟨q64a, q64b⟩ := q64; subst r62; subst M63
    refine G_ps (pc' := 203) (st' := [vi (b2i (canC M (M (25 + 9 * e) (M (22 + 9 * e) i)) (M (23 + 9 * e) i)))]) rfl rfl ?_
    refine G_if_eq (tgt := 210) d_Ck_kindOfStep_203 (by decide) (fun h65 => ?_) (fun h65 => G_pc (pc' := 206) rfl ?_)
    · skip
      replace h65 := b2i_0.mp h65
      refine G_iconst (n := (-1)) d_Ck_kindOfStep_210 (by decide) (G_pc (pc' := 211) rfl ?_)
      refine G_iret d_Ck_kindOfStep_211 rfl (tokI (by decide)) rfl rfl ?_
      exact ret_e (by unfold kstK; (try dsimp only); first | (rw [kdS_con (by omega)]; done) | (rw [kdS_var (by omega)]; done) | (rw [kdS_fld (by omega)]; done) | (rw [kdS_una (by omega)]; done) | (rw [kdS_cho (by omega)]; done) | (rw [kdS_len (by omega)]; simp [*]; done) | (rw [kdS_cst (by omega)]; simp [*]; done) | (rw [kdS_ins (by omega)]; simp [*]; done) | (rw [kdS_sk (by omega)]; simp [*]; done) | (rw [kdS_two (by unfold oneC; omega) (by omega)]; done)) rfl
    · skip
      replace h65 := b2i_nz.mp h65
      refine G_iload (i := 3) (n := 0) (len := 1) (Or.inl ⟨3, rfl, rfl, d_Ck_kindOfStep_206⟩) rfl (G_pc (pc' := 207) rfl ?_)
      refine G_goto (tgt := 211) d_Ck_kindOfStep_207 (by decide) ?_
      refine G_iret d_Ck_kindOfStep_211 rfl (tokI (by first | omega | exact hkr _ (by unfold kstK; (try dsimp only); first | (rw [kdS_con (by omega)]) | (rw [kdS_var (by omega)]) | (rw [kdS_fld (by omega)]) | (rw [kdS_una (by omega)]) | (rw [kdS_cho (by omega)]) | (rw [kdS_two (by unfold oneC; omega) (by omega)]) | (rw [kdS_cst (by omega), if_pos (by assumption)])))) rfl rfl ?_
      exact ret_e (by unfold kstK; (try dsimp only); first | (rw [kdS_con (by omega)]; done) | (rw [kdS_var (by omega)]; done) | (rw [kdS_fld (by omega)]; done) | (rw [kdS_una (by omega)]; done) | (rw [kdS_cho (by omega)]; done) | (rw [kdS_len (by omega)]; simp [*]; done) | (rw [kdS_cst (by omega)]; simp [*]; done) | (rw [kdS_ins (by omega)]; simp [*]; done) | (rw [kdS_sk (by omega)]; simp [*]; done) | (rw [kdS_two (by unfold oneC; omega) (by omega)]; done)) rfl
  by_cases h13 : M (21 + 9 * e) i = 149
  · skip
    have e66o : Op.lookupswitch.offset [(33, 216), (126, 211), (137, 123), (141, 179), (142, 151), (143, 132), (144, 141), (146, 164), (147, 211), (148, 211), (149, 230), (150, 216), (151, 216), (152, 216)] 258 (M (21 + 9 * e) i) = 230 := by rw [h13]; rfl
    refine G_lookup (off := 230) (tgt := 263) d_Ck_kindOfStep_33 (by decide) e66o (by decide) ?_
    refine G_aload (i := 0) (n := 2) (len := 1) (Or.inl ⟨0, rfl, rfl, d_Ck_kindOfStep_263⟩) rfl (by decide) (G_pc (pc' := 264) rfl ?_)
    refine G_aload (i := 0) (n := 2) (len := 1) (Or.inl ⟨0, rfl, rfl, d_Ck_kindOfStep_264⟩) rfl (by decide) (G_pc (pc' := 265) rfl ?_)
    refine G_get (o := 18) (c := 0) (k := 1) (v := M 18 1) d_Ck_kindOfStep_265 fl_Ck_15 rfl (by decide) (by decide) rfl rfl (G_pc (pc' := 268) rfl ?_)
    rw [show M 18 1 = ((20 + 9 * e : Nat) : Int) from hck]
    refine G_iload (i := 3) (n := 0) (len := 1) (Or.inl ⟨3, rfl, rfl, d_Ck_kindOfStep_268⟩) rfl (G_pc (pc' := 269) rfl ?_)
    refine G_callV (K1 := KE) (d2 := 0) (o := (20 + 9 * e)) (cl := 5) (as := [vi (M (23 + 9 * e) i)]) (rest := [vr 18]) d_Ck_kindOfStep_269 mf_St_kindAt ml_Ck_36 (kd_St he) rfl (by show 20 + 9 * e < 87; omega) rfl rfl (Nat.le_of_ble_eq_true rfl) (by omega) ⟨Nat.le_refl _, Nat.le_refl _⟩ (g_St_kindAt (by omega) e (M (23 + 9 * e) i) _ he (by first | omega | exact hst.1 | exact (hst.2.1 (by unfold oneC; omega)).1 | exact (hst.2.2.1 (by omega)).1)) (fun r67 M68 kq69 q69 => ?_)
    clear kq69; obtain ⟨q69a, q69b⟩ := q69; subst r67; subst M68
    refine G_ps (pc' := 272) (st' := [vi (M (25 + 9 * e) (M (23 + 9 * e) i)), vr 18]) rfl rfl ?_
    refine G_aload (i := 0) (n := 2) (len := 1) (Or.inl ⟨0, rfl, rfl, d_Ck_kindOfStep_272⟩) rfl (by decide) (G_pc (pc' := 273) rfl ?_)
    refine G_get (o := 18) (c := 0) (k := 1) (v := M 18 1) d_Ck_kindOfStep_273 fl_Ck_15 rfl (by decide) (by decide) rfl rfl (G_pc (pc' := 276) rfl ?_)
    rw [show M 18 1 = ((20 + 9 * e : Nat) : Int) from hck]
    refine G_aload (i := 0) (n := 2) (len := 1) (Or.inl ⟨0, rfl, rfl, d_Ck_kindOfStep_276⟩) rfl (by decide) (G_pc (pc' := 277) rfl ?_)
    refine G_get (o := 18) (c := 0) (k := 1) (v := M 18 1) d_Ck_kindOfStep_277 fl_Ck_15 rfl (by decide) (by decide) rfl rfl (G_pc (pc' := 280) rfl ?_)
    rw [show M 18 1 = ((20 + 9 * e : Nat) : Int) from hck]
    refine G_iload (i := 1) (n := 3) (len := 1) (Or.inl ⟨1, rfl, rfl, d_Ck_kindOfStep_280⟩) rfl (G_pc (pc' := 281) rfl ?_)
    refine G_callV (K1 := KE) (d2 := 0) (o := (20 + 9 * e)) (cl := 5) (as := [vi i]) (rest := [vr ((20 + 9 * e : Nat) : Int), vi (M (25 + 9 * e) (M (23 + 9 * e) i)), vr 18]) d_Ck_kindOfStep_281 mf_St_thirdOf ml_Ck_77 (kd_St he) rfl (by show 20 + 9 * e < 87; omega) rfl rfl (Nat.le_of_ble_eq_true rfl) (by omega) ⟨Nat.le_refl _, Nat.le_refl _⟩ (g_St_thirdOf (by omega) e i _ he (by omega)) (fun r70 M71 kq72 q72 => ?_)
    clear kq72; obtain ⟨q72a, q72b⟩ := q72; subst r70; subst M71
    refine G_ps (pc' := 284) (st' := [vi (M (24 + 9 * e) i), vr ((20 + 9 * e : Nat) : Int), vi (M (25 + 9 * e) (M (23 + 9 * e) i)), vr 18]) rfl rfl ?_
    refine G_callV (K1 := KE) (d2 := 0) (o := (20 + 9 * e)) (cl := 5) (as := [vi (M (24 + 9 * e) i)]) (rest := [vi (M (25 + 9 * e) (M (23 + 9 * e) i)), vr 18]) d_Ck_kindOfStep_284 mf_St_kindAt ml_Ck_36 (kd_St he) rfl (by show 20 + 9 * e < 87; omega) rfl rfl (Nat.le_of_ble_eq_true rfl) (by omega) ⟨Nat.le_refl _, Nat.le_refl _⟩ (g_St_kindAt (by omega) e (M (24 + 9 * e) i) _ he (by first | omega | exact hst.1 | exact (hst.2.1 (by unfold oneC; omega)).1 | exact (hst.2.2.1 (by omega)).1)) (fun r73 M74 kq75 q75 => ?_)
    clear kq75; obtain ⟨q75a, q75b⟩ := q75; subst r73; subst M74
    refine G_ps (pc' := 287) (st' := [vi (M (25 + 9 * e) (M (24 + 9 * e) i)), vi (M (25 + 9 * e) (M (23 + 9 * e) i)), vr 18]) rfl rfl ?_
    refine G_callV (K1 := KE) (d2 := 3) (o := 18) (cl := 0) (as := [vi (M (25 + 9 * e) (M (23 + 9 * e) i)), vi (M (25 + 9 * e) (M (24 + 9 * e) i))]) (rest := []) d_Ck_kindOfStep_287 mf_Ck_kindOfChoice ml_Ck_80 rfl rfl (by decide) rfl rfl (Nat.le_of_ble_eq_true rfl) (by omega) ⟨Nat.le_refl _, Nat.le_refl _⟩ (g_Ck_kindOfChoice (by omega) (M (25 + 9 * e) (M (23 + 9 * e) i)) (M (25 + 9 * e) (M (24 + 9 * e) i)) M hT hI0 ((hst.2.1 (by unfold oneC; omega)).2) ((hst.2.2.1 (by omega)).2)) (fun r76 M77 kq78 q78 => ?_)
    clear kq78; obtain ⟨q78a, q78b⟩ := q78; subst r76; subst M77
    refine G_ps (pc' := 290) (st' := [vi (choD M (M (25 + 9 * e) (M (23 + 9 * e) i)) (M (25 + 9 * e) (M (24 + 9 * e) i)))]) rfl rfl ?_
    refine G_iret d_Ck_kindOfStep_290 rfl (tokI (by first | omega | exact hkr _ (by unfold kstK; (try dsimp only); first | (rw [kdS_con (by omega)]) | (rw [kdS_var (by omega)]) | (rw [kdS_fld (by omega)]) | (rw [kdS_una (by omega)]) | (rw [kdS_cho (by omega)]) | (rw [kdS_two (by unfold oneC; omega) (by omega)]) | (rw [kdS_cst (by omega), if_pos (by assumption)])))) rfl rfl ?_
    exact ret_e (by unfold kstK; (try dsimp only); first | (rw [kdS_con (by omega)]; done) | (rw [kdS_var (by omega)]; done) | (rw [kdS_fld (by omega)]; done) | (rw [kdS_una (by omega)]; done) | (rw [kdS_cho (by omega)]; done) | (rw [kdS_len (by omega)]; simp [*]; done) | (rw [kdS_cst (by omega)]; simp [*]; done) | (rw [kdS_ins (by omega)]; simp [*]; done) | (rw [kdS_sk (by omega)]; simp [*]; done) | (rw [kdS_two (by unfold oneC; omega) (by omega)]; done)) rfl
  have e79o : Op.lookupswitch.offset [(33, 216), (126, 211), (137, 123), (141, 179), (142, 151), (143, 132), (144, 141), (146, 164), (147, 211), (148, 211), (149, 230), (150, 216), (151, 216), (152, 216)] 258 (M (21 + 9 * e) i) = 258 := by rw [lk_ne (by omega), lk_ne (by omega), lk_ne (by omega), lk_ne (by omega), lk_ne (by omega), lk_ne (by omega), lk_ne (by omega), lk_ne (by omega), lk_ne (by omega), lk_ne (by omega), lk_ne (by omega), lk_ne (by omega), lk_ne (by omega), lk_ne (by omega)]; rfl
  refine G_lookup (off := 258) (tgt := 291) d_Ck_kindOfStep_33 (by decide) e79o (by decide) ?_
  refine G_aload (i := 0) (n := 2) (len := 1) (Or.inl ⟨0, rfl, rfl, d_Ck_kindOfStep_291⟩) rfl (by decide) (G_pc (pc' := 292) rfl ?_)
  refine G_aload (i := 0) (n := 2) (len := 1) (Or.inl ⟨0, rfl, rfl, d_Ck_kindOfStep_292⟩) rfl (by decide) (G_pc (pc' := 293) rfl ?_)
  refine G_get (o := 18) (c := 0) (k := 1) (v := M 18 1) d_Ck_kindOfStep_293 fl_Ck_15 rfl (by decide) (by decide) rfl rfl (G_pc (pc' := 296) rfl ?_)
  rw [show M 18 1 = ((20 + 9 * e : Nat) : Int) from hck]
  refine G_iload (i := 1) (n := 3) (len := 1) (Or.inl ⟨1, rfl, rfl, d_Ck_kindOfStep_296⟩) rfl (G_pc (pc' := 297) rfl ?_)
  refine G_callV (K1 := KE) (d2 := 0) (o := (20 + 9 * e)) (cl := 5) (as := [vi i]) (rest := [vr 18]) d_Ck_kindOfStep_297 mf_St_codeAt ml_Ck_42 (kd_St he) rfl (by show 20 + 9 * e < 87; omega) rfl rfl (Nat.le_of_ble_eq_true rfl) (by omega) ⟨Nat.le_refl _, Nat.le_refl _⟩ (g_St_codeAt (by omega) e i _ he (by omega)) (fun r80 M81 kq82 q82 => ?_)
  clear kq82; obtain ⟨q82a, q82b⟩ := q82; subst r80; subst M81
  refine G_ps (pc' := 300) (st' := [vi (M (21 + 9 * e) i), vr 18]) rfl rfl ?_
  refine G_iload (i := 2) (n := 1) (len := 1) (Or.inl ⟨2, rfl, rfl, d_Ck_kindOfStep_300⟩) rfl (G_pc (pc' := 301) rfl ?_)
  refine G_aload (i := 0) (n := 2) (len := 1) (Or.inl ⟨0, rfl, rfl, d_Ck_kindOfStep_301⟩) rfl (by decide) (G_pc (pc' := 302) rfl ?_)
  refine G_get (o := 18) (c := 0) (k := 1) (v := M 18 1) d_Ck_kindOfStep_302 fl_Ck_15 rfl (by decide) (by decide) rfl rfl (G_pc (pc' := 305) rfl ?_)
  rw [show M 18 1 = ((20 + 9 * e : Nat) : Int) from hck]
  refine G_iload (i := 3) (n := 0) (len := 1) (Or.inl ⟨3, rfl, rfl, d_Ck_kindOfStep_305⟩) rfl (G_pc (pc' := 306) rfl ?_)
  refine G_callV (K1 := KE) (d2 := 0) (o := (20 + 9 * e)) (cl := 5) (as := [vi (M (23 + 9 * e) i)]) (rest := [vi (M (25 + 9 * e) (M (22 + 9 * e) i)), vi (M (21 + 9 * e) i), vr 18]) d_Ck_kindOfStep_306 mf_St_kindAt ml_Ck_36 (kd_St he) rfl (by show 20 + 9 * e < 87; omega) rfl rfl (Nat.le_of_ble_eq_true rfl) (by omega) ⟨Nat.le_refl _, Nat.le_refl _⟩ (g_St_kindAt (by omega) e (M (23 + 9 * e) i) _ he (by first | omega | exact hst.1 | exact (hst.2.1 (by unfold oneC; omega)).1 | exact (hst.2.2.1 (by omega)).1)) (fun r83 M84 kq85 q85 => ?_)
  clear kq85; obtain ⟨q85a, q85b⟩ := q85; subst r83; subst M84
  refine G_ps (pc' := 309) (st' := [vi (M (25 + 9 * e) (M (23 + 9 * e) i)), vi (M (25 + 9 * e) (M (22 + 9 * e) i)), vi (M (21 + 9 * e) i), vr 18]) rfl rfl ?_
  refine G_callV (K1 := KE) (d2 := 3) (o := 18) (cl := 0) (as := [vi (M (21 + 9 * e) i), vi (M (25 + 9 * e) (M (22 + 9 * e) i)), vi (M (25 + 9 * e) (M (23 + 9 * e) i))]) (rest := []) d_Ck_kindOfStep_309 mf_Ck_kindOfTwo ml_Ck_83 rfl rfl (by decide) rfl rfl (Nat.le_of_ble_eq_true rfl) (by omega) ⟨Nat.le_refl _, Nat.le_refl _⟩ (g_Ck_kindOfTwo (by omega) (M (21 + 9 * e) i) (M (25 + 9 * e) (M (22 + 9 * e) i)) (M (25 + 9 * e) (M (23 + 9 * e) i)) M hT hI0 ((hst.2.2.2.1 (by first | (left; unfold oneC; omega) | (right; omega))).resolve_left (by omega)) ((hst.2.1 (by unfold oneC; omega)).2)) (fun r86 M87 kq88 q88 => ?_)
  clear kq88; obtain ⟨q88a, q88b⟩ := q88; subst r86; subst M87
  refine G_ps (pc' := 312) (st' := [vi (twoD M (M (21 + 9 * e) i) (M (25 + 9 * e) (M (22 + 9 * e) i)) (M (25 + 9 * e) (M (23 + 9 * e) i)))]) rfl rfl ?_
  refine G_iret d_Ck_kindOfStep_312 rfl (tokI (by first | omega | exact hkr _ (by unfold kstK; (try dsimp only); first | (rw [kdS_con (by omega)]) | (rw [kdS_var (by omega)]) | (rw [kdS_fld (by omega)]) | (rw [kdS_una (by omega)]) | (rw [kdS_cho (by omega)]) | (rw [kdS_two (by unfold oneC; omega) (by omega)]) | (rw [kdS_cst (by omega), if_pos (by assumption)])))) rfl rfl ?_
  exact ret_e (by unfold kstK; (try dsimp only); first | (rw [kdS_con (by omega)]; done) | (rw [kdS_var (by omega)]; done) | (rw [kdS_fld (by omega)]; done) | (rw [kdS_una (by omega)]; done) | (rw [kdS_cho (by omega)]; done) | (rw [kdS_len (by omega)]; simp [*]; done) | (rw [kdS_cst (by omega)]; simp [*]; done) | (rw [kdS_ins (by omega)]; simp [*]; done) | (rw [kdS_sk (by omega)]; simp [*]; done) | (rw [kdS_two (by unfold oneC; omega) (by omega)]; done)) rfl

def kup (K : Int → Int) (i v : Int) : Int → Int := fun j => if j = i then v else K j
def chkK (f : (Int → Int) → Int → Int) : Nat → Int → (Int → Int) → (Int → Int) × Bool
  | 0, _, K => (K, true)
  | n + 1, i, K => if f K i = -1 then (K, false) else chkK f n (i + 1) (kup K i (f K i))
def setK (M : Mem) (e : Nat) (K : Int → Int) : Mem := fun c j => if c = 25 + 9 * e then K j else if c = 18 ∧ j = 1 then ((20 + 9 * e : Nat) : Int) else M c j
theorem setK_0 {M : Mem} {e : Nat} : mset M 18 1 ((20 + 9 * e : Nat) : Int) = setK M e (fun j => M (25 + 9 * e) j) := by
  funext c j; unfold mset setK; grind
theorem setK_s {M : Mem} {e : Nat} {K : Int → Int} {i v : Int} : mset (setK M e K) (25 + 9 * e) i v = setK M e (kup K i v) := by
  funext c j; unfold mset setK kup; grind
theorem setK_k {M : Mem} {e : Nat} {K : Int → Int} {j : Int} : setK M e K (25 + 9 * e) j = K j := if_pos rfl
theorem setK_o {M : Mem} {e : Nat} {K : Int → Int} {c : Nat} (h : ¬ c = 25 + 9 * e) (h2 : ¬ c = 18) : setK M e K c = M c := by
  funext j; unfold setK; rw [if_neg h, if_neg (fun h9 => h2 h9.1)]
theorem setK_18 {M : Mem} {e : Nat} {K : Int → Int} : setK M e K 18 1 = ((20 + 9 * e : Nat) : Int) := by
  unfold setK; rw [if_neg (by omega), if_pos ⟨rfl, rfl⟩]
theorem setK_ag {M : Mem} {e : Nat} {K : Int → Int} (he : e < 4) : agr M (setK M e K) := fun c hc => setK_o (by omega) (by omega)
theorem kst_setK {M : Mem} {e : Nat} {K : Int → Int} (he : e < 4) (i : Int) : kstK (setK M e K) e (fun j => setK M e K (25 + 9 * e) j) i = kstK M e K i := by
  unfold kstK
  rw [kdS_ag (setK_ag he)]
  simp only [setK_k, setK_o (M := M) (e := e) (K := K) (show ¬ 21 + 9 * e = 25 + 9 * e by omega) (by omega), setK_o (M := M) (e := e) (K := K) (show ¬ 22 + 9 * e = 25 + 9 * e by omega) (by omega), setK_o (M := M) (e := e) (K := K) (show ¬ 23 + 9 * e = 25 + 9 * e by omega) (by omega), setK_o (M := M) (e := e) (K := K) (show ¬ 24 + 9 * e = 25 + 9 * e by omega) (by omega)]
theorem stK_setK {M : Mem} {e : Nat} {K : Int → Int} (he : e < 4) (i : Int) (h : stK M e K i) : stK (setK M e K) e (fun j => setK M e K (25 + 9 * e) j) i := by
  unfold stK at h ⊢
  simp only [setK_k, vK_ag (setK_ag (M := M) (K := K) he), setK_o (M := M) (e := e) (K := K) (show ¬ 21 + 9 * e = 25 + 9 * e by omega) (by omega), setK_o (M := M) (e := e) (K := K) (show ¬ 22 + 9 * e = 25 + 9 * e by omega) (by omega), setK_o (M := M) (e := e) (K := K) (show ¬ 23 + 9 * e = 25 + 9 * e by omega) (by omega), setK_o (M := M) (e := e) (K := K) (show ¬ 24 + 9 * e = 25 + 9 * e by omega) (by omega)]
  exact h
/-- the steps are such that the kinds of earlier ones are enough -/
def wtH (M : Mem) (e : Nat) : Prop := (0 ≤ M (20 + 9 * e) 6 ∧ M (20 + 9 * e) 6 ≤ 48) ∧ ∀ i K, 0 ≤ i → i < M (20 + 9 * e) 6 → (∀ j, 0 ≤ j → j < i → vK M (K j)) → (∀ j, i ≤ j → K j = M (25 + 9 * e) j) → stK M e K i
def wtD (M : Mem) (e : Nat) : (Int → Int) × Bool := chkK (kstK M e) (M (20 + 9 * e) 6).toNat 0 (fun j => M (25 + 9 * e) j)
theorem chkK_no {f : (Int → Int) → Int → Int} {n : Nat} {i : Int} {K : Int → Int} (h : f K i = -1) : chkK f (n + 1) i K = (K, false) := by simp [chkK, h]
theorem chkK_yes {f : (Int → Int) → Int → Int} {n : Nat} {i : Int} {K : Int → Int} (h : ¬ f K i = -1) : chkK f (n + 1) i K = chkK f n (i + 1) (kup K i (f K i)) := by simp [chkK, h]
theorem kup_vK {M : Mem} {K : Int → Int} {i v : Int} (h : ∀ j, 0 ≤ j → j < i → vK M (K j)) (hv : vK M v) : ∀ j, 0 ≤ j → j < i + 1 → vK M (kup K i v j) := by
  intro j h0 h1
  unfold kup
  split
  · exact hv
  · exact h j h0 (by omega)
theorem kup_o {K F : Int → Int} {i v : Int} (h : ∀ j, i ≤ j → K j = F j) : ∀ j, i + 1 ≤ j → kup K i v j = F j := by
  intro j h1
  unfold kup
  rw [if_neg (by omega)]
  exact h j (by omega)
theorem d_Ck_isWellTyped_0 : decode b_Ck_isWellTyped 0 = .ok (.aload_n 0, 1) := by decide +kernel
theorem d_Ck_isWellTyped_1 : decode b_Ck_isWellTyped 1 = .ok (.aload_n 1, 1) := by decide +kernel
theorem d_Ck_isWellTyped_2 : decode b_Ck_isWellTyped 2 = .ok (.putfield 15, 3) := by decide +kernel
theorem d_Ck_isWellTyped_5 : decode b_Ck_isWellTyped 5 = .ok (.iconst 0, 1) := by decide +kernel
theorem d_Ck_isWellTyped_6 : decode b_Ck_isWellTyped 6 = .ok (.istore_n 2, 1) := by decide +kernel
theorem d_Ck_isWellTyped_7 : decode b_Ck_isWellTyped 7 = .ok (.iload_n 2, 1) := by decide +kernel
theorem d_Ck_isWellTyped_8 : decode b_Ck_isWellTyped 8 = .ok (.aload_n 0, 1) := by decide +kernel
theorem d_Ck_isWellTyped_9 : decode b_Ck_isWellTyped 9 = .ok (.getfield 15, 3) := by decide +kernel
theorem d_Ck_isWellTyped_12 : decode b_Ck_isWellTyped 12 = .ok (.invokevirtual 19, 3) := by decide +kernel
theorem d_Ck_isWellTyped_15 : decode b_Ck_isWellTyped 15 = .ok (.if_icmp .ge 31, 3) := by decide +kernel
theorem d_Ck_isWellTyped_18 : decode b_Ck_isWellTyped 18 = .ok (.aload_n 0, 1) := by decide +kernel
theorem d_Ck_isWellTyped_19 : decode b_Ck_isWellTyped 19 = .ok (.iload_n 2, 1) := by decide +kernel
theorem d_Ck_isWellTyped_20 : decode b_Ck_isWellTyped 20 = .ok (.invokevirtual 25, 3) := by decide +kernel
theorem d_Ck_isWellTyped_23 : decode b_Ck_isWellTyped 23 = .ok (.istore_n 3, 1) := by decide +kernel
theorem d_Ck_isWellTyped_24 : decode b_Ck_isWellTyped 24 = .ok (.iload_n 3, 1) := by decide +kernel
theorem d_Ck_isWellTyped_25 : decode b_Ck_isWellTyped 25 = .ok (.iconst (-1), 1) := by decide +kernel
theorem d_Ck_isWellTyped_26 : decode b_Ck_isWellTyped 26 = .ok (.if_icmp .ne 5, 3) := by decide +kernel
theorem d_Ck_isWellTyped_29 : decode b_Ck_isWellTyped 29 = .ok (.iconst 0, 1) := by decide +kernel
theorem d_Ck_isWellTyped_30 : decode b_Ck_isWellTyped 30 = .ok (.ireturn, 1) := by decide +kernel
theorem d_Ck_isWellTyped_31 : decode b_Ck_isWellTyped 31 = .ok (.aload_n 0, 1) := by decide +kernel
theorem d_Ck_isWellTyped_32 : decode b_Ck_isWellTyped 32 = .ok (.getfield 15, 3) := by decide +kernel
theorem d_Ck_isWellTyped_35 : decode b_Ck_isWellTyped 35 = .ok (.iload_n 2, 1) := by decide +kernel
theorem d_Ck_isWellTyped_36 : decode b_Ck_isWellTyped 36 = .ok (.iload_n 3, 1) := by decide +kernel
theorem d_Ck_isWellTyped_37 : decode b_Ck_isWellTyped 37 = .ok (.invokevirtual 29, 3) := by decide +kernel
theorem d_Ck_isWellTyped_40 : decode b_Ck_isWellTyped 40 = .ok (.iinc 2 1, 3) := by decide +kernel
theorem d_Ck_isWellTyped_43 : decode b_Ck_isWellTyped 43 = .ok (.goto (-36), 3) := by decide +kernel
theorem d_Ck_isWellTyped_46 : decode b_Ck_isWellTyped 46 = .ok (.iconst 1, 1) := by decide +kernel
theorem d_Ck_isWellTyped_47 : decode b_Ck_isWellTyped 47 = .ok (.ireturn, 1) := by decide +kernel
theorem g_Ck_isWellTyped {X : WX} {d : Nat} (hd : 5 ≤ d) (e : Nat) (M : Mem) (hT : RT M) (hI : TI M) (he : e < 4) (hwt : wtH M e) : MG X gt d KE KE y_Ck_isWellTyped b_Ck_isWellTyped 4 (some .boolean) [vr 18, vr ((20 + 9 * e : Nat) : Int)] M (fun r M' => r = some (vi (b2i (wtD M e).2)) ∧ M' = setK M e (wtD M e).1) := by
  refine MG_of_G (by decide) (Nat.le_of_ble_eq_true rfl) (Nat.le_refl _) (by decide) ?_
  show G X gt d KE KE y_Ck_isWellTyped b_Ck_isWellTyped 4 (some .boolean) _ 0 [(0, vr 18), (1, vr ((20 + 9 * e : Nat) : Int))] [] KE M
  have hI0 := hI
  obtain ⟨hI1, hI2, hI3, hI4, hI5, hI6, hI7, hI8, hI9, hI10, hI11, hI12, hI13, hI14⟩ := hI
  have hsz := hwt.1
  have loop : ∀ (n : Nat) (i : Int) (K : Int → Int), i + n = M (20 + 9 * e) 6 → 0 ≤ i → (∀ j, 0 ≤ j → j < i → vK M (K j)) → (∀ j, i ≤ j → K j = M (25 + 9 * e) j) → chkK (kstK M e) n i K = wtD M e → G X gt d KE KE y_Ck_isWellTyped b_Ck_isWellTyped 4 (some .boolean) (fun r M' => r = some (vi (b2i (wtD M e).2)) ∧ M' = setK M e (wtD M e).1) 7 [(2, vi i), (0, vr 18), (1, vr ((20 + 9 * e : Nat) : Int))] [] KE (setK M e K) := by
    intro n
    induction n with
    | zero =>
      intro i K h1 h2 hA hB hC
      refine G_iload (i := 2) (n := 0) (len := 1) (Or.inl ⟨2, rfl, rfl, d_Ck_isWellTyped_7⟩) rfl (G_pc (pc' := 8) rfl ?_)
      refine G_aload (i := 0) (n := 1) (len := 1) (Or.inl ⟨0, rfl, rfl, d_Ck_isWellTyped_8⟩) rfl (by decide) (G_pc (pc' := 9) rfl ?_)
      refine G_get (o := 18) (c := 0) (k := 1) (v := (setK M e K) 18 1) d_Ck_isWellTyped_9 fl_Ck_15 rfl (by decide) (by decide) (rdw rfl (by first | rfl | (repeat (first | rfl | exact mset_eq (by omega) | refine (mset_ne (by omega)).trans ?_ | refine (mset_ni (by omega)).trans ?_)))) rfl (G_pc (pc' := 12) rfl ?_)
      rw [show (setK M e K) 18 1 = ((20 + 9 * e : Nat) : Int) from setK_18]
      refine G_callV (K1 := KE) (d2 := 0) (o := (20 + 9 * e)) (cl := 5) (as := []) (rest := [vi i]) d_Ck_isWellTyped_12 mf_St_size ml_Ck_19 (kd_St he) rfl (by show 20 + 9 * e < 87; omega) rfl rfl (Nat.le_of_ble_eq_true rfl) (by omega) ⟨Nat.le_refl _, Nat.le_refl _⟩ (g_St_size (by omega) e  _ he) (fun r1901 M1902 kq1903 q1903 => ?_)
      clear kq1903; obtain ⟨q1903a, q1903b⟩ := q1903; subst r1901; subst M1902
      refine G_ps (pc' := 15) (st' := [vi ((setK M e K) (20 + 9 * e) 6), vi i]) rfl rfl ?_
      rw [show (setK M e K) (20 + 9 * e) 6 = M (20 + 9 * e) 6 from by rw [setK_o (by omega) (by omega)]]
      refine G_icmp_ge (tgt := 46) d_Ck_isWellTyped_15 (by decide) (fun h1904 => ?_) (fun h1904 => absurd h1904 (by omega))
      refine G_iconst (n := 1) d_Ck_isWellTyped_46 (by decide) (G_pc (pc' := 47) rfl ?_)
      refine G_iret d_Ck_isWellTyped_47 rfl (tokZ (by decide)) rfl rfl ?_
      have h9 : wtD M e = (K, true) := hC.symm
      exact ⟨by rw [h9]; rfl, by rw [h9]⟩
    | succ n ih =>
      intro i K h1 h2 hA hB hC
      refine G_iload (i := 2) (n := 0) (len := 1) (Or.inl ⟨2, rfl, rfl, d_Ck_isWellTyped_7⟩) rfl (G_pc (pc' := 8) rfl ?_)
      refine G_aload (i := 0) (n := 1) (len := 1) (Or.inl ⟨0, rfl, rfl, d_Ck_isWellTyped_8⟩) rfl (by decide) (G_pc (pc' := 9) rfl ?_)
      refine G_get (o := 18) (c := 0) (k := 1) (v := (setK M e K) 18 1) d_Ck_isWellTyped_9 fl_Ck_15 rfl (by decide) (by decide) (rdw rfl (by first | rfl | (repeat (first | rfl | exact mset_eq (by omega) | refine (mset_ne (by omega)).trans ?_ | refine (mset_ni (by omega)).trans ?_)))) rfl (G_pc (pc' := 12) rfl ?_)
      rw [show (setK M e K) 18 1 = ((20 + 9 * e : Nat) : Int) from setK_18]
      refine G_callV (K1 := KE) (d2 := 0) (o := (20 + 9 * e)) (cl := 5) (as := []) (rest := [vi i]) d_Ck_isWellTyped_12 mf_St_size ml_Ck_19 (kd_St he) rfl (by show 20 + 9 * e < 87; omega) rfl rfl (Nat.le_of_ble_eq_true rfl) (by omega) ⟨Nat.le_refl _, Nat.le_refl _⟩ (g_St_size (by omega) e  _ he) (fun r2001 M2002 kq2003 q2003 => ?_)
      clear kq2003; obtain ⟨q2003a, q2003b⟩ := q2003; subst r2001; subst M2002
      refine G_ps (pc' := 15) (st' := [vi ((setK M e K) (20 + 9 * e) 6), vi i]) rfl rfl ?_
      rw [show (setK M e K) (20 + 9 * e) 6 = M (20 + 9 * e) 6 from by rw [setK_o (by omega) (by omega)]]
      refine G_icmp_ge (tgt := 46) d_Ck_isWellTyped_15 (by decide) (fun h2004 => absurd h2004 (by omega)) (fun h2004 => G_pc (pc' := 18) rfl ?_)
      refine G_aload (i := 0) (n := 1) (len := 1) (Or.inl ⟨0, rfl, rfl, d_Ck_isWellTyped_18⟩) rfl (by decide) (G_pc (pc' := 19) rfl ?_)
      refine G_iload (i := 2) (n := 0) (len := 1) (Or.inl ⟨2, rfl, rfl, d_Ck_isWellTyped_19⟩) rfl (G_pc (pc' := 20) rfl ?_)
      refine G_callV (K1 := KE) (d2 := 4) (o := 18) (cl := 0) (as := [vi i]) (rest := []) d_Ck_isWellTyped_20 mf_Ck_kindOfStep ml_Ck_25 rfl rfl (by decide) rfl rfl (Nat.le_of_ble_eq_true rfl) (by omega) ⟨Nat.le_refl _, Nat.le_refl _⟩ (g_Ck_kindOfStep (by omega) e i (setK M e K) (RT_ag (setK_ag he) hT) (TI_ag (setK_ag he) hI0) he setK_18 (by omega) (stK_setK he _ (hwt.2 i K (by omega) (by omega) hA hB))) (fun r2005 M2006 kq2007 q2007 => ?_)
      clear kq2007; obtain ⟨q2007a, q2007b⟩ := q2007; rw [kst_setK he i] at q2007a; subst r2005; subst M2006
      refine G_ps (pc' := 23) (st' := [vi (kstK M e K i)]) rfl rfl ?_
      refine G_istore (i := 3) (len := 1) (ls' := [(3, vi (kstK M e K i)), (2, vi i), (0, vr 18), (1, vr ((20 + 9 * e : Nat) : Int))]) (Or.inl ⟨3, rfl, rfl, d_Ck_isWellTyped_23⟩) (by decide) rfl (G_pc (pc' := 24) rfl ?_)
      refine G_iload (i := 3) (n := 0) (len := 1) (Or.inl ⟨3, rfl, rfl, d_Ck_isWellTyped_24⟩) rfl (G_pc (pc' := 25) rfl ?_)
      refine G_iconst (n := (-1)) d_Ck_isWellTyped_25 (by decide) (G_pc (pc' := 26) rfl ?_)
      refine G_icmp_ne (tgt := 31) d_Ck_isWellTyped_26 (by decide) (fun h2008 => ?_) (fun h2008 => G_pc (pc' := 29) rfl ?_)
      · skip
        refine G_aload (i := 0) (n := 2) (len := 1) (Or.inl ⟨0, rfl, rfl, d_Ck_isWellTyped_31⟩) rfl (by decide) (G_pc (pc' := 32) rfl ?_)
        refine G_get (o := 18) (c := 0) (k := 1) (v := (setK M e K) 18 1) d_Ck_isWellTyped_32 fl_Ck_15 rfl (by decide) (by decide) (rdw rfl (by first | rfl | (repeat (first | rfl | exact mset_eq (by omega) | refine (mset_ne (by omega)).trans ?_ | refine (mset_ni (by omega)).trans ?_)))) rfl (G_pc (pc' := 35) rfl ?_)
        rw [show (setK M e K) 18 1 = ((20 + 9 * e : Nat) : Int) from setK_18]
        refine G_iload (i := 2) (n := 1) (len := 1) (Or.inl ⟨2, rfl, rfl, d_Ck_isWellTyped_35⟩) rfl (G_pc (pc' := 36) rfl ?_)
        refine G_iload (i := 3) (n := 0) (len := 1) (Or.inl ⟨3, rfl, rfl, d_Ck_isWellTyped_36⟩) rfl (G_pc (pc' := 37) rfl ?_)
        refine G_callV (K1 := KE) (d2 := 0) (o := (20 + 9 * e)) (cl := 5) (as := [vi i, vi (kstK M e K i)]) (rest := []) d_Ck_isWellTyped_37 mf_St_setKind ml_Ck_29 (kd_St he) rfl (by show 20 + 9 * e < 87; omega) rfl rfl (Nat.le_of_ble_eq_true rfl) (by omega) ⟨Nat.le_refl _, Nat.le_refl _⟩ (g_St_setKind (by omega) e i (kstK M e K i) _ he (by omega)) (fun r2009 M2010 kq2011 q2011 => ?_)
        clear kq2011; obtain ⟨q2011a, q2011b⟩ := q2011; subst r2009; subst M2010
        refine G_ps (pc' := 40) (st' := []) rfl rfl ?_
        refine G_iinc (i := 2) (n := 1) (z := 1) (ls' := [(2, vi (i + 1)), (3, vi (kstK M e K i)), (0, vr 18), (1, vr ((20 + 9 * e : Nat) : Int))]) d_Ck_isWellTyped_40 rfl (by decide) (by omega) rfl (G_pc (pc' := 43) rfl ?_)
        refine G_goto (tgt := 7) d_Ck_isWellTyped_43 (by decide) ?_
        refine G_ls (ls' := [(2, vi (i + 1)), (0, vr 18), (1, vr ((20 + 9 * e : Nat) : Int))]) (by intro z hz; simp only [List.mem_cons] at hz ⊢; grind) ?_
        have hst9 := hwt.2 i K (by omega) (by omega) hA hB
        rw [setK_s]
        exact ih (i + 1) (kup K i (kstK M e K i)) (by omega) (by omega) (kup_vK hA ((kst_vK hI0 hst9).resolve_left (by assumption))) (kup_o hB) (hC.symm.trans (chkK_yes (by assumption))).symm
      · skip
        refine G_iconst (n := 0) d_Ck_isWellTyped_29 (by decide) (G_pc (pc' := 30) rfl ?_)
        refine G_iret d_Ck_isWellTyped_30 rfl (tokZ (by decide)) rfl rfl ?_
        have h9 := hC.symm.trans (chkK_no (by assumption))
        exact ⟨by rw [h9]; rfl, by rw [h9]⟩
  refine G_aload (i := 0) (n := 0) (len := 1) (Or.inl ⟨0, rfl, rfl, d_Ck_isWellTyped_0⟩) rfl (by decide) (G_pc (pc' := 1) rfl ?_)
  refine G_aload (i := 1) (n := 1) (len := 1) (Or.inl ⟨1, rfl, rfl, d_Ck_isWellTyped_1⟩) rfl (by omega) (G_pc (pc' := 2) rfl ?_)
  refine G_putL (o := 18) (c := 0) (k := 1) (ki := 1) (x := ((20 + 9 * e : Nat) : Int)) d_Ck_isWellTyped_2 fl_Ck_15 rfl rfl (by decide) (by decide) (by decide) rfl rfl (tokO (by omega)) rfl (G_pc (pc' := 5) rfl ?_)
  refine G_iconst (n := 0) d_Ck_isWellTyped_5 (by decide) (G_pc (pc' := 6) rfl ?_)
  refine G_istore (i := 2) (len := 1) (ls' := [(2, vi 0), (0, vr 18), (1, vr ((20 + 9 * e : Nat) : Int))]) (Or.inl ⟨2, rfl, rfl, d_Ck_isWellTyped_6⟩) (by decide) rfl (G_pc (pc' := 7) rfl ?_)
  rw [setK_0]
  exact loop (M (20 + 9 * e) 6).toNat 0 (fun j => M (25 + 9 * e) j) (by omega) (by omega) (fun j h7 h8 => absurd h8 (by omega)) (fun j _ => rfl) rfl

