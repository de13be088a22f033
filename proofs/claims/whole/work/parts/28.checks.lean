def comV (a b : Int) : Int := if a = 1 ∨ b = 1 then 1 else 0
def eithV (M : Mem) (b c : Int) : Int := if b = c then b else if b < 3 ∧ c < 3 then comV b c else if relB M b c = true then (if suitsB M b c = true then c else b) else -1
def kchk (M : Mem) (o v a b c : Int) : Int :=
  if o = 1 ∨ o = 2 ∨ o = 3 then o - 1
  else if o < 8 then (if o = 4 then 3 else if o = 5 then 17 else if o = 6 then M 58 26 else M 58 v)
  else if 100 < o then (if o = 133 then (if a = 3 then 3 else -1) else if a < 3 then comV a 0 else -1)
  else if o = 60 then (if 4 ≤ a ∧ a < 10 then fieldM M (a - 4) v else -1)
  else if o = 61 then (if 10 ≤ a ∧ a < 17 then 0 else -1)
  else if o = 63 then (if (0 ≤ v ∧ v < M 55 0) ∧ relB M a (4 + v) = true then 3 else -1)
  else if o = 64 then (if isKindB (M 55 0) v = true ∧ ((a < 3 ∧ v < 3) ∨ (a = 3 ∧ v = 3) ∨ relB M a v = true) then v else -1)
  else if o = 62 then (if (10 ≤ a ∧ a < 17) ∧ (b = 0 ∨ b = 2) then elemM a else -1)
  else if o = 65 then (if a = 3 then eithV M b c else -1)
  else if o = 44 ∨ o = 46 then (if a = 3 ∧ b = 3 then 3 else -1)
  else if o = 41 ∨ o = 42 then (if (a < 3 ∧ b < 3) ∨ (a = 3 ∧ b = 3) ∨ relB M a b = true then 3 else -1)
  else if (a = 3 ∧ b = 3) ∧ (o = 43 ∨ o = 45 ∨ o = 47) then 3
  else if ¬ (a < 3 ∧ b < 3) then -1 else if 34 ≤ o ∧ o ≤ 37 then 3 else if 38 ≤ o ∧ o ≤ 40 then comV a 0 else comV a b
def checkM (M : Mem) (n : Int) : Int := kchk M (M 76 n) (w32 (M 80 n)) (M 81 (M 77 n)) (M 81 (M 78 n)) (M 81 (M 79 n))
theorem d_Mo_common_0 : decode b_Mo_common 0 = .ok (.iload_n 0, 1) := by decide +kernel
theorem d_Mo_common_1 : decode b_Mo_common 1 = .ok (.iconst 1, 1) := by decide +kernel
theorem d_Mo_common_2 : decode b_Mo_common 2 = .ok (.if_icmp .eq 8, 3) := by decide +kernel
theorem d_Mo_common_5 : decode b_Mo_common 5 = .ok (.iload_n 1, 1) := by decide +kernel
theorem d_Mo_common_6 : decode b_Mo_common 6 = .ok (.iconst 1, 1) := by decide +kernel
theorem d_Mo_common_7 : decode b_Mo_common 7 = .ok (.if_icmp .ne 7, 3) := by decide +kernel
theorem d_Mo_common_10 : decode b_Mo_common 10 = .ok (.iconst 1, 1) := by decide +kernel
theorem d_Mo_common_11 : decode b_Mo_common 11 = .ok (.goto 4, 3) := by decide +kernel
theorem d_Mo_common_14 : decode b_Mo_common 14 = .ok (.iconst 0, 1) := by decide +kernel
theorem d_Mo_common_15 : decode b_Mo_common 15 = .ok (.ireturn, 1) := by decide +kernel
theorem g_Mo_common {X : WX} {d : Nat} (hd : 0 ≤ d) (a b : Int) (M : Mem)  : MG X gt d KE KE y_Mo_common b_Mo_common 2 (some .int) [vi a, vi b] M (fun r M' => r = some (vi (comV a b)) ∧ M' = M) := by
  refine MG_of_G (by decide) (Nat.le_of_ble_eq_true rfl) (Nat.le_refl _) (by decide) ?_
  show G X gt d KE KE y_Mo_common b_Mo_common 2 (some .int) _ 0 [(0, vi a), (1, vi b)] [] KE M
  refine G_rngl (i := 0) rfl (fun hr0 => ?_)
  refine G_rngl (i := 1) rfl (fun hr1 => ?_)
  refine G_iload (i := 0) (n := 0) (len := 1) (Or.inl ⟨0, rfl, rfl, d_Mo_common_0⟩) rfl (G_pc (pc' := 1) rfl ?_)
  refine G_iconst (n := 1) d_Mo_common_1 (by decide) (G_pc (pc' := 2) rfl ?_)
  refine G_icmp_eq (tgt := 10) d_Mo_common_2 (by decide) (fun h1 => ?_) (fun h1 => G_pc (pc' := 5) rfl ?_)
  · skip
    refine G_iconst (n := 1) d_Mo_common_10 (by decide) (G_pc (pc' := 11) rfl ?_)
    refine G_goto (tgt := 15) d_Mo_common_11 (by decide) ?_
    refine G_iret d_Mo_common_15 rfl (tokI (by decide)) rfl rfl ?_
    exact ret_e (by unfold comV; grind) rfl
  · skip
    refine G_iload (i := 1) (n := 1) (len := 1) (Or.inl ⟨1, rfl, rfl, d_Mo_common_5⟩) rfl (G_pc (pc' := 6) rfl ?_)
    refine G_iconst (n := 1) d_Mo_common_6 (by decide) (G_pc (pc' := 7) rfl ?_)
    refine G_icmp_ne (tgt := 14) d_Mo_common_7 (by decide) (fun h2 => ?_) (fun h2 => G_pc (pc' := 10) rfl ?_)
    · skip
      refine G_iconst (n := 0) d_Mo_common_14 (by decide) (G_pc (pc' := 15) rfl ?_)
      refine G_iret d_Mo_common_15 rfl (tokI (by decide)) rfl rfl ?_
      exact ret_e (by unfold comV; grind) rfl
    · skip
      refine G_iconst (n := 1) d_Mo_common_10 (by decide) (G_pc (pc' := 11) rfl ?_)
      refine G_goto (tgt := 15) d_Mo_common_11 (by decide) ?_
      refine G_iret d_Mo_common_15 rfl (tokI (by decide)) rfl rfl ?_
      exact ret_e (by unfold comV; grind) rfl

theorem d_Mo_either_0 : decode b_Mo_either 0 = .ok (.iload_n 1, 1) := by decide +kernel
theorem d_Mo_either_1 : decode b_Mo_either 1 = .ok (.iload_n 2, 1) := by decide +kernel
theorem d_Mo_either_2 : decode b_Mo_either 2 = .ok (.if_icmp .ne 5, 3) := by decide +kernel
theorem d_Mo_either_5 : decode b_Mo_either 5 = .ok (.iload_n 1, 1) := by decide +kernel
theorem d_Mo_either_6 : decode b_Mo_either 6 = .ok (.ireturn, 1) := by decide +kernel
theorem d_Mo_either_7 : decode b_Mo_either 7 = .ok (.iload_n 1, 1) := by decide +kernel
theorem d_Mo_either_8 : decode b_Mo_either 8 = .ok (.invokestatic 261, 3) := by decide +kernel
theorem d_Mo_either_11 : decode b_Mo_either 11 = .ok (.ifCond .eq 16, 3) := by decide +kernel
theorem d_Mo_either_14 : decode b_Mo_either 14 = .ok (.iload_n 2, 1) := by decide +kernel
theorem d_Mo_either_15 : decode b_Mo_either 15 = .ok (.invokestatic 261, 3) := by decide +kernel
theorem d_Mo_either_18 : decode b_Mo_either 18 = .ok (.ifCond .eq 9, 3) := by decide +kernel
theorem d_Mo_either_21 : decode b_Mo_either 21 = .ok (.iload_n 1, 1) := by decide +kernel
theorem d_Mo_either_22 : decode b_Mo_either 22 = .ok (.iload_n 2, 1) := by decide +kernel
theorem d_Mo_either_23 : decode b_Mo_either 23 = .ok (.invokestatic 264, 3) := by decide +kernel
theorem d_Mo_either_26 : decode b_Mo_either 26 = .ok (.ireturn, 1) := by decide +kernel
theorem d_Mo_either_27 : decode b_Mo_either 27 = .ok (.aload_n 0, 1) := by decide +kernel
theorem d_Mo_either_28 : decode b_Mo_either 28 = .ok (.iload_n 1, 1) := by decide +kernel
theorem d_Mo_either_29 : decode b_Mo_either 29 = .ok (.iload_n 2, 1) := by decide +kernel
theorem d_Mo_either_30 : decode b_Mo_either 30 = .ok (.invokevirtual 267, 3) := by decide +kernel
theorem d_Mo_either_33 : decode b_Mo_either 33 = .ok (.ifCond .ne 7, 3) := by decide +kernel
theorem d_Mo_either_36 : decode b_Mo_either 36 = .ok (.iconst (-1), 1) := by decide +kernel
theorem d_Mo_either_37 : decode b_Mo_either 37 = .ok (.goto 17, 3) := by decide +kernel
theorem d_Mo_either_40 : decode b_Mo_either 40 = .ok (.aload_n 0, 1) := by decide +kernel
theorem d_Mo_either_41 : decode b_Mo_either 41 = .ok (.iload_n 1, 1) := by decide +kernel
theorem d_Mo_either_42 : decode b_Mo_either 42 = .ok (.iload_n 2, 1) := by decide +kernel
theorem d_Mo_either_43 : decode b_Mo_either 43 = .ok (.invokevirtual 120, 3) := by decide +kernel
theorem d_Mo_either_46 : decode b_Mo_either 46 = .ok (.ifCond .eq 7, 3) := by decide +kernel
theorem d_Mo_either_49 : decode b_Mo_either 49 = .ok (.iload_n 2, 1) := by decide +kernel
theorem d_Mo_either_50 : decode b_Mo_either 50 = .ok (.goto 4, 3) := by decide +kernel
theorem d_Mo_either_53 : decode b_Mo_either 53 = .ok (.iload_n 1, 1) := by decide +kernel
theorem d_Mo_either_54 : decode b_Mo_either 54 = .ok (.ireturn, 1) := by decide +kernel
theorem g_Mo_either {X : WX} {d : Nat} (hd : 3 ≤ d) (b c : Int) (M : Mem) (hP : okP M) (hb : 0 ≤ b ∧ b < 18) (hc : 0 ≤ c ∧ c < 18) : MG X gt d KE KE y_Mo_either b_Mo_either 3 (some .int) [vr 55, vi b, vi c] M (fun r M' => r = some (vi (eithV M b c)) ∧ M' = M) := by
  refine MG_of_G (by decide) (Nat.le_of_ble_eq_true rfl) (Nat.le_refl _) (by decide) ?_
  show G X gt d KE KE y_Mo_either b_Mo_either 3 (some .int) _ 0 [(0, vr 55), (1, vi b), (2, vi c)] [] KE M
  refine G_rngl (i := 1) rfl (fun hr1 => ?_)
  refine G_rngl (i := 2) rfl (fun hr2 => ?_)
  refine G_iload (i := 1) (n := 1) (len := 1) (Or.inl ⟨1, rfl, rfl, d_Mo_either_0⟩) rfl (G_pc (pc' := 1) rfl ?_)
  refine G_iload (i := 2) (n := 2) (len := 1) (Or.inl ⟨2, rfl, rfl, d_Mo_either_1⟩) rfl (G_pc (pc' := 2) rfl ?_)
  refine G_icmp_ne (tgt := 7) d_Mo_either_2 (by decide) (fun h1 => ?_) (fun h1 => G_pc (pc' := 5) rfl ?_)
  · skip
    refine G_iload (i := 1) (n := 1) (len := 1) (Or.inl ⟨1, rfl, rfl, d_Mo_either_7⟩) rfl (G_pc (pc' := 8) rfl ?_)
    refine G_callS (K1 := KE) (d2 := 0) (as := [vi b]) (rest := []) d_Mo_either_8 mf_Mo_numeric ml_Mo_261 rfl rfl (Nat.le_of_ble_eq_true rfl) (by omega) ⟨Nat.le_refl _, Nat.le_refl _⟩ (g_Mo_numeric (by omega) b _) (fun r2 M3 kq4 q4 => ?_)
    clear kq4; obtain ⟨q4a, q4b⟩ := q4; subst r2; subst M3
    refine G_ps (pc' := 11) (st' := [vi (b2i (numB b))]) rfl rfl ?_
    refine G_if_eq (tgt := 27) d_Mo_either_11 (by decide) (fun h5 => ?_) (fun h5 => G_pc (pc' := 14) rfl ?_)
    · skip
      replace h5 := b2i_0.mp h5
      replace h5 := numB_f.mp h5
      refine G_aload (i := 0) (n := 0) (len := 1) (Or.inl ⟨0, rfl, rfl, d_Mo_either_27⟩) rfl (by decide) (G_pc (pc' := 28) rfl ?_)
      refine G_iload (i := 1) (n := 1) (len := 1) (Or.inl ⟨1, rfl, rfl, d_Mo_either_28⟩) rfl (G_pc (pc' := 29) rfl ?_)
      refine G_iload (i := 2) (n := 2) (len := 1) (Or.inl ⟨2, rfl, rfl, d_Mo_either_29⟩) rfl (G_pc (pc' := 30) rfl ?_)
      refine G_callV (K1 := KE) (d2 := 2) (o := 55) (cl := 9) (as := [vi b, vi c]) (rest := []) d_Mo_either_30 mf_Mo_related ml_Mo_267 rfl rfl (by decide) rfl rfl (Nat.le_of_ble_eq_true rfl) (by omega) ⟨Nat.le_refl _, Nat.le_refl _⟩ (g_Mo_related (by omega) b c _ hP (by omega) (by omega)) (fun r6 M7 kq8 q8 => ?_)
      clear kq8; obtain ⟨q8a, q8b⟩ := q8; subst r6; subst M7
      refine G_ps (pc' := 33) (st' := [vi (b2i (relB M b c))]) rfl rfl ?_
      refine G_if_ne (tgt := 40) d_Mo_either_33 (by decide) (fun h9 => ?_) (fun h9 => G_pc (pc' := 36) rfl ?_)
      · skip
        replace h9 := b2i_nz.mp h9
        refine G_aload (i := 0) (n := 0) (len := 1) (Or.inl ⟨0, rfl, rfl, d_Mo_either_40⟩) rfl (by decide) (G_pc (pc' := 41) rfl ?_)
        refine G_iload (i := 1) (n := 1) (len := 1) (Or.inl ⟨1, rfl, rfl, d_Mo_either_41⟩) rfl (G_pc (pc' := 42) rfl ?_)
        refine G_iload (i := 2) (n := 2) (len := 1) (Or.inl ⟨2, rfl, rfl, d_Mo_either_42⟩) rfl (G_pc (pc' := 43) rfl ?_)
        refine G_callV (K1 := KE) (d2 := 1) (o := 55) (cl := 9) (as := [vi b, vi c]) (rest := []) d_Mo_either_43 mf_Mo_suits ml_Mo_120 rfl rfl (by decide) rfl rfl (Nat.le_of_ble_eq_true rfl) (by omega) ⟨Nat.le_refl _, Nat.le_refl _⟩ (g_Mo_suits (by omega) b c _ hP (by omega) (by omega)) (fun r10 M11 kq12 q12 => ?_)
        clear kq12; obtain ⟨q12a, q12b⟩ := q12; subst r10; subst M11
        refine G_ps (pc' := 46) (st' := [vi (b2i (suitsB M b c))]) rfl rfl ?_
        refine G_if_eq (tgt := 53) d_Mo_either_46 (by decide) (fun h13 => ?_) (fun h13 => G_pc (pc' := 49) rfl ?_)
        · skip
          replace h13 := b2i_0.mp h13
          refine G_iload (i := 1) (n := 1) (len := 1) (Or.inl ⟨1, rfl, rfl, d_Mo_either_53⟩) rfl (G_pc (pc' := 54) rfl ?_)
          refine G_iret d_Mo_either_54 rfl (tokI (by omega)) rfl rfl ?_
          exact ret_e (by unfold eithV; grind) rfl
        · skip
          replace h13 := b2i_nz.mp h13
          refine G_iload (i := 2) (n := 2) (len := 1) (Or.inl ⟨2, rfl, rfl, d_Mo_either_49⟩) rfl (G_pc (pc' := 50) rfl ?_)
          refine G_goto (tgt := 54) d_Mo_either_50 (by decide) ?_
          refine G_iret d_Mo_either_54 rfl (tokI (by omega)) rfl rfl ?_
          exact ret_e (by unfold eithV; grind) rfl
      · skip
        replace h9 := b2i_0.mp h9
        refine G_iconst (n := (-1)) d_Mo_either_36 (by decide) (G_pc (pc' := 37) rfl ?_)
        refine G_goto (tgt := 54) d_Mo_either_37 (by decide) ?_
        refine G_iret d_Mo_either_54 rfl (tokI (by decide)) rfl rfl ?_
        exact ret_e (by unfold eithV; grind) rfl
    · skip
      replace h5 := b2i_nz.mp h5
      replace h5 := numB_t.mp h5
      refine G_iload (i := 2) (n := 2) (len := 1) (Or.inl ⟨2, rfl, rfl, d_Mo_either_14⟩) rfl (G_pc (pc' := 15) rfl ?_)
      refine G_callS (K1 := KE) (d2 := 0) (as := [vi c]) (rest := []) d_Mo_either_15 mf_Mo_numeric ml_Mo_261 rfl rfl (Nat.le_of_ble_eq_true rfl) (by omega) ⟨Nat.le_refl _, Nat.le_refl _⟩ (g_Mo_numeric (by omega) c _) (fun r14 M15 kq16 q16 => ?_)
      clear kq16; obtain ⟨q16a, q16b⟩ := q16; subst r14; subst M15
      refine G_ps (pc' := 18) (st' := [vi (b2i (numB c))]) rfl rfl ?_
      refine G_if_eq (tgt := 27) d_Mo_either_18 (by decide) (fun h17 => ?_) (fun h17 => G_pc (pc' := 21) rfl ?_)
      · skip
        replace h17 := b2i_0.mp h17
        replace h17 := numB_f.mp h17
        refine G_aload (i := 0) (n := 0) (len := 1) (Or.inl ⟨0, rfl, rfl, d_Mo_either_27⟩) rfl (by decide) (G_pc (pc' := 28) rfl ?_)
        refine G_iload (i := 1) (n := 1) (len := 1) (Or.inl ⟨1, rfl, rfl, d_Mo_either_28⟩) rfl (G_pc (pc' := 29) rfl ?_)
        refine G_iload (i := 2) (n := 2) (len := 1) (Or.inl ⟨2, rfl, rfl, d_Mo_either_29⟩) rfl (G_pc (pc' := 30) rfl ?_)
        refine G_callV (K1 := KE) (d2 := 2) (o := 55) (cl := 9) (as := [vi b, vi c]) (rest := []) d_Mo_either_30 mf_Mo_related ml_Mo_267 rfl rfl (by decide) rfl rfl (Nat.le_of_ble_eq_true rfl) (by omega) ⟨Nat.le_refl _, Nat.le_refl _⟩ (g_Mo_related (by omega) b c _ hP (by omega) (by omega)) (fun r18 M19 kq20 q20 => ?_)
        clear kq20; obtain ⟨q20a, q20b⟩ := q20; subst r18; subst M19
        refine G_ps (pc' := 33) (st' := [vi (b2i (relB M b c))]) rfl rfl ?_
        refine G_if_ne (tgt := 40) d_Mo_either_33 (by decide) (fun h21 => ?_) (fun h21 => G_pc (pc' := 36) rfl ?_)
        · skip
          replace h21 := b2i_nz.mp h21
          refine G_aload (i := 0) (n := 0) (len := 1) (Or.inl ⟨0, rfl, rfl, d_Mo_either_40⟩) rfl (by decide) (G_pc (pc' := 41) rfl ?_)
          refine G_iload (i := 1) (n := 1) (len := 1) (Or.inl ⟨1, rfl, rfl, d_Mo_either_41⟩) rfl (G_pc (pc' := 42) rfl ?_)
          refine G_iload (i := 2) (n := 2) (len := 1) (Or.inl ⟨2, rfl, rfl, d_Mo_either_42⟩) rfl (G_pc (pc' := 43) rfl ?_)
          refine G_callV (K1 := KE) (d2 := 1) (o := 55) (cl := 9) (as := [vi b, vi c]) (rest := []) d_Mo_either_43 mf_Mo_suits ml_Mo_120 rfl rfl (by decide) rfl rfl (Nat.le_of_ble_eq_true rfl) (by omega) ⟨Nat.le_refl _, Nat.le_refl _⟩ (g_Mo_suits (by omega) b c _ hP (by omega) (by omega)) (fun r22 M23 kq24 q24 => ?_)
          clear kq24; obtain ⟨q24a, q24b⟩ := q24; subst r22; subst M23
          refine G_ps (pc' := 46) (st' := [vi (b2i (suitsB M b c))]) rfl rfl ?_
          refine G_if_eq (tgt := 53) d_Mo_either_46 (by decide) (fun h25 => ?_) (fun h25 => G_pc (pc' := 49) rfl ?_)
          · skip
            replace h25 := b2i_0.mp h25
            refine G_iload (i := 1) (n := 1) (len := 1) (Or.inl ⟨1, rfl, rfl, d_Mo_either_53⟩) rfl (G_pc (pc' := 54) rfl ?_)
            refine G_iret d_Mo_either_54 rfl (tokI (by omega)) rfl rfl ?_
            exact ret_e (by unfold eithV; grind) rfl
          · skip
            replace h25 := b2i_nz.mp h25
            refine G_iload (i := 2) (n := 2) (len := 1) (Or.inl ⟨2, rfl, rfl, d_Mo_either_49⟩) rfl (G_pc (pc' := 50) rfl ?_)
            refine G_goto (tgt := 54) d_Mo_either_50 (by decide) ?_
            refine G_iret d_Mo_either_54 rfl (tokI (by omega)) rfl rfl ?_
            exact ret_e (by unfold eithV; grind) rfl
        · skip
          replace h21 := b2i_0.mp h21
          refine G_iconst (n := (-1)) d_Mo_either_36 (by decide) (G_pc (pc' := 37) rfl ?_)
          refine G_goto (tgt := 54) d_Mo_either_37 (by decide) ?_
          refine G_iret d_Mo_either_54 rfl (tokI (by decide)) rfl rfl ?_
          exact ret_e (by unfold eithV; grind) rfl
      · skip
        replace h17 := b2i_nz.mp h17
        replace h17 := numB_t.mp h17
        refine G_iload (i := 1) (n := 1) (len := 1) (Or.inl ⟨1, rfl, rfl, d_Mo_either_21⟩) rfl (G_pc (pc' := 22) rfl ?_)
        refine G_iload (i := 2) (n := 2) (len := 1) (Or.inl ⟨2, rfl, rfl, d_Mo_either_22⟩) rfl (G_pc (pc' := 23) rfl ?_)
        refine G_callS (K1 := KE) (d2 := 0) (as := [vi b, vi c]) (rest := []) d_Mo_either_23 mf_Mo_common ml_Mo_264 rfl rfl (Nat.le_of_ble_eq_true rfl) (by omega) ⟨Nat.le_refl _, Nat.le_refl _⟩ (g_Mo_common (by omega) b c _) (fun r26 M27 kq28 q28 => ?_)
        obtain ⟨q28a, q28b⟩ := q28; subst r26; subst M27
        replace kq28 : -2147483648 ≤ comV b c ∧ comV b c < 2147483648 := kq28 _ rfl
        refine G_ps (pc' := 26) (st' := [vi (comV b c)]) rfl rfl ?_
        refine G_iret d_Mo_either_26 rfl (tokI (by omega)) rfl rfl ?_
        exact ret_e (by unfold eithV; grind) rfl
  · skip
    refine G_iload (i := 1) (n := 1) (len := 1) (Or.inl ⟨1, rfl, rfl, d_Mo_either_5⟩) rfl (G_pc (pc' := 6) rfl ?_)
    refine G_iret d_Mo_either_6 rfl (tokI (by omega)) rfl rfl ?_
    exact ret_e (by unfold eithV; grind) rfl

theorem d_Mo_check_0 : decode b_Mo_check 0 = .ok (.aload_n 0, 1) := by decide +kernel
theorem d_Mo_check_1 : decode b_Mo_check 1 = .ok (.getfield 72, 3) := by decide +kernel
theorem d_Mo_check_4 : decode b_Mo_check 4 = .ok (.iload_n 1, 1) := by decide +kernel
theorem d_Mo_check_5 : decode b_Mo_check 5 = .ok (.iaload, 1) := by decide +kernel
theorem d_Mo_check_6 : decode b_Mo_check 6 = .ok (.istore_n 2, 1) := by decide +kernel
theorem d_Mo_check_7 : decode b_Mo_check 7 = .ok (.aload_n 0, 1) := by decide +kernel
theorem d_Mo_check_8 : decode b_Mo_check 8 = .ok (.getfield 84, 3) := by decide +kernel
theorem d_Mo_check_11 : decode b_Mo_check 11 = .ok (.iload_n 1, 1) := by decide +kernel
theorem d_Mo_check_12 : decode b_Mo_check 12 = .ok (.laload, 1) := by decide +kernel
theorem d_Mo_check_13 : decode b_Mo_check 13 = .ok (.l2i, 1) := by decide +kernel
theorem d_Mo_check_14 : decode b_Mo_check 14 = .ok (.istore_n 3, 1) := by decide +kernel
theorem d_Mo_check_15 : decode b_Mo_check 15 = .ok (.iload_n 2, 1) := by decide +kernel
theorem d_Mo_check_16 : decode b_Mo_check 16 = .ok (.iconst 1, 1) := by decide +kernel
theorem d_Mo_check_17 : decode b_Mo_check 17 = .ok (.if_icmp .eq 13, 3) := by decide +kernel
theorem d_Mo_check_20 : decode b_Mo_check 20 = .ok (.iload_n 2, 1) := by decide +kernel
theorem d_Mo_check_21 : decode b_Mo_check 21 = .ok (.iconst 2, 1) := by decide +kernel
theorem d_Mo_check_22 : decode b_Mo_check 22 = .ok (.if_icmp .eq 8, 3) := by decide +kernel
theorem d_Mo_check_25 : decode b_Mo_check 25 = .ok (.iload_n 2, 1) := by decide +kernel
theorem d_Mo_check_26 : decode b_Mo_check 26 = .ok (.iconst 3, 1) := by decide +kernel
theorem d_Mo_check_27 : decode b_Mo_check 27 = .ok (.if_icmp .ne 7, 3) := by decide +kernel
theorem d_Mo_check_30 : decode b_Mo_check 30 = .ok (.iload_n 2, 1) := by decide +kernel
theorem d_Mo_check_31 : decode b_Mo_check 31 = .ok (.iconst 1, 1) := by decide +kernel
theorem d_Mo_check_32 : decode b_Mo_check 32 = .ok (.isub, 1) := by decide +kernel
theorem d_Mo_check_33 : decode b_Mo_check 33 = .ok (.ireturn, 1) := by decide +kernel
theorem d_Mo_check_34 : decode b_Mo_check 34 = .ok (.iload_n 2, 1) := by decide +kernel
theorem d_Mo_check_35 : decode b_Mo_check 35 = .ok (.bipush 8, 2) := by decide +kernel
theorem d_Mo_check_37 : decode b_Mo_check 37 = .ok (.if_icmp .ge 45, 3) := by decide +kernel
theorem d_Mo_check_40 : decode b_Mo_check 40 = .ok (.iload_n 2, 1) := by decide +kernel
theorem d_Mo_check_41 : decode b_Mo_check 41 = .ok (.iconst 4, 1) := by decide +kernel
theorem d_Mo_check_42 : decode b_Mo_check 42 = .ok (.if_icmp .ne 7, 3) := by decide +kernel
theorem d_Mo_check_45 : decode b_Mo_check 45 = .ok (.iconst 3, 1) := by decide +kernel
theorem d_Mo_check_46 : decode b_Mo_check 46 = .ok (.goto 35, 3) := by decide +kernel
theorem d_Mo_check_49 : decode b_Mo_check 49 = .ok (.iload_n 2, 1) := by decide +kernel
theorem d_Mo_check_50 : decode b_Mo_check 50 = .ok (.iconst 5, 1) := by decide +kernel
theorem d_Mo_check_51 : decode b_Mo_check 51 = .ok (.if_icmp .ne 8, 3) := by decide +kernel
theorem d_Mo_check_54 : decode b_Mo_check 54 = .ok (.bipush 17, 2) := by decide +kernel
theorem d_Mo_check_56 : decode b_Mo_check 56 = .ok (.goto 25, 3) := by decide +kernel
theorem d_Mo_check_59 : decode b_Mo_check 59 = .ok (.iload_n 2, 1) := by decide +kernel
theorem d_Mo_check_60 : decode b_Mo_check 60 = .ok (.bipush 6, 2) := by decide +kernel
theorem d_Mo_check_62 : decode b_Mo_check 62 = .ok (.if_icmp .ne 13, 3) := by decide +kernel
theorem d_Mo_check_65 : decode b_Mo_check 65 = .ok (.aload_n 0, 1) := by decide +kernel
theorem d_Mo_check_66 : decode b_Mo_check 66 = .ok (.getfield 16, 3) := by decide +kernel
theorem d_Mo_check_69 : decode b_Mo_check 69 = .ok (.bipush 26, 2) := by decide +kernel
theorem d_Mo_check_71 : decode b_Mo_check 71 = .ok (.iaload, 1) := by decide +kernel
theorem d_Mo_check_72 : decode b_Mo_check 72 = .ok (.goto 9, 3) := by decide +kernel
theorem d_Mo_check_75 : decode b_Mo_check 75 = .ok (.aload_n 0, 1) := by decide +kernel
theorem d_Mo_check_76 : decode b_Mo_check 76 = .ok (.getfield 16, 3) := by decide +kernel
theorem d_Mo_check_79 : decode b_Mo_check 79 = .ok (.iload_n 3, 1) := by decide +kernel
theorem d_Mo_check_80 : decode b_Mo_check 80 = .ok (.iaload, 1) := by decide +kernel
theorem d_Mo_check_81 : decode b_Mo_check 81 = .ok (.ireturn, 1) := by decide +kernel
theorem d_Mo_check_82 : decode b_Mo_check 82 = .ok (.aload_n 0, 1) := by decide +kernel
theorem d_Mo_check_83 : decode b_Mo_check 83 = .ok (.getfield 87, 3) := by decide +kernel
theorem d_Mo_check_86 : decode b_Mo_check 86 = .ok (.aload_n 0, 1) := by decide +kernel
theorem d_Mo_check_87 : decode b_Mo_check 87 = .ok (.getfield 75, 3) := by decide +kernel
theorem d_Mo_check_90 : decode b_Mo_check 90 = .ok (.iload_n 1, 1) := by decide +kernel
theorem d_Mo_check_91 : decode b_Mo_check 91 = .ok (.iaload, 1) := by decide +kernel
theorem d_Mo_check_92 : decode b_Mo_check 92 = .ok (.iaload, 1) := by decide +kernel
theorem d_Mo_check_93 : decode b_Mo_check 93 = .ok (.istore 4, 2) := by decide +kernel
theorem d_Mo_check_95 : decode b_Mo_check 95 = .ok (.iload_n 2, 1) := by decide +kernel
theorem d_Mo_check_96 : decode b_Mo_check 96 = .ok (.bipush 100, 2) := by decide +kernel
theorem d_Mo_check_98 : decode b_Mo_check 98 = .ok (.if_icmp .le 43, 3) := by decide +kernel
theorem d_Mo_check_101 : decode b_Mo_check 101 = .ok (.iload_n 2, 1) := by decide +kernel
theorem d_Mo_check_102 : decode b_Mo_check 102 = .ok (.sipush 133, 3) := by decide +kernel
theorem d_Mo_check_105 : decode b_Mo_check 105 = .ok (.if_icmp .ne 17, 3) := by decide +kernel
theorem d_Mo_check_108 : decode b_Mo_check 108 = .ok (.iload 4, 2) := by decide +kernel
theorem d_Mo_check_110 : decode b_Mo_check 110 = .ok (.iconst 3, 1) := by decide +kernel
theorem d_Mo_check_111 : decode b_Mo_check 111 = .ok (.if_icmp .ne 7, 3) := by decide +kernel
theorem d_Mo_check_114 : decode b_Mo_check 114 = .ok (.iconst 3, 1) := by decide +kernel
theorem d_Mo_check_115 : decode b_Mo_check 115 = .ok (.goto 25, 3) := by decide +kernel
theorem d_Mo_check_118 : decode b_Mo_check 118 = .ok (.iconst (-1), 1) := by decide +kernel
theorem d_Mo_check_119 : decode b_Mo_check 119 = .ok (.goto 21, 3) := by decide +kernel
theorem d_Mo_check_122 : decode b_Mo_check 122 = .ok (.iload 4, 2) := by decide +kernel
theorem d_Mo_check_124 : decode b_Mo_check 124 = .ok (.invokestatic 261, 3) := by decide +kernel
theorem d_Mo_check_127 : decode b_Mo_check 127 = .ok (.ifCond .eq 12, 3) := by decide +kernel
theorem d_Mo_check_130 : decode b_Mo_check 130 = .ok (.iload 4, 2) := by decide +kernel
theorem d_Mo_check_132 : decode b_Mo_check 132 = .ok (.iconst 0, 1) := by decide +kernel
theorem d_Mo_check_133 : decode b_Mo_check 133 = .ok (.invokestatic 264, 3) := by decide +kernel
theorem d_Mo_check_136 : decode b_Mo_check 136 = .ok (.goto 4, 3) := by decide +kernel
theorem d_Mo_check_139 : decode b_Mo_check 139 = .ok (.iconst (-1), 1) := by decide +kernel
theorem d_Mo_check_140 : decode b_Mo_check 140 = .ok (.ireturn, 1) := by decide +kernel
theorem d_Mo_check_141 : decode b_Mo_check 141 = .ok (.iload_n 2, 1) := by decide +kernel
theorem d_Mo_check_142 : decode b_Mo_check 142 = .ok (.bipush 60, 2) := by decide +kernel
theorem d_Mo_check_144 : decode b_Mo_check 144 = .ok (.if_icmp .ne 30, 3) := by decide +kernel
theorem d_Mo_check_147 : decode b_Mo_check 147 = .ok (.iload 4, 2) := by decide +kernel
theorem d_Mo_check_149 : decode b_Mo_check 149 = .ok (.iconst 4, 1) := by decide +kernel
theorem d_Mo_check_150 : decode b_Mo_check 150 = .ok (.if_icmp .lt 22, 3) := by decide +kernel
theorem d_Mo_check_153 : decode b_Mo_check 153 = .ok (.iload 4, 2) := by decide +kernel
theorem d_Mo_check_155 : decode b_Mo_check 155 = .ok (.bipush 10, 2) := by decide +kernel
theorem d_Mo_check_157 : decode b_Mo_check 157 = .ok (.if_icmp .ge 15, 3) := by decide +kernel
theorem d_Mo_check_160 : decode b_Mo_check 160 = .ok (.aload_n 0, 1) := by decide +kernel
theorem d_Mo_check_161 : decode b_Mo_check 161 = .ok (.iload 4, 2) := by decide +kernel
theorem d_Mo_check_163 : decode b_Mo_check 163 = .ok (.iconst 4, 1) := by decide +kernel
theorem d_Mo_check_164 : decode b_Mo_check 164 = .ok (.isub, 1) := by decide +kernel
theorem d_Mo_check_165 : decode b_Mo_check 165 = .ok (.iload_n 3, 1) := by decide +kernel
theorem d_Mo_check_166 : decode b_Mo_check 166 = .ok (.invokevirtual 142, 3) := by decide +kernel
theorem d_Mo_check_169 : decode b_Mo_check 169 = .ok (.goto 4, 3) := by decide +kernel
theorem d_Mo_check_172 : decode b_Mo_check 172 = .ok (.iconst (-1), 1) := by decide +kernel
theorem d_Mo_check_173 : decode b_Mo_check 173 = .ok (.ireturn, 1) := by decide +kernel
theorem d_Mo_check_174 : decode b_Mo_check 174 = .ok (.iload_n 2, 1) := by decide +kernel
theorem d_Mo_check_175 : decode b_Mo_check 175 = .ok (.bipush 61, 2) := by decide +kernel
theorem d_Mo_check_177 : decode b_Mo_check 177 = .ok (.if_icmp .ne 23, 3) := by decide +kernel
theorem d_Mo_check_180 : decode b_Mo_check 180 = .ok (.iload 4, 2) := by decide +kernel
theorem d_Mo_check_182 : decode b_Mo_check 182 = .ok (.bipush 10, 2) := by decide +kernel
theorem d_Mo_check_184 : decode b_Mo_check 184 = .ok (.if_icmp .lt 14, 3) := by decide +kernel
theorem d_Mo_check_187 : decode b_Mo_check 187 = .ok (.iload 4, 2) := by decide +kernel
theorem d_Mo_check_189 : decode b_Mo_check 189 = .ok (.bipush 17, 2) := by decide +kernel
theorem d_Mo_check_191 : decode b_Mo_check 191 = .ok (.if_icmp .ge 7, 3) := by decide +kernel
theorem d_Mo_check_194 : decode b_Mo_check 194 = .ok (.iconst 0, 1) := by decide +kernel
theorem d_Mo_check_195 : decode b_Mo_check 195 = .ok (.goto 4, 3) := by decide +kernel
theorem d_Mo_check_198 : decode b_Mo_check 198 = .ok (.iconst (-1), 1) := by decide +kernel
theorem d_Mo_check_199 : decode b_Mo_check 199 = .ok (.ireturn, 1) := by decide +kernel
theorem d_Mo_check_200 : decode b_Mo_check 200 = .ok (.iload_n 2, 1) := by decide +kernel
theorem d_Mo_check_201 : decode b_Mo_check 201 = .ok (.bipush 63, 2) := by decide +kernel
theorem d_Mo_check_203 : decode b_Mo_check 203 = .ok (.if_icmp .ne 32, 3) := by decide +kernel
theorem d_Mo_check_206 : decode b_Mo_check 206 = .ok (.iload_n 3, 1) := by decide +kernel
theorem d_Mo_check_207 : decode b_Mo_check 207 = .ok (.aload_n 0, 1) := by decide +kernel
theorem d_Mo_check_208 : decode b_Mo_check 208 = .ok (.getfield 109, 3) := by decide +kernel
theorem d_Mo_check_211 : decode b_Mo_check 211 = .ok (.invokestatic 105, 3) := by decide +kernel
theorem d_Mo_check_214 : decode b_Mo_check 214 = .ok (.ifCond .eq 19, 3) := by decide +kernel
theorem d_Mo_check_217 : decode b_Mo_check 217 = .ok (.aload_n 0, 1) := by decide +kernel
theorem d_Mo_check_218 : decode b_Mo_check 218 = .ok (.iload 4, 2) := by decide +kernel
theorem d_Mo_check_220 : decode b_Mo_check 220 = .ok (.iconst 4, 1) := by decide +kernel
theorem d_Mo_check_221 : decode b_Mo_check 221 = .ok (.iload_n 3, 1) := by decide +kernel
theorem d_Mo_check_222 : decode b_Mo_check 222 = .ok (.iadd, 1) := by decide +kernel
theorem d_Mo_check_223 : decode b_Mo_check 223 = .ok (.invokevirtual 267, 3) := by decide +kernel
theorem d_Mo_check_226 : decode b_Mo_check 226 = .ok (.ifCond .eq 7, 3) := by decide +kernel
theorem d_Mo_check_229 : decode b_Mo_check 229 = .ok (.iconst 3, 1) := by decide +kernel
theorem d_Mo_check_230 : decode b_Mo_check 230 = .ok (.goto 4, 3) := by decide +kernel
theorem d_Mo_check_233 : decode b_Mo_check 233 = .ok (.iconst (-1), 1) := by decide +kernel
theorem d_Mo_check_234 : decode b_Mo_check 234 = .ok (.ireturn, 1) := by decide +kernel
theorem d_Mo_check_235 : decode b_Mo_check 235 = .ok (.iload_n 2, 1) := by decide +kernel
theorem d_Mo_check_236 : decode b_Mo_check 236 = .ok (.bipush 64, 2) := by decide +kernel
theorem d_Mo_check_238 : decode b_Mo_check 238 = .ok (.if_icmp .ne 53, 3) := by decide +kernel
theorem d_Mo_check_241 : decode b_Mo_check 241 = .ok (.aload_n 0, 1) := by decide +kernel
theorem d_Mo_check_242 : decode b_Mo_check 242 = .ok (.iload_n 3, 1) := by decide +kernel
theorem d_Mo_check_243 : decode b_Mo_check 243 = .ok (.invokevirtual 127, 3) := by decide +kernel
theorem d_Mo_check_246 : decode b_Mo_check 246 = .ok (.ifCond .eq 43, 3) := by decide +kernel
theorem d_Mo_check_249 : decode b_Mo_check 249 = .ok (.iload 4, 2) := by decide +kernel
theorem d_Mo_check_251 : decode b_Mo_check 251 = .ok (.invokestatic 261, 3) := by decide +kernel
theorem d_Mo_check_254 : decode b_Mo_check 254 = .ok (.ifCond .eq 10, 3) := by decide +kernel
theorem d_Mo_check_257 : decode b_Mo_check 257 = .ok (.iload_n 3, 1) := by decide +kernel
theorem d_Mo_check_258 : decode b_Mo_check 258 = .ok (.invokestatic 261, 3) := by decide +kernel
theorem d_Mo_check_261 : decode b_Mo_check 261 = .ok (.ifCond .ne 24, 3) := by decide +kernel
theorem d_Mo_check_264 : decode b_Mo_check 264 = .ok (.iload 4, 2) := by decide +kernel
theorem d_Mo_check_266 : decode b_Mo_check 266 = .ok (.iconst 3, 1) := by decide +kernel
theorem d_Mo_check_267 : decode b_Mo_check 267 = .ok (.if_icmp .ne 8, 3) := by decide +kernel
theorem d_Mo_check_270 : decode b_Mo_check 270 = .ok (.iload_n 3, 1) := by decide +kernel
theorem d_Mo_check_271 : decode b_Mo_check 271 = .ok (.iconst 3, 1) := by decide +kernel
theorem d_Mo_check_272 : decode b_Mo_check 272 = .ok (.if_icmp .eq 13, 3) := by decide +kernel
theorem d_Mo_check_275 : decode b_Mo_check 275 = .ok (.aload_n 0, 1) := by decide +kernel
theorem d_Mo_check_276 : decode b_Mo_check 276 = .ok (.iload 4, 2) := by decide +kernel
theorem d_Mo_check_278 : decode b_Mo_check 278 = .ok (.iload_n 3, 1) := by decide +kernel
theorem d_Mo_check_279 : decode b_Mo_check 279 = .ok (.invokevirtual 267, 3) := by decide +kernel
theorem d_Mo_check_282 : decode b_Mo_check 282 = .ok (.ifCond .eq 7, 3) := by decide +kernel
theorem d_Mo_check_285 : decode b_Mo_check 285 = .ok (.iload_n 3, 1) := by decide +kernel
theorem d_Mo_check_286 : decode b_Mo_check 286 = .ok (.goto 4, 3) := by decide +kernel
theorem d_Mo_check_289 : decode b_Mo_check 289 = .ok (.iconst (-1), 1) := by decide +kernel
theorem d_Mo_check_290 : decode b_Mo_check 290 = .ok (.ireturn, 1) := by decide +kernel
theorem d_Mo_check_291 : decode b_Mo_check 291 = .ok (.aload_n 0, 1) := by decide +kernel
theorem d_Mo_check_292 : decode b_Mo_check 292 = .ok (.getfield 87, 3) := by decide +kernel
theorem d_Mo_check_295 : decode b_Mo_check 295 = .ok (.aload_n 0, 1) := by decide +kernel
theorem d_Mo_check_296 : decode b_Mo_check 296 = .ok (.getfield 78, 3) := by decide +kernel
theorem d_Mo_check_299 : decode b_Mo_check 299 = .ok (.iload_n 1, 1) := by decide +kernel
theorem d_Mo_check_300 : decode b_Mo_check 300 = .ok (.iaload, 1) := by decide +kernel
theorem d_Mo_check_301 : decode b_Mo_check 301 = .ok (.iaload, 1) := by decide +kernel
theorem d_Mo_check_302 : decode b_Mo_check 302 = .ok (.istore 5, 2) := by decide +kernel
theorem d_Mo_check_304 : decode b_Mo_check 304 = .ok (.iload_n 2, 1) := by decide +kernel
theorem d_Mo_check_305 : decode b_Mo_check 305 = .ok (.bipush 62, 2) := by decide +kernel
theorem d_Mo_check_307 : decode b_Mo_check 307 = .ok (.if_icmp .ne 38, 3) := by decide +kernel
theorem d_Mo_check_310 : decode b_Mo_check 310 = .ok (.iload 4, 2) := by decide +kernel
theorem d_Mo_check_312 : decode b_Mo_check 312 = .ok (.bipush 10, 2) := by decide +kernel
theorem d_Mo_check_314 : decode b_Mo_check 314 = .ok (.if_icmp .lt 29, 3) := by decide +kernel
theorem d_Mo_check_317 : decode b_Mo_check 317 = .ok (.iload 4, 2) := by decide +kernel
theorem d_Mo_check_319 : decode b_Mo_check 319 = .ok (.bipush 17, 2) := by decide +kernel
theorem d_Mo_check_321 : decode b_Mo_check 321 = .ok (.if_icmp .ge 22, 3) := by decide +kernel
theorem d_Mo_check_324 : decode b_Mo_check 324 = .ok (.iload 5, 2) := by decide +kernel
theorem d_Mo_check_326 : decode b_Mo_check 326 = .ok (.ifCond .eq 9, 3) := by decide +kernel
theorem d_Mo_check_329 : decode b_Mo_check 329 = .ok (.iload 5, 2) := by decide +kernel
theorem d_Mo_check_331 : decode b_Mo_check 331 = .ok (.iconst 2, 1) := by decide +kernel
theorem d_Mo_check_332 : decode b_Mo_check 332 = .ok (.if_icmp .ne 11, 3) := by decide +kernel
theorem d_Mo_check_335 : decode b_Mo_check 335 = .ok (.iload 4, 2) := by decide +kernel
theorem d_Mo_check_337 : decode b_Mo_check 337 = .ok (.invokestatic 146, 3) := by decide +kernel
theorem d_Mo_check_340 : decode b_Mo_check 340 = .ok (.goto 4, 3) := by decide +kernel
theorem d_Mo_check_343 : decode b_Mo_check 343 = .ok (.iconst (-1), 1) := by decide +kernel
theorem d_Mo_check_344 : decode b_Mo_check 344 = .ok (.ireturn, 1) := by decide +kernel
theorem d_Mo_check_345 : decode b_Mo_check 345 = .ok (.iload_n 2, 1) := by decide +kernel
theorem d_Mo_check_346 : decode b_Mo_check 346 = .ok (.bipush 65, 2) := by decide +kernel
theorem d_Mo_check_348 : decode b_Mo_check 348 = .ok (.if_icmp .ne 31, 3) := by decide +kernel
theorem d_Mo_check_351 : decode b_Mo_check 351 = .ok (.iload 4, 2) := by decide +kernel
theorem d_Mo_check_353 : decode b_Mo_check 353 = .ok (.iconst 3, 1) := by decide +kernel
theorem d_Mo_check_354 : decode b_Mo_check 354 = .ok (.if_icmp .ne 23, 3) := by decide +kernel
theorem d_Mo_check_357 : decode b_Mo_check 357 = .ok (.aload_n 0, 1) := by decide +kernel
theorem d_Mo_check_358 : decode b_Mo_check 358 = .ok (.iload 5, 2) := by decide +kernel
theorem d_Mo_check_360 : decode b_Mo_check 360 = .ok (.aload_n 0, 1) := by decide +kernel
theorem d_Mo_check_361 : decode b_Mo_check 361 = .ok (.getfield 87, 3) := by decide +kernel
theorem d_Mo_check_364 : decode b_Mo_check 364 = .ok (.aload_n 0, 1) := by decide +kernel
theorem d_Mo_check_365 : decode b_Mo_check 365 = .ok (.getfield 81, 3) := by decide +kernel
theorem d_Mo_check_368 : decode b_Mo_check 368 = .ok (.iload_n 1, 1) := by decide +kernel
theorem d_Mo_check_369 : decode b_Mo_check 369 = .ok (.iaload, 1) := by decide +kernel
theorem d_Mo_check_370 : decode b_Mo_check 370 = .ok (.iaload, 1) := by decide +kernel
theorem d_Mo_check_371 : decode b_Mo_check 371 = .ok (.invokevirtual 270, 3) := by decide +kernel
theorem d_Mo_check_374 : decode b_Mo_check 374 = .ok (.goto 4, 3) := by decide +kernel
theorem d_Mo_check_377 : decode b_Mo_check 377 = .ok (.iconst (-1), 1) := by decide +kernel
theorem d_Mo_check_378 : decode b_Mo_check 378 = .ok (.ireturn, 1) := by decide +kernel
theorem d_Mo_check_379 : decode b_Mo_check 379 = .ok (.iload 4, 2) := by decide +kernel
theorem d_Mo_check_381 : decode b_Mo_check 381 = .ok (.invokestatic 261, 3) := by decide +kernel
theorem d_Mo_check_384 : decode b_Mo_check 384 = .ok (.ifCond .eq 15, 3) := by decide +kernel
theorem d_Mo_check_387 : decode b_Mo_check 387 = .ok (.iload 5, 2) := by decide +kernel
theorem d_Mo_check_389 : decode b_Mo_check 389 = .ok (.invokestatic 261, 3) := by decide +kernel
theorem d_Mo_check_392 : decode b_Mo_check 392 = .ok (.ifCond .eq 7, 3) := by decide +kernel
theorem d_Mo_check_395 : decode b_Mo_check 395 = .ok (.iconst 1, 1) := by decide +kernel
theorem d_Mo_check_396 : decode b_Mo_check 396 = .ok (.goto 4, 3) := by decide +kernel
theorem d_Mo_check_399 : decode b_Mo_check 399 = .ok (.iconst 0, 1) := by decide +kernel
theorem d_Mo_check_400 : decode b_Mo_check 400 = .ok (.istore 6, 2) := by decide +kernel
theorem d_Mo_check_402 : decode b_Mo_check 402 = .ok (.iload 4, 2) := by decide +kernel
theorem d_Mo_check_404 : decode b_Mo_check 404 = .ok (.iconst 3, 1) := by decide +kernel
theorem d_Mo_check_405 : decode b_Mo_check 405 = .ok (.if_icmp .ne 13, 3) := by decide +kernel
theorem d_Mo_check_408 : decode b_Mo_check 408 = .ok (.iload 5, 2) := by decide +kernel
theorem d_Mo_check_410 : decode b_Mo_check 410 = .ok (.iconst 3, 1) := by decide +kernel
theorem d_Mo_check_411 : decode b_Mo_check 411 = .ok (.if_icmp .ne 7, 3) := by decide +kernel
theorem d_Mo_check_414 : decode b_Mo_check 414 = .ok (.iconst 1, 1) := by decide +kernel
theorem d_Mo_check_415 : decode b_Mo_check 415 = .ok (.goto 4, 3) := by decide +kernel
theorem d_Mo_check_418 : decode b_Mo_check 418 = .ok (.iconst 0, 1) := by decide +kernel
theorem d_Mo_check_419 : decode b_Mo_check 419 = .ok (.istore 7, 2) := by decide +kernel
theorem d_Mo_check_421 : decode b_Mo_check 421 = .ok (.iload_n 2, 1) := by decide +kernel
theorem d_Mo_check_422 : decode b_Mo_check 422 = .ok (.bipush 44, 2) := by decide +kernel
theorem d_Mo_check_424 : decode b_Mo_check 424 = .ok (.if_icmp .eq 9, 3) := by decide +kernel
theorem d_Mo_check_427 : decode b_Mo_check 427 = .ok (.iload_n 2, 1) := by decide +kernel
theorem d_Mo_check_428 : decode b_Mo_check 428 = .ok (.bipush 46, 2) := by decide +kernel
theorem d_Mo_check_430 : decode b_Mo_check 430 = .ok (.if_icmp .ne 14, 3) := by decide +kernel
theorem d_Mo_check_433 : decode b_Mo_check 433 = .ok (.iload 7, 2) := by decide +kernel
theorem d_Mo_check_435 : decode b_Mo_check 435 = .ok (.ifCond .eq 7, 3) := by decide +kernel
theorem d_Mo_check_438 : decode b_Mo_check 438 = .ok (.iconst 3, 1) := by decide +kernel
theorem d_Mo_check_439 : decode b_Mo_check 439 = .ok (.goto 4, 3) := by decide +kernel
theorem d_Mo_check_442 : decode b_Mo_check 442 = .ok (.iconst (-1), 1) := by decide +kernel
theorem d_Mo_check_443 : decode b_Mo_check 443 = .ok (.ireturn, 1) := by decide +kernel
theorem d_Mo_check_444 : decode b_Mo_check 444 = .ok (.iload_n 2, 1) := by decide +kernel
theorem d_Mo_check_445 : decode b_Mo_check 445 = .ok (.bipush 41, 2) := by decide +kernel
theorem d_Mo_check_447 : decode b_Mo_check 447 = .ok (.if_icmp .eq 9, 3) := by decide +kernel
theorem d_Mo_check_450 : decode b_Mo_check 450 = .ok (.iload_n 2, 1) := by decide +kernel
theorem d_Mo_check_451 : decode b_Mo_check 451 = .ok (.bipush 42, 2) := by decide +kernel
theorem d_Mo_check_453 : decode b_Mo_check 453 = .ok (.if_icmp .ne 30, 3) := by decide +kernel
theorem d_Mo_check_456 : decode b_Mo_check 456 = .ok (.iload 6, 2) := by decide +kernel
theorem d_Mo_check_458 : decode b_Mo_check 458 = .ok (.ifCond .ne 19, 3) := by decide +kernel
theorem d_Mo_check_461 : decode b_Mo_check 461 = .ok (.iload 7, 2) := by decide +kernel
theorem d_Mo_check_463 : decode b_Mo_check 463 = .ok (.ifCond .ne 14, 3) := by decide +kernel
theorem d_Mo_check_466 : decode b_Mo_check 466 = .ok (.aload_n 0, 1) := by decide +kernel
theorem d_Mo_check_467 : decode b_Mo_check 467 = .ok (.iload 4, 2) := by decide +kernel
theorem d_Mo_check_469 : decode b_Mo_check 469 = .ok (.iload 5, 2) := by decide +kernel
theorem d_Mo_check_471 : decode b_Mo_check 471 = .ok (.invokevirtual 267, 3) := by decide +kernel
theorem d_Mo_check_474 : decode b_Mo_check 474 = .ok (.ifCond .eq 7, 3) := by decide +kernel
theorem d_Mo_check_477 : decode b_Mo_check 477 = .ok (.iconst 3, 1) := by decide +kernel
theorem d_Mo_check_478 : decode b_Mo_check 478 = .ok (.goto 4, 3) := by decide +kernel
theorem d_Mo_check_481 : decode b_Mo_check 481 = .ok (.iconst (-1), 1) := by decide +kernel
theorem d_Mo_check_482 : decode b_Mo_check 482 = .ok (.ireturn, 1) := by decide +kernel
theorem d_Mo_check_483 : decode b_Mo_check 483 = .ok (.iload 7, 2) := by decide +kernel
theorem d_Mo_check_485 : decode b_Mo_check 485 = .ok (.ifCond .eq 23, 3) := by decide +kernel
theorem d_Mo_check_488 : decode b_Mo_check 488 = .ok (.iload_n 2, 1) := by decide +kernel
theorem d_Mo_check_489 : decode b_Mo_check 489 = .ok (.bipush 43, 2) := by decide +kernel
theorem d_Mo_check_491 : decode b_Mo_check 491 = .ok (.if_icmp .eq 15, 3) := by decide +kernel
theorem d_Mo_check_494 : decode b_Mo_check 494 = .ok (.iload_n 2, 1) := by decide +kernel
theorem d_Mo_check_495 : decode b_Mo_check 495 = .ok (.bipush 45, 2) := by decide +kernel
theorem d_Mo_check_497 : decode b_Mo_check 497 = .ok (.if_icmp .eq 9, 3) := by decide +kernel
theorem d_Mo_check_500 : decode b_Mo_check 500 = .ok (.iload_n 2, 1) := by decide +kernel
theorem d_Mo_check_501 : decode b_Mo_check 501 = .ok (.bipush 47, 2) := by decide +kernel
theorem d_Mo_check_503 : decode b_Mo_check 503 = .ok (.if_icmp .ne 5, 3) := by decide +kernel
theorem d_Mo_check_506 : decode b_Mo_check 506 = .ok (.iconst 3, 1) := by decide +kernel
theorem d_Mo_check_507 : decode b_Mo_check 507 = .ok (.ireturn, 1) := by decide +kernel
theorem d_Mo_check_508 : decode b_Mo_check 508 = .ok (.iload 6, 2) := by decide +kernel
theorem d_Mo_check_510 : decode b_Mo_check 510 = .ok (.ifCond .ne 7, 3) := by decide +kernel
theorem d_Mo_check_513 : decode b_Mo_check 513 = .ok (.iconst (-1), 1) := by decide +kernel
theorem d_Mo_check_514 : decode b_Mo_check 514 = .ok (.goto 47, 3) := by decide +kernel
theorem d_Mo_check_517 : decode b_Mo_check 517 = .ok (.iload_n 2, 1) := by decide +kernel
theorem d_Mo_check_518 : decode b_Mo_check 518 = .ok (.bipush 34, 2) := by decide +kernel
theorem d_Mo_check_520 : decode b_Mo_check 520 = .ok (.if_icmp .lt 13, 3) := by decide +kernel
theorem d_Mo_check_523 : decode b_Mo_check 523 = .ok (.iload_n 2, 1) := by decide +kernel
theorem d_Mo_check_524 : decode b_Mo_check 524 = .ok (.bipush 37, 2) := by decide +kernel
theorem d_Mo_check_526 : decode b_Mo_check 526 = .ok (.if_icmp .gt 7, 3) := by decide +kernel
theorem d_Mo_check_529 : decode b_Mo_check 529 = .ok (.iconst 3, 1) := by decide +kernel
theorem d_Mo_check_530 : decode b_Mo_check 530 = .ok (.goto 31, 3) := by decide +kernel
theorem d_Mo_check_533 : decode b_Mo_check 533 = .ok (.iload_n 2, 1) := by decide +kernel
theorem d_Mo_check_534 : decode b_Mo_check 534 = .ok (.bipush 38, 2) := by decide +kernel
theorem d_Mo_check_536 : decode b_Mo_check 536 = .ok (.if_icmp .lt 18, 3) := by decide +kernel
theorem d_Mo_check_539 : decode b_Mo_check 539 = .ok (.iload_n 2, 1) := by decide +kernel
theorem d_Mo_check_540 : decode b_Mo_check 540 = .ok (.bipush 40, 2) := by decide +kernel
theorem d_Mo_check_542 : decode b_Mo_check 542 = .ok (.if_icmp .gt 12, 3) := by decide +kernel
theorem d_Mo_check_545 : decode b_Mo_check 545 = .ok (.iload 4, 2) := by decide +kernel
theorem d_Mo_check_547 : decode b_Mo_check 547 = .ok (.iconst 0, 1) := by decide +kernel
theorem d_Mo_check_548 : decode b_Mo_check 548 = .ok (.invokestatic 264, 3) := by decide +kernel
theorem d_Mo_check_551 : decode b_Mo_check 551 = .ok (.goto 10, 3) := by decide +kernel
theorem d_Mo_check_554 : decode b_Mo_check 554 = .ok (.iload 4, 2) := by decide +kernel
theorem d_Mo_check_556 : decode b_Mo_check 556 = .ok (.iload 5, 2) := by decide +kernel
theorem d_Mo_check_558 : decode b_Mo_check 558 = .ok (.invokestatic 264, 3) := by decide +kernel
theorem d_Mo_check_561 : decode b_Mo_check 561 = .ok (.ireturn, 1) := by decide +kernel
set_option maxHeartbeats 4000000 in
theorem g_Mo_check {X : WX} {d : Nat} (hd : 4 ≤ d) (n : Int) (M : Mem) (hP : okP M) (hc : 0 ≤ M 55 0 ∧ M 55 0 ≤ 6) (hn : 0 ≤ n ∧ n < 32) (ho : 1 ≤ M 76 n ∧ M 76 n ≤ 133)
  (hv7 : M 76 n = 7 ∨ M 76 n = 60 → 0 ≤ w32 (M 80 n) ∧ w32 (M 80 n) < 26)
  (hq1 : 8 ≤ M 76 n → (0 ≤ M 77 n ∧ M 77 n < 32) ∧ 0 ≤ M 81 (M 77 n) ∧ M 81 (M 77 n) < 18)
  (hq2 : 8 ≤ M 76 n ∧ M 76 n ≤ 100 ∧ ¬ M 76 n = 60 ∧ ¬ M 76 n = 61 ∧ ¬ M 76 n = 63 ∧ ¬ M 76 n = 64 → (0 ≤ M 78 n ∧ M 78 n < 32) ∧ 0 ≤ M 81 (M 78 n) ∧ M 81 (M 78 n) < 18)
  (hq3 : M 76 n = 65 → (0 ≤ M 79 n ∧ M 79 n < 32) ∧ 0 ≤ M 81 (M 79 n) ∧ M 81 (M 79 n) < 18) : MG X gt d KE KE y_Mo_check b_Mo_check 8 (some .int) [vr 55, vi n] M (fun r M' => r = some (vi (checkM M n)) ∧ M' = M) := by
  refine MG_of_G (by decide) (Nat.le_of_ble_eq_true rfl) (Nat.le_refl _) (by decide) ?_
  show G X gt d KE KE y_Mo_check b_Mo_check 8 (some .int) _ 0 [(0, vr 55), (1, vi n)] [] KE M
  refine G_rngl (i := 1) rfl (fun hr1 => ?_)
  refine G_aload (i := 0) (n := 0) (len := 1) (Or.inl ⟨0, rfl, rfl, d_Mo_check_0⟩) rfl (by decide) (G_pc (pc' := 1) rfl ?_)
  refine G_get (o := 55) (c := 9) (k := 29) (v := 76) d_Mo_check_1 fl_Mo_72 rfl (by decide) (by decide) rfl rfl (G_pc (pc' := 4) rfl ?_)
  refine G_iload (i := 1) (n := 1) (len := 1) (Or.inl ⟨1, rfl, rfl, d_Mo_check_4⟩) rfl (G_pc (pc' := 5) rfl ?_)
  refine G_iaload (o := 76) (n := 32) (i := n) (v := M 76 n) d_Mo_check_5 rfl ⟨by decide, by decide⟩ (by omega) (rd_arr rfl) (fun t1 => G_pc (pc' := 6) rfl ?_)
  have t1 := tok_i t1
  refine G_istore (i := 2) (len := 1) (ls' := [(2, vi (M 76 n)), (0, vr 55), (1, vi n)]) (Or.inl ⟨2, rfl, rfl, d_Mo_check_6⟩) (by decide) rfl (G_pc (pc' := 7) rfl ?_)
  refine G_aload (i := 0) (n := 1) (len := 1) (Or.inl ⟨0, rfl, rfl, d_Mo_check_7⟩) rfl (by decide) (G_pc (pc' := 8) rfl ?_)
  refine G_get (o := 55) (c := 9) (k := 33) (v := 80) d_Mo_check_8 fl_Mo_84 rfl (by decide) (by decide) rfl rfl (G_pc (pc' := 11) rfl ?_)
  refine G_iload (i := 1) (n := 2) (len := 1) (Or.inl ⟨1, rfl, rfl, d_Mo_check_11⟩) rfl (G_pc (pc' := 12) rfl ?_)
  refine G_laload (o := 80) (n := 32) (i := n) (v := M 80 n) d_Mo_check_12 rfl ⟨by decide, by decide⟩ (by omega) (rd_arr rfl) (fun t2 => G_pc (pc' := 13) rfl ?_)
  have t2 := tok_l t2
  refine G_l2i d_Mo_check_13 (G_pc (pc' := 14) rfl ?_)
  refine G_istore (i := 3) (len := 1) (ls' := [(3, vi (w32 (M 80 n))), (2, vi (M 76 n)), (0, vr 55), (1, vi n)]) (Or.inl ⟨3, rfl, rfl, d_Mo_check_14⟩) (by decide) rfl (G_pc (pc' := 15) rfl ?_)
  refine G_iload (i := 2) (n := 1) (len := 1) (Or.inl ⟨2, rfl, rfl, d_Mo_check_15⟩) rfl (G_pc (pc' := 16) rfl ?_)
  refine G_iconst (n := 1) d_Mo_check_16 (by decide) (G_pc (pc' := 17) rfl ?_)
  refine G_icmp_eq (tgt := 30) d_Mo_check_17 (by decide) (fun h3 => ?_) (fun h3 => G_pc (pc' := 20) rfl ?_)
  · skip
    refine G_iload (i := 2) (n := 1) (len := 1) (Or.inl ⟨2, rfl, rfl, d_Mo_check_30⟩) rfl (G_pc (pc' := 31) rfl ?_)
    refine G_iconst (n := 1) d_Mo_check_31 (by decide) (G_pc (pc' := 32) rfl ?_)
    refine G_isub d_Mo_check_32 (by omega) (G_pc (pc' := 33) rfl ?_)
    refine G_iret d_Mo_check_33 rfl (tokI (by omega)) rfl rfl ?_
    exact ret_e (by unfold checkM kchk; first | grind | grind [isKindB]) rfl
  · skip
    refine G_iload (i := 2) (n := 1) (len := 1) (Or.inl ⟨2, rfl, rfl, d_Mo_check_20⟩) rfl (G_pc (pc' := 21) rfl ?_)
    refine G_iconst (n := 2) d_Mo_check_21 (by decide) (G_pc (pc' := 22) rfl ?_)
    refine G_icmp_eq (tgt := 30) d_Mo_check_22 (by decide) (fun h4 => ?_) (fun h4 => G_pc (pc' := 25) rfl ?_)
    · skip
      refine G_iload (i := 2) (n := 1) (len := 1) (Or.inl ⟨2, rfl, rfl, d_Mo_check_30⟩) rfl (G_pc (pc' := 31) rfl ?_)
      refine G_iconst (n := 1) d_Mo_check_31 (by decide) (G_pc (pc' := 32) rfl ?_)
      refine G_isub d_Mo_check_32 (by omega) (G_pc (pc' := 33) rfl ?_)
      refine G_iret d_Mo_check_33 rfl (tokI (by omega)) rfl rfl ?_
      exact ret_e (by unfold checkM kchk; first | grind | grind [isKindB]) rfl
    · skip
      refine G_iload (i := 2) (n := 1) (len := 1) (Or.inl ⟨2, rfl, rfl, d_Mo_check_25⟩) rfl (G_pc (pc' := 26) rfl ?_)
      refine G_iconst (n := 3) d_Mo_check_26 (by decide) (G_pc (pc' := 27) rfl ?_)
      refine G_icmp_ne (tgt := 34) d_Mo_check_27 (by decide) (fun h5 => ?_) (fun h5 => G_pc (pc' := 30) rfl ?_)
      · skip
        refine G_iload (i := 2) (n := 1) (len := 1) (Or.inl ⟨2, rfl, rfl, d_Mo_check_34⟩) rfl (G_pc (pc' := 35) rfl ?_)
        refine G_bipush (n := 8) d_Mo_check_35 (by decide) (G_pc (pc' := 37) rfl ?_)
        refine G_icmp_ge (tgt := 82) d_Mo_check_37 (by decide) (fun h6 => ?_) (fun h6 => G_pc (pc' := 40) rfl ?_)
        · skip
          have h1x := hq1 (by omega)
          refine G_aload (i := 0) (n := 2) (len := 1) (Or.inl ⟨0, rfl, rfl, d_Mo_check_82⟩) rfl (by decide) (G_pc (pc' := 83) rfl ?_)
          refine G_get (o := 55) (c := 9) (k := 34) (v := 81) d_Mo_check_83 fl_Mo_87 rfl (by decide) (by decide) rfl rfl (G_pc (pc' := 86) rfl ?_)
          refine G_aload (i := 0) (n := 2) (len := 1) (Or.inl ⟨0, rfl, rfl, d_Mo_check_86⟩) rfl (by decide) (G_pc (pc' := 87) rfl ?_)
          refine G_get (o := 55) (c := 9) (k := 30) (v := 77) d_Mo_check_87 fl_Mo_75 rfl (by decide) (by decide) rfl rfl (G_pc (pc' := 90) rfl ?_)
          refine G_iload (i := 1) (n := 3) (len := 1) (Or.inl ⟨1, rfl, rfl, d_Mo_check_90⟩) rfl (G_pc (pc' := 91) rfl ?_)
          refine G_iaload (o := 77) (n := 32) (i := n) (v := M 77 n) d_Mo_check_91 rfl ⟨by decide, by decide⟩ (by omega) (rd_arr rfl) (fun t7 => G_pc (pc' := 92) rfl ?_)
          have t7 := tok_i t7
          refine G_iaload (o := 81) (n := 32) (i := M 77 n) (v := M 81 (M 77 n)) d_Mo_check_92 rfl ⟨by decide, by decide⟩ (by omega) (rd_arr rfl) (fun t8 => G_pc (pc' := 93) rfl ?_)
          have t8 := tok_i t8
          refine G_istore (i := 4) (len := 2) (ls' := [(4, vi (M 81 (M 77 n))), (3, vi (w32 (M 80 n))), (2, vi (M 76 n)), (0, vr 55), (1, vi n)]) (Or.inr ⟨rfl, d_Mo_check_93⟩) (by decide) rfl (G_pc (pc' := 95) rfl ?_)
          refine G_iload (i := 2) (n := 2) (len := 1) (Or.inl ⟨2, rfl, rfl, d_Mo_check_95⟩) rfl (G_pc (pc' := 96) rfl ?_)
          refine G_bipush (n := 100) d_Mo_check_96 (by decide) (G_pc (pc' := 98) rfl ?_)
          refine G_icmp_le (tgt := 141) d_Mo_check_98 (by decide) (fun h9 => ?_) (fun h9 => G_pc (pc' := 101) rfl ?_)
          · skip
            refine G_iload (i := 2) (n := 2) (len := 1) (Or.inl ⟨2, rfl, rfl, d_Mo_check_141⟩) rfl (G_pc (pc' := 142) rfl ?_)
            refine G_bipush (n := 60) d_Mo_check_142 (by decide) (G_pc (pc' := 144) rfl ?_)
            refine G_icmp_ne (tgt := 174) d_Mo_check_144 (by decide) (fun h10 => ?_) (fun h10 => G_pc (pc' := 147) rfl ?_)
            · skip
              refine G_iload (i := 2) (n := 2) (len := 1) (Or.inl ⟨2, rfl, rfl, d_Mo_check_174⟩) rfl (G_pc (pc' := 175) rfl ?_)
              refine G_bipush (n := 61) d_Mo_check_175 (by decide) (G_pc (pc' := 177) rfl ?_)
              refine G_icmp_ne (tgt := 200) d_Mo_check_177 (by decide) (fun h11 => ?_) (fun h11 => G_pc (pc' := 180) rfl ?_)
              · skip
                refine G_iload (i := 2) (n := 2) (len := 1) (Or.inl ⟨2, rfl, rfl, d_Mo_check_200⟩) rfl (G_pc (pc' := 201) rfl ?_)
                refine G_bipush (n := 63) d_Mo_check_201 (by decide) (G_pc (pc' := 203) rfl ?_)
                refine G_icmp_ne (tgt := 235) d_Mo_check_203 (by decide) (fun h12 => ?_) (fun h12 => G_pc (pc' := 206) rfl ?_)
                · skip
                  refine G_iload (i := 2) (n := 2) (len := 1) (Or.inl ⟨2, rfl, rfl, d_Mo_check_235⟩) rfl (G_pc (pc' := 236) rfl ?_)
                  refine G_bipush (n := 64) d_Mo_check_236 (by decide) (G_pc (pc' := 238) rfl ?_)
                  refine G_icmp_ne (tgt := 291) d_Mo_check_238 (by decide) (fun h13 => ?_) (fun h13 => G_pc (pc' := 241) rfl ?_)
                  · skip
                    have h2x := hq2 (by omega)
                    refine G_aload (i := 0) (n := 3) (len := 1) (Or.inl ⟨0, rfl, rfl, d_Mo_check_291⟩) rfl (by decide) (G_pc (pc' := 292) rfl ?_)
                    refine G_get (o := 55) (c := 9) (k := 34) (v := 81) d_Mo_check_292 fl_Mo_87 rfl (by decide) (by decide) rfl rfl (G_pc (pc' := 295) rfl ?_)
                    refine G_aload (i := 0) (n := 3) (len := 1) (Or.inl ⟨0, rfl, rfl, d_Mo_check_295⟩) rfl (by decide) (G_pc (pc' := 296) rfl ?_)
                    refine G_get (o := 55) (c := 9) (k := 31) (v := 78) d_Mo_check_296 fl_Mo_78 rfl (by decide) (by decide) rfl rfl (G_pc (pc' := 299) rfl ?_)
                    refine G_iload (i := 1) (n := 4) (len := 1) (Or.inl ⟨1, rfl, rfl, d_Mo_check_299⟩) rfl (G_pc (pc' := 300) rfl ?_)
                    refine G_iaload (o := 78) (n := 32) (i := n) (v := M 78 n) d_Mo_check_300 rfl ⟨by decide, by decide⟩ (by omega) (rd_arr rfl) (fun t14 => G_pc (pc' := 301) rfl ?_)
                    have t14 := tok_i t14
                    refine G_iaload (o := 81) (n := 32) (i := M 78 n) (v := M 81 (M 78 n)) d_Mo_check_301 rfl ⟨by decide, by decide⟩ (by omega) (rd_arr rfl) (fun t15 => G_pc (pc' := 302) rfl ?_)
                    have t15 := tok_i t15
                    refine G_istore (i := 5) (len := 2) (ls' := [(5, vi (M 81 (M 78 n))), (4, vi (M 81 (M 77 n))), (3, vi (w32 (M 80 n))), (2, vi (M 76 n)), (0, vr 55), (1, vi n)]) (Or.inr ⟨rfl, d_Mo_check_302⟩) (by decide) rfl (G_pc (pc' := 304) rfl ?_)
                    refine G_iload (i := 2) (n := 3) (len := 1) (Or.inl ⟨2, rfl, rfl, d_Mo_check_304⟩) rfl (G_pc (pc' := 305) rfl ?_)
                    refine G_bipush (n := 62) d_Mo_check_305 (by decide) (G_pc (pc' := 307) rfl ?_)
                    refine G_icmp_ne (tgt := 345) d_Mo_check_307 (by decide) (fun h16 => ?_) (fun h16 => G_pc (pc' := 310) rfl ?_)
                    · skip
                      refine G_iload (i := 2) (n := 3) (len := 1) (Or.inl ⟨2, rfl, rfl, d_Mo_check_345⟩) rfl (G_pc (pc' := 346) rfl ?_)
                      refine G_bipush (n := 65) d_Mo_check_346 (by decide) (G_pc (pc' := 348) rfl ?_)
                      refine G_icmp_ne (tgt := 379) d_Mo_check_348 (by decide) (fun h17 => ?_) (fun h17 => G_pc (pc' := 351) rfl ?_)
                      · skip
                        refine G_iload (i := 4) (n := 1) (len := 2) (Or.inr ⟨rfl, d_Mo_check_379⟩) rfl (G_pc (pc' := 381) rfl ?_)
                        refine G_callS (K1 := KE) (d2 := 0) (as := [vi (M 81 (M 77 n))]) (rest := []) d_Mo_check_381 mf_Mo_numeric ml_Mo_261 rfl rfl (Nat.le_of_ble_eq_true rfl) (by omega) ⟨Nat.le_refl _, Nat.le_refl _⟩ (g_Mo_numeric (by omega) (M 81 (M 77 n)) _) (fun r18 M19 kq20 q20 => ?_)
                        clear kq20; obtain ⟨q20a, q20b⟩ := q20; subst r18; subst M19
                        refine G_ps (pc' := 384) (st' := [vi (b2i (numB (M 81 (M 77 n))))]) rfl rfl ?_
                        refine G_if_eq (tgt := 399) d_Mo_check_384 (by decide) (fun h21 => ?_) (fun h21 => G_pc (pc' := 387) rfl ?_)
                        · skip
                          replace h21 := b2i_0.mp h21
                          replace h21 := numB_f.mp h21
                          refine G_iconst (n := 0) d_Mo_check_399 (by decide) (G_pc (pc' := 400) rfl ?_)
                          refine G_istore (i := 6) (len := 2) (ls' := [(6, vi 0), (5, vi (M 81 (M 78 n))), (4, vi (M 81 (M 77 n))), (3, vi (w32 (M 80 n))), (2, vi (M 76 n)), (0, vr 55), (1, vi n)]) (Or.inr ⟨rfl, d_Mo_check_400⟩) (by decide) rfl (G_pc (pc' := 402) rfl ?_)
                          refine G_iload (i := 4) (n := 2) (len := 2) (Or.inr ⟨rfl, d_Mo_check_402⟩) rfl (G_pc (pc' := 404) rfl ?_)
                          refine G_iconst (n := 3) d_Mo_check_404 (by decide) (G_pc (pc' := 405) rfl ?_)
                          refine G_icmp_ne (tgt := 418) d_Mo_check_405 (by decide) (fun h22 => ?_) (fun h22 => G_pc (pc' := 408) rfl ?_)
                          · skip
                            refine G_iconst (n := 0) d_Mo_check_418 (by decide) (G_pc (pc' := 419) rfl ?_)
                            refine G_istore (i := 7) (len := 2) (ls' := [(7, vi 0), (6, vi 0), (5, vi (M 81 (M 78 n))), (4, vi (M 81 (M 77 n))), (3, vi (w32 (M 80 n))), (2, vi (M 76 n)), (0, vr 55), (1, vi n)]) (Or.inr ⟨rfl, d_Mo_check_419⟩) (by decide) rfl (G_pc (pc' := 421) rfl ?_)
                            refine G_iload (i := 2) (n := 5) (len := 1) (Or.inl ⟨2, rfl, rfl, d_Mo_check_421⟩) rfl (G_pc (pc' := 422) rfl ?_)
                            refine G_bipush (n := 44) d_Mo_check_422 (by decide) (G_pc (pc' := 424) rfl ?_)
                            refine G_icmp_eq (tgt := 433) d_Mo_check_424 (by decide) (fun h23 => ?_) (fun h23 => G_pc (pc' := 427) rfl ?_)
                            · skip
                              refine G_iload (i := 7) (n := 0) (len := 2) (Or.inr ⟨rfl, d_Mo_check_433⟩) rfl (G_pc (pc' := 435) rfl ?_)
                              refine G_if_eq (tgt := 442) d_Mo_check_435 (by decide) (fun h24 => ?_) (fun h24 => absurd h24 (by decide))
                              refine G_iconst (n := (-1)) d_Mo_check_442 (by decide) (G_pc (pc' := 443) rfl ?_)
                              refine G_iret d_Mo_check_443 rfl (tokI (by decide)) rfl rfl ?_
                              exact ret_e (by unfold checkM kchk; first | grind | grind [isKindB]) rfl
                            · skip
                              refine G_iload (i := 2) (n := 5) (len := 1) (Or.inl ⟨2, rfl, rfl, d_Mo_check_427⟩) rfl (G_pc (pc' := 428) rfl ?_)
                              refine G_bipush (n := 46) d_Mo_check_428 (by decide) (G_pc (pc' := 430) rfl ?_)
                              refine G_icmp_ne (tgt := 444) d_Mo_check_430 (by decide) (fun h25 => ?_) (fun h25 => G_pc (pc' := 433) rfl ?_)
                              · skip
                                refine G_iload (i := 2) (n := 5) (len := 1) (Or.inl ⟨2, rfl, rfl, d_Mo_check_444⟩) rfl (G_pc (pc' := 445) rfl ?_)
                                refine G_bipush (n := 41) d_Mo_check_445 (by decide) (G_pc (pc' := 447) rfl ?_)
                                refine G_icmp_eq (tgt := 456) d_Mo_check_447 (by decide) (fun h26 => ?_) (fun h26 => G_pc (pc' := 450) rfl ?_)
                                · skip
                                  refine G_iload (i := 6) (n := 1) (len := 2) (Or.inr ⟨rfl, d_Mo_check_456⟩) rfl (G_pc (pc' := 458) rfl ?_)
                                  refine G_if_ne (tgt := 477) d_Mo_check_458 (by decide) (fun h27 => absurd h27 (by decide)) (fun h27 => G_pc (pc' := 461) rfl ?_)
                                  refine G_iload (i := 7) (n := 0) (len := 2) (Or.inr ⟨rfl, d_Mo_check_461⟩) rfl (G_pc (pc' := 463) rfl ?_)
                                  refine G_if_ne (tgt := 477) d_Mo_check_463 (by decide) (fun h28 => absurd h28 (by decide)) (fun h28 => G_pc (pc' := 466) rfl ?_)
                                  refine G_aload (i := 0) (n := 6) (len := 1) (Or.inl ⟨0, rfl, rfl, d_Mo_check_466⟩) rfl (by decide) (G_pc (pc' := 467) rfl ?_)
                                  refine G_iload (i := 4) (n := 3) (len := 2) (Or.inr ⟨rfl, d_Mo_check_467⟩) rfl (G_pc (pc' := 469) rfl ?_)
                                  refine G_iload (i := 5) (n := 2) (len := 2) (Or.inr ⟨rfl, d_Mo_check_469⟩) rfl (G_pc (pc' := 471) rfl ?_)
                                  refine G_callV (K1 := KE) (d2 := 2) (o := 55) (cl := 9) (as := [vi (M 81 (M 77 n)), vi (M 81 (M 78 n))]) (rest := []) d_Mo_check_471 mf_Mo_related ml_Mo_267 rfl rfl (by decide) rfl rfl (Nat.le_of_ble_eq_true rfl) (by omega) ⟨Nat.le_refl _, Nat.le_refl _⟩ (g_Mo_related (by omega) (M 81 (M 77 n)) (M 81 (M 78 n)) _ hP (by omega) (by omega)) (fun r29 M30 kq31 q31 => ?_)
                                  clear kq31; obtain ⟨q31a, q31b⟩ := q31; subst r29; subst M30
                                  refine G_ps (pc' := 474) (st' := [vi (b2i (relB M (M 81 (M 77 n)) (M 81 (M 78 n))))]) rfl rfl ?_
                                  refine G_if_eq (tgt := 481) d_Mo_check_474 (by decide) (fun h32 => ?_) (fun h32 => G_pc (pc' := 477) rfl ?_)
                                  · skip
                                    replace h32 := b2i_0.mp h32
                                    refine G_iconst (n := (-1)) d_Mo_check_481 (by decide) (G_pc (pc' := 482) rfl ?_)
                                    refine G_iret d_Mo_check_482 rfl (tokI (by decide)) rfl rfl ?_
                                    exact ret_e (by unfold checkM kchk; first | grind | grind [isKindB]) rfl
                                  · skip
                                    replace h32 := b2i_nz.mp h32
                                    refine G_iconst (n := 3) d_Mo_check_477 (by decide) (G_pc (pc' := 478) rfl ?_)
                                    refine G_goto (tgt := 482) d_Mo_check_478 (by decide) ?_
                                    refine G_iret d_Mo_check_482 rfl (tokI (by decide)) rfl rfl ?_
                                    exact ret_e (by unfold checkM kchk; first | grind | grind [isKindB]) rfl
                                · skip
                                  refine G_iload (i := 2) (n := 5) (len := 1) (Or.inl ⟨2, rfl, rfl, d_Mo_check_450⟩) rfl (G_pc (pc' := 451) rfl ?_)
                                  refine G_bipush (n := 42) d_Mo_check_451 (by decide) (G_pc (pc' := 453) rfl ?_)
                                  refine G_icmp_ne (tgt := 483) d_Mo_check_453 (by decide) (fun h33 => ?_) (fun h33 => G_pc (pc' := 456) rfl ?_)
                                  · skip
                                    refine G_iload (i := 7) (n := 0) (len := 2) (Or.inr ⟨rfl, d_Mo_check_483⟩) rfl (G_pc (pc' := 485) rfl ?_)
                                    refine G_if_eq (tgt := 508) d_Mo_check_485 (by decide) (fun h34 => ?_) (fun h34 => absurd h34 (by decide))
                                    refine G_iload (i := 6) (n := 1) (len := 2) (Or.inr ⟨rfl, d_Mo_check_508⟩) rfl (G_pc (pc' := 510) rfl ?_)
                                    refine G_if_ne (tgt := 517) d_Mo_check_510 (by decide) (fun h35 => absurd h35 (by decide)) (fun h35 => G_pc (pc' := 513) rfl ?_)
                                    refine G_iconst (n := (-1)) d_Mo_check_513 (by decide) (G_pc (pc' := 514) rfl ?_)
                                    refine G_goto (tgt := 561) d_Mo_check_514 (by decide) ?_
                                    refine G_iret d_Mo_check_561 rfl (tokI (by decide)) rfl rfl ?_
                                    exact ret_e (by unfold checkM kchk; first | grind | grind [isKindB]) rfl
                                  · skip
                                    refine G_iload (i := 6) (n := 1) (len := 2) (Or.inr ⟨rfl, d_Mo_check_456⟩) rfl (G_pc (pc' := 458) rfl ?_)
                                    refine G_if_ne (tgt := 477) d_Mo_check_458 (by decide) (fun h36 => absurd h36 (by decide)) (fun h36 => G_pc (pc' := 461) rfl ?_)
                                    refine G_iload (i := 7) (n := 0) (len := 2) (Or.inr ⟨rfl, d_Mo_check_461⟩) rfl (G_pc (pc' := 463) rfl ?_)
                                    refine G_if_ne (tgt := 477) d_Mo_check_463 (by decide) (fun h37 => absurd h37 (by decide)) (fun h37 => G_pc (pc' := 466) rfl ?_)
                                    refine G_aload (i := 0) (n := 6) (len := 1) (Or.inl ⟨0, rfl, rfl, d_Mo_check_466⟩) rfl (by decide) (G_pc (pc' := 467) rfl ?_)
                                    refine G_iload (i := 4) (n := 3) (len := 2) (Or.inr ⟨rfl, d_Mo_check_467⟩) rfl (G_pc (pc' := 469) rfl ?_)
                                    refine G_iload (i := 5) (n := 2) (len := 2) (Or.inr ⟨rfl, d_Mo_check_469⟩) rfl (G_pc (pc' := 471) rfl ?_)
                                    refine G_callV (K1 := KE) (d2 := 2) (o := 55) (cl := 9) (as := [vi (M 81 (M 77 n)), vi (M 81 (M 78 n))]) (rest := []) d_Mo_check_471 mf_Mo_related ml_Mo_267 rfl rfl (by decide) rfl rfl (Nat.le_of_ble_eq_true rfl) (by omega) ⟨Nat.le_refl _, Nat.le_refl _⟩ (g_Mo_related (by omega) (M 81 (M 77 n)) (M 81 (M 78 n)) _ hP (by omega) (by omega)) (fun r38 M39 kq40 q40 => ?_)
                                    clear kq40; obtain ⟨q40a, q40b⟩ := q40; subst r38; subst M39
                                    refine G_ps (pc' := 474) (st' := [vi (b2i (relB M (M 81 (M 77 n)) (M 81 (M 78 n))))]) rfl rfl ?_
                                    refine G_if_eq (tgt := 481) d_Mo_check_474 (by decide) (fun h41 => ?_) (fun h41 => G_pc (pc' := 477) rfl ?_)
                                    · skip
                                      replace h41 := b2i_0.mp h41
                                      refine G_iconst (n := (-1)) d_Mo_check_481 (by decide) (G_pc (pc' := 482) rfl ?_)
                                      refine G_iret d_Mo_check_482 rfl (tokI (by decide)) rfl rfl ?_
                                      exact ret_e (by unfold checkM kchk; first | grind | grind [isKindB]) rfl
                                    · skip
                                      replace h41 := b2i_nz.mp h41
                                      refine G_iconst (n := 3) d_Mo_check_477 (by decide) (G_pc (pc' := 478) rfl ?_)
                                      refine G_goto (tgt := 482) d_Mo_check_478 (by decide) ?_
                                      refine G_iret d_Mo_check_482 rfl (tokI (by decide)) rfl rfl ?_
                                      exact ret_e (by unfold checkM kchk; first | grind | grind [isKindB]) rfl
                              · skip
                                refine G_iload (i := 7) (n := 0) (len := 2) (Or.inr ⟨rfl, d_Mo_check_433⟩) rfl (G_pc (pc' := 435) rfl ?_)
                                refine G_if_eq (tgt := 442) d_Mo_check_435 (by decide) (fun h42 => ?_) (fun h42 => absurd h42 (by decide))
                                refine G_iconst (n := (-1)) d_Mo_check_442 (by decide) (G_pc (pc' := 443) rfl ?_)
                                refine G_iret d_Mo_check_443 rfl (tokI (by decide)) rfl rfl ?_
                                exact ret_e (by unfold checkM kchk; first | grind | grind [isKindB]) rfl
                          · skip
                            refine G_iload (i := 5) (n := 1) (len := 2) (Or.inr ⟨rfl, d_Mo_check_408⟩) rfl (G_pc (pc' := 410) rfl ?_)
                            refine G_iconst (n := 3) d_Mo_check_410 (by decide) (G_pc (pc' := 411) rfl ?_)
                            refine G_icmp_ne (tgt := 418) d_Mo_check_411 (by decide) (fun h43 => ?_) (fun h43 => G_pc (pc' := 414) rfl ?_)
                            · skip
                              refine G_iconst (n := 0) d_Mo_check_418 (by decide) (G_pc (pc' := 419) rfl ?_)
                              refine G_istore (i := 7) (len := 2) (ls' := [(7, vi 0), (6, vi 0), (5, vi (M 81 (M 78 n))), (4, vi (M 81 (M 77 n))), (3, vi (w32 (M 80 n))), (2, vi (M 76 n)), (0, vr 55), (1, vi n)]) (Or.inr ⟨rfl, d_Mo_check_419⟩) (by decide) rfl (G_pc (pc' := 421) rfl ?_)
                              refine G_iload (i := 2) (n := 5) (len := 1) (Or.inl ⟨2, rfl, rfl, d_Mo_check_421⟩) rfl (G_pc (pc' := 422) rfl ?_)
                              refine G_bipush (n := 44) d_Mo_check_422 (by decide) (G_pc (pc' := 424) rfl ?_)
                              refine G_icmp_eq (tgt := 433) d_Mo_check_424 (by decide) (fun h44 => ?_) (fun h44 => G_pc (pc' := 427) rfl ?_)
                              · skip
                                refine G_iload (i := 7) (n := 0) (len := 2) (Or.inr ⟨rfl, d_Mo_check_433⟩) rfl (G_pc (pc' := 435) rfl ?_)
                                refine G_if_eq (tgt := 442) d_Mo_check_435 (by decide) (fun h45 => ?_) (fun h45 => absurd h45 (by decide))
                                refine G_iconst (n := (-1)) d_Mo_check_442 (by decide) (G_pc (pc' := 443) rfl ?_)
                                refine G_iret d_Mo_check_443 rfl (tokI (by decide)) rfl rfl ?_
                                exact ret_e (by unfold checkM kchk; first | grind | grind [isKindB]) rfl
                              · skip
                                refine G_iload (i := 2) (n := 5) (len := 1) (Or.inl ⟨2, rfl, rfl, d_Mo_check_427⟩) rfl (G_pc (pc' := 428) rfl ?_)
                                refine G_bipush (n := 46) d_Mo_check_428 (by decide) (G_pc (pc' := 430) rfl ?_)
                                refine G_icmp_ne (tgt := 444) d_Mo_check_430 (by decide) (fun h46 => ?_) (fun h46 => G_pc (pc' := 433) rfl ?_)
                                · skip
                                  refine G_iload (i := 2) (n := 5) (len := 1) (Or.inl ⟨2, rfl, rfl, d_Mo_check_444⟩) rfl (G_pc (pc' := 445) rfl ?_)
                                  refine G_bipush (n := 41) d_Mo_check_445 (by decide) (G_pc (pc' := 447) rfl ?_)
                                  refine G_icmp_eq (tgt := 456) d_Mo_check_447 (by decide) (fun h47 => ?_) (fun h47 => G_pc (pc' := 450) rfl ?_)
                                  · skip
                                    refine G_iload (i := 6) (n := 1) (len := 2) (Or.inr ⟨rfl, d_Mo_check_456⟩) rfl (G_pc (pc' := 458) rfl ?_)
                                    refine G_if_ne (tgt := 477) d_Mo_check_458 (by decide) (fun h48 => absurd h48 (by decide)) (fun h48 => G_pc (pc' := 461) rfl ?_)
                                    refine G_iload (i := 7) (n := 0) (len := 2) (Or.inr ⟨rfl, d_Mo_check_461⟩) rfl (G_pc (pc' := 463) rfl ?_)
                                    refine G_if_ne (tgt := 477) d_Mo_check_463 (by decide) (fun h49 => absurd h49 (by decide)) (fun h49 => G_pc (pc' := 466) rfl ?_)
                                    refine G_aload (i := 0) (n := 6) (len := 1) (Or.inl ⟨0, rfl, rfl, d_Mo_check_466⟩) rfl (by decide) (G_pc (pc' := 467) rfl ?_)
                                    refine G_iload (i := 4) (n := 3) (len := 2) (Or.inr ⟨rfl, d_Mo_check_467⟩) rfl (G_pc (pc' := 469) rfl ?_)
                                    refine G_iload (i := 5) (n := 2) (len := 2) (Or.inr ⟨rfl, d_Mo_check_469⟩) rfl (G_pc (pc' := 471) rfl ?_)
                                    refine G_callV (K1 := KE) (d2 := 2) (o := 55) (cl := 9) (as := [vi (M 81 (M 77 n)), vi (M 81 (M 78 n))]) (rest := []) d_Mo_check_471 mf_Mo_related ml_Mo_267 rfl rfl (by decide) rfl rfl (Nat.le_of_ble_eq_true rfl) (by omega) ⟨Nat.le_refl _, Nat.le_refl _⟩ (g_Mo_related (by omega) (M 81 (M 77 n)) (M 81 (M 78 n)) _ hP (by omega) (by omega)) (fun r50 M51 kq52 q52 => ?_)
                                    clear kq52; obtain ⟨q52a, q52b⟩ := q52; subst r50; subst M51
                                    refine G_ps (pc' := 474) (st' := [vi (b2i (relB M (M 81 (M 77 n)) (M 81 (M 78 n))))]) rfl rfl ?_
                                    refine G_if_eq (tgt := 481) d_Mo_check_474 (by decide) (fun h53 => ?_) (fun h53 => G_pc (pc' := 477) rfl ?_)
                                    · skip
                                      replace h53 := b2i_0.mp h53
                                      refine G_iconst (n := (-1)) d_Mo_check_481 (by decide) (G_pc (pc' := 482) rfl ?_)
                                      refine G_iret d_Mo_check_482 rfl (tokI (by decide)) rfl rfl ?_
                                      exact ret_e (by unfold checkM kchk; first | grind | grind [isKindB]) rfl
                                    · skip
                                      replace h53 := b2i_nz.mp h53
                                      refine G_iconst (n := 3) d_Mo_check_477 (by decide) (G_pc (pc' := 478) rfl ?_)
                                      refine G_goto (tgt := 482) d_Mo_check_478 (by decide) ?_
                                      refine G_iret d_Mo_check_482 rfl (tokI (by decide)) rfl rfl ?_
                                      exact ret_e (by unfold checkM kchk; first | grind | grind [isKindB]) rfl
                                  · skip
                                    refine G_iload (i := 2) (n := 5) (len := 1) (Or.inl ⟨2, rfl, rfl, d_Mo_check_450⟩) rfl (G_pc (pc' := 451) rfl ?_)
                                    refine G_bipush (n := 42) d_Mo_check_451 (by decide) (G_pc (pc' := 453) rfl ?_)
                                    refine G_icmp_ne (tgt := 483) d_Mo_check_453 (by decide) (fun h54 => ?_) (fun h54 => G_pc (pc' := 456) rfl ?_)
                                    · skip
                                      refine G_iload (i := 7) (n := 0) (len := 2) (Or.inr ⟨rfl, d_Mo_check_483⟩) rfl (G_pc (pc' := 485) rfl ?_)
                                      refine G_if_eq (tgt := 508) d_Mo_check_485 (by decide) (fun h55 => ?_) (fun h55 => absurd h55 (by decide))
                                      refine G_iload (i := 6) (n := 1) (len := 2) (Or.inr ⟨rfl, d_Mo_check_508⟩) rfl (G_pc (pc' := 510) rfl ?_)
                                      refine G_if_ne (tgt := 517) d_Mo_check_510 (by decide) (fun h56 => absurd h56 (by decide)) (fun h56 => G_pc (pc' := 513) rfl ?_)
                                      refine G_iconst (n := (-1)) d_Mo_check_513 (by decide) (G_pc (pc' := 514) rfl ?_)
                                      refine G_goto (tgt := 561) d_Mo_check_514 (by decide) ?_
                                      refine G_iret d_Mo_check_561 rfl (tokI (by decide)) rfl rfl ?_
                                      exact ret_e (by unfold checkM kchk; first | grind | grind [isKindB]) rfl
                                    · skip
                                      refine G_iload (i := 6) (n := 1) (len := 2) (Or.inr ⟨rfl, d_Mo_check_456⟩) rfl (G_pc (pc' := 458) rfl ?_)
                                      refine G_if_ne (tgt := 477) d_Mo_check_458 (by decide) (fun h57 => absurd h57 (by decide)) (fun h57 => G_pc (pc' := 461) rfl ?_)
                                      refine G_iload (i := 7) (n := 0) (len := 2) (Or.inr ⟨rfl, d_Mo_check_461⟩) rfl (G_pc (pc' := 463) rfl ?_)
                                      refine G_if_ne (tgt := 477) d_Mo_check_463 (by decide) (fun h58 => absurd h58 (by decide)) (fun h58 => G_pc (pc' := 466) rfl ?_)
                                      refine G_aload (i := 0) (n := 6) (len := 1) (Or.inl ⟨0, rfl, rfl, d_Mo_check_466⟩) rfl (by decide) (G_pc (pc' := 467) rfl ?_)
                                      refine G_iload (i := 4) (n := 3) (len := 2) (Or.inr ⟨rfl, d_Mo_check_467⟩) rfl (G_pc (pc' := 469) rfl ?_)
                                      refine G_iload (i := 5) (n := 2) (len := 2) (Or.inr ⟨rfl, d_Mo_check_469⟩) rfl (G_pc (pc' := 471) rfl ?_)
                                      refine G_callV (K1 := KE) (d2 := 2) (o := 55) (cl := 9) (as := [vi (M 81 (M 77 n)), vi (M 81 (M 78 n))]) (rest := []) d_Mo_check_471 mf_Mo_related ml_Mo_267 rfl rfl (by decide) rfl rfl (Nat.le_of_ble_eq_true rfl) (by omega) ⟨Nat.le_refl _, Nat.le_refl _⟩ (g_Mo_related (by omega) (M 81 (M 77 n)) (M 81 (M 78 n)) _ hP (by omega) (by omega)) (fun r59 M60 kq61 q61 => ?_)
                                      clear kq61; obtain ⟨q61a, q61b⟩ := q61; subst r59; subst M60
                                      refine G_ps (pc' := 474) (st' := [vi (b2i (relB M (M 81 (M 77 n)) (M 81 (M 78 n))))]) rfl rfl ?_
                                      refine G_if_eq (tgt := 481) d_Mo_check_474 (by decide) (fun h62 => ?_) (fun h62 => G_pc (pc' := 477) rfl ?_)
                                      · skip
                                        replace h62 := b2i_0.mp h62
                                        refine G_iconst (n := (-1)) d_Mo_check_481 (by decide) (G_pc (pc' := 482) rfl ?_)
                                        refine G_iret d_Mo_check_482 rfl (tokI (by decide)) rfl rfl ?_
                                        exact ret_e (by unfold checkM kchk; first | grind | grind [isKindB]) rfl
                                      · skip
                                        replace h62 := b2i_nz.mp h62
                                        refine G_iconst (n := 3) d_Mo_check_477 (by decide) (G_pc (pc' := 478) rfl ?_)
                                        refine G_goto (tgt := 482) d_Mo_check_478 (by decide) ?_
                                        refine G_iret d_Mo_check_482 rfl (tokI (by decide)) rfl rfl ?_
                                        exact ret_e (by unfold checkM kchk; first | grind | grind [isKindB]) rfl
                                · skip
                                  refine G_iload (i := 7) (n := 0) (len := 2) (Or.inr ⟨rfl, d_Mo_check_433⟩) rfl (G_pc (pc' := 435) rfl ?_)
                                  refine G_if_eq (tgt := 442) d_Mo_check_435 (by decide) (fun h63 => ?_) (fun h63 => absurd h63 (by decide))
                                  refine G_iconst (n := (-1)) d_Mo_check_442 (by decide) (G_pc (pc' := 443) rfl ?_)
                                  refine G_iret d_Mo_check_443 rfl (tokI (by decide)) rfl rfl ?_
                                  exact ret_e (by unfold checkM kchk; first | grind | grind [isKindB]) rfl
                            · skip
                              refine G_iconst (n := 1) d_Mo_check_414 (by decide) (G_pc (pc' := 415) rfl ?_)
                              refine G_goto (tgt := 419) d_Mo_check_415 (by decide) ?_
                              refine G_istore (i := 7) (len := 2) (ls' := [(7, vi 1), (6, vi 0), (5, vi (M 81 (M 78 n))), (4, vi (M 81 (M 77 n))), (3, vi (w32 (M 80 n))), (2, vi (M 76 n)), (0, vr 55), (1, vi n)]) (Or.inr ⟨rfl, d_Mo_check_419⟩) (by decide) rfl (G_pc (pc' := 421) rfl ?_)
                              refine G_iload (i := 2) (n := 5) (len := 1) (Or.inl ⟨2, rfl, rfl, d_Mo_check_421⟩) rfl (G_pc (pc' := 422) rfl ?_)
                              refine G_bipush (n := 44) d_Mo_check_422 (by decide) (G_pc (pc' := 424) rfl ?_)
                              refine G_icmp_eq (tgt := 433) d_Mo_check_424 (by decide) (fun h64 => ?_) (fun h64 => G_pc (pc' := 427) rfl ?_)
                              · skip
                                refine G_iload (i := 7) (n := 0) (len := 2) (Or.inr ⟨rfl, d_Mo_check_433⟩) rfl (G_pc (pc' := 435) rfl ?_)
                                refine G_if_eq (tgt := 442) d_Mo_check_435 (by decide) (fun h65 => absurd h65 (by decide)) (fun h65 => G_pc (pc' := 438) rfl ?_)
                                refine G_iconst (n := 3) d_Mo_check_438 (by decide) (G_pc (pc' := 439) rfl ?_)
                                refine G_goto (tgt := 443) d_Mo_check_439 (by decide) ?_
                                refine G_iret d_Mo_check_443 rfl (tokI (by decide)) rfl rfl ?_
                                exact ret_e (by unfold checkM kchk; first | grind | grind [isKindB]) rfl
                              · skip
                                refine G_iload (i := 2) (n := 5) (len := 1) (Or.inl ⟨2, rfl, rfl, d_Mo_check_427⟩) rfl (G_pc (pc' := 428) rfl ?_)
                                refine G_bipush (n := 46) d_Mo_check_428 (by decide) (G_pc (pc' := 430) rfl ?_)
                                refine G_icmp_ne (tgt := 444) d_Mo_check_430 (by decide) (fun h66 => ?_) (fun h66 => G_pc (pc' := 433) rfl ?_)
                                · skip
                                  refine G_iload (i := 2) (n := 5) (len := 1) (Or.inl ⟨2, rfl, rfl, d_Mo_check_444⟩) rfl (G_pc (pc' := 445) rfl ?_)
                                  refine G_bipush (n := 41) d_Mo_check_445 (by decide) (G_pc (pc' := 447) rfl ?_)
                                  refine G_icmp_eq (tgt := 456) d_Mo_check_447 (by decide) (fun h67 => ?_) (fun h67 => G_pc (pc' := 450) rfl ?_)
                                  · skip
                                    refine G_iload (i := 6) (n := 1) (len := 2) (Or.inr ⟨rfl, d_Mo_check_456⟩) rfl (G_pc (pc' := 458) rfl ?_)
                                    refine G_if_ne (tgt := 477) d_Mo_check_458 (by decide) (fun h68 => absurd h68 (by decide)) (fun h68 => G_pc (pc' := 461) rfl ?_)
                                    refine G_iload (i := 7) (n := 0) (len := 2) (Or.inr ⟨rfl, d_Mo_check_461⟩) rfl (G_pc (pc' := 463) rfl ?_)
                                    refine G_if_ne (tgt := 477) d_Mo_check_463 (by decide) (fun h69 => ?_) (fun h69 => absurd h69 (by decide))
                                    refine G_iconst (n := 3) d_Mo_check_477 (by decide) (G_pc (pc' := 478) rfl ?_)
                                    refine G_goto (tgt := 482) d_Mo_check_478 (by decide) ?_
                                    refine G_iret d_Mo_check_482 rfl (tokI (by decide)) rfl rfl ?_
                                    exact ret_e (by unfold checkM kchk; first | grind | grind [isKindB]) rfl
                                  · skip
                                    refine G_iload (i := 2) (n := 5) (len := 1) (Or.inl ⟨2, rfl, rfl, d_Mo_check_450⟩) rfl (G_pc (pc' := 451) rfl ?_)
                                    refine G_bipush (n := 42) d_Mo_check_451 (by decide) (G_pc (pc' := 453) rfl ?_)
                                    refine G_icmp_ne (tgt := 483) d_Mo_check_453 (by decide) (fun h70 => ?_) (fun h70 => G_pc (pc' := 456) rfl ?_)
                                    · skip
                                      refine G_iload (i := 7) (n := 0) (len := 2) (Or.inr ⟨rfl, d_Mo_check_483⟩) rfl (G_pc (pc' := 485) rfl ?_)
                                      refine G_if_eq (tgt := 508) d_Mo_check_485 (by decide) (fun h71 => absurd h71 (by decide)) (fun h71 => G_pc (pc' := 488) rfl ?_)
                                      refine G_iload (i := 2) (n := 5) (len := 1) (Or.inl ⟨2, rfl, rfl, d_Mo_check_488⟩) rfl (G_pc (pc' := 489) rfl ?_)
                                      refine G_bipush (n := 43) d_Mo_check_489 (by decide) (G_pc (pc' := 491) rfl ?_)
                                      refine G_icmp_eq (tgt := 506) d_Mo_check_491 (by decide) (fun h72 => ?_) (fun h72 => G_pc (pc' := 494) rfl ?_)
                                      · skip
                                        refine G_iconst (n := 3) d_Mo_check_506 (by decide) (G_pc (pc' := 507) rfl ?_)
                                        refine G_iret d_Mo_check_507 rfl (tokI (by decide)) rfl rfl ?_
                                        exact ret_e (by unfold checkM kchk; first | grind | grind [isKindB]) rfl
                                      · skip
                                        refine G_iload (i := 2) (n := 5) (len := 1) (Or.inl ⟨2, rfl, rfl, d_Mo_check_494⟩) rfl (G_pc (pc' := 495) rfl ?_)
                                        refine G_bipush (n := 45) d_Mo_check_495 (by decide) (G_pc (pc' := 497) rfl ?_)
                                        refine G_icmp_eq (tgt := 506) d_Mo_check_497 (by decide) (fun h73 => ?_) (fun h73 => G_pc (pc' := 500) rfl ?_)
                                        · skip
                                          refine G_iconst (n := 3) d_Mo_check_506 (by decide) (G_pc (pc' := 507) rfl ?_)
                                          refine G_iret d_Mo_check_507 rfl (tokI (by decide)) rfl rfl ?_
                                          exact ret_e (by unfold checkM kchk; first | grind | grind [isKindB]) rfl
                                        · skip
                                          refine G_iload (i := 2) (n := 5) (len := 1) (Or.inl ⟨2, rfl, rfl, d_Mo_check_500⟩) rfl (G_pc (pc' := 501) rfl ?_)
                                          refine G_bipush (n := 47) d_Mo_check_501 (by decide) (G_pc (pc' := 503) rfl ?_)
                                          refine G_icmp_ne (tgt := 508) d_Mo_check_503 (by decide) (fun h74 => ?_) (fun h74 => G_pc (pc' := 506) rfl ?_)
                                          · skip
                                            refine G_iload (i := 6) (n := 1) (len := 2) (Or.inr ⟨rfl, d_Mo_check_508⟩) rfl (G_pc (pc' := 510) rfl ?_)
                                            refine G_if_ne (tgt := 517) d_Mo_check_510 (by decide) (fun h75 => absurd h75 (by decide)) (fun h75 => G_pc (pc' := 513) rfl ?_)
                                            refine G_iconst (n := (-1)) d_Mo_check_513 (by decide) (G_pc (pc' := 514) rfl ?_)
                                            refine G_goto (tgt := 561) d_Mo_check_514 (by decide) ?_
                                            refine G_iret d_Mo_check_561 rfl (tokI (by decide)) rfl rfl ?_
                                            exact ret_e (by unfold checkM kchk; first | grind | grind [isKindB]) rfl
                                          · skip
                                            refine G_iconst (n := 3) d_Mo_check_506 (by decide) (G_pc (pc' := 507) rfl ?_)
                                            refine G_iret d_Mo_check_507 rfl (tokI (by decide)) rfl rfl ?_
                                            exact ret_e (by unfold checkM kchk; first | grind | grind [isKindB]) rfl
                                    · skip
                                      refine G_iload (i := 6) (n := 1) (len := 2) (Or.inr ⟨rfl, d_Mo_check_456⟩) rfl (G_pc (pc' := 458) rfl ?_)
                                      refine G_if_ne (tgt := 477) d_Mo_check_458 (by decide) (fun h76 => absurd h76 (by decide)) (fun h76 => G_pc (pc' := 461) rfl ?_)
                                      refine G_iload (i := 7) (n := 0) (len := 2) (Or.inr ⟨rfl, d_Mo_check_461⟩) rfl (G_pc (pc' := 463) rfl ?_)
                                      refine G_if_ne (tgt := 477) d_Mo_check_463 (by decide) (fun h77 => ?_) (fun h77 => absurd h77 (by decide))
                                      refine G_iconst (n := 3) d_Mo_check_477 (by decide) (G_pc (pc' := 478) rfl ?_)
                                      refine G_goto (tgt := 482) d_Mo_check_478 (by decide) ?_
                                      refine G_iret d_Mo_check_482 rfl (tokI (by decide)) rfl rfl ?_
                                      exact ret_e (by unfold checkM kchk; first | grind | grind [isKindB]) rfl
                                · skip
                                  refine G_iload (i := 7) (n := 0) (len := 2) (Or.inr ⟨rfl, d_Mo_check_433⟩) rfl (G_pc (pc' := 435) rfl ?_)
                                  refine G_if_eq (tgt := 442) d_Mo_check_435 (by decide) (fun h78 => absurd h78 (by decide)) (fun h78 => G_pc (pc' := 438) rfl ?_)
                                  refine G_iconst (n := 3) d_Mo_check_438 (by decide) (G_pc (pc' := 439) rfl ?_)
                                  refine G_goto (tgt := 443) d_Mo_check_439 (by decide) ?_
                                  refine G_iret d_Mo_check_443 rfl (tokI (by decide)) rfl rfl ?_
                                  exact ret_e (by unfold checkM kchk; first | grind | grind [isKindB]) rfl
                        · skip
                          replace h21 := b2i_nz.mp h21
                          replace h21 := numB_t.mp h21
                          refine G_iload (i := 5) (n := 0) (len := 2) (Or.inr ⟨rfl, d_Mo_check_387⟩) rfl (G_pc (pc' := 389) rfl ?_)
                          refine G_callS (K1 := KE) (d2 := 0) (as := [vi (M 81 (M 78 n))]) (rest := []) d_Mo_check_389 mf_Mo_numeric ml_Mo_261 rfl rfl (Nat.le_of_ble_eq_true rfl) (by omega) ⟨Nat.le_refl _, Nat.le_refl _⟩ (g_Mo_numeric (by omega) (M 81 (M 78 n)) _) (fun r79 M80 kq81 q81 => ?_)
                          clear kq81; obtain ⟨q81a, q81b⟩ := q81; subst r79; subst M80
                          refine G_ps (pc' := 392) (st' := [vi (b2i (numB (M 81 (M 78 n))))]) rfl rfl ?_
                          refine G_if_eq (tgt := 399) d_Mo_check_392 (by decide) (fun h82 => ?_) (fun h82 => G_pc (pc' := 395) rfl ?_)
                          · skip
                            replace h82 := b2i_0.mp h82
                            replace h82 := numB_f.mp h82
                            refine G_iconst (n := 0) d_Mo_check_399 (by decide) (G_pc (pc' := 400) rfl ?_)
                            refine G_istore (i := 6) (len := 2) (ls' := [(6, vi 0), (5, vi (M 81 (M 78 n))), (4, vi (M 81 (M 77 n))), (3, vi (w32 (M 80 n))), (2, vi (M 76 n)), (0, vr 55), (1, vi n)]) (Or.inr ⟨rfl, d_Mo_check_400⟩) (by decide) rfl (G_pc (pc' := 402) rfl ?_)
                            refine G_iload (i := 4) (n := 2) (len := 2) (Or.inr ⟨rfl, d_Mo_check_402⟩) rfl (G_pc (pc' := 404) rfl ?_)
                            refine G_iconst (n := 3) d_Mo_check_404 (by decide) (G_pc (pc' := 405) rfl ?_)
                            refine G_icmp_ne (tgt := 418) d_Mo_check_405 (by decide) (fun h83 => ?_) (fun h83 => G_pc (pc' := 408) rfl ?_)
                            · skip
                              refine G_iconst (n := 0) d_Mo_check_418 (by decide) (G_pc (pc' := 419) rfl ?_)
                              refine G_istore (i := 7) (len := 2) (ls' := [(7, vi 0), (6, vi 0), (5, vi (M 81 (M 78 n))), (4, vi (M 81 (M 77 n))), (3, vi (w32 (M 80 n))), (2, vi (M 76 n)), (0, vr 55), (1, vi n)]) (Or.inr ⟨rfl, d_Mo_check_419⟩) (by decide) rfl (G_pc (pc' := 421) rfl ?_)
                              refine G_iload (i := 2) (n := 5) (len := 1) (Or.inl ⟨2, rfl, rfl, d_Mo_check_421⟩) rfl (G_pc (pc' := 422) rfl ?_)
                              refine G_bipush (n := 44) d_Mo_check_422 (by decide) (G_pc (pc' := 424) rfl ?_)
                              refine G_icmp_eq (tgt := 433) d_Mo_check_424 (by decide) (fun h84 => ?_) (fun h84 => G_pc (pc' := 427) rfl ?_)
                              · skip
                                refine G_iload (i := 7) (n := 0) (len := 2) (Or.inr ⟨rfl, d_Mo_check_433⟩) rfl (G_pc (pc' := 435) rfl ?_)
                                refine G_if_eq (tgt := 442) d_Mo_check_435 (by decide) (fun h85 => ?_) (fun h85 => absurd h85 (by decide))
                                refine G_iconst (n := (-1)) d_Mo_check_442 (by decide) (G_pc (pc' := 443) rfl ?_)
                                refine G_iret d_Mo_check_443 rfl (tokI (by decide)) rfl rfl ?_
                                exact ret_e (by unfold checkM kchk; first | grind | grind [isKindB]) rfl
                              · skip
                                refine G_iload (i := 2) (n := 5) (len := 1) (Or.inl ⟨2, rfl, rfl, d_Mo_check_427⟩) rfl (G_pc (pc' := 428) rfl ?_)
                                refine G_bipush (n := 46) d_Mo_check_428 (by decide) (G_pc (pc' := 430) rfl ?_)
                                refine G_icmp_ne (tgt := 444) d_Mo_check_430 (by decide) (fun h86 => ?_) (fun h86 => G_pc (pc' := 433) rfl ?_)
                                · skip
                                  refine G_iload (i := 2) (n := 5) (len := 1) (Or.inl ⟨2, rfl, rfl, d_Mo_check_444⟩) rfl (G_pc (pc' := 445) rfl ?_)
                                  refine G_bipush (n := 41) d_Mo_check_445 (by decide) (G_pc (pc' := 447) rfl ?_)
                                  refine G_icmp_eq (tgt := 456) d_Mo_check_447 (by decide) (fun h87 => ?_) (fun h87 => G_pc (pc' := 450) rfl ?_)
                                  · skip
                                    refine G_iload (i := 6) (n := 1) (len := 2) (Or.inr ⟨rfl, d_Mo_check_456⟩) rfl (G_pc (pc' := 458) rfl ?_)
                                    refine G_if_ne (tgt := 477) d_Mo_check_458 (by decide) (fun h88 => absurd h88 (by decide)) (fun h88 => G_pc (pc' := 461) rfl ?_)
                                    refine G_iload (i := 7) (n := 0) (len := 2) (Or.inr ⟨rfl, d_Mo_check_461⟩) rfl (G_pc (pc' := 463) rfl ?_)
                                    refine G_if_ne (tgt := 477) d_Mo_check_463 (by decide) (fun h89 => absurd h89 (by decide)) (fun h89 => G_pc (pc' := 466) rfl ?_)
                                    refine G_aload (i := 0) (n := 6) (len := 1) (Or.inl ⟨0, rfl, rfl, d_Mo_check_466⟩) rfl (by decide) (G_pc (pc' := 467) rfl ?_)
                                    refine G_iload (i := 4) (n := 3) (len := 2) (Or.inr ⟨rfl, d_Mo_check_467⟩) rfl (G_pc (pc' := 469) rfl ?_)
                                    refine G_iload (i := 5) (n := 2) (len := 2) (Or.inr ⟨rfl, d_Mo_check_469⟩) rfl (G_pc (pc' := 471) rfl ?_)
                                    refine G_callV (K1 := KE) (d2 := 2) (o := 55) (cl := 9) (as := [vi (M 81 (M 77 n)), vi (M 81 (M 78 n))]) (rest := []) d_Mo_check_471 mf_Mo_related ml_Mo_267 rfl rfl (by decide) rfl rfl (Nat.le_of_ble_eq_true rfl) (by omega) ⟨Nat.le_refl _, Nat.le_refl _⟩ (g_Mo_related (by omega) (M 81 (M 77 n)) (M 81 (M 78 n)) _ hP (by omega) (by omega)) (fun r90 M91 kq92 q92 => ?_)
                                    clear kq92; obtain ⟨q92a, q92b⟩ := q92; subst r90; subst M91
                                    refine G_ps (pc' := 474) (st' := [vi (b2i (relB M (M 81 (M 77 n)) (M 81 (M 78 n))))]) rfl rfl ?_
                                    refine G_if_eq (tgt := 481) d_Mo_check_474 (by decide) (fun h93 => ?_) (fun h93 => G_pc (pc' := 477) rfl ?_)
                                    · skip
                                      replace h93 := b2i_0.mp h93
                                      refine G_iconst (n := (-1)) d_Mo_check_481 (by decide) (G_pc (pc' := 482) rfl ?_)
                                      refine G_iret d_Mo_check_482 rfl (tokI (by decide)) rfl rfl ?_
                                      exact ret_e (by unfold checkM kchk; first | grind | grind [isKindB]) rfl
                                    · skip
                                      replace h93 := b2i_nz.mp h93
                                      refine G_iconst (n := 3) d_Mo_check_477 (by decide) (G_pc (pc' := 478) rfl ?_)
                                      refine G_goto (tgt := 482) d_Mo_check_478 (by decide) ?_
                                      refine G_iret d_Mo_check_482 rfl (tokI (by decide)) rfl rfl ?_
                                      exact ret_e (by unfold checkM kchk; first | grind | grind [isKindB]) rfl
                                  · skip
                                    refine G_iload (i := 2) (n := 5) (len := 1) (Or.inl ⟨2, rfl, rfl, d_Mo_check_450⟩) rfl (G_pc (pc' := 451) rfl ?_)
                                    refine G_bipush (n := 42) d_Mo_check_451 (by decide) (G_pc (pc' := 453) rfl ?_)
                                    refine G_icmp_ne (tgt := 483) d_Mo_check_453 (by decide) (fun h94 => ?_) (fun h94 => G_pc (pc' := 456) rfl ?_)
                                    · skip
                                      refine G_iload (i := 7) (n := 0) (len := 2) (Or.inr ⟨rfl, d_Mo_check_483⟩) rfl (G_pc (pc' := 485) rfl ?_)
                                      refine G_if_eq (tgt := 508) d_Mo_check_485 (by decide) (fun h95 => ?_) (fun h95 => absurd h95 (by decide))
                                      refine G_iload (i := 6) (n := 1) (len := 2) (Or.inr ⟨rfl, d_Mo_check_508⟩) rfl (G_pc (pc' := 510) rfl ?_)
                                      refine G_if_ne (tgt := 517) d_Mo_check_510 (by decide) (fun h96 => absurd h96 (by decide)) (fun h96 => G_pc (pc' := 513) rfl ?_)
                                      refine G_iconst (n := (-1)) d_Mo_check_513 (by decide) (G_pc (pc' := 514) rfl ?_)
                                      refine G_goto (tgt := 561) d_Mo_check_514 (by decide) ?_
                                      refine G_iret d_Mo_check_561 rfl (tokI (by decide)) rfl rfl ?_
                                      exact ret_e (by unfold checkM kchk; first | grind | grind [isKindB]) rfl
                                    · skip
                                      refine G_iload (i := 6) (n := 1) (len := 2) (Or.inr ⟨rfl, d_Mo_check_456⟩) rfl (G_pc (pc' := 458) rfl ?_)
                                      refine G_if_ne (tgt := 477) d_Mo_check_458 (by decide) (fun h97 => absurd h97 (by decide)) (fun h97 => G_pc (pc' := 461) rfl ?_)
                                      refine G_iload (i := 7) (n := 0) (len := 2) (Or.inr ⟨rfl, d_Mo_check_461⟩) rfl (G_pc (pc' := 463) rfl ?_)
                                      refine G_if_ne (tgt := 477) d_Mo_check_463 (by decide) (fun h98 => absurd h98 (by decide)) (fun h98 => G_pc (pc' := 466) rfl ?_)
                                      refine G_aload (i := 0) (n := 6) (len := 1) (Or.inl ⟨0, rfl, rfl, d_Mo_check_466⟩) rfl (by decide) (G_pc (pc' := 467) rfl ?_)
                                      refine G_iload (i := 4) (n := 3) (len := 2) (Or.inr ⟨rfl, d_Mo_check_467⟩) rfl (G_pc (pc' := 469) rfl ?_)
                                      refine G_iload (i := 5) (n := 2) (len := 2) (Or.inr ⟨rfl, d_Mo_check_469⟩) rfl (G_pc (pc' := 471) rfl ?_)
                                      refine G_callV (K1 := KE) (d2 := 2) (o := 55) (cl := 9) (as := [vi (M 81 (M 77 n)), vi (M 81 (M 78 n))]) (rest := []) d_Mo_check_471 mf_Mo_related ml_Mo_267 rfl rfl (by decide) rfl rfl (Nat.le_of_ble_eq_true rfl) (by omega) ⟨Nat.le_refl _, Nat.le_refl _⟩ (g_Mo_related (by omega) (M 81 (M 77 n)) (M 81 (M 78 n)) _ hP (by omega) (by omega)) (fun r99 M100 kq101 q101 => ?_)
                                      clear kq101; obtain ⟨q101a, q101b⟩ := q101; subst r99; subst M100
                                      refine G_ps (pc' := 474) (st' := [vi (b2i (relB M (M 81 (M 77 n)) (M 81 (M 78 n))))]) rfl rfl ?_
                                      refine G_if_eq (tgt := 481) d_Mo_check_474 (by decide) (fun h102 => ?_) (fun h102 => G_pc (pc' := 477) rfl ?_)
                                      · skip
                                        replace h102 := b2i_0.mp h102
                                        refine G_iconst (n := (-1)) d_Mo_check_481 (by decide) (G_pc (pc' := 482) rfl ?_)
                                        refine G_iret d_Mo_check_482 rfl (tokI (by decide)) rfl rfl ?_
                                        exact ret_e (by unfold checkM kchk; first | grind | grind [isKindB]) rfl
                                      · skip
                                        replace h102 := b2i_nz.mp h102
                                        refine G_iconst (n := 3) d_Mo_check_477 (by decide) (G_pc (pc' := 478) rfl ?_)
                                        refine G_goto (tgt := 482) d_Mo_check_478 (by decide) ?_
                                        refine G_iret d_Mo_check_482 rfl (tokI (by decide)) rfl rfl ?_
                                        exact ret_e (by unfold checkM kchk; first | grind | grind [isKindB]) rfl
                                · skip
                                  refine G_iload (i := 7) (n := 0) (len := 2) (Or.inr ⟨rfl, d_Mo_check_433⟩) rfl (G_pc (pc' := 435) rfl ?_)
                                  refine G_if_eq (tgt := 442) d_Mo_check_435 (by decide) (fun h103 => ?_) (fun h103 => absurd h103 (by decide))
                                  refine G_iconst (n := (-1)) d_Mo_check_442 (by decide) (G_pc (pc' := 443) rfl ?_)
                                  refine G_iret d_Mo_check_443 rfl (tokI (by decide)) rfl rfl ?_
                                  exact ret_e (by unfold checkM kchk; first | grind | grind [isKindB]) rfl
                            · skip
                              refine G_iload (i := 5) (n := 1) (len := 2) (Or.inr ⟨rfl, d_Mo_check_408⟩) rfl (G_pc (pc' := 410) rfl ?_)
                              refine G_iconst (n := 3) d_Mo_check_410 (by decide) (G_pc (pc' := 411) rfl ?_)
                              refine G_icmp_ne (tgt := 418) d_Mo_check_411 (by decide) (fun h104 => ?_) (fun h104 => G_pc (pc' := 414) rfl ?_)
                              · skip
                                refine G_iconst (n := 0) d_Mo_check_418 (by decide) (G_pc (pc' := 419) rfl ?_)
                                refine G_istore (i := 7) (len := 2) (ls' := [(7, vi 0), (6, vi 0), (5, vi (M 81 (M 78 n))), (4, vi (M 81 (M 77 n))), (3, vi (w32 (M 80 n))), (2, vi (M 76 n)), (0, vr 55), (1, vi n)]) (Or.inr ⟨rfl, d_Mo_check_419⟩) (by decide) rfl (G_pc (pc' := 421) rfl ?_)
                                refine G_iload (i := 2) (n := 5) (len := 1) (Or.inl ⟨2, rfl, rfl, d_Mo_check_421⟩) rfl (G_pc (pc' := 422) rfl ?_)
                                refine G_bipush (n := 44) d_Mo_check_422 (by decide) (G_pc (pc' := 424) rfl ?_)
                                refine G_icmp_eq (tgt := 433) d_Mo_check_424 (by decide) (fun h105 => ?_) (fun h105 => G_pc (pc' := 427) rfl ?_)
                                · skip
                                  refine G_iload (i := 7) (n := 0) (len := 2) (Or.inr ⟨rfl, d_Mo_check_433⟩) rfl (G_pc (pc' := 435) rfl ?_)
                                  refine G_if_eq (tgt := 442) d_Mo_check_435 (by decide) (fun h106 => ?_) (fun h106 => absurd h106 (by decide))
                                  refine G_iconst (n := (-1)) d_Mo_check_442 (by decide) (G_pc (pc' := 443) rfl ?_)
                                  refine G_iret d_Mo_check_443 rfl (tokI (by decide)) rfl rfl ?_
                                  exact ret_e (by unfold checkM kchk; first | grind | grind [isKindB]) rfl
                                · skip
                                  refine G_iload (i := 2) (n := 5) (len := 1) (Or.inl ⟨2, rfl, rfl, d_Mo_check_427⟩) rfl (G_pc (pc' := 428) rfl ?_)
                                  refine G_bipush (n := 46) d_Mo_check_428 (by decide) (G_pc (pc' := 430) rfl ?_)
                                  refine G_icmp_ne (tgt := 444) d_Mo_check_430 (by decide) (fun h107 => ?_) (fun h107 => G_pc (pc' := 433) rfl ?_)
                                  · skip
                                    refine G_iload (i := 2) (n := 5) (len := 1) (Or.inl ⟨2, rfl, rfl, d_Mo_check_444⟩) rfl (G_pc (pc' := 445) rfl ?_)
                                    refine G_bipush (n := 41) d_Mo_check_445 (by decide) (G_pc (pc' := 447) rfl ?_)
                                    refine G_icmp_eq (tgt := 456) d_Mo_check_447 (by decide) (fun h108 => ?_) (fun h108 => G_pc (pc' := 450) rfl ?_)
                                    · skip
                                      refine G_iload (i := 6) (n := 1) (len := 2) (Or.inr ⟨rfl, d_Mo_check_456⟩) rfl (G_pc (pc' := 458) rfl ?_)
                                      refine G_if_ne (tgt := 477) d_Mo_check_458 (by decide) (fun h109 => absurd h109 (by decide)) (fun h109 => G_pc (pc' := 461) rfl ?_)
                                      refine G_iload (i := 7) (n := 0) (len := 2) (Or.inr ⟨rfl, d_Mo_check_461⟩) rfl (G_pc (pc' := 463) rfl ?_)
                                      refine G_if_ne (tgt := 477) d_Mo_check_463 (by decide) (fun h110 => absurd h110 (by decide)) (fun h110 => G_pc (pc' := 466) rfl ?_)
                                      refine G_aload (i := 0) (n := 6) (len := 1) (Or.inl ⟨0, rfl, rfl, d_Mo_check_466⟩) rfl (by decide) (G_pc (pc' := 467) rfl ?_)
                                      refine G_iload (i := 4) (n := 3) (len := 2) (Or.inr ⟨rfl, d_Mo_check_467⟩) rfl (G_pc (pc' := 469) rfl ?_)
                                      refine G_iload (i := 5) (n := 2) (len := 2) (Or.inr ⟨rfl, d_Mo_check_469⟩) rfl (G_pc (pc' := 471) rfl ?_)
                                      refine G_callV (K1 := KE) (d2 := 2) (o := 55) (cl := 9) (as := [vi (M 81 (M 77 n)), vi (M 81 (M 78 n))]) (rest := []) d_Mo_check_471 mf_Mo_related ml_Mo_267 rfl rfl (by decide) rfl rfl (Nat.le_of_ble_eq_true rfl) (by omega) ⟨Nat.le_refl _, Nat.le_refl _⟩ (g_Mo_related (by omega) (M 81 (M 77 n)) (M 81 (M 78 n)) _ hP (by omega) (by omega)) (fun r111 M112 kq113 q113 => ?_)
                                      clear kq113; obtain ⟨q113a, q113b⟩ := q113; subst r111; subst M112
                                      refine G_ps (pc' := 474) (st' := [vi (b2i (relB M (M 81 (M 77 n)) (M 81 (M 78 n))))]) rfl rfl ?_
                                      refine G_if_eq (tgt := 481) d_Mo_check_474 (by decide) (fun h114 => ?_) (fun h114 => G_pc (pc' := 477) rfl ?_)
                                      · skip
                                        replace h114 := b2i_0.mp h114
                                        refine G_iconst (n := (-1)) d_Mo_check_481 (by decide) (G_pc (pc' := 482) rfl ?_)
                                        refine G_iret d_Mo_check_482 rfl (tokI (by decide)) rfl rfl ?_
                                        exact ret_e (by unfold checkM kchk; first | grind | grind [isKindB]) rfl
                                      · skip
                                        replace h114 := b2i_nz.mp h114
                                        refine G_iconst (n := 3) d_Mo_check_477 (by decide) (G_pc (pc' := 478) rfl ?_)
                                        refine G_goto (tgt := 482) d_Mo_check_478 (by decide) ?_
                                        refine G_iret d_Mo_check_482 rfl (tokI (by decide)) rfl rfl ?_
                                        exact ret_e (by unfold checkM kchk; first | grind | grind [isKindB]) rfl
                                    · skip
                                      refine G_iload (i := 2) (n := 5) (len := 1) (Or.inl ⟨2, rfl, rfl, d_Mo_check_450⟩) rfl (G_pc (pc' := 451) rfl ?_)
                                      refine G_bipush (n := 42) d_Mo_check_451 (by decide) (G_pc (pc' := 453) rfl ?_)
                                      refine G_icmp_ne (tgt := 483) d_Mo_check_453 (by decide) (fun h115 => ?_) (fun h115 => G_pc (pc' := 456) rfl ?_)
                                      · skip
                                        refine G_iload (i := 7) (n := 0) (len := 2) (Or.inr ⟨rfl, d_Mo_check_483⟩) rfl (G_pc (pc' := 485) rfl ?_)
                                        refine G_if_eq (tgt := 508) d_Mo_check_485 (by decide) (fun h116 => ?_) (fun h116 => absurd h116 (by decide))
                                        refine G_iload (i := 6) (n := 1) (len := 2) (Or.inr ⟨rfl, d_Mo_check_508⟩) rfl (G_pc (pc' := 510) rfl ?_)
                                        refine G_if_ne (tgt := 517) d_Mo_check_510 (by decide) (fun h117 => absurd h117 (by decide)) (fun h117 => G_pc (pc' := 513) rfl ?_)
                                        refine G_iconst (n := (-1)) d_Mo_check_513 (by decide) (G_pc (pc' := 514) rfl ?_)
                                        refine G_goto (tgt := 561) d_Mo_check_514 (by decide) ?_
                                        refine G_iret d_Mo_check_561 rfl (tokI (by decide)) rfl rfl ?_
                                        exact ret_e (by unfold checkM kchk; first | grind | grind [isKindB]) rfl
                                      · skip
                                        refine G_iload (i := 6) (n := 1) (len := 2) (Or.inr ⟨rfl, d_Mo_check_456⟩) rfl (G_pc (pc' := 458) rfl ?_)
                                        refine G_if_ne (tgt := 477) d_Mo_check_458 (by decide) (fun h118 => absurd h118 (by decide)) (fun h118 => G_pc (pc' := 461) rfl ?_)
                                        refine G_iload (i := 7) (n := 0) (len := 2) (Or.inr ⟨rfl, d_Mo_check_461⟩) rfl (G_pc (pc' := 463) rfl ?_)
                                        refine G_if_ne (tgt := 477) d_Mo_check_463 (by decide) (fun h119 => absurd h119 (by decide)) (fun h119 => G_pc (pc' := 466) rfl ?_)
                                        refine G_aload (i := 0) (n := 6) (len := 1) (Or.inl ⟨0, rfl, rfl, d_Mo_check_466⟩) rfl (by decide) (G_pc (pc' := 467) rfl ?_)
                                        refine G_iload (i := 4) (n := 3) (len := 2) (Or.inr ⟨rfl, d_Mo_check_467⟩) rfl (G_pc (pc' := 469) rfl ?_)
                                        refine G_iload (i := 5) (n := 2) (len := 2) (Or.inr ⟨rfl, d_Mo_check_469⟩) rfl (G_pc (pc' := 471) rfl ?_)
                                        refine G_callV (K1 := KE) (d2 := 2) (o := 55) (cl := 9) (as := [vi (M 81 (M 77 n)), vi (M 81 (M 78 n))]) (rest := []) d_Mo_check_471 mf_Mo_related ml_Mo_267 rfl rfl (by decide) rfl rfl (Nat.le_of_ble_eq_true rfl) (by omega) ⟨Nat.le_refl _, Nat.le_refl _⟩ (g_Mo_related (by omega) (M 81 (M 77 n)) (M 81 (M 78 n)) _ hP (by omega) (by omega)) (fun r120 M121 kq122 q122 => ?_)
                                        clear kq122; obtain ⟨q122a, q122b⟩ := q122; subst r120; subst M121
                                        refine G_ps (pc' := 474) (st' := [vi (b2i (relB M (M 81 (M 77 n)) (M 81 (M 78 n))))]) rfl rfl ?_
                                        refine G_if_eq (tgt := 481) d_Mo_check_474 (by decide) (fun h123 => ?_) (fun h123 => G_pc (pc' := 477) rfl ?_)
                                        · skip
                                          replace h123 := b2i_0.mp h123
                                          refine G_iconst (n := (-1)) d_Mo_check_481 (by decide) (G_pc (pc' := 482) rfl ?_)
                                          refine G_iret d_Mo_check_482 rfl (tokI (by decide)) rfl rfl ?_
                                          exact ret_e (by unfold checkM kchk; first | grind | grind [isKindB]) rfl
                                        · skip
                                          replace h123 := b2i_nz.mp h123
                                          refine G_iconst (n := 3) d_Mo_check_477 (by decide) (G_pc (pc' := 478) rfl ?_)
                                          refine G_goto (tgt := 482) d_Mo_check_478 (by decide) ?_
                                          refine G_iret d_Mo_check_482 rfl (tokI (by decide)) rfl rfl ?_
                                          exact ret_e (by unfold checkM kchk; first | grind | grind [isKindB]) rfl
                                  · skip
                                    refine G_iload (i := 7) (n := 0) (len := 2) (Or.inr ⟨rfl, d_Mo_check_433⟩) rfl (G_pc (pc' := 435) rfl ?_)
                                    refine G_if_eq (tgt := 442) d_Mo_check_435 (by decide) (fun h124 => ?_) (fun h124 => absurd h124 (by decide))
                                    refine G_iconst (n := (-1)) d_Mo_check_442 (by decide) (G_pc (pc' := 443) rfl ?_)
                                    refine G_iret d_Mo_check_443 rfl (tokI (by decide)) rfl rfl ?_
                                    exact ret_e (by unfold checkM kchk; first | grind | grind [isKindB]) rfl
                              · skip
                                refine G_iconst (n := 1) d_Mo_check_414 (by decide) (G_pc (pc' := 415) rfl ?_)
                                refine G_goto (tgt := 419) d_Mo_check_415 (by decide) ?_
                                refine G_istore (i := 7) (len := 2) (ls' := [(7, vi 1), (6, vi 0), (5, vi (M 81 (M 78 n))), (4, vi (M 81 (M 77 n))), (3, vi (w32 (M 80 n))), (2, vi (M 76 n)), (0, vr 55), (1, vi n)]) (Or.inr ⟨rfl, d_Mo_check_419⟩) (by decide) rfl (G_pc (pc' := 421) rfl ?_)
                                refine G_iload (i := 2) (n := 5) (len := 1) (Or.inl ⟨2, rfl, rfl, d_Mo_check_421⟩) rfl (G_pc (pc' := 422) rfl ?_)
                                refine G_bipush (n := 44) d_Mo_check_422 (by decide) (G_pc (pc' := 424) rfl ?_)
                                refine G_icmp_eq (tgt := 433) d_Mo_check_424 (by decide) (fun h125 => ?_) (fun h125 => G_pc (pc' := 427) rfl ?_)
                                · skip
                                  refine G_iload (i := 7) (n := 0) (len := 2) (Or.inr ⟨rfl, d_Mo_check_433⟩) rfl (G_pc (pc' := 435) rfl ?_)
                                  refine G_if_eq (tgt := 442) d_Mo_check_435 (by decide) (fun h126 => absurd h126 (by decide)) (fun h126 => G_pc (pc' := 438) rfl ?_)
                                  refine G_iconst (n := 3) d_Mo_check_438 (by decide) (G_pc (pc' := 439) rfl ?_)
                                  refine G_goto (tgt := 443) d_Mo_check_439 (by decide) ?_
                                  refine G_iret d_Mo_check_443 rfl (tokI (by decide)) rfl rfl ?_
                                  exact ret_e (by unfold checkM kchk; first | grind | grind [isKindB]) rfl
                                · skip
                                  refine G_iload (i := 2) (n := 5) (len := 1) (Or.inl ⟨2, rfl, rfl, d_Mo_check_427⟩) rfl (G_pc (pc' := 428) rfl ?_)
                                  refine G_bipush (n := 46) d_Mo_check_428 (by decide) (G_pc (pc' := 430) rfl ?_)
                                  refine G_icmp_ne (tgt := 444) d_Mo_check_430 (by decide) (fun h127 => ?_) (fun h127 => G_pc (pc' := 433) rfl ?_)
                                  · skip
                                    refine G_iload (i := 2) (n := 5) (len := 1) (Or.inl ⟨2, rfl, rfl, d_Mo_check_444⟩) rfl (G_pc (pc' := 445) rfl ?_)
                                    refine G_bipush (n := 41) d_Mo_check_445 (by decide) (G_pc (pc' := 447) rfl ?_)
                                    refine G_icmp_eq (tgt := 456) d_Mo_check_447 (by decide) (fun h128 => ?_) (fun h128 => G_pc (pc' := 450) rfl ?_)
                                    · skip
                                      refine G_iload (i := 6) (n := 1) (len := 2) (Or.inr ⟨rfl, d_Mo_check_456⟩) rfl (G_pc (pc' := 458) rfl ?_)
                                      refine G_if_ne (tgt := 477) d_Mo_check_458 (by decide) (fun h129 => absurd h129 (by decide)) (fun h129 => G_pc (pc' := 461) rfl ?_)
                                      refine G_iload (i := 7) (n := 0) (len := 2) (Or.inr ⟨rfl, d_Mo_check_461⟩) rfl (G_pc (pc' := 463) rfl ?_)
                                      refine G_if_ne (tgt := 477) d_Mo_check_463 (by decide) (fun h130 => ?_) (fun h130 => absurd h130 (by decide))
                                      refine G_iconst (n := 3) d_Mo_check_477 (by decide) (G_pc (pc' := 478) rfl ?_)
                                      refine G_goto (tgt := 482) d_Mo_check_478 (by decide) ?_
                                      refine G_iret d_Mo_check_482 rfl (tokI (by decide)) rfl rfl ?_
                                      exact ret_e (by unfold checkM kchk; first | grind | grind [isKindB]) rfl
                                    · skip
                                      refine G_iload (i := 2) (n := 5) (len := 1) (Or.inl ⟨2, rfl, rfl, d_Mo_check_450⟩) rfl (G_pc (pc' := 451) rfl ?_)
                                      refine G_bipush (n := 42) d_Mo_check_451 (by decide) (G_pc (pc' := 453) rfl ?_)
                                      refine G_icmp_ne (tgt := 483) d_Mo_check_453 (by decide) (fun h131 => ?_) (fun h131 => G_pc (pc' := 456) rfl ?_)
                                      · skip
                                        refine G_iload (i := 7) (n := 0) (len := 2) (Or.inr ⟨rfl, d_Mo_check_483⟩) rfl (G_pc (pc' := 485) rfl ?_)
                                        refine G_if_eq (tgt := 508) d_Mo_check_485 (by decide) (fun h132 => absurd h132 (by decide)) (fun h132 => G_pc (pc' := 488) rfl ?_)
                                        refine G_iload (i := 2) (n := 5) (len := 1) (Or.inl ⟨2, rfl, rfl, d_Mo_check_488⟩) rfl (G_pc (pc' := 489) rfl ?_)
                                        refine G_bipush (n := 43) d_Mo_check_489 (by decide) (G_pc (pc' := 491) rfl ?_)
                                        refine G_icmp_eq (tgt := 506) d_Mo_check_491 (by decide) (fun h133 => ?_) (fun h133 => G_pc (pc' := 494) rfl ?_)
                                        · skip
                                          refine G_iconst (n := 3) d_Mo_check_506 (by decide) (G_pc (pc' := 507) rfl ?_)
                                          refine G_iret d_Mo_check_507 rfl (tokI (by decide)) rfl rfl ?_
                                          exact ret_e (by unfold checkM kchk; first | grind | grind [isKindB]) rfl
                                        · skip
                                          refine G_iload (i := 2) (n := 5) (len := 1) (Or.inl ⟨2, rfl, rfl, d_Mo_check_494⟩) rfl (G_pc (pc' := 495) rfl ?_)
                                          refine G_bipush (n := 45) d_Mo_check_495 (by decide) (G_pc (pc' := 497) rfl ?_)
                                          refine G_icmp_eq (tgt := 506) d_Mo_check_497 (by decide) (fun h134 => ?_) (fun h134 => G_pc (pc' := 500) rfl ?_)
                                          · skip
                                            refine G_iconst (n := 3) d_Mo_check_506 (by decide) (G_pc (pc' := 507) rfl ?_)
                                            refine G_iret d_Mo_check_507 rfl (tokI (by decide)) rfl rfl ?_
                                            exact ret_e (by unfold checkM kchk; first | grind | grind [isKindB]) rfl
                                          · skip
                                            refine G_iload (i := 2) (n := 5) (len := 1) (Or.inl ⟨2, rfl, rfl, d_Mo_check_500⟩) rfl (G_pc (pc' := 501) rfl ?_)
                                            refine G_bipush (n := 47) d_Mo_check_501 (by decide) (G_pc (pc' := 503) rfl ?_)
                                            refine G_icmp_ne (tgt := 508) d_Mo_check_503 (by decide) (fun h135 => ?_) (fun h135 => G_pc (pc' := 506) rfl ?_)
                                            · skip
                                              refine G_iload (i := 6) (n := 1) (len := 2) (Or.inr ⟨rfl, d_Mo_check_508⟩) rfl (G_pc (pc' := 510) rfl ?_)
                                              refine G_if_ne (tgt := 517) d_Mo_check_510 (by decide) (fun h136 => absurd h136 (by decide)) (fun h136 => G_pc (pc' := 513) rfl ?_)
                                              refine G_iconst (n := (-1)) d_Mo_check_513 (by decide) (G_pc (pc' := 514) rfl ?_)
                                              refine G_goto (tgt := 561) d_Mo_check_514 (by decide) ?_
                                              refine G_iret d_Mo_check_561 rfl (tokI (by decide)) rfl rfl ?_
                                              exact ret_e (by unfold checkM kchk; first | grind | grind [isKindB]) rfl
                                            · skip
                                              refine G_iconst (n := 3) d_Mo_check_506 (by decide) (G_pc (pc' := 507) rfl ?_)
                                              refine G_iret d_Mo_check_507 rfl (tokI (by decide)) rfl rfl ?_
                                              exact ret_e (by unfold checkM kchk; first | grind | grind [isKindB]) rfl
                                      · skip
                                        refine G_iload (i := 6) (n := 1) (len := 2) (Or.inr ⟨rfl, d_Mo_check_456⟩) rfl (G_pc (pc' := 458) rfl ?_)
                                        refine G_if_ne (tgt := 477) d_Mo_check_458 (by decide) (fun h137 => absurd h137 (by decide)) (fun h137 => G_pc (pc' := 461) rfl ?_)
                                        refine G_iload (i := 7) (n := 0) (len := 2) (Or.inr ⟨rfl, d_Mo_check_461⟩) rfl (G_pc (pc' := 463) rfl ?_)
                                        refine G_if_ne (tgt := 477) d_Mo_check_463 (by decide) (fun h138 => ?_) (fun h138 => absurd h138 (by decide))
                                        refine G_iconst (n := 3) d_Mo_check_477 (by decide) (G_pc (pc' := 478) rfl ?_)
                                        refine G_goto (tgt := 482) d_Mo_check_478 (by decide) ?_
                                        refine G_iret d_Mo_check_482 rfl (tokI (by decide)) rfl rfl ?_
                                        exact ret_e (by unfold checkM kchk; first | grind | grind [isKindB]) rfl
                                  · skip
                                    refine G_iload (i := 7) (n := 0) (len := 2) (Or.inr ⟨rfl, d_Mo_check_433⟩) rfl (G_pc (pc' := 435) rfl ?_)
                                    refine G_if_eq (tgt := 442) d_Mo_check_435 (by decide) (fun h139 => absurd h139 (by decide)) (fun h139 => G_pc (pc' := 438) rfl ?_)
                                    refine G_iconst (n := 3) d_Mo_check_438 (by decide) (G_pc (pc' := 439) rfl ?_)
                                    refine G_goto (tgt := 443) d_Mo_check_439 (by decide) ?_
                                    refine G_iret d_Mo_check_443 rfl (tokI (by decide)) rfl rfl ?_
                                    exact ret_e (by unfold checkM kchk; first | grind | grind [isKindB]) rfl
                          · skip
                            replace h82 := b2i_nz.mp h82
                            replace h82 := numB_t.mp h82
                            refine G_iconst (n := 1) d_Mo_check_395 (by decide) (G_pc (pc' := 396) rfl ?_)
                            refine G_goto (tgt := 400) d_Mo_check_396 (by decide) ?_
                            refine G_istore (i := 6) (len := 2) (ls' := [(6, vi 1), (5, vi (M 81 (M 78 n))), (4, vi (M 81 (M 77 n))), (3, vi (w32 (M 80 n))), (2, vi (M 76 n)), (0, vr 55), (1, vi n)]) (Or.inr ⟨rfl, d_Mo_check_400⟩) (by decide) rfl (G_pc (pc' := 402) rfl ?_)
                            refine G_iload (i := 4) (n := 2) (len := 2) (Or.inr ⟨rfl, d_Mo_check_402⟩) rfl (G_pc (pc' := 404) rfl ?_)
                            refine G_iconst (n := 3) d_Mo_check_404 (by decide) (G_pc (pc' := 405) rfl ?_)
                            refine G_icmp_ne (tgt := 418) d_Mo_check_405 (by decide) (fun h140 => ?_) (fun h140 => G_pc (pc' := 408) rfl ?_)
                            · skip
                              refine G_iconst (n := 0) d_Mo_check_418 (by decide) (G_pc (pc' := 419) rfl ?_)
                              refine G_istore (i := 7) (len := 2) (ls' := [(7, vi 0), (6, vi 1), (5, vi (M 81 (M 78 n))), (4, vi (M 81 (M 77 n))), (3, vi (w32 (M 80 n))), (2, vi (M 76 n)), (0, vr 55), (1, vi n)]) (Or.inr ⟨rfl, d_Mo_check_419⟩) (by decide) rfl (G_pc (pc' := 421) rfl ?_)
                              refine G_iload (i := 2) (n := 5) (len := 1) (Or.inl ⟨2, rfl, rfl, d_Mo_check_421⟩) rfl (G_pc (pc' := 422) rfl ?_)
                              refine G_bipush (n := 44) d_Mo_check_422 (by decide) (G_pc (pc' := 424) rfl ?_)
                              refine G_icmp_eq (tgt := 433) d_Mo_check_424 (by decide) (fun h141 => ?_) (fun h141 => G_pc (pc' := 427) rfl ?_)
                              · skip
                                refine G_iload (i := 7) (n := 0) (len := 2) (Or.inr ⟨rfl, d_Mo_check_433⟩) rfl (G_pc (pc' := 435) rfl ?_)
                                refine G_if_eq (tgt := 442) d_Mo_check_435 (by decide) (fun h142 => ?_) (fun h142 => absurd h142 (by decide))
                                refine G_iconst (n := (-1)) d_Mo_check_442 (by decide) (G_pc (pc' := 443) rfl ?_)
                                refine G_iret d_Mo_check_443 rfl (tokI (by decide)) rfl rfl ?_
                                exact ret_e (by unfold checkM kchk; first | grind | grind [isKindB]) rfl
                              · skip
                                refine G_iload (i := 2) (n := 5) (len := 1) (Or.inl ⟨2, rfl, rfl, d_Mo_check_427⟩) rfl (G_pc (pc' := 428) rfl ?_)
                                refine G_bipush (n := 46) d_Mo_check_428 (by decide) (G_pc (pc' := 430) rfl ?_)
                                refine G_icmp_ne (tgt := 444) d_Mo_check_430 (by decide) (fun h143 => ?_) (fun h143 => G_pc (pc' := 433) rfl ?_)
                                · skip
                                  refine G_iload (i := 2) (n := 5) (len := 1) (Or.inl ⟨2, rfl, rfl, d_Mo_check_444⟩) rfl (G_pc (pc' := 445) rfl ?_)
                                  refine G_bipush (n := 41) d_Mo_check_445 (by decide) (G_pc (pc' := 447) rfl ?_)
                                  refine G_icmp_eq (tgt := 456) d_Mo_check_447 (by decide) (fun h144 => ?_) (fun h144 => G_pc (pc' := 450) rfl ?_)
                                  · skip
                                    refine G_iload (i := 6) (n := 1) (len := 2) (Or.inr ⟨rfl, d_Mo_check_456⟩) rfl (G_pc (pc' := 458) rfl ?_)
                                    refine G_if_ne (tgt := 477) d_Mo_check_458 (by decide) (fun h145 => ?_) (fun h145 => absurd h145 (by decide))
                                    refine G_iconst (n := 3) d_Mo_check_477 (by decide) (G_pc (pc' := 478) rfl ?_)
                                    refine G_goto (tgt := 482) d_Mo_check_478 (by decide) ?_
                                    refine G_iret d_Mo_check_482 rfl (tokI (by decide)) rfl rfl ?_
                                    exact ret_e (by unfold checkM kchk; first | grind | grind [isKindB]) rfl
                                  · skip
                                    refine G_iload (i := 2) (n := 5) (len := 1) (Or.inl ⟨2, rfl, rfl, d_Mo_check_450⟩) rfl (G_pc (pc' := 451) rfl ?_)
                                    refine G_bipush (n := 42) d_Mo_check_451 (by decide) (G_pc (pc' := 453) rfl ?_)
                                    refine G_icmp_ne (tgt := 483) d_Mo_check_453 (by decide) (fun h146 => ?_) (fun h146 => G_pc (pc' := 456) rfl ?_)
                                    · skip
                                      refine G_iload (i := 7) (n := 0) (len := 2) (Or.inr ⟨rfl, d_Mo_check_483⟩) rfl (G_pc (pc' := 485) rfl ?_)
                                      refine G_if_eq (tgt := 508) d_Mo_check_485 (by decide) (fun h147 => ?_) (fun h147 => absurd h147 (by decide))
                                      refine G_iload (i := 6) (n := 1) (len := 2) (Or.inr ⟨rfl, d_Mo_check_508⟩) rfl (G_pc (pc' := 510) rfl ?_)
                                      refine G_if_ne (tgt := 517) d_Mo_check_510 (by decide) (fun h148 => ?_) (fun h148 => absurd h148 (by decide))
                                      refine G_iload (i := 2) (n := 5) (len := 1) (Or.inl ⟨2, rfl, rfl, d_Mo_check_517⟩) rfl (G_pc (pc' := 518) rfl ?_)
                                      refine G_bipush (n := 34) d_Mo_check_518 (by decide) (G_pc (pc' := 520) rfl ?_)
                                      refine G_icmp_lt (tgt := 533) d_Mo_check_520 (by decide) (fun h149 => ?_) (fun h149 => G_pc (pc' := 523) rfl ?_)
                                      · skip
                                        refine G_iload (i := 2) (n := 5) (len := 1) (Or.inl ⟨2, rfl, rfl, d_Mo_check_533⟩) rfl (G_pc (pc' := 534) rfl ?_)
                                        refine G_bipush (n := 38) d_Mo_check_534 (by decide) (G_pc (pc' := 536) rfl ?_)
                                        refine G_icmp_lt (tgt := 554) d_Mo_check_536 (by decide) (fun h150 => ?_) (fun h150 => G_pc (pc' := 539) rfl ?_)
                                        · skip
                                          refine G_iload (i := 4) (n := 3) (len := 2) (Or.inr ⟨rfl, d_Mo_check_554⟩) rfl (G_pc (pc' := 556) rfl ?_)
                                          refine G_iload (i := 5) (n := 2) (len := 2) (Or.inr ⟨rfl, d_Mo_check_556⟩) rfl (G_pc (pc' := 558) rfl ?_)
                                          refine G_callS (K1 := KE) (d2 := 0) (as := [vi (M 81 (M 77 n)), vi (M 81 (M 78 n))]) (rest := []) d_Mo_check_558 mf_Mo_common ml_Mo_264 rfl rfl (Nat.le_of_ble_eq_true rfl) (by omega) ⟨Nat.le_refl _, Nat.le_refl _⟩ (g_Mo_common (by omega) (M 81 (M 77 n)) (M 81 (M 78 n)) _) (fun r151 M152 kq153 q153 => ?_)
                                          obtain ⟨q153a, q153b⟩ := q153; subst r151; subst M152
                                          replace kq153 : -2147483648 ≤ comV (M 81 (M 77 n)) (M 81 (M 78 n)) ∧ comV (M 81 (M 77 n)) (M 81 (M 78 n)) < 2147483648 := kq153 _ rfl
                                          refine G_ps (pc' := 561) (st' := [vi (comV (M 81 (M 77 n)) (M 81 (M 78 n)))]) rfl rfl ?_
                                          refine G_iret d_Mo_check_561 rfl (tokI (by omega)) rfl rfl ?_
                                          exact ret_e (by unfold checkM kchk; first | grind | grind [isKindB]) rfl
                                        · skip
                                          refine G_iload (i := 2) (n := 5) (len := 1) (Or.inl ⟨2, rfl, rfl, d_Mo_check_539⟩) rfl (G_pc (pc' := 540) rfl ?_)
                                          refine G_bipush (n := 40) d_Mo_check_540 (by decide) (G_pc (pc' := 542) rfl ?_)
                                          refine G_icmp_gt (tgt := 554) d_Mo_check_542 (by decide) (fun h154 => ?_) (fun h154 => G_pc (pc' := 545) rfl ?_)
                                          · skip
                                            refine G_iload (i := 4) (n := 3) (len := 2) (Or.inr ⟨rfl, d_Mo_check_554⟩) rfl (G_pc (pc' := 556) rfl ?_)
                                            refine G_iload (i := 5) (n := 2) (len := 2) (Or.inr ⟨rfl, d_Mo_check_556⟩) rfl (G_pc (pc' := 558) rfl ?_)
                                            refine G_callS (K1 := KE) (d2 := 0) (as := [vi (M 81 (M 77 n)), vi (M 81 (M 78 n))]) (rest := []) d_Mo_check_558 mf_Mo_common ml_Mo_264 rfl rfl (Nat.le_of_ble_eq_true rfl) (by omega) ⟨Nat.le_refl _, Nat.le_refl _⟩ (g_Mo_common (by omega) (M 81 (M 77 n)) (M 81 (M 78 n)) _) (fun r155 M156 kq157 q157 => ?_)
                                            obtain ⟨q157a, q157b⟩ := q157; subst r155; subst M156
                                            replace kq157 : -2147483648 ≤ comV (M 81 (M 77 n)) (M 81 (M 78 n)) ∧ comV (M 81 (M 77 n)) (M 81 (M 78 n)) < 2147483648 := kq157 _ rfl
                                            refine G_ps (pc' := 561) (st' := [vi (comV (M 81 (M 77 n)) (M 81 (M 78 n)))]) rfl rfl ?_
                                            refine G_iret d_Mo_check_561 rfl (tokI (by omega)) rfl rfl ?_
                                            exact ret_e (by unfold checkM kchk; first | grind | grind [isKindB]) rfl
                                          · skip
                                            refine G_iload (i := 4) (n := 3) (len := 2) (Or.inr ⟨rfl, d_Mo_check_545⟩) rfl (G_pc (pc' := 547) rfl ?_)
                                            refine G_iconst (n := 0) d_Mo_check_547 (by decide) (G_pc (pc' := 548) rfl ?_)
                                            refine G_callS (K1 := KE) (d2 := 0) (as := [vi (M 81 (M 77 n)), vi 0]) (rest := []) d_Mo_check_548 mf_Mo_common ml_Mo_264 rfl rfl (Nat.le_of_ble_eq_true rfl) (by omega) ⟨Nat.le_refl _, Nat.le_refl _⟩ (g_Mo_common (by omega) (M 81 (M 77 n)) 0 _) (fun r158 M159 kq160 q160 => ?_)
                                            obtain ⟨q160a, q160b⟩ := q160; subst r158; subst M159
                                            replace kq160 : -2147483648 ≤ comV (M 81 (M 77 n)) 0 ∧ comV (M 81 (M 77 n)) 0 < 2147483648 := kq160 _ rfl
                                            refine G_ps (pc' := 551) (st' := [vi (comV (M 81 (M 77 n)) 0)]) rfl rfl ?_
                                            refine G_goto (tgt := 561) d_Mo_check_551 (by decide) ?_
                                            refine G_iret d_Mo_check_561 rfl (tokI (by omega)) rfl rfl ?_
                                            exact ret_e (by unfold checkM kchk; first | grind | grind [isKindB]) rfl
                                      · skip
                                        refine G_iload (i := 2) (n := 5) (len := 1) (Or.inl ⟨2, rfl, rfl, d_Mo_check_523⟩) rfl (G_pc (pc' := 524) rfl ?_)
                                        refine G_bipush (n := 37) d_Mo_check_524 (by decide) (G_pc (pc' := 526) rfl ?_)
                                        refine G_icmp_gt (tgt := 533) d_Mo_check_526 (by decide) (fun h161 => ?_) (fun h161 => G_pc (pc' := 529) rfl ?_)
                                        · skip
                                          refine G_iload (i := 2) (n := 5) (len := 1) (Or.inl ⟨2, rfl, rfl, d_Mo_check_533⟩) rfl (G_pc (pc' := 534) rfl ?_)
                                          refine G_bipush (n := 38) d_Mo_check_534 (by decide) (G_pc (pc' := 536) rfl ?_)
                                          refine G_icmp_lt (tgt := 554) d_Mo_check_536 (by decide) (fun h162 => ?_) (fun h162 => G_pc (pc' := 539) rfl ?_)
                                          · skip
                                            refine G_iload (i := 4) (n := 3) (len := 2) (Or.inr ⟨rfl, d_Mo_check_554⟩) rfl (G_pc (pc' := 556) rfl ?_)
                                            refine G_iload (i := 5) (n := 2) (len := 2) (Or.inr ⟨rfl, d_Mo_check_556⟩) rfl (G_pc (pc' := 558) rfl ?_)
                                            refine G_callS (K1 := KE) (d2 := 0) (as := [vi (M 81 (M 77 n)), vi (M 81 (M 78 n))]) (rest := []) d_Mo_check_558 mf_Mo_common ml_Mo_264 rfl rfl (Nat.le_of_ble_eq_true rfl) (by omega) ⟨Nat.le_refl _, Nat.le_refl _⟩ (g_Mo_common (by omega) (M 81 (M 77 n)) (M 81 (M 78 n)) _) (fun r163 M164 kq165 q165 => ?_)
                                            obtain ⟨q165a, q165b⟩ := q165; subst r163; subst M164
                                            replace kq165 : -2147483648 ≤ comV (M 81 (M 77 n)) (M 81 (M 78 n)) ∧ comV (M 81 (M 77 n)) (M 81 (M 78 n)) < 2147483648 := kq165 _ rfl
                                            refine G_ps (pc' := 561) (st' := [vi (comV (M 81 (M 77 n)) (M 81 (M 78 n)))]) rfl rfl ?_
                                            refine G_iret d_Mo_check_561 rfl (tokI (by omega)) rfl rfl ?_
                                            exact ret_e (by unfold checkM kchk; first | grind | grind [isKindB]) rfl
                                          · skip
                                            refine G_iload (i := 2) (n := 5) (len := 1) (Or.inl ⟨2, rfl, rfl, d_Mo_check_539⟩) rfl (G_pc (pc' := 540) rfl ?_)
                                            refine G_bipush (n := 40) d_Mo_check_540 (by decide) (G_pc (pc' := 542) rfl ?_)
                                            refine G_icmp_gt (tgt := 554) d_Mo_check_542 (by decide) (fun h166 => ?_) (fun h166 => G_pc (pc' := 545) rfl ?_)
                                            · skip
                                              refine G_iload (i := 4) (n := 3) (len := 2) (Or.inr ⟨rfl, d_Mo_check_554⟩) rfl (G_pc (pc' := 556) rfl ?_)
                                              refine G_iload (i := 5) (n := 2) (len := 2) (Or.inr ⟨rfl, d_Mo_check_556⟩) rfl (G_pc (pc' := 558) rfl ?_)
                                              refine G_callS (K1 := KE) (d2 := 0) (as := [vi (M 81 (M 77 n)), vi (M 81 (M 78 n))]) (rest := []) d_Mo_check_558 mf_Mo_common ml_Mo_264 rfl rfl (Nat.le_of_ble_eq_true rfl) (by omega) ⟨Nat.le_refl _, Nat.le_refl _⟩ (g_Mo_common (by omega) (M 81 (M 77 n)) (M 81 (M 78 n)) _) (fun r167 M168 kq169 q169 => ?_)
                                              obtain ⟨q169a, q169b⟩ := q169; subst r167; subst M168
                                              replace kq169 : -2147483648 ≤ comV (M 81 (M 77 n)) (M 81 (M 78 n)) ∧ comV (M 81 (M 77 n)) (M 81 (M 78 n)) < 2147483648 := kq169 _ rfl
                                              refine G_ps (pc' := 561) (st' := [vi (comV (M 81 (M 77 n)) (M 81 (M 78 n)))]) rfl rfl ?_
                                              refine G_iret d_Mo_check_561 rfl (tokI (by omega)) rfl rfl ?_
                                              exact ret_e (by unfold checkM kchk; first | grind | grind [isKindB]) rfl
                                            · skip
                                              refine G_iload (i := 4) (n := 3) (len := 2) (Or.inr ⟨rfl, d_Mo_check_545⟩) rfl (G_pc (pc' := 547) rfl ?_)
                                              refine G_iconst (n := 0) d_Mo_check_547 (by decide) (G_pc (pc' := 548) rfl ?_)
                                              refine G_callS (K1 := KE) (d2 := 0) (as := [vi (M 81 (M 77 n)), vi 0]) (rest := []) d_Mo_check_548 mf_Mo_common ml_Mo_264 rfl rfl (Nat.le_of_ble_eq_true rfl) (by omega) ⟨Nat.le_refl _, Nat.le_refl _⟩ (g_Mo_common (by omega) (M 81 (M 77 n)) 0 _) (fun r170 M171 kq172 q172 => ?_)
                                              obtain ⟨q172a, q172b⟩ := q172; subst r170; subst M171
                                              replace kq172 : -2147483648 ≤ comV (M 81 (M 77 n)) 0 ∧ comV (M 81 (M 77 n)) 0 < 2147483648 := kq172 _ rfl
                                              refine G_ps (pc' := 551) (st' := [vi (comV (M 81 (M 77 n)) 0)]) rfl rfl ?_
                                              refine G_goto (tgt := 561) d_Mo_check_551 (by decide) ?_
                                              refine G_iret d_Mo_check_561 rfl (tokI (by omega)) rfl rfl ?_
                                              exact ret_e (by unfold checkM kchk; first | grind | grind [isKindB]) rfl
                                        · skip
                                          refine G_iconst (n := 3) d_Mo_check_529 (by decide) (G_pc (pc' := 530) rfl ?_)
                                          refine G_goto (tgt := 561) d_Mo_check_530 (by decide) ?_
                                          refine G_iret d_Mo_check_561 rfl (tokI (by decide)) rfl rfl ?_
                                          exact ret_e (by unfold checkM kchk; first | grind | grind [isKindB]) rfl
                                    · skip
                                      refine G_iload (i := 6) (n := 1) (len := 2) (Or.inr ⟨rfl, d_Mo_check_456⟩) rfl (G_pc (pc' := 458) rfl ?_)
                                      refine G_if_ne (tgt := 477) d_Mo_check_458 (by decide) (fun h173 => ?_) (fun h173 => absurd h173 (by decide))
                                      refine G_iconst (n := 3) d_Mo_check_477 (by decide) (G_pc (pc' := 478) rfl ?_)
                                      refine G_goto (tgt := 482) d_Mo_check_478 (by decide) ?_
                                      refine G_iret d_Mo_check_482 rfl (tokI (by decide)) rfl rfl ?_
                                      exact ret_e (by unfold checkM kchk; first | grind | grind [isKindB]) rfl
                                · skip
                                  refine G_iload (i := 7) (n := 0) (len := 2) (Or.inr ⟨rfl, d_Mo_check_433⟩) rfl (G_pc (pc' := 435) rfl ?_)
                                  refine G_if_eq (tgt := 442) d_Mo_check_435 (by decide) (fun h174 => ?_) (fun h174 => absurd h174 (by decide))
                                  refine G_iconst (n := (-1)) d_Mo_check_442 (by decide) (G_pc (pc' := 443) rfl ?_)
                                  refine G_iret d_Mo_check_443 rfl (tokI (by decide)) rfl rfl ?_
                                  exact ret_e (by unfold checkM kchk; first | grind | grind [isKindB]) rfl
                            · skip
                              refine G_iload (i := 5) (n := 1) (len := 2) (Or.inr ⟨rfl, d_Mo_check_408⟩) rfl (G_pc (pc' := 410) rfl ?_)
                              refine G_iconst (n := 3) d_Mo_check_410 (by decide) (G_pc (pc' := 411) rfl ?_)
                              refine G_icmp_ne (tgt := 418) d_Mo_check_411 (by decide) (fun h175 => ?_) (fun h175 => G_pc (pc' := 414) rfl ?_)
                              · skip
                                refine G_iconst (n := 0) d_Mo_check_418 (by decide) (G_pc (pc' := 419) rfl ?_)
                                refine G_istore (i := 7) (len := 2) (ls' := [(7, vi 0), (6, vi 1), (5, vi (M 81 (M 78 n))), (4, vi (M 81 (M 77 n))), (3, vi (w32 (M 80 n))), (2, vi (M 76 n)), (0, vr 55), (1, vi n)]) (Or.inr ⟨rfl, d_Mo_check_419⟩) (by decide) rfl (G_pc (pc' := 421) rfl ?_)
                                refine G_iload (i := 2) (n := 5) (len := 1) (Or.inl ⟨2, rfl, rfl, d_Mo_check_421⟩) rfl (G_pc (pc' := 422) rfl ?_)
                                refine G_bipush (n := 44) d_Mo_check_422 (by decide) (G_pc (pc' := 424) rfl ?_)
                                refine G_icmp_eq (tgt := 433) d_Mo_check_424 (by decide) (fun h176 => ?_) (fun h176 => G_pc (pc' := 427) rfl ?_)
                                · skip
                                  refine G_iload (i := 7) (n := 0) (len := 2) (Or.inr ⟨rfl, d_Mo_check_433⟩) rfl (G_pc (pc' := 435) rfl ?_)
                                  refine G_if_eq (tgt := 442) d_Mo_check_435 (by decide) (fun h177 => ?_) (fun h177 => absurd h177 (by decide))
                                  refine G_iconst (n := (-1)) d_Mo_check_442 (by decide) (G_pc (pc' := 443) rfl ?_)
                                  refine G_iret d_Mo_check_443 rfl (tokI (by decide)) rfl rfl ?_
                                  exact ret_e (by unfold checkM kchk; first | grind | grind [isKindB]) rfl
                                · skip
                                  refine G_iload (i := 2) (n := 5) (len := 1) (Or.inl ⟨2, rfl, rfl, d_Mo_check_427⟩) rfl (G_pc (pc' := 428) rfl ?_)
                                  refine G_bipush (n := 46) d_Mo_check_428 (by decide) (G_pc (pc' := 430) rfl ?_)
                                  refine G_icmp_ne (tgt := 444) d_Mo_check_430 (by decide) (fun h178 => ?_) (fun h178 => G_pc (pc' := 433) rfl ?_)
                                  · skip
                                    refine G_iload (i := 2) (n := 5) (len := 1) (Or.inl ⟨2, rfl, rfl, d_Mo_check_444⟩) rfl (G_pc (pc' := 445) rfl ?_)
                                    refine G_bipush (n := 41) d_Mo_check_445 (by decide) (G_pc (pc' := 447) rfl ?_)
                                    refine G_icmp_eq (tgt := 456) d_Mo_check_447 (by decide) (fun h179 => ?_) (fun h179 => G_pc (pc' := 450) rfl ?_)
                                    · skip
                                      refine G_iload (i := 6) (n := 1) (len := 2) (Or.inr ⟨rfl, d_Mo_check_456⟩) rfl (G_pc (pc' := 458) rfl ?_)
                                      refine G_if_ne (tgt := 477) d_Mo_check_458 (by decide) (fun h180 => ?_) (fun h180 => absurd h180 (by decide))
                                      refine G_iconst (n := 3) d_Mo_check_477 (by decide) (G_pc (pc' := 478) rfl ?_)
                                      refine G_goto (tgt := 482) d_Mo_check_478 (by decide) ?_
                                      refine G_iret d_Mo_check_482 rfl (tokI (by decide)) rfl rfl ?_
                                      exact ret_e (by unfold checkM kchk; first | grind | grind [isKindB]) rfl
                                    · skip
                                      refine G_iload (i := 2) (n := 5) (len := 1) (Or.inl ⟨2, rfl, rfl, d_Mo_check_450⟩) rfl (G_pc (pc' := 451) rfl ?_)
                                      refine G_bipush (n := 42) d_Mo_check_451 (by decide) (G_pc (pc' := 453) rfl ?_)
                                      refine G_icmp_ne (tgt := 483) d_Mo_check_453 (by decide) (fun h181 => ?_) (fun h181 => G_pc (pc' := 456) rfl ?_)
                                      · skip
                                        refine G_iload (i := 7) (n := 0) (len := 2) (Or.inr ⟨rfl, d_Mo_check_483⟩) rfl (G_pc (pc' := 485) rfl ?_)
                                        refine G_if_eq (tgt := 508) d_Mo_check_485 (by decide) (fun h182 => ?_) (fun h182 => absurd h182 (by decide))
                                        refine G_iload (i := 6) (n := 1) (len := 2) (Or.inr ⟨rfl, d_Mo_check_508⟩) rfl (G_pc (pc' := 510) rfl ?_)
                                        refine G_if_ne (tgt := 517) d_Mo_check_510 (by decide) (fun h183 => ?_) (fun h183 => absurd h183 (by decide))
                                        refine G_iload (i := 2) (n := 5) (len := 1) (Or.inl ⟨2, rfl, rfl, d_Mo_check_517⟩) rfl (G_pc (pc' := 518) rfl ?_)
                                        refine G_bipush (n := 34) d_Mo_check_518 (by decide) (G_pc (pc' := 520) rfl ?_)
                                        refine G_icmp_lt (tgt := 533) d_Mo_check_520 (by decide) (fun h184 => ?_) (fun h184 => G_pc (pc' := 523) rfl ?_)
                                        · skip
                                          refine G_iload (i := 2) (n := 5) (len := 1) (Or.inl ⟨2, rfl, rfl, d_Mo_check_533⟩) rfl (G_pc (pc' := 534) rfl ?_)
                                          refine G_bipush (n := 38) d_Mo_check_534 (by decide) (G_pc (pc' := 536) rfl ?_)
                                          refine G_icmp_lt (tgt := 554) d_Mo_check_536 (by decide) (fun h185 => ?_) (fun h185 => G_pc (pc' := 539) rfl ?_)
                                          · skip
                                            refine G_iload (i := 4) (n := 3) (len := 2) (Or.inr ⟨rfl, d_Mo_check_554⟩) rfl (G_pc (pc' := 556) rfl ?_)
                                            refine G_iload (i := 5) (n := 2) (len := 2) (Or.inr ⟨rfl, d_Mo_check_556⟩) rfl (G_pc (pc' := 558) rfl ?_)
                                            refine G_callS (K1 := KE) (d2 := 0) (as := [vi (M 81 (M 77 n)), vi (M 81 (M 78 n))]) (rest := []) d_Mo_check_558 mf_Mo_common ml_Mo_264 rfl rfl (Nat.le_of_ble_eq_true rfl) (by omega) ⟨Nat.le_refl _, Nat.le_refl _⟩ (g_Mo_common (by omega) (M 81 (M 77 n)) (M 81 (M 78 n)) _) (fun r186 M187 kq188 q188 => ?_)
                                            obtain ⟨q188a, q188b⟩ := q188; subst r186; subst M187
                                            replace kq188 : -2147483648 ≤ comV (M 81 (M 77 n)) (M 81 (M 78 n)) ∧ comV (M 81 (M 77 n)) (M 81 (M 78 n)) < 2147483648 := kq188 _ rfl
                                            refine G_ps (pc' := 561) (st' := [vi (comV (M 81 (M 77 n)) (M 81 (M 78 n)))]) rfl rfl ?_
                                            refine G_iret d_Mo_check_561 rfl (tokI (by omega)) rfl rfl ?_
                                            exact ret_e (by unfold checkM kchk; first | grind | grind [isKindB]) rfl
                                          · skip
                                            refine G_iload (i := 2) (n := 5) (len := 1) (Or.inl ⟨2, rfl, rfl, d_Mo_check_539⟩) rfl (G_pc (pc' := 540) rfl ?_)
                                            refine G_bipush (n := 40) d_Mo_check_540 (by decide) (G_pc (pc' := 542) rfl ?_)
                                            refine G_icmp_gt (tgt := 554) d_Mo_check_542 (by decide) (fun h189 => ?_) (fun h189 => G_pc (pc' := 545) rfl ?_)
                                            · skip
                                              refine G_iload (i := 4) (n := 3) (len := 2) (Or.inr ⟨rfl, d_Mo_check_554⟩) rfl (G_pc (pc' := 556) rfl ?_)
                                              refine G_iload (i := 5) (n := 2) (len := 2) (Or.inr ⟨rfl, d_Mo_check_556⟩) rfl (G_pc (pc' := 558) rfl ?_)
                                              refine G_callS (K1 := KE) (d2 := 0) (as := [vi (M 81 (M 77 n)), vi (M 81 (M 78 n))]) (rest := []) d_Mo_check_558 mf_Mo_common ml_Mo_264 rfl rfl (Nat.le_of_ble_eq_true rfl) (by omega) ⟨Nat.le_refl _, Nat.le_refl _⟩ (g_Mo_common (by omega) (M 81 (M 77 n)) (M 81 (M 78 n)) _) (fun r190 M191 kq192 q192 => ?_)
                                              obtain ⟨q192a, q192b⟩ := q192; subst r190; subst M191
                                              replace kq192 : -2147483648 ≤ comV (M 81 (M 77 n)) (M 81 (M 78 n)) ∧ comV (M 81 (M 77 n)) (M 81 (M 78 n)) < 2147483648 := kq192 _ rfl
                                              refine G_ps (pc' := 561) (st' := [vi (comV (M 81 (M 77 n)) (M 81 (M 78 n)))]) rfl rfl ?_
                                              refine G_iret d_Mo_check_561 rfl (tokI (by omega)) rfl rfl ?_
                                              exact ret_e (by unfold checkM kchk; first | grind | grind [isKindB]) rfl
                                            · skip
                                              refine G_iload (i := 4) (n := 3) (len := 2) (Or.inr ⟨rfl, d_Mo_check_545⟩) rfl (G_pc (pc' := 547) rfl ?_)
                                              refine G_iconst (n := 0) d_Mo_check_547 (by decide) (G_pc (pc' := 548) rfl ?_)
                                              refine G_callS (K1 := KE) (d2 := 0) (as := [vi (M 81 (M 77 n)), vi 0]) (rest := []) d_Mo_check_548 mf_Mo_common ml_Mo_264 rfl rfl (Nat.le_of_ble_eq_true rfl) (by omega) ⟨Nat.le_refl _, Nat.le_refl _⟩ (g_Mo_common (by omega) (M 81 (M 77 n)) 0 _) (fun r193 M194 kq195 q195 => ?_)
                                              obtain ⟨q195a, q195b⟩ := q195; subst r193; subst M194
                                              replace kq195 : -2147483648 ≤ comV (M 81 (M 77 n)) 0 ∧ comV (M 81 (M 77 n)) 0 < 2147483648 := kq195 _ rfl
                                              refine G_ps (pc' := 551) (st' := [vi (comV (M 81 (M 77 n)) 0)]) rfl rfl ?_
                                              refine G_goto (tgt := 561) d_Mo_check_551 (by decide) ?_
                                              refine G_iret d_Mo_check_561 rfl (tokI (by omega)) rfl rfl ?_
                                              exact ret_e (by unfold checkM kchk; first | grind | grind [isKindB]) rfl
                                        · skip
                                          refine G_iload (i := 2) (n := 5) (len := 1) (Or.inl ⟨2, rfl, rfl, d_Mo_check_523⟩) rfl (G_pc (pc' := 524) rfl ?_)
                                          refine G_bipush (n := 37) d_Mo_check_524 (by decide) (G_pc (pc' := 526) rfl ?_)
                                          refine G_icmp_gt (tgt := 533) d_Mo_check_526 (by decide) (fun h196 => ?_) (fun h196 => G_pc (pc' := 529) rfl ?_)
                                          · skip
                                            refine G_iload (i := 2) (n := 5) (len := 1) (Or.inl ⟨2, rfl, rfl, d_Mo_check_533⟩) rfl (G_pc (pc' := 534) rfl ?_)
                                            refine G_bipush (n := 38) d_Mo_check_534 (by decide) (G_pc (pc' := 536) rfl ?_)
                                            refine G_icmp_lt (tgt := 554) d_Mo_check_536 (by decide) (fun h197 => ?_) (fun h197 => G_pc (pc' := 539) rfl ?_)
                                            · skip
                                              refine G_iload (i := 4) (n := 3) (len := 2) (Or.inr ⟨rfl, d_Mo_check_554⟩) rfl (G_pc (pc' := 556) rfl ?_)
                                              refine G_iload (i := 5) (n := 2) (len := 2) (Or.inr ⟨rfl, d_Mo_check_556⟩) rfl (G_pc (pc' := 558) rfl ?_)
                                              refine G_callS (K1 := KE) (d2 := 0) (as := [vi (M 81 (M 77 n)), vi (M 81 (M 78 n))]) (rest := []) d_Mo_check_558 mf_Mo_common ml_Mo_264 rfl rfl (Nat.le_of_ble_eq_true rfl) (by omega) ⟨Nat.le_refl _, Nat.le_refl _⟩ (g_Mo_common (by omega) (M 81 (M 77 n)) (M 81 (M 78 n)) _) (fun r198 M199 kq200 q200 => ?_)
                                              obtain ⟨q200a, q200b⟩ := q200; subst r198; subst M199
                                              replace kq200 : -2147483648 ≤ comV (M 81 (M 77 n)) (M 81 (M 78 n)) ∧ comV (M 81 (M 77 n)) (M 81 (M 78 n)) < 2147483648 := kq200 _ rfl
                                              refine G_ps (pc' := 561) (st' := [vi (comV (M 81 (M 77 n)) (M 81 (M 78 n)))]) rfl rfl ?_
                                              refine G_iret d_Mo_check_561 rfl (tokI (by omega)) rfl rfl ?_
                                              exact ret_e (by unfold checkM kchk; first | grind | grind [isKindB]) rfl
                                            · skip
                                              refine G_iload (i := 2) (n := 5) (len := 1) (Or.inl ⟨2, rfl, rfl, d_Mo_check_539⟩) rfl (G_pc (pc' := 540) rfl ?_)
                                              refine G_bipush (n := 40) d_Mo_check_540 (by decide) (G_pc (pc' := 542) rfl ?_)
                                              refine G_icmp_gt (tgt := 554) d_Mo_check_542 (by decide) (fun h201 => ?_) (fun h201 => G_pc (pc' := 545) rfl ?_)
                                              · skip
                                                refine G_iload (i := 4) (n := 3) (len := 2) (Or.inr ⟨rfl, d_Mo_check_554⟩) rfl (G_pc (pc' := 556) rfl ?_)
                                                refine G_iload (i := 5) (n := 2) (len := 2) (Or.inr ⟨rfl, d_Mo_check_556⟩) rfl (G_pc (pc' := 558) rfl ?_)
                                                refine G_callS (K1 := KE) (d2 := 0) (as := [vi (M 81 (M 77 n)), vi (M 81 (M 78 n))]) (rest := []) d_Mo_check_558 mf_Mo_common ml_Mo_264 rfl rfl (Nat.le_of_ble_eq_true rfl) (by omega) ⟨Nat.le_refl _, Nat.le_refl _⟩ (g_Mo_common (by omega) (M 81 (M 77 n)) (M 81 (M 78 n)) _) (fun r202 M203 kq204 q204 => ?_)
                                                obtain ⟨q204a, q204b⟩ := q204; subst r202; subst M203
                                                replace kq204 : -2147483648 ≤ comV (M 81 (M 77 n)) (M 81 (M 78 n)) ∧ comV (M 81 (M 77 n)) (M 81 (M 78 n)) < 2147483648 := kq204 _ rfl
                                                refine G_ps (pc' := 561) (st' := [vi (comV (M 81 (M 77 n)) (M 81 (M 78 n)))]) rfl rfl ?_
                                                refine G_iret d_Mo_check_561 rfl (tokI (by omega)) rfl rfl ?_
                                                exact ret_e (by unfold checkM kchk; first | grind | grind [isKindB]) rfl
                                              · skip
                                                refine G_iload (i := 4) (n := 3) (len := 2) (Or.inr ⟨rfl, d_Mo_check_545⟩) rfl (G_pc (pc' := 547) rfl ?_)
                                                refine G_iconst (n := 0) d_Mo_check_547 (by decide) (G_pc (pc' := 548) rfl ?_)
                                                refine G_callS (K1 := KE) (d2 := 0) (as := [vi (M 81 (M 77 n)), vi 0]) (rest := []) d_Mo_check_548 mf_Mo_common ml_Mo_264 rfl rfl (Nat.le_of_ble_eq_true rfl) (by omega) ⟨Nat.le_refl _, Nat.le_refl _⟩ (g_Mo_common (by omega) (M 81 (M 77 n)) 0 _) (fun r205 M206 kq207 q207 => ?_)
                                                obtain ⟨q207a, q207b⟩ := q207; subst r205; subst M206
                                                replace kq207 : -2147483648 ≤ comV (M 81 (M 77 n)) 0 ∧ comV (M 81 (M 77 n)) 0 < 2147483648 := kq207 _ rfl
                                                refine G_ps (pc' := 551) (st' := [vi (comV (M 81 (M 77 n)) 0)]) rfl rfl ?_
                                                refine G_goto (tgt := 561) d_Mo_check_551 (by decide) ?_
                                                refine G_iret d_Mo_check_561 rfl (tokI (by omega)) rfl rfl ?_
                                                exact ret_e (by unfold checkM kchk; first | grind | grind [isKindB]) rfl
                                          · skip
                                            refine G_iconst (n := 3) d_Mo_check_529 (by decide) (G_pc (pc' := 530) rfl ?_)
                                            refine G_goto (tgt := 561) d_Mo_check_530 (by decide) ?_
                                            refine G_iret d_Mo_check_561 rfl (tokI (by decide)) rfl rfl ?_
                                            exact ret_e (by unfold checkM kchk; first | grind | grind [isKindB]) rfl
                                      · skip
                                        refine G_iload (i := 6) (n := 1) (len := 2) (Or.inr ⟨rfl, d_Mo_check_456⟩) rfl (G_pc (pc' := 458) rfl ?_)
                                        refine G_if_ne (tgt := 477) d_Mo_check_458 (by decide) (fun h208 => ?_) (fun h208 => absurd h208 (by decide))
                                        refine G_iconst (n := 3) d_Mo_check_477 (by decide) (G_pc (pc' := 478) rfl ?_)
                                        refine G_goto (tgt := 482) d_Mo_check_478 (by decide) ?_
                                        refine G_iret d_Mo_check_482 rfl (tokI (by decide)) rfl rfl ?_
                                        exact ret_e (by unfold checkM kchk; first | grind | grind [isKindB]) rfl
                                  · skip
                                    refine G_iload (i := 7) (n := 0) (len := 2) (Or.inr ⟨rfl, d_Mo_check_433⟩) rfl (G_pc (pc' := 435) rfl ?_)
                                    refine G_if_eq (tgt := 442) d_Mo_check_435 (by decide) (fun h209 => ?_) (fun h209 => absurd h209 (by decide))
                                    refine G_iconst (n := (-1)) d_Mo_check_442 (by decide) (G_pc (pc' := 443) rfl ?_)
                                    refine G_iret d_Mo_check_443 rfl (tokI (by decide)) rfl rfl ?_
                                    exact ret_e (by unfold checkM kchk; first | grind | grind [isKindB]) rfl
                              · skip
                                refine G_iconst (n := 1) d_Mo_check_414 (by decide) (G_pc (pc' := 415) rfl ?_)
                                refine G_goto (tgt := 419) d_Mo_check_415 (by decide) ?_
                                refine G_istore (i := 7) (len := 2) (ls' := [(7, vi 1), (6, vi 1), (5, vi (M 81 (M 78 n))), (4, vi (M 81 (M 77 n))), (3, vi (w32 (M 80 n))), (2, vi (M 76 n)), (0, vr 55), (1, vi n)]) (Or.inr ⟨rfl, d_Mo_check_419⟩) (by decide) rfl (G_pc (pc' := 421) rfl ?_)
                                refine G_iload (i := 2) (n := 5) (len := 1) (Or.inl ⟨2, rfl, rfl, d_Mo_check_421⟩) rfl (G_pc (pc' := 422) rfl ?_)
                                refine G_bipush (n := 44) d_Mo_check_422 (by decide) (G_pc (pc' := 424) rfl ?_)
                                refine G_icmp_eq (tgt := 433) d_Mo_check_424 (by decide) (fun h210 => ?_) (fun h210 => G_pc (pc' := 427) rfl ?_)
                                · skip
                                  refine G_iload (i := 7) (n := 0) (len := 2) (Or.inr ⟨rfl, d_Mo_check_433⟩) rfl (G_pc (pc' := 435) rfl ?_)
                                  refine G_if_eq (tgt := 442) d_Mo_check_435 (by decide) (fun h211 => absurd h211 (by decide)) (fun h211 => G_pc (pc' := 438) rfl ?_)
                                  refine G_iconst (n := 3) d_Mo_check_438 (by decide) (G_pc (pc' := 439) rfl ?_)
                                  refine G_goto (tgt := 443) d_Mo_check_439 (by decide) ?_
                                  refine G_iret d_Mo_check_443 rfl (tokI (by decide)) rfl rfl ?_
                                  exact ret_e (by unfold checkM kchk; first | grind | grind [isKindB]) rfl
                                · skip
                                  refine G_iload (i := 2) (n := 5) (len := 1) (Or.inl ⟨2, rfl, rfl, d_Mo_check_427⟩) rfl (G_pc (pc' := 428) rfl ?_)
                                  refine G_bipush (n := 46) d_Mo_check_428 (by decide) (G_pc (pc' := 430) rfl ?_)
                                  refine G_icmp_ne (tgt := 444) d_Mo_check_430 (by decide) (fun h212 => ?_) (fun h212 => G_pc (pc' := 433) rfl ?_)
                                  · skip
                                    refine G_iload (i := 2) (n := 5) (len := 1) (Or.inl ⟨2, rfl, rfl, d_Mo_check_444⟩) rfl (G_pc (pc' := 445) rfl ?_)
                                    refine G_bipush (n := 41) d_Mo_check_445 (by decide) (G_pc (pc' := 447) rfl ?_)
                                    refine G_icmp_eq (tgt := 456) d_Mo_check_447 (by decide) (fun h213 => ?_) (fun h213 => G_pc (pc' := 450) rfl ?_)
                                    · skip
                                      refine G_iload (i := 6) (n := 1) (len := 2) (Or.inr ⟨rfl, d_Mo_check_456⟩) rfl (G_pc (pc' := 458) rfl ?_)
                                      refine G_if_ne (tgt := 477) d_Mo_check_458 (by decide) (fun h214 => ?_) (fun h214 => absurd h214 (by decide))
                                      refine G_iconst (n := 3) d_Mo_check_477 (by decide) (G_pc (pc' := 478) rfl ?_)
                                      refine G_goto (tgt := 482) d_Mo_check_478 (by decide) ?_
                                      refine G_iret d_Mo_check_482 rfl (tokI (by decide)) rfl rfl ?_
                                      exact ret_e (by unfold checkM kchk; first | grind | grind [isKindB]) rfl
                                    · skip
                                      refine G_iload (i := 2) (n := 5) (len := 1) (Or.inl ⟨2, rfl, rfl, d_Mo_check_450⟩) rfl (G_pc (pc' := 451) rfl ?_)
                                      refine G_bipush (n := 42) d_Mo_check_451 (by decide) (G_pc (pc' := 453) rfl ?_)
                                      refine G_icmp_ne (tgt := 483) d_Mo_check_453 (by decide) (fun h215 => ?_) (fun h215 => G_pc (pc' := 456) rfl ?_)
                                      · skip
                                        refine G_iload (i := 7) (n := 0) (len := 2) (Or.inr ⟨rfl, d_Mo_check_483⟩) rfl (G_pc (pc' := 485) rfl ?_)
                                        refine G_if_eq (tgt := 508) d_Mo_check_485 (by decide) (fun h216 => absurd h216 (by decide)) (fun h216 => G_pc (pc' := 488) rfl ?_)
                                        refine G_iload (i := 2) (n := 5) (len := 1) (Or.inl ⟨2, rfl, rfl, d_Mo_check_488⟩) rfl (G_pc (pc' := 489) rfl ?_)
                                        refine G_bipush (n := 43) d_Mo_check_489 (by decide) (G_pc (pc' := 491) rfl ?_)
                                        refine G_icmp_eq (tgt := 506) d_Mo_check_491 (by decide) (fun h217 => ?_) (fun h217 => G_pc (pc' := 494) rfl ?_)
                                        · skip
                                          refine G_iconst (n := 3) d_Mo_check_506 (by decide) (G_pc (pc' := 507) rfl ?_)
                                          refine G_iret d_Mo_check_507 rfl (tokI (by decide)) rfl rfl ?_
                                          exact ret_e (by unfold checkM kchk; first | grind | grind [isKindB]) rfl
                                        · skip
                                          refine G_iload (i := 2) (n := 5) (len := 1) (Or.inl ⟨2, rfl, rfl, d_Mo_check_494⟩) rfl (G_pc (pc' := 495) rfl ?_)
                                          refine G_bipush (n := 45) d_Mo_check_495 (by decide) (G_pc (pc' := 497) rfl ?_)
                                          refine G_icmp_eq (tgt := 506) d_Mo_check_497 (by decide) (fun h218 => ?_) (fun h218 => G_pc (pc' := 500) rfl ?_)
                                          · skip
                                            refine G_iconst (n := 3) d_Mo_check_506 (by decide) (G_pc (pc' := 507) rfl ?_)
                                            refine G_iret d_Mo_check_507 rfl (tokI (by decide)) rfl rfl ?_
                                            exact ret_e (by unfold checkM kchk; first | grind | grind [isKindB]) rfl
                                          · skip
                                            refine G_iload (i := 2) (n := 5) (len := 1) (Or.inl ⟨2, rfl, rfl, d_Mo_check_500⟩) rfl (G_pc (pc' := 501) rfl ?_)
                                            refine G_bipush (n := 47) d_Mo_check_501 (by decide) (G_pc (pc' := 503) rfl ?_)
                                            refine G_icmp_ne (tgt := 508) d_Mo_check_503 (by decide) (fun h219 => ?_) (fun h219 => G_pc (pc' := 506) rfl ?_)
                                            · skip
                                              refine G_iload (i := 6) (n := 1) (len := 2) (Or.inr ⟨rfl, d_Mo_check_508⟩) rfl (G_pc (pc' := 510) rfl ?_)
                                              refine G_if_ne (tgt := 517) d_Mo_check_510 (by decide) (fun h220 => ?_) (fun h220 => absurd h220 (by decide))
                                              refine G_iload (i := 2) (n := 5) (len := 1) (Or.inl ⟨2, rfl, rfl, d_Mo_check_517⟩) rfl (G_pc (pc' := 518) rfl ?_)
                                              refine G_bipush (n := 34) d_Mo_check_518 (by decide) (G_pc (pc' := 520) rfl ?_)
                                              refine G_icmp_lt (tgt := 533) d_Mo_check_520 (by decide) (fun h221 => ?_) (fun h221 => G_pc (pc' := 523) rfl ?_)
                                              · skip
                                                refine G_iload (i := 2) (n := 5) (len := 1) (Or.inl ⟨2, rfl, rfl, d_Mo_check_533⟩) rfl (G_pc (pc' := 534) rfl ?_)
                                                refine G_bipush (n := 38) d_Mo_check_534 (by decide) (G_pc (pc' := 536) rfl ?_)
                                                refine G_icmp_lt (tgt := 554) d_Mo_check_536 (by decide) (fun h222 => ?_) (fun h222 => G_pc (pc' := 539) rfl ?_)
                                                · skip
                                                  refine G_iload (i := 4) (n := 3) (len := 2) (Or.inr ⟨rfl, d_Mo_check_554⟩) rfl (G_pc (pc' := 556) rfl ?_)
                                                  refine G_iload (i := 5) (n := 2) (len := 2) (Or.inr ⟨rfl, d_Mo_check_556⟩) rfl (G_pc (pc' := 558) rfl ?_)
                                                  refine G_callS (K1 := KE) (d2 := 0) (as := [vi (M 81 (M 77 n)), vi (M 81 (M 78 n))]) (rest := []) d_Mo_check_558 mf_Mo_common ml_Mo_264 rfl rfl (Nat.le_of_ble_eq_true rfl) (by omega) ⟨Nat.le_refl _, Nat.le_refl _⟩ (g_Mo_common (by omega) (M 81 (M 77 n)) (M 81 (M 78 n)) _) (fun r223 M224 kq225 q225 => ?_)
                                                  obtain ⟨q225a, q225b⟩ := q225; subst r223; subst M224
                                                  replace kq225 : -2147483648 ≤ comV (M 81 (M 77 n)) (M 81 (M 78 n)) ∧ comV (M 81 (M 77 n)) (M 81 (M 78 n)) < 2147483648 := kq225 _ rfl
                                                  refine G_ps (pc' := 561) (st' := [vi (comV (M 81 (M 77 n)) (M 81 (M 78 n)))]) rfl rfl ?_
                                                  refine G_iret d_Mo_check_561 rfl (tokI (by omega)) rfl rfl ?_
                                                  exact ret_e (by unfold checkM kchk; first | grind | grind [isKindB]) rfl
                                                · skip
                                                  refine G_iload (i := 2) (n := 5) (len := 1) (Or.inl ⟨2, rfl, rfl, d_Mo_check_539⟩) rfl (G_pc (pc' := 540) rfl ?_)
                                                  refine G_bipush (n := 40) d_Mo_check_540 (by decide) (G_pc (pc' := 542) rfl ?_)
                                                  refine G_icmp_gt (tgt := 554) d_Mo_check_542 (by decide) (fun h226 => ?_) (fun h226 => G_pc (pc' := 545) rfl ?_)
                                                  · skip
                                                    refine G_iload (i := 4) (n := 3) (len := 2) (Or.inr ⟨rfl, d_Mo_check_554⟩) rfl (G_pc (pc' := 556) rfl ?_)
                                                    refine G_iload (i := 5) (n := 2) (len := 2) (Or.inr ⟨rfl, d_Mo_check_556⟩) rfl (G_pc (pc' := 558) rfl ?_)
                                                    refine G_callS (K1 := KE) (d2 := 0) (as := [vi (M 81 (M 77 n)), vi (M 81 (M 78 n))]) (rest := []) d_Mo_check_558 mf_Mo_common ml_Mo_264 rfl rfl (Nat.le_of_ble_eq_true rfl) (by omega) ⟨Nat.le_refl _, Nat.le_refl _⟩ (g_Mo_common (by omega) (M 81 (M 77 n)) (M 81 (M 78 n)) _) (fun r227 M228 kq229 q229 => ?_)
                                                    obtain ⟨q229a, q229b⟩ := q229; subst r227; subst M228
                                                    replace kq229 : -2147483648 ≤ comV (M 81 (M 77 n)) (M 81 (M 78 n)) ∧ comV (M 81 (M 77 n)) (M 81 (M 78 n)) < 2147483648 := kq229 _ rfl
                                                    refine G_ps (pc' := 561) (st' := [vi (comV (M 81 (M 77 n)) (M 81 (M 78 n)))]) rfl rfl ?_
                                                    refine G_iret d_Mo_check_561 rfl (tokI (by omega)) rfl rfl ?_
                                                    exact ret_e (by unfold checkM kchk; first | grind | grind [isKindB]) rfl
                                                  · skip
                                                    refine G_iload (i := 4) (n := 3) (len := 2) (Or.inr ⟨rfl, d_Mo_check_545⟩) rfl (G_pc (pc' := 547) rfl ?_)
                                                    refine G_iconst (n := 0) d_Mo_check_547 (by decide) (G_pc (pc' := 548) rfl ?_)
                                                    refine G_callS (K1 := KE) (d2 := 0) (as := [vi (M 81 (M 77 n)), vi 0]) (rest := []) d_Mo_check_548 mf_Mo_common ml_Mo_264 rfl rfl (Nat.le_of_ble_eq_true rfl) (by omega) ⟨Nat.le_refl _, Nat.le_refl _⟩ (g_Mo_common (by omega) (M 81 (M 77 n)) 0 _) (fun r230 M231 kq232 q232 => ?_)
                                                    obtain ⟨q232a, q232b⟩ := q232; subst r230; subst M231
                                                    replace kq232 : -2147483648 ≤ comV (M 81 (M 77 n)) 0 ∧ comV (M 81 (M 77 n)) 0 < 2147483648 := kq232 _ rfl
                                                    refine G_ps (pc' := 551) (st' := [vi (comV (M 81 (M 77 n)) 0)]) rfl rfl ?_
                                                    refine G_goto (tgt := 561) d_Mo_check_551 (by decide) ?_
                                                    refine G_iret d_Mo_check_561 rfl (tokI (by omega)) rfl rfl ?_
                                                    exact ret_e (by unfold checkM kchk; first | grind | grind [isKindB]) rfl
                                              · skip
                                                refine G_iload (i := 2) (n := 5) (len := 1) (Or.inl ⟨2, rfl, rfl, d_Mo_check_523⟩) rfl (G_pc (pc' := 524) rfl ?_)
                                                refine G_bipush (n := 37) d_Mo_check_524 (by decide) (G_pc (pc' := 526) rfl ?_)
                                                refine G_icmp_gt (tgt := 533) d_Mo_check_526 (by decide) (fun h233 => ?_) (fun h233 => G_pc (pc' := 529) rfl ?_)
                                                · skip
                                                  refine G_iload (i := 2) (n := 5) (len := 1) (Or.inl ⟨2, rfl, rfl, d_Mo_check_533⟩) rfl (G_pc (pc' := 534) rfl ?_)
                                                  refine G_bipush (n := 38) d_Mo_check_534 (by decide) (G_pc (pc' := 536) rfl ?_)
                                                  refine G_icmp_lt (tgt := 554) d_Mo_check_536 (by decide) (fun h234 => ?_) (fun h234 => G_pc (pc' := 539) rfl ?_)
                                                  · skip
                                                    refine G_iload (i := 4) (n := 3) (len := 2) (Or.inr ⟨rfl, d_Mo_check_554⟩) rfl (G_pc (pc' := 556) rfl ?_)
                                                    refine G_iload (i := 5) (n := 2) (len := 2) (Or.inr ⟨rfl, d_Mo_check_556⟩) rfl (G_pc (pc' := 558) rfl ?_)
                                                    refine G_callS (K1 := KE) (d2 := 0) (as := [vi (M 81 (M 77 n)), vi (M 81 (M 78 n))]) (rest := []) d_Mo_check_558 mf_Mo_common ml_Mo_264 rfl rfl (Nat.le_of_ble_eq_true rfl) (by omega) ⟨Nat.le_refl _, Nat.le_refl _⟩ (g_Mo_common (by omega) (M 81 (M 77 n)) (M 81 (M 78 n)) _) (fun r235 M236 kq237 q237 => ?_)
                                                    obtain ⟨q237a, q237b⟩ := q237; subst r235; subst M236
                                                    replace kq237 : -2147483648 ≤ comV (M 81 (M 77 n)) (M 81 (M 78 n)) ∧ comV (M 81 (M 77 n)) (M 81 (M 78 n)) < 2147483648 := kq237 _ rfl
                                                    refine G_ps (pc' := 561) (st' := [vi (comV (M 81 (M 77 n)) (M 81 (M 78 n)))]) rfl rfl ?_
                                                    refine G_iret d_Mo_check_561 rfl (tokI (by omega)) rfl rfl ?_
                                                    exact ret_e (by unfold checkM kchk; first | grind | grind [isKindB]) rfl
                                                  · skip
                                                    refine G_iload (i := 2) (n := 5) (len := 1) (Or.inl ⟨2, rfl, rfl, d_Mo_check_539⟩) rfl (G_pc (pc' := 540) rfl ?_)
                                                    refine G_bipush (n := 40) d_Mo_check_540 (by decide) (G_pc (pc' := 542) rfl ?_)
                                                    refine G_icmp_gt (tgt := 554) d_Mo_check_542 (by decide) (fun h238 => ?_) (fun h238 => G_pc (pc' := 545) rfl ?_)
                                                    · skip
                                                      refine G_iload (i := 4) (n := 3) (len := 2) (Or.inr ⟨rfl, d_Mo_check_554⟩) rfl (G_pc (pc' := 556) rfl ?_)
                                                      refine G_iload (i := 5) (n := 2) (len := 2) (Or.inr ⟨rfl, d_Mo_check_556⟩) rfl (G_pc (pc' := 558) rfl ?_)
                                                      refine G_callS (K1 := KE) (d2 := 0) (as := [vi (M 81 (M 77 n)), vi (M 81 (M 78 n))]) (rest := []) d_Mo_check_558 mf_Mo_common ml_Mo_264 rfl rfl (Nat.le_of_ble_eq_true rfl) (by omega) ⟨Nat.le_refl _, Nat.le_refl _⟩ (g_Mo_common (by omega) (M 81 (M 77 n)) (M 81 (M 78 n)) _) (fun r239 M240 kq241 q241 => ?_)
                                                      obtain ⟨q241a, q241b⟩ := q241; subst r239; subst M240
                                                      replace kq241 : -2147483648 ≤ comV (M 81 (M 77 n)) (M 81 (M 78 n)) ∧ comV (M 81 (M 77 n)) (M 81 (M 78 n)) < 2147483648 := kq241 _ rfl
                                                      refine G_ps (pc' := 561) (st' := [vi (comV (M 81 (M 77 n)) (M 81 (M 78 n)))]) rfl rfl ?_
                                                      refine G_iret d_Mo_check_561 rfl (tokI (by omega)) rfl rfl ?_
                                                      exact ret_e (by unfold checkM kchk; first | grind | grind [isKindB]) rfl
                                                    · skip
                                                      refine G_iload (i := 4) (n := 3) (len := 2) (Or.inr ⟨rfl, d_Mo_check_545⟩) rfl (G_pc (pc' := 547) rfl ?_)
                                                      refine G_iconst (n := 0) d_Mo_check_547 (by decide) (G_pc (pc' := 548) rfl ?_)
                                                      refine G_callS (K1 := KE) (d2 := 0) (as := [vi (M 81 (M 77 n)), vi 0]) (rest := []) d_Mo_check_548 mf_Mo_common ml_Mo_264 rfl rfl (Nat.le_of_ble_eq_true rfl) (by omega) ⟨Nat.le_refl _, Nat.le_refl _⟩ (g_Mo_common (by omega) (M 81 (M 77 n)) 0 _) (fun r242 M243 kq244 q244 => ?_)
                                                      obtain ⟨q244a, q244b⟩ := q244; subst r242; subst M243
                                                      replace kq244 : -2147483648 ≤ comV (M 81 (M 77 n)) 0 ∧ comV (M 81 (M 77 n)) 0 < 2147483648 := kq244 _ rfl
                                                      refine G_ps (pc' := 551) (st' := [vi (comV (M 81 (M 77 n)) 0)]) rfl rfl ?_
                                                      refine G_goto (tgt := 561) d_Mo_check_551 (by decide) ?_
                                                      refine G_iret d_Mo_check_561 rfl (tokI (by omega)) rfl rfl ?_
                                                      exact ret_e (by unfold checkM kchk; first | grind | grind [isKindB]) rfl
                                                · skip
                                                  refine G_iconst (n := 3) d_Mo_check_529 (by decide) (G_pc (pc' := 530) rfl ?_)
                                                  refine G_goto (tgt := 561) d_Mo_check_530 (by decide) ?_
                                                  refine G_iret d_Mo_check_561 rfl (tokI (by decide)) rfl rfl ?_
                                                  exact ret_e (by unfold checkM kchk; first | grind | grind [isKindB]) rfl
                                            · skip
                                              refine G_iconst (n := 3) d_Mo_check_506 (by decide) (G_pc (pc' := 507) rfl ?_)
                                              refine G_iret d_Mo_check_507 rfl (tokI (by decide)) rfl rfl ?_
                                              exact ret_e (by unfold checkM kchk; first | grind | grind [isKindB]) rfl
                                      · skip
                                        refine G_iload (i := 6) (n := 1) (len := 2) (Or.inr ⟨rfl, d_Mo_check_456⟩) rfl (G_pc (pc' := 458) rfl ?_)
                                        refine G_if_ne (tgt := 477) d_Mo_check_458 (by decide) (fun h245 => ?_) (fun h245 => absurd h245 (by decide))
                                        refine G_iconst (n := 3) d_Mo_check_477 (by decide) (G_pc (pc' := 478) rfl ?_)
                                        refine G_goto (tgt := 482) d_Mo_check_478 (by decide) ?_
                                        refine G_iret d_Mo_check_482 rfl (tokI (by decide)) rfl rfl ?_
                                        exact ret_e (by unfold checkM kchk; first | grind | grind [isKindB]) rfl
                                  · skip
                                    refine G_iload (i := 7) (n := 0) (len := 2) (Or.inr ⟨rfl, d_Mo_check_433⟩) rfl (G_pc (pc' := 435) rfl ?_)
                                    refine G_if_eq (tgt := 442) d_Mo_check_435 (by decide) (fun h246 => absurd h246 (by decide)) (fun h246 => G_pc (pc' := 438) rfl ?_)
                                    refine G_iconst (n := 3) d_Mo_check_438 (by decide) (G_pc (pc' := 439) rfl ?_)
                                    refine G_goto (tgt := 443) d_Mo_check_439 (by decide) ?_
                                    refine G_iret d_Mo_check_443 rfl (tokI (by decide)) rfl rfl ?_
                                    exact ret_e (by unfold checkM kchk; first | grind | grind [isKindB]) rfl
                      · skip
                        refine G_iload (i := 4) (n := 1) (len := 2) (Or.inr ⟨rfl, d_Mo_check_351⟩) rfl (G_pc (pc' := 353) rfl ?_)
                        refine G_iconst (n := 3) d_Mo_check_353 (by decide) (G_pc (pc' := 354) rfl ?_)
                        refine G_icmp_ne (tgt := 377) d_Mo_check_354 (by decide) (fun h247 => ?_) (fun h247 => G_pc (pc' := 357) rfl ?_)
                        · skip
                          refine G_iconst (n := (-1)) d_Mo_check_377 (by decide) (G_pc (pc' := 378) rfl ?_)
                          refine G_iret d_Mo_check_378 rfl (tokI (by decide)) rfl rfl ?_
                          exact ret_e (by unfold checkM kchk; first | grind | grind [isKindB]) rfl
                        · skip
                          have h3x := hq3 (by omega)
                          refine G_aload (i := 0) (n := 4) (len := 1) (Or.inl ⟨0, rfl, rfl, d_Mo_check_357⟩) rfl (by decide) (G_pc (pc' := 358) rfl ?_)
                          refine G_iload (i := 5) (n := 0) (len := 2) (Or.inr ⟨rfl, d_Mo_check_358⟩) rfl (G_pc (pc' := 360) rfl ?_)
                          refine G_aload (i := 0) (n := 4) (len := 1) (Or.inl ⟨0, rfl, rfl, d_Mo_check_360⟩) rfl (by decide) (G_pc (pc' := 361) rfl ?_)
                          refine G_get (o := 55) (c := 9) (k := 34) (v := 81) d_Mo_check_361 fl_Mo_87 rfl (by decide) (by decide) rfl rfl (G_pc (pc' := 364) rfl ?_)
                          refine G_aload (i := 0) (n := 4) (len := 1) (Or.inl ⟨0, rfl, rfl, d_Mo_check_364⟩) rfl (by decide) (G_pc (pc' := 365) rfl ?_)
                          refine G_get (o := 55) (c := 9) (k := 32) (v := 79) d_Mo_check_365 fl_Mo_81 rfl (by decide) (by decide) rfl rfl (G_pc (pc' := 368) rfl ?_)
                          refine G_iload (i := 1) (n := 5) (len := 1) (Or.inl ⟨1, rfl, rfl, d_Mo_check_368⟩) rfl (G_pc (pc' := 369) rfl ?_)
                          refine G_iaload (o := 79) (n := 32) (i := n) (v := M 79 n) d_Mo_check_369 rfl ⟨by decide, by decide⟩ (by omega) (rd_arr rfl) (fun t248 => G_pc (pc' := 370) rfl ?_)
                          have t248 := tok_i t248
                          refine G_iaload (o := 81) (n := 32) (i := M 79 n) (v := M 81 (M 79 n)) d_Mo_check_370 rfl ⟨by decide, by decide⟩ (by omega) (rd_arr rfl) (fun t249 => G_pc (pc' := 371) rfl ?_)
                          have t249 := tok_i t249
                          refine G_callV (K1 := KE) (d2 := 3) (o := 55) (cl := 9) (as := [vi (M 81 (M 78 n)), vi (M 81 (M 79 n))]) (rest := []) d_Mo_check_371 mf_Mo_either ml_Mo_270 rfl rfl (by decide) rfl rfl (Nat.le_of_ble_eq_true rfl) (by omega) ⟨Nat.le_refl _, Nat.le_refl _⟩ (g_Mo_either (by omega) (M 81 (M 78 n)) (M 81 (M 79 n)) _ hP (by omega) (by omega)) (fun r250 M251 kq252 q252 => ?_)
                          obtain ⟨q252a, q252b⟩ := q252; subst r250; subst M251
                          replace kq252 : -2147483648 ≤ eithV M (M 81 (M 78 n)) (M 81 (M 79 n)) ∧ eithV M (M 81 (M 78 n)) (M 81 (M 79 n)) < 2147483648 := kq252 _ rfl
                          refine G_ps (pc' := 374) (st' := [vi (eithV M (M 81 (M 78 n)) (M 81 (M 79 n)))]) rfl rfl ?_
                          refine G_goto (tgt := 378) d_Mo_check_374 (by decide) ?_
                          refine G_iret d_Mo_check_378 rfl (tokI (by omega)) rfl rfl ?_
                          exact ret_e (by unfold checkM kchk; first | grind | grind [isKindB]) rfl
                    · skip
                      refine G_iload (i := 4) (n := 1) (len := 2) (Or.inr ⟨rfl, d_Mo_check_310⟩) rfl (G_pc (pc' := 312) rfl ?_)
                      refine G_bipush (n := 10) d_Mo_check_312 (by decide) (G_pc (pc' := 314) rfl ?_)
                      refine G_icmp_lt (tgt := 343) d_Mo_check_314 (by decide) (fun h253 => ?_) (fun h253 => G_pc (pc' := 317) rfl ?_)
                      · skip
                        refine G_iconst (n := (-1)) d_Mo_check_343 (by decide) (G_pc (pc' := 344) rfl ?_)
                        refine G_iret d_Mo_check_344 rfl (tokI (by decide)) rfl rfl ?_
                        exact ret_e (by unfold checkM kchk; first | grind | grind [isKindB]) rfl
                      · skip
                        refine G_iload (i := 4) (n := 1) (len := 2) (Or.inr ⟨rfl, d_Mo_check_317⟩) rfl (G_pc (pc' := 319) rfl ?_)
                        refine G_bipush (n := 17) d_Mo_check_319 (by decide) (G_pc (pc' := 321) rfl ?_)
                        refine G_icmp_ge (tgt := 343) d_Mo_check_321 (by decide) (fun h254 => ?_) (fun h254 => G_pc (pc' := 324) rfl ?_)
                        · skip
                          refine G_iconst (n := (-1)) d_Mo_check_343 (by decide) (G_pc (pc' := 344) rfl ?_)
                          refine G_iret d_Mo_check_344 rfl (tokI (by decide)) rfl rfl ?_
                          exact ret_e (by unfold checkM kchk; first | grind | grind [isKindB]) rfl
                        · skip
                          refine G_iload (i := 5) (n := 0) (len := 2) (Or.inr ⟨rfl, d_Mo_check_324⟩) rfl (G_pc (pc' := 326) rfl ?_)
                          refine G_if_eq (tgt := 335) d_Mo_check_326 (by decide) (fun h255 => ?_) (fun h255 => G_pc (pc' := 329) rfl ?_)
                          · skip
                            refine G_iload (i := 4) (n := 1) (len := 2) (Or.inr ⟨rfl, d_Mo_check_335⟩) rfl (G_pc (pc' := 337) rfl ?_)
                            refine G_callS (K1 := KE) (d2 := 0) (as := [vi (M 81 (M 77 n))]) (rest := []) d_Mo_check_337 mf_Mo_elementOf ml_Mo_146 rfl rfl (Nat.le_of_ble_eq_true rfl) (by omega) ⟨Nat.le_refl _, Nat.le_refl _⟩ (g_Mo_elementOf (by omega) (M 81 (M 77 n)) _ (by omega)) (fun r256 M257 kq258 q258 => ?_)
                            obtain ⟨q258a, q258b⟩ := q258; subst r256; subst M257
                            replace kq258 : -2147483648 ≤ elemM (M 81 (M 77 n)) ∧ elemM (M 81 (M 77 n)) < 2147483648 := kq258 _ rfl
                            refine G_ps (pc' := 340) (st' := [vi (elemM (M 81 (M 77 n)))]) rfl rfl ?_
                            refine G_goto (tgt := 344) d_Mo_check_340 (by decide) ?_
                            refine G_iret d_Mo_check_344 rfl (tokI (by omega)) rfl rfl ?_
                            exact ret_e (by unfold checkM kchk; first | grind | grind [isKindB]) rfl
                          · skip
                            refine G_iload (i := 5) (n := 0) (len := 2) (Or.inr ⟨rfl, d_Mo_check_329⟩) rfl (G_pc (pc' := 331) rfl ?_)
                            refine G_iconst (n := 2) d_Mo_check_331 (by decide) (G_pc (pc' := 332) rfl ?_)
                            refine G_icmp_ne (tgt := 343) d_Mo_check_332 (by decide) (fun h259 => ?_) (fun h259 => G_pc (pc' := 335) rfl ?_)
                            · skip
                              refine G_iconst (n := (-1)) d_Mo_check_343 (by decide) (G_pc (pc' := 344) rfl ?_)
                              refine G_iret d_Mo_check_344 rfl (tokI (by decide)) rfl rfl ?_
                              exact ret_e (by unfold checkM kchk; first | grind | grind [isKindB]) rfl
                            · skip
                              refine G_iload (i := 4) (n := 1) (len := 2) (Or.inr ⟨rfl, d_Mo_check_335⟩) rfl (G_pc (pc' := 337) rfl ?_)
                              refine G_callS (K1 := KE) (d2 := 0) (as := [vi (M 81 (M 77 n))]) (rest := []) d_Mo_check_337 mf_Mo_elementOf ml_Mo_146 rfl rfl (Nat.le_of_ble_eq_true rfl) (by omega) ⟨Nat.le_refl _, Nat.le_refl _⟩ (g_Mo_elementOf (by omega) (M 81 (M 77 n)) _ (by omega)) (fun r260 M261 kq262 q262 => ?_)
                              obtain ⟨q262a, q262b⟩ := q262; subst r260; subst M261
                              replace kq262 : -2147483648 ≤ elemM (M 81 (M 77 n)) ∧ elemM (M 81 (M 77 n)) < 2147483648 := kq262 _ rfl
                              refine G_ps (pc' := 340) (st' := [vi (elemM (M 81 (M 77 n)))]) rfl rfl ?_
                              refine G_goto (tgt := 344) d_Mo_check_340 (by decide) ?_
                              refine G_iret d_Mo_check_344 rfl (tokI (by omega)) rfl rfl ?_
                              exact ret_e (by unfold checkM kchk; first | grind | grind [isKindB]) rfl
                  · skip
                    refine G_aload (i := 0) (n := 3) (len := 1) (Or.inl ⟨0, rfl, rfl, d_Mo_check_241⟩) rfl (by decide) (G_pc (pc' := 242) rfl ?_)
                    refine G_iload (i := 3) (n := 1) (len := 1) (Or.inl ⟨3, rfl, rfl, d_Mo_check_242⟩) rfl (G_pc (pc' := 243) rfl ?_)
                    refine G_callV (K1 := KE) (d2 := 1) (o := 55) (cl := 9) (as := [vi (w32 (M 80 n))]) (rest := []) d_Mo_check_243 mf_Mo_isKind ml_Mo_127 rfl rfl (by decide) rfl rfl (Nat.le_of_ble_eq_true rfl) (by omega) ⟨Nat.le_refl _, Nat.le_refl _⟩ (g_Mo_isKind (by omega) (w32 (M 80 n)) _ hc) (fun r263 M264 kq265 q265 => ?_)
                    clear kq265; obtain ⟨q265a, q265b⟩ := q265; subst r263; subst M264
                    refine G_ps (pc' := 246) (st' := [vi (b2i (isKindB (M 55 0) (w32 (M 80 n))))]) rfl rfl ?_
                    refine G_if_eq (tgt := 289) d_Mo_check_246 (by decide) (fun h266 => ?_) (fun h266 => G_pc (pc' := 249) rfl ?_)
                    · skip
                      replace h266 := b2i_0.mp h266
                      replace h266 := isKindB_f.mp h266
                      refine G_iconst (n := (-1)) d_Mo_check_289 (by decide) (G_pc (pc' := 290) rfl ?_)
                      refine G_iret d_Mo_check_290 rfl (tokI (by decide)) rfl rfl ?_
                      exact ret_e (by unfold checkM kchk; first | grind | grind [isKindB]) rfl
                    · skip
                      replace h266 := b2i_nz.mp h266
                      replace h266 := isKindB_t.mp h266
                      refine G_iload (i := 4) (n := 0) (len := 2) (Or.inr ⟨rfl, d_Mo_check_249⟩) rfl (G_pc (pc' := 251) rfl ?_)
                      refine G_callS (K1 := KE) (d2 := 0) (as := [vi (M 81 (M 77 n))]) (rest := []) d_Mo_check_251 mf_Mo_numeric ml_Mo_261 rfl rfl (Nat.le_of_ble_eq_true rfl) (by omega) ⟨Nat.le_refl _, Nat.le_refl _⟩ (g_Mo_numeric (by omega) (M 81 (M 77 n)) _) (fun r267 M268 kq269 q269 => ?_)
                      clear kq269; obtain ⟨q269a, q269b⟩ := q269; subst r267; subst M268
                      refine G_ps (pc' := 254) (st' := [vi (b2i (numB (M 81 (M 77 n))))]) rfl rfl ?_
                      refine G_if_eq (tgt := 264) d_Mo_check_254 (by decide) (fun h270 => ?_) (fun h270 => G_pc (pc' := 257) rfl ?_)
                      · skip
                        replace h270 := b2i_0.mp h270
                        replace h270 := numB_f.mp h270
                        refine G_iload (i := 4) (n := 0) (len := 2) (Or.inr ⟨rfl, d_Mo_check_264⟩) rfl (G_pc (pc' := 266) rfl ?_)
                        refine G_iconst (n := 3) d_Mo_check_266 (by decide) (G_pc (pc' := 267) rfl ?_)
                        refine G_icmp_ne (tgt := 275) d_Mo_check_267 (by decide) (fun h271 => ?_) (fun h271 => G_pc (pc' := 270) rfl ?_)
                        · skip
                          refine G_aload (i := 0) (n := 3) (len := 1) (Or.inl ⟨0, rfl, rfl, d_Mo_check_275⟩) rfl (by decide) (G_pc (pc' := 276) rfl ?_)
                          refine G_iload (i := 4) (n := 0) (len := 2) (Or.inr ⟨rfl, d_Mo_check_276⟩) rfl (G_pc (pc' := 278) rfl ?_)
                          refine G_iload (i := 3) (n := 1) (len := 1) (Or.inl ⟨3, rfl, rfl, d_Mo_check_278⟩) rfl (G_pc (pc' := 279) rfl ?_)
                          refine G_callV (K1 := KE) (d2 := 2) (o := 55) (cl := 9) (as := [vi (M 81 (M 77 n)), vi (w32 (M 80 n))]) (rest := []) d_Mo_check_279 mf_Mo_related ml_Mo_267 rfl rfl (by decide) rfl rfl (Nat.le_of_ble_eq_true rfl) (by omega) ⟨Nat.le_refl _, Nat.le_refl _⟩ (g_Mo_related (by omega) (M 81 (M 77 n)) (w32 (M 80 n)) _ hP (by omega) (by omega)) (fun r272 M273 kq274 q274 => ?_)
                          clear kq274; obtain ⟨q274a, q274b⟩ := q274; subst r272; subst M273
                          refine G_ps (pc' := 282) (st' := [vi (b2i (relB M (M 81 (M 77 n)) (w32 (M 80 n))))]) rfl rfl ?_
                          refine G_if_eq (tgt := 289) d_Mo_check_282 (by decide) (fun h275 => ?_) (fun h275 => G_pc (pc' := 285) rfl ?_)
                          · skip
                            replace h275 := b2i_0.mp h275
                            refine G_iconst (n := (-1)) d_Mo_check_289 (by decide) (G_pc (pc' := 290) rfl ?_)
                            refine G_iret d_Mo_check_290 rfl (tokI (by decide)) rfl rfl ?_
                            exact ret_e (by unfold checkM kchk; first | grind | grind [isKindB]) rfl
                          · skip
                            replace h275 := b2i_nz.mp h275
                            refine G_iload (i := 3) (n := 1) (len := 1) (Or.inl ⟨3, rfl, rfl, d_Mo_check_285⟩) rfl (G_pc (pc' := 286) rfl ?_)
                            refine G_goto (tgt := 290) d_Mo_check_286 (by decide) ?_
                            refine G_iret d_Mo_check_290 rfl (tokI (by omega)) rfl rfl ?_
                            exact ret_e (by unfold checkM kchk; first | grind | grind [isKindB]) rfl
                        · skip
                          refine G_iload (i := 3) (n := 1) (len := 1) (Or.inl ⟨3, rfl, rfl, d_Mo_check_270⟩) rfl (G_pc (pc' := 271) rfl ?_)
                          refine G_iconst (n := 3) d_Mo_check_271 (by decide) (G_pc (pc' := 272) rfl ?_)
                          refine G_icmp_eq (tgt := 285) d_Mo_check_272 (by decide) (fun h276 => ?_) (fun h276 => G_pc (pc' := 275) rfl ?_)
                          · skip
                            refine G_iload (i := 3) (n := 1) (len := 1) (Or.inl ⟨3, rfl, rfl, d_Mo_check_285⟩) rfl (G_pc (pc' := 286) rfl ?_)
                            refine G_goto (tgt := 290) d_Mo_check_286 (by decide) ?_
                            refine G_iret d_Mo_check_290 rfl (tokI (by omega)) rfl rfl ?_
                            exact ret_e (by unfold checkM kchk; first | grind | grind [isKindB]) rfl
                          · skip
                            refine G_aload (i := 0) (n := 3) (len := 1) (Or.inl ⟨0, rfl, rfl, d_Mo_check_275⟩) rfl (by decide) (G_pc (pc' := 276) rfl ?_)
                            refine G_iload (i := 4) (n := 0) (len := 2) (Or.inr ⟨rfl, d_Mo_check_276⟩) rfl (G_pc (pc' := 278) rfl ?_)
                            refine G_iload (i := 3) (n := 1) (len := 1) (Or.inl ⟨3, rfl, rfl, d_Mo_check_278⟩) rfl (G_pc (pc' := 279) rfl ?_)
                            refine G_callV (K1 := KE) (d2 := 2) (o := 55) (cl := 9) (as := [vi (M 81 (M 77 n)), vi (w32 (M 80 n))]) (rest := []) d_Mo_check_279 mf_Mo_related ml_Mo_267 rfl rfl (by decide) rfl rfl (Nat.le_of_ble_eq_true rfl) (by omega) ⟨Nat.le_refl _, Nat.le_refl _⟩ (g_Mo_related (by omega) (M 81 (M 77 n)) (w32 (M 80 n)) _ hP (by omega) (by omega)) (fun r277 M278 kq279 q279 => ?_)
                            clear kq279; obtain ⟨q279a, q279b⟩ := q279; subst r277; subst M278
                            refine G_ps (pc' := 282) (st' := [vi (b2i (relB M (M 81 (M 77 n)) (w32 (M 80 n))))]) rfl rfl ?_
                            refine G_if_eq (tgt := 289) d_Mo_check_282 (by decide) (fun h280 => ?_) (fun h280 => G_pc (pc' := 285) rfl ?_)
                            · skip
                              replace h280 := b2i_0.mp h280
                              refine G_iconst (n := (-1)) d_Mo_check_289 (by decide) (G_pc (pc' := 290) rfl ?_)
                              refine G_iret d_Mo_check_290 rfl (tokI (by decide)) rfl rfl ?_
                              exact ret_e (by unfold checkM kchk; first | grind | grind [isKindB]) rfl
                            · skip
                              replace h280 := b2i_nz.mp h280
                              refine G_iload (i := 3) (n := 1) (len := 1) (Or.inl ⟨3, rfl, rfl, d_Mo_check_285⟩) rfl (G_pc (pc' := 286) rfl ?_)
                              refine G_goto (tgt := 290) d_Mo_check_286 (by decide) ?_
                              refine G_iret d_Mo_check_290 rfl (tokI (by omega)) rfl rfl ?_
                              exact ret_e (by unfold checkM kchk; first | grind | grind [isKindB]) rfl
                      · skip
                        replace h270 := b2i_nz.mp h270
                        replace h270 := numB_t.mp h270
                        refine G_iload (i := 3) (n := 1) (len := 1) (Or.inl ⟨3, rfl, rfl, d_Mo_check_257⟩) rfl (G_pc (pc' := 258) rfl ?_)
                        refine G_callS (K1 := KE) (d2 := 0) (as := [vi (w32 (M 80 n))]) (rest := []) d_Mo_check_258 mf_Mo_numeric ml_Mo_261 rfl rfl (Nat.le_of_ble_eq_true rfl) (by omega) ⟨Nat.le_refl _, Nat.le_refl _⟩ (g_Mo_numeric (by omega) (w32 (M 80 n)) _) (fun r281 M282 kq283 q283 => ?_)
                        clear kq283; obtain ⟨q283a, q283b⟩ := q283; subst r281; subst M282
                        refine G_ps (pc' := 261) (st' := [vi (b2i (numB (w32 (M 80 n))))]) rfl rfl ?_
                        refine G_if_ne (tgt := 285) d_Mo_check_261 (by decide) (fun h284 => ?_) (fun h284 => G_pc (pc' := 264) rfl ?_)
                        · skip
                          replace h284 := b2i_nz.mp h284
                          replace h284 := numB_t.mp h284
                          refine G_iload (i := 3) (n := 1) (len := 1) (Or.inl ⟨3, rfl, rfl, d_Mo_check_285⟩) rfl (G_pc (pc' := 286) rfl ?_)
                          refine G_goto (tgt := 290) d_Mo_check_286 (by decide) ?_
                          refine G_iret d_Mo_check_290 rfl (tokI (by omega)) rfl rfl ?_
                          exact ret_e (by unfold checkM kchk; first | grind | grind [isKindB]) rfl
                        · skip
                          replace h284 := b2i_0.mp h284
                          replace h284 := numB_f.mp h284
                          refine G_iload (i := 4) (n := 0) (len := 2) (Or.inr ⟨rfl, d_Mo_check_264⟩) rfl (G_pc (pc' := 266) rfl ?_)
                          refine G_iconst (n := 3) d_Mo_check_266 (by decide) (G_pc (pc' := 267) rfl ?_)
                          refine G_icmp_ne (tgt := 275) d_Mo_check_267 (by decide) (fun h285 => ?_) (fun h285 => G_pc (pc' := 270) rfl ?_)
                          · skip
                            refine G_aload (i := 0) (n := 3) (len := 1) (Or.inl ⟨0, rfl, rfl, d_Mo_check_275⟩) rfl (by decide) (G_pc (pc' := 276) rfl ?_)
                            refine G_iload (i := 4) (n := 0) (len := 2) (Or.inr ⟨rfl, d_Mo_check_276⟩) rfl (G_pc (pc' := 278) rfl ?_)
                            refine G_iload (i := 3) (n := 1) (len := 1) (Or.inl ⟨3, rfl, rfl, d_Mo_check_278⟩) rfl (G_pc (pc' := 279) rfl ?_)
                            refine G_callV (K1 := KE) (d2 := 2) (o := 55) (cl := 9) (as := [vi (M 81 (M 77 n)), vi (w32 (M 80 n))]) (rest := []) d_Mo_check_279 mf_Mo_related ml_Mo_267 rfl rfl (by decide) rfl rfl (Nat.le_of_ble_eq_true rfl) (by omega) ⟨Nat.le_refl _, Nat.le_refl _⟩ (g_Mo_related (by omega) (M 81 (M 77 n)) (w32 (M 80 n)) _ hP (by omega) (by omega)) (fun r286 M287 kq288 q288 => ?_)
                            clear kq288; obtain ⟨q288a, q288b⟩ := q288; subst r286; subst M287
                            refine G_ps (pc' := 282) (st' := [vi (b2i (relB M (M 81 (M 77 n)) (w32 (M 80 n))))]) rfl rfl ?_
                            refine G_if_eq (tgt := 289) d_Mo_check_282 (by decide) (fun h289 => ?_) (fun h289 => G_pc (pc' := 285) rfl ?_)
                            · skip
                              replace h289 := b2i_0.mp h289
                              refine G_iconst (n := (-1)) d_Mo_check_289 (by decide) (G_pc (pc' := 290) rfl ?_)
                              refine G_iret d_Mo_check_290 rfl (tokI (by decide)) rfl rfl ?_
                              exact ret_e (by unfold checkM kchk; first | grind | grind [isKindB]) rfl
                            · skip
                              replace h289 := b2i_nz.mp h289
                              refine G_iload (i := 3) (n := 1) (len := 1) (Or.inl ⟨3, rfl, rfl, d_Mo_check_285⟩) rfl (G_pc (pc' := 286) rfl ?_)
                              refine G_goto (tgt := 290) d_Mo_check_286 (by decide) ?_
                              refine G_iret d_Mo_check_290 rfl (tokI (by omega)) rfl rfl ?_
                              exact ret_e (by unfold checkM kchk; first | grind | grind [isKindB]) rfl
                          · skip
                            refine G_iload (i := 3) (n := 1) (len := 1) (Or.inl ⟨3, rfl, rfl, d_Mo_check_270⟩) rfl (G_pc (pc' := 271) rfl ?_)
                            refine G_iconst (n := 3) d_Mo_check_271 (by decide) (G_pc (pc' := 272) rfl ?_)
                            refine G_icmp_eq (tgt := 285) d_Mo_check_272 (by decide) (fun h290 => ?_) (fun h290 => G_pc (pc' := 275) rfl ?_)
                            · skip
                              refine G_iload (i := 3) (n := 1) (len := 1) (Or.inl ⟨3, rfl, rfl, d_Mo_check_285⟩) rfl (G_pc (pc' := 286) rfl ?_)
                              refine G_goto (tgt := 290) d_Mo_check_286 (by decide) ?_
                              refine G_iret d_Mo_check_290 rfl (tokI (by omega)) rfl rfl ?_
                              exact ret_e (by unfold checkM kchk; first | grind | grind [isKindB]) rfl
                            · skip
                              refine G_aload (i := 0) (n := 3) (len := 1) (Or.inl ⟨0, rfl, rfl, d_Mo_check_275⟩) rfl (by decide) (G_pc (pc' := 276) rfl ?_)
                              refine G_iload (i := 4) (n := 0) (len := 2) (Or.inr ⟨rfl, d_Mo_check_276⟩) rfl (G_pc (pc' := 278) rfl ?_)
                              refine G_iload (i := 3) (n := 1) (len := 1) (Or.inl ⟨3, rfl, rfl, d_Mo_check_278⟩) rfl (G_pc (pc' := 279) rfl ?_)
                              refine G_callV (K1 := KE) (d2 := 2) (o := 55) (cl := 9) (as := [vi (M 81 (M 77 n)), vi (w32 (M 80 n))]) (rest := []) d_Mo_check_279 mf_Mo_related ml_Mo_267 rfl rfl (by decide) rfl rfl (Nat.le_of_ble_eq_true rfl) (by omega) ⟨Nat.le_refl _, Nat.le_refl _⟩ (g_Mo_related (by omega) (M 81 (M 77 n)) (w32 (M 80 n)) _ hP (by omega) (by omega)) (fun r291 M292 kq293 q293 => ?_)
                              clear kq293; obtain ⟨q293a, q293b⟩ := q293; subst r291; subst M292
                              refine G_ps (pc' := 282) (st' := [vi (b2i (relB M (M 81 (M 77 n)) (w32 (M 80 n))))]) rfl rfl ?_
                              refine G_if_eq (tgt := 289) d_Mo_check_282 (by decide) (fun h294 => ?_) (fun h294 => G_pc (pc' := 285) rfl ?_)
                              · skip
                                replace h294 := b2i_0.mp h294
                                refine G_iconst (n := (-1)) d_Mo_check_289 (by decide) (G_pc (pc' := 290) rfl ?_)
                                refine G_iret d_Mo_check_290 rfl (tokI (by decide)) rfl rfl ?_
                                exact ret_e (by unfold checkM kchk; first | grind | grind [isKindB]) rfl
                              · skip
                                replace h294 := b2i_nz.mp h294
                                refine G_iload (i := 3) (n := 1) (len := 1) (Or.inl ⟨3, rfl, rfl, d_Mo_check_285⟩) rfl (G_pc (pc' := 286) rfl ?_)
                                refine G_goto (tgt := 290) d_Mo_check_286 (by decide) ?_
                                refine G_iret d_Mo_check_290 rfl (tokI (by omega)) rfl rfl ?_
                                exact ret_e (by unfold checkM kchk; first | grind | grind [isKindB]) rfl
                · skip
                  refine G_iload (i := 3) (n := 1) (len := 1) (Or.inl ⟨3, rfl, rfl, d_Mo_check_206⟩) rfl (G_pc (pc' := 207) rfl ?_)
                  refine G_aload (i := 0) (n := 3) (len := 1) (Or.inl ⟨0, rfl, rfl, d_Mo_check_207⟩) rfl (by decide) (G_pc (pc' := 208) rfl ?_)
                  refine G_get (o := 55) (c := 9) (k := 0) (v := M 55 0) d_Mo_check_208 fl_Mo_109 rfl (by decide) (by decide) rfl rfl (G_pc (pc' := 211) rfl ?_)
                  refine G_callS (K1 := KE) (d2 := 0) (as := [vi (w32 (M 80 n)), vi (M 55 0)]) (rest := []) d_Mo_check_211 mf_Mo_in ml_Mo_105 rfl rfl (Nat.le_of_ble_eq_true rfl) (by omega) ⟨Nat.le_refl _, Nat.le_refl _⟩ (g_Mo_in (by omega) (w32 (M 80 n)) (M 55 0) _) (fun r295 M296 kq297 q297 => ?_)
                  clear kq297; obtain ⟨q297a, q297b⟩ := q297; subst r295; subst M296
                  refine G_ps (pc' := 214) (st' := [vi (b2i (inB (w32 (M 80 n)) (M 55 0)))]) rfl rfl ?_
                  refine G_if_eq (tgt := 233) d_Mo_check_214 (by decide) (fun h298 => ?_) (fun h298 => G_pc (pc' := 217) rfl ?_)
                  · skip
                    replace h298 := b2i_0.mp h298
                    replace h298 := inB_f.mp h298
                    refine G_iconst (n := (-1)) d_Mo_check_233 (by decide) (G_pc (pc' := 234) rfl ?_)
                    refine G_iret d_Mo_check_234 rfl (tokI (by decide)) rfl rfl ?_
                    exact ret_e (by unfold checkM kchk; first | grind | grind [isKindB]) rfl
                  · skip
                    replace h298 := b2i_nz.mp h298
                    replace h298 := inB_t.mp h298
                    refine G_aload (i := 0) (n := 3) (len := 1) (Or.inl ⟨0, rfl, rfl, d_Mo_check_217⟩) rfl (by decide) (G_pc (pc' := 218) rfl ?_)
                    refine G_iload (i := 4) (n := 0) (len := 2) (Or.inr ⟨rfl, d_Mo_check_218⟩) rfl (G_pc (pc' := 220) rfl ?_)
                    refine G_iconst (n := 4) d_Mo_check_220 (by decide) (G_pc (pc' := 221) rfl ?_)
                    refine G_iload (i := 3) (n := 1) (len := 1) (Or.inl ⟨3, rfl, rfl, d_Mo_check_221⟩) rfl (G_pc (pc' := 222) rfl ?_)
                    refine G_iadd d_Mo_check_222 (by omega) (G_pc (pc' := 223) rfl ?_)
                    refine G_callV (K1 := KE) (d2 := 2) (o := 55) (cl := 9) (as := [vi (M 81 (M 77 n)), vi (4 + (w32 (M 80 n)))]) (rest := []) d_Mo_check_223 mf_Mo_related ml_Mo_267 rfl rfl (by decide) rfl rfl (Nat.le_of_ble_eq_true rfl) (by omega) ⟨Nat.le_refl _, Nat.le_refl _⟩ (g_Mo_related (by omega) (M 81 (M 77 n)) (4 + (w32 (M 80 n))) _ hP (by omega) (by omega)) (fun r299 M300 kq301 q301 => ?_)
                    clear kq301; obtain ⟨q301a, q301b⟩ := q301; subst r299; subst M300
                    refine G_ps (pc' := 226) (st' := [vi (b2i (relB M (M 81 (M 77 n)) (4 + (w32 (M 80 n)))))]) rfl rfl ?_
                    refine G_if_eq (tgt := 233) d_Mo_check_226 (by decide) (fun h302 => ?_) (fun h302 => G_pc (pc' := 229) rfl ?_)
                    · skip
                      replace h302 := b2i_0.mp h302
                      refine G_iconst (n := (-1)) d_Mo_check_233 (by decide) (G_pc (pc' := 234) rfl ?_)
                      refine G_iret d_Mo_check_234 rfl (tokI (by decide)) rfl rfl ?_
                      exact ret_e (by unfold checkM kchk; first | grind | grind [isKindB]) rfl
                    · skip
                      replace h302 := b2i_nz.mp h302
                      refine G_iconst (n := 3) d_Mo_check_229 (by decide) (G_pc (pc' := 230) rfl ?_)
                      refine G_goto (tgt := 234) d_Mo_check_230 (by decide) ?_
                      refine G_iret d_Mo_check_234 rfl (tokI (by decide)) rfl rfl ?_
                      exact ret_e (by unfold checkM kchk; first | grind | grind [isKindB]) rfl
              · skip
                refine G_iload (i := 4) (n := 0) (len := 2) (Or.inr ⟨rfl, d_Mo_check_180⟩) rfl (G_pc (pc' := 182) rfl ?_)
                refine G_bipush (n := 10) d_Mo_check_182 (by decide) (G_pc (pc' := 184) rfl ?_)
                refine G_icmp_lt (tgt := 198) d_Mo_check_184 (by decide) (fun h303 => ?_) (fun h303 => G_pc (pc' := 187) rfl ?_)
                · skip
                  refine G_iconst (n := (-1)) d_Mo_check_198 (by decide) (G_pc (pc' := 199) rfl ?_)
                  refine G_iret d_Mo_check_199 rfl (tokI (by decide)) rfl rfl ?_
                  exact ret_e (by unfold checkM kchk; first | grind | grind [isKindB]) rfl
                · skip
                  refine G_iload (i := 4) (n := 0) (len := 2) (Or.inr ⟨rfl, d_Mo_check_187⟩) rfl (G_pc (pc' := 189) rfl ?_)
                  refine G_bipush (n := 17) d_Mo_check_189 (by decide) (G_pc (pc' := 191) rfl ?_)
                  refine G_icmp_ge (tgt := 198) d_Mo_check_191 (by decide) (fun h304 => ?_) (fun h304 => G_pc (pc' := 194) rfl ?_)
                  · skip
                    refine G_iconst (n := (-1)) d_Mo_check_198 (by decide) (G_pc (pc' := 199) rfl ?_)
                    refine G_iret d_Mo_check_199 rfl (tokI (by decide)) rfl rfl ?_
                    exact ret_e (by unfold checkM kchk; first | grind | grind [isKindB]) rfl
                  · skip
                    refine G_iconst (n := 0) d_Mo_check_194 (by decide) (G_pc (pc' := 195) rfl ?_)
                    refine G_goto (tgt := 199) d_Mo_check_195 (by decide) ?_
                    refine G_iret d_Mo_check_199 rfl (tokI (by decide)) rfl rfl ?_
                    exact ret_e (by unfold checkM kchk; first | grind | grind [isKindB]) rfl
            · skip
              refine G_iload (i := 4) (n := 0) (len := 2) (Or.inr ⟨rfl, d_Mo_check_147⟩) rfl (G_pc (pc' := 149) rfl ?_)
              refine G_iconst (n := 4) d_Mo_check_149 (by decide) (G_pc (pc' := 150) rfl ?_)
              refine G_icmp_lt (tgt := 172) d_Mo_check_150 (by decide) (fun h305 => ?_) (fun h305 => G_pc (pc' := 153) rfl ?_)
              · skip
                refine G_iconst (n := (-1)) d_Mo_check_172 (by decide) (G_pc (pc' := 173) rfl ?_)
                refine G_iret d_Mo_check_173 rfl (tokI (by decide)) rfl rfl ?_
                exact ret_e (by unfold checkM kchk; first | grind | grind [isKindB]) rfl
              · skip
                refine G_iload (i := 4) (n := 0) (len := 2) (Or.inr ⟨rfl, d_Mo_check_153⟩) rfl (G_pc (pc' := 155) rfl ?_)
                refine G_bipush (n := 10) d_Mo_check_155 (by decide) (G_pc (pc' := 157) rfl ?_)
                refine G_icmp_ge (tgt := 172) d_Mo_check_157 (by decide) (fun h306 => ?_) (fun h306 => G_pc (pc' := 160) rfl ?_)
                · skip
                  refine G_iconst (n := (-1)) d_Mo_check_172 (by decide) (G_pc (pc' := 173) rfl ?_)
                  refine G_iret d_Mo_check_173 rfl (tokI (by decide)) rfl rfl ?_
                  exact ret_e (by unfold checkM kchk; first | grind | grind [isKindB]) rfl
                · skip
                  have h7x := hv7 (by omega)
                  refine G_aload (i := 0) (n := 3) (len := 1) (Or.inl ⟨0, rfl, rfl, d_Mo_check_160⟩) rfl (by decide) (G_pc (pc' := 161) rfl ?_)
                  refine G_iload (i := 4) (n := 0) (len := 2) (Or.inr ⟨rfl, d_Mo_check_161⟩) rfl (G_pc (pc' := 163) rfl ?_)
                  refine G_iconst (n := 4) d_Mo_check_163 (by decide) (G_pc (pc' := 164) rfl ?_)
                  refine G_isub d_Mo_check_164 (by omega) (G_pc (pc' := 165) rfl ?_)
                  refine G_iload (i := 3) (n := 1) (len := 1) (Or.inl ⟨3, rfl, rfl, d_Mo_check_165⟩) rfl (G_pc (pc' := 166) rfl ?_)
                  refine G_callV (K1 := KE) (d2 := 0) (o := 55) (cl := 9) (as := [vi ((M 81 (M 77 n)) - 4), vi (w32 (M 80 n))]) (rest := []) d_Mo_check_166 mf_Mo_fieldOf ml_Mo_142 rfl rfl (by decide) rfl rfl (Nat.le_of_ble_eq_true rfl) (by omega) ⟨Nat.le_refl _, Nat.le_refl _⟩ (g_Mo_fieldOf (by omega) ((M 81 (M 77 n)) - 4) (w32 (M 80 n)) _ hP (by omega) (by omega)) (fun r307 M308 kq309 q309 => ?_)
                  obtain ⟨q309a, q309b⟩ := q309; subst r307; subst M308
                  replace kq309 : -2147483648 ≤ fieldM M ((M 81 (M 77 n)) - 4) (w32 (M 80 n)) ∧ fieldM M ((M 81 (M 77 n)) - 4) (w32 (M 80 n)) < 2147483648 := kq309 _ rfl
                  refine G_ps (pc' := 169) (st' := [vi (fieldM M ((M 81 (M 77 n)) - 4) (w32 (M 80 n)))]) rfl rfl ?_
                  refine G_goto (tgt := 173) d_Mo_check_169 (by decide) ?_
                  refine G_iret d_Mo_check_173 rfl (tokI (by omega)) rfl rfl ?_
                  exact ret_e (by unfold checkM kchk; first | grind | grind [isKindB]) rfl
          · skip
            refine G_iload (i := 2) (n := 2) (len := 1) (Or.inl ⟨2, rfl, rfl, d_Mo_check_101⟩) rfl (G_pc (pc' := 102) rfl ?_)
            refine G_sipush (n := 133) d_Mo_check_102 (by decide) (G_pc (pc' := 105) rfl ?_)
            refine G_icmp_ne (tgt := 122) d_Mo_check_105 (by decide) (fun h310 => ?_) (fun h310 => G_pc (pc' := 108) rfl ?_)
            · skip
              refine G_iload (i := 4) (n := 0) (len := 2) (Or.inr ⟨rfl, d_Mo_check_122⟩) rfl (G_pc (pc' := 124) rfl ?_)
              refine G_callS (K1 := KE) (d2 := 0) (as := [vi (M 81 (M 77 n))]) (rest := []) d_Mo_check_124 mf_Mo_numeric ml_Mo_261 rfl rfl (Nat.le_of_ble_eq_true rfl) (by omega) ⟨Nat.le_refl _, Nat.le_refl _⟩ (g_Mo_numeric (by omega) (M 81 (M 77 n)) _) (fun r311 M312 kq313 q313 => ?_)
              clear kq313; obtain ⟨q313a, q313b⟩ := q313; subst r311; subst M312
              refine G_ps (pc' := 127) (st' := [vi (b2i (numB (M 81 (M 77 n))))]) rfl rfl ?_
              refine G_if_eq (tgt := 139) d_Mo_check_127 (by decide) (fun h314 => ?_) (fun h314 => G_pc (pc' := 130) rfl ?_)
              · skip
                replace h314 := b2i_0.mp h314
                replace h314 := numB_f.mp h314
                refine G_iconst (n := (-1)) d_Mo_check_139 (by decide) (G_pc (pc' := 140) rfl ?_)
                refine G_iret d_Mo_check_140 rfl (tokI (by decide)) rfl rfl ?_
                exact ret_e (by unfold checkM kchk; first | grind | grind [isKindB]) rfl
              · skip
                replace h314 := b2i_nz.mp h314
                replace h314 := numB_t.mp h314
                refine G_iload (i := 4) (n := 0) (len := 2) (Or.inr ⟨rfl, d_Mo_check_130⟩) rfl (G_pc (pc' := 132) rfl ?_)
                refine G_iconst (n := 0) d_Mo_check_132 (by decide) (G_pc (pc' := 133) rfl ?_)
                refine G_callS (K1 := KE) (d2 := 0) (as := [vi (M 81 (M 77 n)), vi 0]) (rest := []) d_Mo_check_133 mf_Mo_common ml_Mo_264 rfl rfl (Nat.le_of_ble_eq_true rfl) (by omega) ⟨Nat.le_refl _, Nat.le_refl _⟩ (g_Mo_common (by omega) (M 81 (M 77 n)) 0 _) (fun r315 M316 kq317 q317 => ?_)
                obtain ⟨q317a, q317b⟩ := q317; subst r315; subst M316
                replace kq317 : -2147483648 ≤ comV (M 81 (M 77 n)) 0 ∧ comV (M 81 (M 77 n)) 0 < 2147483648 := kq317 _ rfl
                refine G_ps (pc' := 136) (st' := [vi (comV (M 81 (M 77 n)) 0)]) rfl rfl ?_
                refine G_goto (tgt := 140) d_Mo_check_136 (by decide) ?_
                refine G_iret d_Mo_check_140 rfl (tokI (by omega)) rfl rfl ?_
                exact ret_e (by unfold checkM kchk; first | grind | grind [isKindB]) rfl
            · skip
              refine G_iload (i := 4) (n := 0) (len := 2) (Or.inr ⟨rfl, d_Mo_check_108⟩) rfl (G_pc (pc' := 110) rfl ?_)
              refine G_iconst (n := 3) d_Mo_check_110 (by decide) (G_pc (pc' := 111) rfl ?_)
              refine G_icmp_ne (tgt := 118) d_Mo_check_111 (by decide) (fun h318 => ?_) (fun h318 => G_pc (pc' := 114) rfl ?_)
              · skip
                refine G_iconst (n := (-1)) d_Mo_check_118 (by decide) (G_pc (pc' := 119) rfl ?_)
                refine G_goto (tgt := 140) d_Mo_check_119 (by decide) ?_
                refine G_iret d_Mo_check_140 rfl (tokI (by decide)) rfl rfl ?_
                exact ret_e (by unfold checkM kchk; first | grind | grind [isKindB]) rfl
              · skip
                refine G_iconst (n := 3) d_Mo_check_114 (by decide) (G_pc (pc' := 115) rfl ?_)
                refine G_goto (tgt := 140) d_Mo_check_115 (by decide) ?_
                refine G_iret d_Mo_check_140 rfl (tokI (by decide)) rfl rfl ?_
                exact ret_e (by unfold checkM kchk; first | grind | grind [isKindB]) rfl
        · skip
          refine G_iload (i := 2) (n := 1) (len := 1) (Or.inl ⟨2, rfl, rfl, d_Mo_check_40⟩) rfl (G_pc (pc' := 41) rfl ?_)
          refine G_iconst (n := 4) d_Mo_check_41 (by decide) (G_pc (pc' := 42) rfl ?_)
          refine G_icmp_ne (tgt := 49) d_Mo_check_42 (by decide) (fun h319 => ?_) (fun h319 => G_pc (pc' := 45) rfl ?_)
          · skip
            refine G_iload (i := 2) (n := 1) (len := 1) (Or.inl ⟨2, rfl, rfl, d_Mo_check_49⟩) rfl (G_pc (pc' := 50) rfl ?_)
            refine G_iconst (n := 5) d_Mo_check_50 (by decide) (G_pc (pc' := 51) rfl ?_)
            refine G_icmp_ne (tgt := 59) d_Mo_check_51 (by decide) (fun h320 => ?_) (fun h320 => G_pc (pc' := 54) rfl ?_)
            · skip
              refine G_iload (i := 2) (n := 1) (len := 1) (Or.inl ⟨2, rfl, rfl, d_Mo_check_59⟩) rfl (G_pc (pc' := 60) rfl ?_)
              refine G_bipush (n := 6) d_Mo_check_60 (by decide) (G_pc (pc' := 62) rfl ?_)
              refine G_icmp_ne (tgt := 75) d_Mo_check_62 (by decide) (fun h321 => ?_) (fun h321 => G_pc (pc' := 65) rfl ?_)
              · skip
                have h7x := hv7 (by omega)
                refine G_aload (i := 0) (n := 2) (len := 1) (Or.inl ⟨0, rfl, rfl, d_Mo_check_75⟩) rfl (by decide) (G_pc (pc' := 76) rfl ?_)
                refine G_get (o := 55) (c := 9) (k := 3) (v := 58) d_Mo_check_76 fl_Mo_16 rfl (by decide) (by decide) rfl rfl (G_pc (pc' := 79) rfl ?_)
                refine G_iload (i := 3) (n := 0) (len := 1) (Or.inl ⟨3, rfl, rfl, d_Mo_check_79⟩) rfl (G_pc (pc' := 80) rfl ?_)
                refine G_iaload (o := 58) (n := 27) (i := w32 (M 80 n)) (v := M 58 (w32 (M 80 n))) d_Mo_check_80 rfl ⟨by decide, by decide⟩ (by omega) (rd_arr rfl) (fun t322 => G_pc (pc' := 81) rfl ?_)
                have t322 := tok_i t322
                refine G_iret d_Mo_check_81 rfl (tokI (by omega)) rfl rfl ?_
                exact ret_e (by unfold checkM kchk; first | grind | grind [isKindB]) rfl
              · skip
                refine G_aload (i := 0) (n := 2) (len := 1) (Or.inl ⟨0, rfl, rfl, d_Mo_check_65⟩) rfl (by decide) (G_pc (pc' := 66) rfl ?_)
                refine G_get (o := 55) (c := 9) (k := 3) (v := 58) d_Mo_check_66 fl_Mo_16 rfl (by decide) (by decide) rfl rfl (G_pc (pc' := 69) rfl ?_)
                refine G_bipush (n := 26) d_Mo_check_69 (by decide) (G_pc (pc' := 71) rfl ?_)
                refine G_iaload (o := 58) (n := 27) (i := 26) (v := M 58 26) d_Mo_check_71 rfl ⟨by decide, by decide⟩ (by omega) (rd_arr rfl) (fun t323 => G_pc (pc' := 72) rfl ?_)
                have t323 := tok_i t323
                refine G_goto (tgt := 81) d_Mo_check_72 (by decide) ?_
                refine G_iret d_Mo_check_81 rfl (tokI (by omega)) rfl rfl ?_
                exact ret_e (by unfold checkM kchk; first | grind | grind [isKindB]) rfl
            · skip
              refine G_bipush (n := 17) d_Mo_check_54 (by decide) (G_pc (pc' := 56) rfl ?_)
              refine G_goto (tgt := 81) d_Mo_check_56 (by decide) ?_
              refine G_iret d_Mo_check_81 rfl (tokI (by decide)) rfl rfl ?_
              exact ret_e (by unfold checkM kchk; first | grind | grind [isKindB]) rfl
          · skip
            refine G_iconst (n := 3) d_Mo_check_45 (by decide) (G_pc (pc' := 46) rfl ?_)
            refine G_goto (tgt := 81) d_Mo_check_46 (by decide) ?_
            refine G_iret d_Mo_check_81 rfl (tokI (by decide)) rfl rfl ?_
            exact ret_e (by unfold checkM kchk; first | grind | grind [isKindB]) rfl
      · skip
        refine G_iload (i := 2) (n := 1) (len := 1) (Or.inl ⟨2, rfl, rfl, d_Mo_check_30⟩) rfl (G_pc (pc' := 31) rfl ?_)
        refine G_iconst (n := 1) d_Mo_check_31 (by decide) (G_pc (pc' := 32) rfl ?_)
        refine G_isub d_Mo_check_32 (by omega) (G_pc (pc' := 33) rfl ?_)
        refine G_iret d_Mo_check_33 rfl (tokI (by omega)) rfl rfl ?_
        exact ret_e (by unfold checkM kchk; first | grind | grind [isKindB]) rfl

def setM (M : Mem) (n v : Int) : Mem := mset (mset M 83 n (if M 81 n = 0 then w32 v else v)) 82 n 1
def lackM (M : Mem) (n : Int) : Int := if M 76 n < 8 then -1 else if M 82 (M 77 n) = 0 then M 77 n
  else if M 76 n = 65 then (if M 83 (M 77 n) = 0 then (if M 82 (M 79 n) = 0 then M 79 n else -1) else if M 82 (M 78 n) = 0 then M 78 n else -1)
  else if M 78 n < 0 ∨ (M 76 n = 44 ∧ M 83 (M 77 n) = 0) ∨ (M 76 n = 46 ∧ ¬ M 83 (M 77 n) = 0) then -1 else if M 82 (M 78 n) = 0 then M 78 n else -1
def hasM (M : Mem) (p : Int) : Mem := mset M 55 47 (if M 71 p = 0 then p else -1)
theorem d_Mo_set_0 : decode b_Mo_set 0 = .ok (.aload_n 0, 1) := by decide +kernel
theorem d_Mo_set_1 : decode b_Mo_set 1 = .ok (.getfield 93, 3) := by decide +kernel
theorem d_Mo_set_4 : decode b_Mo_set 4 = .ok (.iload_n 1, 1) := by decide +kernel
theorem d_Mo_set_5 : decode b_Mo_set 5 = .ok (.aload_n 0, 1) := by decide +kernel
theorem d_Mo_set_6 : decode b_Mo_set 6 = .ok (.getfield 87, 3) := by decide +kernel
theorem d_Mo_set_9 : decode b_Mo_set 9 = .ok (.iload_n 1, 1) := by decide +kernel
theorem d_Mo_set_10 : decode b_Mo_set 10 = .ok (.iaload, 1) := by decide +kernel
theorem d_Mo_set_11 : decode b_Mo_set 11 = .ok (.ifCond .ne 9, 3) := by decide +kernel
theorem d_Mo_set_14 : decode b_Mo_set 14 = .ok (.lload_n 2, 1) := by decide +kernel
theorem d_Mo_set_15 : decode b_Mo_set 15 = .ok (.l2i, 1) := by decide +kernel
theorem d_Mo_set_16 : decode b_Mo_set 16 = .ok (.i2l, 1) := by decide +kernel
theorem d_Mo_set_17 : decode b_Mo_set 17 = .ok (.goto 4, 3) := by decide +kernel
theorem d_Mo_set_20 : decode b_Mo_set 20 = .ok (.lload_n 2, 1) := by decide +kernel
theorem d_Mo_set_21 : decode b_Mo_set 21 = .ok (.lastore, 1) := by decide +kernel
theorem d_Mo_set_22 : decode b_Mo_set 22 = .ok (.aload_n 0, 1) := by decide +kernel
theorem d_Mo_set_23 : decode b_Mo_set 23 = .ok (.getfield 90, 3) := by decide +kernel
theorem d_Mo_set_26 : decode b_Mo_set 26 = .ok (.iload_n 1, 1) := by decide +kernel
theorem d_Mo_set_27 : decode b_Mo_set 27 = .ok (.iconst 1, 1) := by decide +kernel
theorem d_Mo_set_28 : decode b_Mo_set 28 = .ok (.bastore, 1) := by decide +kernel
theorem d_Mo_set_29 : decode b_Mo_set 29 = .ok (.return_, 1) := by decide +kernel
theorem g_Mo_set {X : WX} {d : Nat} (hd : 0 ≤ d) (n v : Int) (M : Mem) (hn : 0 ≤ n ∧ n < 32) : MG X gt d KE KE y_Mo_set b_Mo_set 4 none [vr 55, vi n, vl v] M (fun r M' => r = none ∧ M' = setM M n v) := by
  refine MG_of_G (by decide) (Nat.le_of_ble_eq_true rfl) (Nat.le_refl _) (by decide) ?_
  show G X gt d KE KE y_Mo_set b_Mo_set 4 none _ 0 [(0, vr 55), (1, vi n), (2, vl v)] [] KE M
  refine G_rngl (i := 1) rfl (fun hr1 => ?_)
  refine G_rngL (i := 2) rfl (fun hr2 => ?_)
  refine G_aload (i := 0) (n := 0) (len := 1) (Or.inl ⟨0, rfl, rfl, d_Mo_set_0⟩) rfl (by decide) (G_pc (pc' := 1) rfl ?_)
  refine G_get (o := 55) (c := 9) (k := 36) (v := 83) d_Mo_set_1 fl_Mo_93 rfl (by decide) (by decide) rfl rfl (G_pc (pc' := 4) rfl ?_)
  refine G_iload (i := 1) (n := 1) (len := 1) (Or.inl ⟨1, rfl, rfl, d_Mo_set_4⟩) rfl (G_pc (pc' := 5) rfl ?_)
  refine G_aload (i := 0) (n := 0) (len := 1) (Or.inl ⟨0, rfl, rfl, d_Mo_set_5⟩) rfl (by decide) (G_pc (pc' := 6) rfl ?_)
  refine G_get (o := 55) (c := 9) (k := 34) (v := 81) d_Mo_set_6 fl_Mo_87 rfl (by decide) (by decide) rfl rfl (G_pc (pc' := 9) rfl ?_)
  refine G_iload (i := 1) (n := 1) (len := 1) (Or.inl ⟨1, rfl, rfl, d_Mo_set_9⟩) rfl (G_pc (pc' := 10) rfl ?_)
  refine G_iaload (o := 81) (n := 32) (i := n) (v := M 81 n) d_Mo_set_10 rfl ⟨by decide, by decide⟩ (by first | omega | (have := w32_in v; omega)) (rd_arr rfl) (fun t1 => G_pc (pc' := 11) rfl ?_)
  have t1 := tok_i t1
  refine G_if_ne (tgt := 20) d_Mo_set_11 (by decide) (fun h2 => ?_) (fun h2 => G_pc (pc' := 14) rfl ?_)
  · skip
    refine G_lload (i := 2) (n := 2) (len := 1) (Or.inl ⟨2, rfl, rfl, d_Mo_set_20⟩) rfl (G_pc (pc' := 21) rfl ?_)
    refine G_lastore (o := 83) (n := 32) (i := n) (x := v) d_Mo_set_21 rfl ⟨by decide, by decide⟩ (by decide) (gt_arr rfl _) (by first | omega | (have := w32_in v; omega)) (tokJ (by first | omega | (have := w32_in v; omega))) (G_pc (pc' := 22) rfl ?_)
    refine G_aload (i := 0) (n := 0) (len := 1) (Or.inl ⟨0, rfl, rfl, d_Mo_set_22⟩) rfl (by decide) (G_pc (pc' := 23) rfl ?_)
    refine G_get (o := 55) (c := 9) (k := 35) (v := 82) d_Mo_set_23 fl_Mo_90 rfl (by decide) (by decide) rfl rfl (G_pc (pc' := 26) rfl ?_)
    refine G_iload (i := 1) (n := 1) (len := 1) (Or.inl ⟨1, rfl, rfl, d_Mo_set_26⟩) rfl (G_pc (pc' := 27) rfl ?_)
    refine G_iconst (n := 1) d_Mo_set_27 (by decide) (G_pc (pc' := 28) rfl ?_)
    refine G_zastore (o := 82) (n := 32) (i := n) (x := 1) d_Mo_set_28 rfl ⟨by decide, by decide⟩ (by decide) (gt_arr rfl _) (by first | omega | (have := w32_in v; omega)) (tokZ (by decide)) (G_pc (pc' := 29) rfl ?_)
    refine G_vret d_Mo_set_29 rfl rfl ?_
    exact ⟨rfl, by unfold setM; first | rw [if_pos (by omega)] | rw [if_neg (by omega)]⟩
  · skip
    refine G_lload (i := 2) (n := 2) (len := 1) (Or.inl ⟨2, rfl, rfl, d_Mo_set_14⟩) rfl (G_pc (pc' := 15) rfl ?_)
    refine G_l2i d_Mo_set_15 (G_pc (pc' := 16) rfl ?_)
    refine G_i2l d_Mo_set_16 (G_pc (pc' := 17) rfl ?_)
    refine G_goto (tgt := 21) d_Mo_set_17 (by decide) ?_
    refine G_lastore (o := 83) (n := 32) (i := n) (x := w32 v) d_Mo_set_21 rfl ⟨by decide, by decide⟩ (by decide) (gt_arr rfl _) (by first | omega | (have := w32_in v; omega)) (tokJ (by first | omega | (have := w32_in v; omega))) (G_pc (pc' := 22) rfl ?_)
    refine G_aload (i := 0) (n := 0) (len := 1) (Or.inl ⟨0, rfl, rfl, d_Mo_set_22⟩) rfl (by decide) (G_pc (pc' := 23) rfl ?_)
    refine G_get (o := 55) (c := 9) (k := 35) (v := 82) d_Mo_set_23 fl_Mo_90 rfl (by decide) (by decide) rfl rfl (G_pc (pc' := 26) rfl ?_)
    refine G_iload (i := 1) (n := 1) (len := 1) (Or.inl ⟨1, rfl, rfl, d_Mo_set_26⟩) rfl (G_pc (pc' := 27) rfl ?_)
    refine G_iconst (n := 1) d_Mo_set_27 (by decide) (G_pc (pc' := 28) rfl ?_)
    refine G_zastore (o := 82) (n := 32) (i := n) (x := 1) d_Mo_set_28 rfl ⟨by decide, by decide⟩ (by decide) (gt_arr rfl _) (by first | omega | (have := w32_in v; omega)) (tokZ (by decide)) (G_pc (pc' := 29) rfl ?_)
    refine G_vret d_Mo_set_29 rfl rfl ?_
    exact ⟨rfl, by unfold setM; first | rw [if_pos (by omega)] | rw [if_neg (by omega)]⟩

theorem d_Mo_lacks_0 : decode b_Mo_lacks 0 = .ok (.aload_n 0, 1) := by decide +kernel
theorem d_Mo_lacks_1 : decode b_Mo_lacks 1 = .ok (.getfield 72, 3) := by decide +kernel
theorem d_Mo_lacks_4 : decode b_Mo_lacks 4 = .ok (.iload_n 1, 1) := by decide +kernel
theorem d_Mo_lacks_5 : decode b_Mo_lacks 5 = .ok (.iaload, 1) := by decide +kernel
theorem d_Mo_lacks_6 : decode b_Mo_lacks 6 = .ok (.istore_n 2, 1) := by decide +kernel
theorem d_Mo_lacks_7 : decode b_Mo_lacks 7 = .ok (.iload_n 2, 1) := by decide +kernel
theorem d_Mo_lacks_8 : decode b_Mo_lacks 8 = .ok (.bipush 8, 2) := by decide +kernel
theorem d_Mo_lacks_10 : decode b_Mo_lacks 10 = .ok (.if_icmp .ge 5, 3) := by decide +kernel
theorem d_Mo_lacks_13 : decode b_Mo_lacks 13 = .ok (.iconst (-1), 1) := by decide +kernel
theorem d_Mo_lacks_14 : decode b_Mo_lacks 14 = .ok (.ireturn, 1) := by decide +kernel
theorem d_Mo_lacks_15 : decode b_Mo_lacks 15 = .ok (.aload_n 0, 1) := by decide +kernel
theorem d_Mo_lacks_16 : decode b_Mo_lacks 16 = .ok (.getfield 90, 3) := by decide +kernel
theorem d_Mo_lacks_19 : decode b_Mo_lacks 19 = .ok (.aload_n 0, 1) := by decide +kernel
theorem d_Mo_lacks_20 : decode b_Mo_lacks 20 = .ok (.getfield 75, 3) := by decide +kernel
theorem d_Mo_lacks_23 : decode b_Mo_lacks 23 = .ok (.iload_n 1, 1) := by decide +kernel
theorem d_Mo_lacks_24 : decode b_Mo_lacks 24 = .ok (.iaload, 1) := by decide +kernel
theorem d_Mo_lacks_25 : decode b_Mo_lacks 25 = .ok (.baload, 1) := by decide +kernel
theorem d_Mo_lacks_26 : decode b_Mo_lacks 26 = .ok (.ifCond .ne 10, 3) := by decide +kernel
theorem d_Mo_lacks_29 : decode b_Mo_lacks 29 = .ok (.aload_n 0, 1) := by decide +kernel
theorem d_Mo_lacks_30 : decode b_Mo_lacks 30 = .ok (.getfield 75, 3) := by decide +kernel
theorem d_Mo_lacks_33 : decode b_Mo_lacks 33 = .ok (.iload_n 1, 1) := by decide +kernel
theorem d_Mo_lacks_34 : decode b_Mo_lacks 34 = .ok (.iaload, 1) := by decide +kernel
theorem d_Mo_lacks_35 : decode b_Mo_lacks 35 = .ok (.ireturn, 1) := by decide +kernel
theorem d_Mo_lacks_36 : decode b_Mo_lacks 36 = .ok (.aload_n 0, 1) := by decide +kernel
theorem d_Mo_lacks_37 : decode b_Mo_lacks 37 = .ok (.getfield 93, 3) := by decide +kernel
theorem d_Mo_lacks_40 : decode b_Mo_lacks 40 = .ok (.aload_n 0, 1) := by decide +kernel
theorem d_Mo_lacks_41 : decode b_Mo_lacks 41 = .ok (.getfield 75, 3) := by decide +kernel
theorem d_Mo_lacks_44 : decode b_Mo_lacks 44 = .ok (.iload_n 1, 1) := by decide +kernel
theorem d_Mo_lacks_45 : decode b_Mo_lacks 45 = .ok (.iaload, 1) := by decide +kernel
theorem d_Mo_lacks_46 : decode b_Mo_lacks 46 = .ok (.laload, 1) := by decide +kernel
theorem d_Mo_lacks_47 : decode b_Mo_lacks 47 = .ok (.lconst 0, 1) := by decide +kernel
theorem d_Mo_lacks_48 : decode b_Mo_lacks 48 = .ok (.lcmp, 1) := by decide +kernel
theorem d_Mo_lacks_49 : decode b_Mo_lacks 49 = .ok (.ifCond .eq 7, 3) := by decide +kernel
theorem d_Mo_lacks_52 : decode b_Mo_lacks 52 = .ok (.iconst 1, 1) := by decide +kernel
theorem d_Mo_lacks_53 : decode b_Mo_lacks 53 = .ok (.goto 4, 3) := by decide +kernel
theorem d_Mo_lacks_56 : decode b_Mo_lacks 56 = .ok (.iconst 0, 1) := by decide +kernel
theorem d_Mo_lacks_57 : decode b_Mo_lacks 57 = .ok (.istore_n 3, 1) := by decide +kernel
theorem d_Mo_lacks_58 : decode b_Mo_lacks 58 = .ok (.iload_n 2, 1) := by decide +kernel
theorem d_Mo_lacks_59 : decode b_Mo_lacks 59 = .ok (.bipush 65, 2) := by decide +kernel
theorem d_Mo_lacks_61 : decode b_Mo_lacks 61 = .ok (.if_icmp .ne 41, 3) := by decide +kernel
theorem d_Mo_lacks_64 : decode b_Mo_lacks 64 = .ok (.iload_n 3, 1) := by decide +kernel
theorem d_Mo_lacks_65 : decode b_Mo_lacks 65 = .ok (.ifCond .eq 12, 3) := by decide +kernel
theorem d_Mo_lacks_68 : decode b_Mo_lacks 68 = .ok (.aload_n 0, 1) := by decide +kernel
theorem d_Mo_lacks_69 : decode b_Mo_lacks 69 = .ok (.getfield 78, 3) := by decide +kernel
theorem d_Mo_lacks_72 : decode b_Mo_lacks 72 = .ok (.iload_n 1, 1) := by decide +kernel
theorem d_Mo_lacks_73 : decode b_Mo_lacks 73 = .ok (.iaload, 1) := by decide +kernel
theorem d_Mo_lacks_74 : decode b_Mo_lacks 74 = .ok (.goto 9, 3) := by decide +kernel
theorem d_Mo_lacks_77 : decode b_Mo_lacks 77 = .ok (.aload_n 0, 1) := by decide +kernel
theorem d_Mo_lacks_78 : decode b_Mo_lacks 78 = .ok (.getfield 81, 3) := by decide +kernel
theorem d_Mo_lacks_81 : decode b_Mo_lacks 81 = .ok (.iload_n 1, 1) := by decide +kernel
theorem d_Mo_lacks_82 : decode b_Mo_lacks 82 = .ok (.iaload, 1) := by decide +kernel
theorem d_Mo_lacks_83 : decode b_Mo_lacks 83 = .ok (.istore 4, 2) := by decide +kernel
theorem d_Mo_lacks_85 : decode b_Mo_lacks 85 = .ok (.aload_n 0, 1) := by decide +kernel
theorem d_Mo_lacks_86 : decode b_Mo_lacks 86 = .ok (.getfield 90, 3) := by decide +kernel
theorem d_Mo_lacks_89 : decode b_Mo_lacks 89 = .ok (.iload 4, 2) := by decide +kernel
theorem d_Mo_lacks_91 : decode b_Mo_lacks 91 = .ok (.baload, 1) := by decide +kernel
theorem d_Mo_lacks_92 : decode b_Mo_lacks 92 = .ok (.ifCond .eq 7, 3) := by decide +kernel
theorem d_Mo_lacks_95 : decode b_Mo_lacks 95 = .ok (.iconst (-1), 1) := by decide +kernel
theorem d_Mo_lacks_96 : decode b_Mo_lacks 96 = .ok (.goto 5, 3) := by decide +kernel
theorem d_Mo_lacks_99 : decode b_Mo_lacks 99 = .ok (.iload 4, 2) := by decide +kernel
theorem d_Mo_lacks_101 : decode b_Mo_lacks 101 = .ok (.ireturn, 1) := by decide +kernel
theorem d_Mo_lacks_102 : decode b_Mo_lacks 102 = .ok (.aload_n 0, 1) := by decide +kernel
theorem d_Mo_lacks_103 : decode b_Mo_lacks 103 = .ok (.getfield 78, 3) := by decide +kernel
theorem d_Mo_lacks_106 : decode b_Mo_lacks 106 = .ok (.iload_n 1, 1) := by decide +kernel
theorem d_Mo_lacks_107 : decode b_Mo_lacks 107 = .ok (.iaload, 1) := by decide +kernel
theorem d_Mo_lacks_108 : decode b_Mo_lacks 108 = .ok (.ifCond .lt 23, 3) := by decide +kernel
theorem d_Mo_lacks_111 : decode b_Mo_lacks 111 = .ok (.iload_n 2, 1) := by decide +kernel
theorem d_Mo_lacks_112 : decode b_Mo_lacks 112 = .ok (.bipush 44, 2) := by decide +kernel
theorem d_Mo_lacks_114 : decode b_Mo_lacks 114 = .ok (.if_icmp .ne 7, 3) := by decide +kernel
theorem d_Mo_lacks_117 : decode b_Mo_lacks 117 = .ok (.iload_n 3, 1) := by decide +kernel
theorem d_Mo_lacks_118 : decode b_Mo_lacks 118 = .ok (.ifCond .eq 13, 3) := by decide +kernel
theorem d_Mo_lacks_121 : decode b_Mo_lacks 121 = .ok (.iload_n 2, 1) := by decide +kernel
theorem d_Mo_lacks_122 : decode b_Mo_lacks 122 = .ok (.bipush 46, 2) := by decide +kernel
theorem d_Mo_lacks_124 : decode b_Mo_lacks 124 = .ok (.if_icmp .ne 9, 3) := by decide +kernel
theorem d_Mo_lacks_127 : decode b_Mo_lacks 127 = .ok (.iload_n 3, 1) := by decide +kernel
theorem d_Mo_lacks_128 : decode b_Mo_lacks 128 = .ok (.ifCond .eq 5, 3) := by decide +kernel
theorem d_Mo_lacks_131 : decode b_Mo_lacks 131 = .ok (.iconst (-1), 1) := by decide +kernel
theorem d_Mo_lacks_132 : decode b_Mo_lacks 132 = .ok (.ireturn, 1) := by decide +kernel
theorem d_Mo_lacks_133 : decode b_Mo_lacks 133 = .ok (.aload_n 0, 1) := by decide +kernel
theorem d_Mo_lacks_134 : decode b_Mo_lacks 134 = .ok (.getfield 90, 3) := by decide +kernel
theorem d_Mo_lacks_137 : decode b_Mo_lacks 137 = .ok (.aload_n 0, 1) := by decide +kernel
theorem d_Mo_lacks_138 : decode b_Mo_lacks 138 = .ok (.getfield 78, 3) := by decide +kernel
theorem d_Mo_lacks_141 : decode b_Mo_lacks 141 = .ok (.iload_n 1, 1) := by decide +kernel
theorem d_Mo_lacks_142 : decode b_Mo_lacks 142 = .ok (.iaload, 1) := by decide +kernel
theorem d_Mo_lacks_143 : decode b_Mo_lacks 143 = .ok (.baload, 1) := by decide +kernel
theorem d_Mo_lacks_144 : decode b_Mo_lacks 144 = .ok (.ifCond .eq 7, 3) := by decide +kernel
theorem d_Mo_lacks_147 : decode b_Mo_lacks 147 = .ok (.iconst (-1), 1) := by decide +kernel
theorem d_Mo_lacks_148 : decode b_Mo_lacks 148 = .ok (.goto 9, 3) := by decide +kernel
theorem d_Mo_lacks_151 : decode b_Mo_lacks 151 = .ok (.aload_n 0, 1) := by decide +kernel
theorem d_Mo_lacks_152 : decode b_Mo_lacks 152 = .ok (.getfield 78, 3) := by decide +kernel
theorem d_Mo_lacks_155 : decode b_Mo_lacks 155 = .ok (.iload_n 1, 1) := by decide +kernel
theorem d_Mo_lacks_156 : decode b_Mo_lacks 156 = .ok (.iaload, 1) := by decide +kernel
theorem d_Mo_lacks_157 : decode b_Mo_lacks 157 = .ok (.ireturn, 1) := by decide +kernel
theorem g_Mo_lacks {X : WX} {d : Nat} (hd : 0 ≤ d) (n : Int) (M : Mem) (hn : 0 ≤ n ∧ n < 32) (hq1 : 8 ≤ M 76 n → 0 ≤ M 77 n ∧ M 77 n < 32) (hq2 : 8 ≤ M 76 n → M 78 n < 32 ∧ (M 76 n = 65 → 0 ≤ M 78 n)) (hq3 : M 76 n = 65 → 0 ≤ M 79 n ∧ M 79 n < 32) : MG X gt d KE KE y_Mo_lacks b_Mo_lacks 5 (some .int) [vr 55, vi n] M (fun r M' => r = some (vi (lackM M n)) ∧ M' = M) := by
  refine MG_of_G (by decide) (Nat.le_of_ble_eq_true rfl) (Nat.le_refl _) (by decide) ?_
  show G X gt d KE KE y_Mo_lacks b_Mo_lacks 5 (some .int) _ 0 [(0, vr 55), (1, vi n)] [] KE M
  refine G_rngl (i := 1) rfl (fun hr1 => ?_)
  refine G_aload (i := 0) (n := 0) (len := 1) (Or.inl ⟨0, rfl, rfl, d_Mo_lacks_0⟩) rfl (by decide) (G_pc (pc' := 1) rfl ?_)
  refine G_get (o := 55) (c := 9) (k := 29) (v := 76) d_Mo_lacks_1 fl_Mo_72 rfl (by decide) (by decide) rfl rfl (G_pc (pc' := 4) rfl ?_)
  refine G_iload (i := 1) (n := 1) (len := 1) (Or.inl ⟨1, rfl, rfl, d_Mo_lacks_4⟩) rfl (G_pc (pc' := 5) rfl ?_)
  refine G_iaload (o := 76) (n := 32) (i := n) (v := M 76 n) d_Mo_lacks_5 rfl ⟨by decide, by decide⟩ (by omega) (rd_arr rfl) (fun t1 => G_pc (pc' := 6) rfl ?_)
  have t1 := tok_i t1
  refine G_istore (i := 2) (len := 1) (ls' := [(2, vi (M 76 n)), (0, vr 55), (1, vi n)]) (Or.inl ⟨2, rfl, rfl, d_Mo_lacks_6⟩) (by decide) rfl (G_pc (pc' := 7) rfl ?_)
  refine G_iload (i := 2) (n := 0) (len := 1) (Or.inl ⟨2, rfl, rfl, d_Mo_lacks_7⟩) rfl (G_pc (pc' := 8) rfl ?_)
  refine G_bipush (n := 8) d_Mo_lacks_8 (by decide) (G_pc (pc' := 10) rfl ?_)
  refine G_icmp_ge (tgt := 15) d_Mo_lacks_10 (by decide) (fun h2 => ?_) (fun h2 => G_pc (pc' := 13) rfl ?_)
  · skip
    refine G_aload (i := 0) (n := 1) (len := 1) (Or.inl ⟨0, rfl, rfl, d_Mo_lacks_15⟩) rfl (by decide) (G_pc (pc' := 16) rfl ?_)
    refine G_get (o := 55) (c := 9) (k := 35) (v := 82) d_Mo_lacks_16 fl_Mo_90 rfl (by decide) (by decide) rfl rfl (G_pc (pc' := 19) rfl ?_)
    refine G_aload (i := 0) (n := 1) (len := 1) (Or.inl ⟨0, rfl, rfl, d_Mo_lacks_19⟩) rfl (by decide) (G_pc (pc' := 20) rfl ?_)
    refine G_get (o := 55) (c := 9) (k := 30) (v := 77) d_Mo_lacks_20 fl_Mo_75 rfl (by decide) (by decide) rfl rfl (G_pc (pc' := 23) rfl ?_)
    refine G_iload (i := 1) (n := 2) (len := 1) (Or.inl ⟨1, rfl, rfl, d_Mo_lacks_23⟩) rfl (G_pc (pc' := 24) rfl ?_)
    refine G_iaload (o := 77) (n := 32) (i := n) (v := M 77 n) d_Mo_lacks_24 rfl ⟨by decide, by decide⟩ (by omega) (rd_arr rfl) (fun t3 => G_pc (pc' := 25) rfl ?_)
    have t3 := tok_i t3
    refine G_zaload (o := 82) (n := 32) (i := M 77 n) (v := M 82 (M 77 n)) d_Mo_lacks_25 rfl ⟨by decide, by decide⟩ (by omega) (rd_arr rfl) (fun t4 => G_pc (pc' := 26) rfl ?_)
    have t4 := tok_z t4
    refine G_if_ne (tgt := 36) d_Mo_lacks_26 (by decide) (fun h5 => ?_) (fun h5 => G_pc (pc' := 29) rfl ?_)
    · skip
      refine G_aload (i := 0) (n := 1) (len := 1) (Or.inl ⟨0, rfl, rfl, d_Mo_lacks_36⟩) rfl (by decide) (G_pc (pc' := 37) rfl ?_)
      refine G_get (o := 55) (c := 9) (k := 36) (v := 83) d_Mo_lacks_37 fl_Mo_93 rfl (by decide) (by decide) rfl rfl (G_pc (pc' := 40) rfl ?_)
      refine G_aload (i := 0) (n := 1) (len := 1) (Or.inl ⟨0, rfl, rfl, d_Mo_lacks_40⟩) rfl (by decide) (G_pc (pc' := 41) rfl ?_)
      refine G_get (o := 55) (c := 9) (k := 30) (v := 77) d_Mo_lacks_41 fl_Mo_75 rfl (by decide) (by decide) rfl rfl (G_pc (pc' := 44) rfl ?_)
      refine G_iload (i := 1) (n := 2) (len := 1) (Or.inl ⟨1, rfl, rfl, d_Mo_lacks_44⟩) rfl (G_pc (pc' := 45) rfl ?_)
      refine G_iaload (o := 77) (n := 32) (i := n) (v := M 77 n) d_Mo_lacks_45 rfl ⟨by decide, by decide⟩ (by omega) (rd_arr rfl) (fun t6 => G_pc (pc' := 46) rfl ?_)
      have t6 := tok_i t6
      refine G_laload (o := 83) (n := 32) (i := M 77 n) (v := M 83 (M 77 n)) d_Mo_lacks_46 rfl ⟨by decide, by decide⟩ (by omega) (rd_arr rfl) (fun t7 => G_pc (pc' := 47) rfl ?_)
      have t7 := tok_l t7
      refine G_lconst0 d_Mo_lacks_47 (G_pc (pc' := 48) rfl ?_)
      refine G_lcmp_eq (tgt := 56) d_Mo_lacks_48 d_Mo_lacks_49 (by decide) (fun h8 => ?_) (fun h8 => G_pc (pc' := 52) rfl ?_)
      · skip
        refine G_iconst (n := 0) d_Mo_lacks_56 (by decide) (G_pc (pc' := 57) rfl ?_)
        refine G_istore (i := 3) (len := 1) (ls' := [(3, vi 0), (2, vi (M 76 n)), (0, vr 55), (1, vi n)]) (Or.inl ⟨3, rfl, rfl, d_Mo_lacks_57⟩) (by decide) rfl (G_pc (pc' := 58) rfl ?_)
        refine G_iload (i := 2) (n := 1) (len := 1) (Or.inl ⟨2, rfl, rfl, d_Mo_lacks_58⟩) rfl (G_pc (pc' := 59) rfl ?_)
        refine G_bipush (n := 65) d_Mo_lacks_59 (by decide) (G_pc (pc' := 61) rfl ?_)
        refine G_icmp_ne (tgt := 102) d_Mo_lacks_61 (by decide) (fun h9 => ?_) (fun h9 => G_pc (pc' := 64) rfl ?_)
        · skip
          refine G_aload (i := 0) (n := 2) (len := 1) (Or.inl ⟨0, rfl, rfl, d_Mo_lacks_102⟩) rfl (by decide) (G_pc (pc' := 103) rfl ?_)
          refine G_get (o := 55) (c := 9) (k := 31) (v := 78) d_Mo_lacks_103 fl_Mo_78 rfl (by decide) (by decide) rfl rfl (G_pc (pc' := 106) rfl ?_)
          refine G_iload (i := 1) (n := 3) (len := 1) (Or.inl ⟨1, rfl, rfl, d_Mo_lacks_106⟩) rfl (G_pc (pc' := 107) rfl ?_)
          refine G_iaload (o := 78) (n := 32) (i := n) (v := M 78 n) d_Mo_lacks_107 rfl ⟨by decide, by decide⟩ (by omega) (rd_arr rfl) (fun t10 => G_pc (pc' := 108) rfl ?_)
          have t10 := tok_i t10
          refine G_if_lt (tgt := 131) d_Mo_lacks_108 (by decide) (fun h11 => ?_) (fun h11 => G_pc (pc' := 111) rfl ?_)
          · skip
            refine G_iconst (n := (-1)) d_Mo_lacks_131 (by decide) (G_pc (pc' := 132) rfl ?_)
            refine G_iret d_Mo_lacks_132 rfl (tokI (by decide)) rfl rfl ?_
            exact ret_e (by unfold lackM; grind) rfl
          · skip
            refine G_iload (i := 2) (n := 1) (len := 1) (Or.inl ⟨2, rfl, rfl, d_Mo_lacks_111⟩) rfl (G_pc (pc' := 112) rfl ?_)
            refine G_bipush (n := 44) d_Mo_lacks_112 (by decide) (G_pc (pc' := 114) rfl ?_)
            refine G_icmp_ne (tgt := 121) d_Mo_lacks_114 (by decide) (fun h12 => ?_) (fun h12 => G_pc (pc' := 117) rfl ?_)
            · skip
              refine G_iload (i := 2) (n := 1) (len := 1) (Or.inl ⟨2, rfl, rfl, d_Mo_lacks_121⟩) rfl (G_pc (pc' := 122) rfl ?_)
              refine G_bipush (n := 46) d_Mo_lacks_122 (by decide) (G_pc (pc' := 124) rfl ?_)
              refine G_icmp_ne (tgt := 133) d_Mo_lacks_124 (by decide) (fun h13 => ?_) (fun h13 => G_pc (pc' := 127) rfl ?_)
              · skip
                refine G_aload (i := 0) (n := 2) (len := 1) (Or.inl ⟨0, rfl, rfl, d_Mo_lacks_133⟩) rfl (by decide) (G_pc (pc' := 134) rfl ?_)
                refine G_get (o := 55) (c := 9) (k := 35) (v := 82) d_Mo_lacks_134 fl_Mo_90 rfl (by decide) (by decide) rfl rfl (G_pc (pc' := 137) rfl ?_)
                refine G_aload (i := 0) (n := 2) (len := 1) (Or.inl ⟨0, rfl, rfl, d_Mo_lacks_137⟩) rfl (by decide) (G_pc (pc' := 138) rfl ?_)
                refine G_get (o := 55) (c := 9) (k := 31) (v := 78) d_Mo_lacks_138 fl_Mo_78 rfl (by decide) (by decide) rfl rfl (G_pc (pc' := 141) rfl ?_)
                refine G_iload (i := 1) (n := 3) (len := 1) (Or.inl ⟨1, rfl, rfl, d_Mo_lacks_141⟩) rfl (G_pc (pc' := 142) rfl ?_)
                refine G_iaload (o := 78) (n := 32) (i := n) (v := M 78 n) d_Mo_lacks_142 rfl ⟨by decide, by decide⟩ (by omega) (rd_arr rfl) (fun t14 => G_pc (pc' := 143) rfl ?_)
                have t14 := tok_i t14
                refine G_zaload (o := 82) (n := 32) (i := M 78 n) (v := M 82 (M 78 n)) d_Mo_lacks_143 rfl ⟨by decide, by decide⟩ (by omega) (rd_arr rfl) (fun t15 => G_pc (pc' := 144) rfl ?_)
                have t15 := tok_z t15
                refine G_if_eq (tgt := 151) d_Mo_lacks_144 (by decide) (fun h16 => ?_) (fun h16 => G_pc (pc' := 147) rfl ?_)
                · skip
                  refine G_aload (i := 0) (n := 2) (len := 1) (Or.inl ⟨0, rfl, rfl, d_Mo_lacks_151⟩) rfl (by decide) (G_pc (pc' := 152) rfl ?_)
                  refine G_get (o := 55) (c := 9) (k := 31) (v := 78) d_Mo_lacks_152 fl_Mo_78 rfl (by decide) (by decide) rfl rfl (G_pc (pc' := 155) rfl ?_)
                  refine G_iload (i := 1) (n := 3) (len := 1) (Or.inl ⟨1, rfl, rfl, d_Mo_lacks_155⟩) rfl (G_pc (pc' := 156) rfl ?_)
                  refine G_iaload (o := 78) (n := 32) (i := n) (v := M 78 n) d_Mo_lacks_156 rfl ⟨by decide, by decide⟩ (by omega) (rd_arr rfl) (fun t17 => G_pc (pc' := 157) rfl ?_)
                  have t17 := tok_i t17
                  refine G_iret d_Mo_lacks_157 rfl (tokI (by omega)) rfl rfl ?_
                  exact ret_e (by unfold lackM; grind) rfl
                · skip
                  refine G_iconst (n := (-1)) d_Mo_lacks_147 (by decide) (G_pc (pc' := 148) rfl ?_)
                  refine G_goto (tgt := 157) d_Mo_lacks_148 (by decide) ?_
                  refine G_iret d_Mo_lacks_157 rfl (tokI (by decide)) rfl rfl ?_
                  exact ret_e (by unfold lackM; grind) rfl
              · skip
                refine G_iload (i := 3) (n := 0) (len := 1) (Or.inl ⟨3, rfl, rfl, d_Mo_lacks_127⟩) rfl (G_pc (pc' := 128) rfl ?_)
                refine G_if_eq (tgt := 133) d_Mo_lacks_128 (by decide) (fun h18 => ?_) (fun h18 => absurd h18 (by decide))
                refine G_aload (i := 0) (n := 2) (len := 1) (Or.inl ⟨0, rfl, rfl, d_Mo_lacks_133⟩) rfl (by decide) (G_pc (pc' := 134) rfl ?_)
                refine G_get (o := 55) (c := 9) (k := 35) (v := 82) d_Mo_lacks_134 fl_Mo_90 rfl (by decide) (by decide) rfl rfl (G_pc (pc' := 137) rfl ?_)
                refine G_aload (i := 0) (n := 2) (len := 1) (Or.inl ⟨0, rfl, rfl, d_Mo_lacks_137⟩) rfl (by decide) (G_pc (pc' := 138) rfl ?_)
                refine G_get (o := 55) (c := 9) (k := 31) (v := 78) d_Mo_lacks_138 fl_Mo_78 rfl (by decide) (by decide) rfl rfl (G_pc (pc' := 141) rfl ?_)
                refine G_iload (i := 1) (n := 3) (len := 1) (Or.inl ⟨1, rfl, rfl, d_Mo_lacks_141⟩) rfl (G_pc (pc' := 142) rfl ?_)
                refine G_iaload (o := 78) (n := 32) (i := n) (v := M 78 n) d_Mo_lacks_142 rfl ⟨by decide, by decide⟩ (by omega) (rd_arr rfl) (fun t19 => G_pc (pc' := 143) rfl ?_)
                have t19 := tok_i t19
                refine G_zaload (o := 82) (n := 32) (i := M 78 n) (v := M 82 (M 78 n)) d_Mo_lacks_143 rfl ⟨by decide, by decide⟩ (by omega) (rd_arr rfl) (fun t20 => G_pc (pc' := 144) rfl ?_)
                have t20 := tok_z t20
                refine G_if_eq (tgt := 151) d_Mo_lacks_144 (by decide) (fun h21 => ?_) (fun h21 => G_pc (pc' := 147) rfl ?_)
                · skip
                  refine G_aload (i := 0) (n := 2) (len := 1) (Or.inl ⟨0, rfl, rfl, d_Mo_lacks_151⟩) rfl (by decide) (G_pc (pc' := 152) rfl ?_)
                  refine G_get (o := 55) (c := 9) (k := 31) (v := 78) d_Mo_lacks_152 fl_Mo_78 rfl (by decide) (by decide) rfl rfl (G_pc (pc' := 155) rfl ?_)
                  refine G_iload (i := 1) (n := 3) (len := 1) (Or.inl ⟨1, rfl, rfl, d_Mo_lacks_155⟩) rfl (G_pc (pc' := 156) rfl ?_)
                  refine G_iaload (o := 78) (n := 32) (i := n) (v := M 78 n) d_Mo_lacks_156 rfl ⟨by decide, by decide⟩ (by omega) (rd_arr rfl) (fun t22 => G_pc (pc' := 157) rfl ?_)
                  have t22 := tok_i t22
                  refine G_iret d_Mo_lacks_157 rfl (tokI (by omega)) rfl rfl ?_
                  exact ret_e (by unfold lackM; grind) rfl
                · skip
                  refine G_iconst (n := (-1)) d_Mo_lacks_147 (by decide) (G_pc (pc' := 148) rfl ?_)
                  refine G_goto (tgt := 157) d_Mo_lacks_148 (by decide) ?_
                  refine G_iret d_Mo_lacks_157 rfl (tokI (by decide)) rfl rfl ?_
                  exact ret_e (by unfold lackM; grind) rfl
            · skip
              refine G_iload (i := 3) (n := 0) (len := 1) (Or.inl ⟨3, rfl, rfl, d_Mo_lacks_117⟩) rfl (G_pc (pc' := 118) rfl ?_)
              refine G_if_eq (tgt := 131) d_Mo_lacks_118 (by decide) (fun h23 => ?_) (fun h23 => absurd h23 (by decide))
              refine G_iconst (n := (-1)) d_Mo_lacks_131 (by decide) (G_pc (pc' := 132) rfl ?_)
              refine G_iret d_Mo_lacks_132 rfl (tokI (by decide)) rfl rfl ?_
              exact ret_e (by unfold lackM; grind) rfl
        · skip
          refine G_iload (i := 3) (n := 0) (len := 1) (Or.inl ⟨3, rfl, rfl, d_Mo_lacks_64⟩) rfl (G_pc (pc' := 65) rfl ?_)
          refine G_if_eq (tgt := 77) d_Mo_lacks_65 (by decide) (fun h24 => ?_) (fun h24 => absurd h24 (by decide))
          refine G_aload (i := 0) (n := 2) (len := 1) (Or.inl ⟨0, rfl, rfl, d_Mo_lacks_77⟩) rfl (by decide) (G_pc (pc' := 78) rfl ?_)
          refine G_get (o := 55) (c := 9) (k := 32) (v := 79) d_Mo_lacks_78 fl_Mo_81 rfl (by decide) (by decide) rfl rfl (G_pc (pc' := 81) rfl ?_)
          refine G_iload (i := 1) (n := 3) (len := 1) (Or.inl ⟨1, rfl, rfl, d_Mo_lacks_81⟩) rfl (G_pc (pc' := 82) rfl ?_)
          refine G_iaload (o := 79) (n := 32) (i := n) (v := M 79 n) d_Mo_lacks_82 rfl ⟨by decide, by decide⟩ (by omega) (rd_arr rfl) (fun t25 => G_pc (pc' := 83) rfl ?_)
          have t25 := tok_i t25
          refine G_istore (i := 4) (len := 2) (ls' := [(4, vi (M 79 n)), (3, vi 0), (2, vi (M 76 n)), (0, vr 55), (1, vi n)]) (Or.inr ⟨rfl, d_Mo_lacks_83⟩) (by decide) rfl (G_pc (pc' := 85) rfl ?_)
          refine G_aload (i := 0) (n := 3) (len := 1) (Or.inl ⟨0, rfl, rfl, d_Mo_lacks_85⟩) rfl (by decide) (G_pc (pc' := 86) rfl ?_)
          refine G_get (o := 55) (c := 9) (k := 35) (v := 82) d_Mo_lacks_86 fl_Mo_90 rfl (by decide) (by decide) rfl rfl (G_pc (pc' := 89) rfl ?_)
          refine G_iload (i := 4) (n := 0) (len := 2) (Or.inr ⟨rfl, d_Mo_lacks_89⟩) rfl (G_pc (pc' := 91) rfl ?_)
          refine G_zaload (o := 82) (n := 32) (i := M 79 n) (v := M 82 (M 79 n)) d_Mo_lacks_91 rfl ⟨by decide, by decide⟩ (by omega) (rd_arr rfl) (fun t26 => G_pc (pc' := 92) rfl ?_)
          have t26 := tok_z t26
          refine G_if_eq (tgt := 99) d_Mo_lacks_92 (by decide) (fun h27 => ?_) (fun h27 => G_pc (pc' := 95) rfl ?_)
          · skip
            refine G_iload (i := 4) (n := 0) (len := 2) (Or.inr ⟨rfl, d_Mo_lacks_99⟩) rfl (G_pc (pc' := 101) rfl ?_)
            refine G_iret d_Mo_lacks_101 rfl (tokI (by omega)) rfl rfl ?_
            exact ret_e (by unfold lackM; grind) rfl
          · skip
            refine G_iconst (n := (-1)) d_Mo_lacks_95 (by decide) (G_pc (pc' := 96) rfl ?_)
            refine G_goto (tgt := 101) d_Mo_lacks_96 (by decide) ?_
            refine G_iret d_Mo_lacks_101 rfl (tokI (by decide)) rfl rfl ?_
            exact ret_e (by unfold lackM; grind) rfl
      · skip
        refine G_iconst (n := 1) d_Mo_lacks_52 (by decide) (G_pc (pc' := 53) rfl ?_)
        refine G_goto (tgt := 57) d_Mo_lacks_53 (by decide) ?_
        refine G_istore (i := 3) (len := 1) (ls' := [(3, vi 1), (2, vi (M 76 n)), (0, vr 55), (1, vi n)]) (Or.inl ⟨3, rfl, rfl, d_Mo_lacks_57⟩) (by decide) rfl (G_pc (pc' := 58) rfl ?_)
        refine G_iload (i := 2) (n := 1) (len := 1) (Or.inl ⟨2, rfl, rfl, d_Mo_lacks_58⟩) rfl (G_pc (pc' := 59) rfl ?_)
        refine G_bipush (n := 65) d_Mo_lacks_59 (by decide) (G_pc (pc' := 61) rfl ?_)
        refine G_icmp_ne (tgt := 102) d_Mo_lacks_61 (by decide) (fun h28 => ?_) (fun h28 => G_pc (pc' := 64) rfl ?_)
        · skip
          refine G_aload (i := 0) (n := 2) (len := 1) (Or.inl ⟨0, rfl, rfl, d_Mo_lacks_102⟩) rfl (by decide) (G_pc (pc' := 103) rfl ?_)
          refine G_get (o := 55) (c := 9) (k := 31) (v := 78) d_Mo_lacks_103 fl_Mo_78 rfl (by decide) (by decide) rfl rfl (G_pc (pc' := 106) rfl ?_)
          refine G_iload (i := 1) (n := 3) (len := 1) (Or.inl ⟨1, rfl, rfl, d_Mo_lacks_106⟩) rfl (G_pc (pc' := 107) rfl ?_)
          refine G_iaload (o := 78) (n := 32) (i := n) (v := M 78 n) d_Mo_lacks_107 rfl ⟨by decide, by decide⟩ (by omega) (rd_arr rfl) (fun t29 => G_pc (pc' := 108) rfl ?_)
          have t29 := tok_i t29
          refine G_if_lt (tgt := 131) d_Mo_lacks_108 (by decide) (fun h30 => ?_) (fun h30 => G_pc (pc' := 111) rfl ?_)
          · skip
            refine G_iconst (n := (-1)) d_Mo_lacks_131 (by decide) (G_pc (pc' := 132) rfl ?_)
            refine G_iret d_Mo_lacks_132 rfl (tokI (by decide)) rfl rfl ?_
            exact ret_e (by unfold lackM; grind) rfl
          · skip
            refine G_iload (i := 2) (n := 1) (len := 1) (Or.inl ⟨2, rfl, rfl, d_Mo_lacks_111⟩) rfl (G_pc (pc' := 112) rfl ?_)
            refine G_bipush (n := 44) d_Mo_lacks_112 (by decide) (G_pc (pc' := 114) rfl ?_)
            refine G_icmp_ne (tgt := 121) d_Mo_lacks_114 (by decide) (fun h31 => ?_) (fun h31 => G_pc (pc' := 117) rfl ?_)
            · skip
              refine G_iload (i := 2) (n := 1) (len := 1) (Or.inl ⟨2, rfl, rfl, d_Mo_lacks_121⟩) rfl (G_pc (pc' := 122) rfl ?_)
              refine G_bipush (n := 46) d_Mo_lacks_122 (by decide) (G_pc (pc' := 124) rfl ?_)
              refine G_icmp_ne (tgt := 133) d_Mo_lacks_124 (by decide) (fun h32 => ?_) (fun h32 => G_pc (pc' := 127) rfl ?_)
              · skip
                refine G_aload (i := 0) (n := 2) (len := 1) (Or.inl ⟨0, rfl, rfl, d_Mo_lacks_133⟩) rfl (by decide) (G_pc (pc' := 134) rfl ?_)
                refine G_get (o := 55) (c := 9) (k := 35) (v := 82) d_Mo_lacks_134 fl_Mo_90 rfl (by decide) (by decide) rfl rfl (G_pc (pc' := 137) rfl ?_)
                refine G_aload (i := 0) (n := 2) (len := 1) (Or.inl ⟨0, rfl, rfl, d_Mo_lacks_137⟩) rfl (by decide) (G_pc (pc' := 138) rfl ?_)
                refine G_get (o := 55) (c := 9) (k := 31) (v := 78) d_Mo_lacks_138 fl_Mo_78 rfl (by decide) (by decide) rfl rfl (G_pc (pc' := 141) rfl ?_)
                refine G_iload (i := 1) (n := 3) (len := 1) (Or.inl ⟨1, rfl, rfl, d_Mo_lacks_141⟩) rfl (G_pc (pc' := 142) rfl ?_)
                refine G_iaload (o := 78) (n := 32) (i := n) (v := M 78 n) d_Mo_lacks_142 rfl ⟨by decide, by decide⟩ (by omega) (rd_arr rfl) (fun t33 => G_pc (pc' := 143) rfl ?_)
                have t33 := tok_i t33
                refine G_zaload (o := 82) (n := 32) (i := M 78 n) (v := M 82 (M 78 n)) d_Mo_lacks_143 rfl ⟨by decide, by decide⟩ (by omega) (rd_arr rfl) (fun t34 => G_pc (pc' := 144) rfl ?_)
                have t34 := tok_z t34
                refine G_if_eq (tgt := 151) d_Mo_lacks_144 (by decide) (fun h35 => ?_) (fun h35 => G_pc (pc' := 147) rfl ?_)
                · skip
                  refine G_aload (i := 0) (n := 2) (len := 1) (Or.inl ⟨0, rfl, rfl, d_Mo_lacks_151⟩) rfl (by decide) (G_pc (pc' := 152) rfl ?_)
                  refine G_get (o := 55) (c := 9) (k := 31) (v := 78) d_Mo_lacks_152 fl_Mo_78 rfl (by decide) (by decide) rfl rfl (G_pc (pc' := 155) rfl ?_)
                  refine G_iload (i := 1) (n := 3) (len := 1) (Or.inl ⟨1, rfl, rfl, d_Mo_lacks_155⟩) rfl (G_pc (pc' := 156) rfl ?_)
                  refine G_iaload (o := 78) (n := 32) (i := n) (v := M 78 n) d_Mo_lacks_156 rfl ⟨by decide, by decide⟩ (by omega) (rd_arr rfl) (fun t36 => G_pc (pc' := 157) rfl ?_)
                  have t36 := tok_i t36
                  refine G_iret d_Mo_lacks_157 rfl (tokI (by omega)) rfl rfl ?_
                  exact ret_e (by unfold lackM; grind) rfl
                · skip
                  refine G_iconst (n := (-1)) d_Mo_lacks_147 (by decide) (G_pc (pc' := 148) rfl ?_)
                  refine G_goto (tgt := 157) d_Mo_lacks_148 (by decide) ?_
                  refine G_iret d_Mo_lacks_157 rfl (tokI (by decide)) rfl rfl ?_
                  exact ret_e (by unfold lackM; grind) rfl
              · skip
                refine G_iload (i := 3) (n := 0) (len := 1) (Or.inl ⟨3, rfl, rfl, d_Mo_lacks_127⟩) rfl (G_pc (pc' := 128) rfl ?_)
                refine G_if_eq (tgt := 133) d_Mo_lacks_128 (by decide) (fun h37 => absurd h37 (by decide)) (fun h37 => G_pc (pc' := 131) rfl ?_)
                refine G_iconst (n := (-1)) d_Mo_lacks_131 (by decide) (G_pc (pc' := 132) rfl ?_)
                refine G_iret d_Mo_lacks_132 rfl (tokI (by decide)) rfl rfl ?_
                exact ret_e (by unfold lackM; grind) rfl
            · skip
              refine G_iload (i := 3) (n := 0) (len := 1) (Or.inl ⟨3, rfl, rfl, d_Mo_lacks_117⟩) rfl (G_pc (pc' := 118) rfl ?_)
              refine G_if_eq (tgt := 131) d_Mo_lacks_118 (by decide) (fun h38 => absurd h38 (by decide)) (fun h38 => G_pc (pc' := 121) rfl ?_)
              refine G_iload (i := 2) (n := 1) (len := 1) (Or.inl ⟨2, rfl, rfl, d_Mo_lacks_121⟩) rfl (G_pc (pc' := 122) rfl ?_)
              refine G_bipush (n := 46) d_Mo_lacks_122 (by decide) (G_pc (pc' := 124) rfl ?_)
              refine G_icmp_ne (tgt := 133) d_Mo_lacks_124 (by decide) (fun h39 => ?_) (fun h39 => G_pc (pc' := 127) rfl ?_)
              · skip
                refine G_aload (i := 0) (n := 2) (len := 1) (Or.inl ⟨0, rfl, rfl, d_Mo_lacks_133⟩) rfl (by decide) (G_pc (pc' := 134) rfl ?_)
                refine G_get (o := 55) (c := 9) (k := 35) (v := 82) d_Mo_lacks_134 fl_Mo_90 rfl (by decide) (by decide) rfl rfl (G_pc (pc' := 137) rfl ?_)
                refine G_aload (i := 0) (n := 2) (len := 1) (Or.inl ⟨0, rfl, rfl, d_Mo_lacks_137⟩) rfl (by decide) (G_pc (pc' := 138) rfl ?_)
                refine G_get (o := 55) (c := 9) (k := 31) (v := 78) d_Mo_lacks_138 fl_Mo_78 rfl (by decide) (by decide) rfl rfl (G_pc (pc' := 141) rfl ?_)
                refine G_iload (i := 1) (n := 3) (len := 1) (Or.inl ⟨1, rfl, rfl, d_Mo_lacks_141⟩) rfl (G_pc (pc' := 142) rfl ?_)
                refine G_iaload (o := 78) (n := 32) (i := n) (v := M 78 n) d_Mo_lacks_142 rfl ⟨by decide, by decide⟩ (by omega) (rd_arr rfl) (fun t40 => G_pc (pc' := 143) rfl ?_)
                have t40 := tok_i t40
                refine G_zaload (o := 82) (n := 32) (i := M 78 n) (v := M 82 (M 78 n)) d_Mo_lacks_143 rfl ⟨by decide, by decide⟩ (by omega) (rd_arr rfl) (fun t41 => G_pc (pc' := 144) rfl ?_)
                have t41 := tok_z t41
                refine G_if_eq (tgt := 151) d_Mo_lacks_144 (by decide) (fun h42 => ?_) (fun h42 => G_pc (pc' := 147) rfl ?_)
                · skip
                  refine G_aload (i := 0) (n := 2) (len := 1) (Or.inl ⟨0, rfl, rfl, d_Mo_lacks_151⟩) rfl (by decide) (G_pc (pc' := 152) rfl ?_)
                  refine G_get (o := 55) (c := 9) (k := 31) (v := 78) d_Mo_lacks_152 fl_Mo_78 rfl (by decide) (by decide) rfl rfl (G_pc (pc' := 155) rfl ?_)
                  refine G_iload (i := 1) (n := 3) (len := 1) (Or.inl ⟨1, rfl, rfl, d_Mo_lacks_155⟩) rfl (G_pc (pc' := 156) rfl ?_)
                  refine G_iaload (o := 78) (n := 32) (i := n) (v := M 78 n) d_Mo_lacks_156 rfl ⟨by decide, by decide⟩ (by omega) (rd_arr rfl) (fun t43 => G_pc (pc' := 157) rfl ?_)
                  have t43 := tok_i t43
                  refine G_iret d_Mo_lacks_157 rfl (tokI (by omega)) rfl rfl ?_
                  exact ret_e (by unfold lackM; grind) rfl
                · skip
                  refine G_iconst (n := (-1)) d_Mo_lacks_147 (by decide) (G_pc (pc' := 148) rfl ?_)
                  refine G_goto (tgt := 157) d_Mo_lacks_148 (by decide) ?_
                  refine G_iret d_Mo_lacks_157 rfl (tokI (by decide)) rfl rfl ?_
                  exact ret_e (by unfold lackM; grind) rfl
              · skip
                refine G_iload (i := 3) (n := 0) (len := 1) (Or.inl ⟨3, rfl, rfl, d_Mo_lacks_127⟩) rfl (G_pc (pc' := 128) rfl ?_)
                refine G_if_eq (tgt := 133) d_Mo_lacks_128 (by decide) (fun h44 => absurd h44 (by decide)) (fun h44 => G_pc (pc' := 131) rfl ?_)
                refine G_iconst (n := (-1)) d_Mo_lacks_131 (by decide) (G_pc (pc' := 132) rfl ?_)
                refine G_iret d_Mo_lacks_132 rfl (tokI (by decide)) rfl rfl ?_
                exact ret_e (by unfold lackM; grind) rfl
        · skip
          refine G_iload (i := 3) (n := 0) (len := 1) (Or.inl ⟨3, rfl, rfl, d_Mo_lacks_64⟩) rfl (G_pc (pc' := 65) rfl ?_)
          refine G_if_eq (tgt := 77) d_Mo_lacks_65 (by decide) (fun h45 => absurd h45 (by decide)) (fun h45 => G_pc (pc' := 68) rfl ?_)
          refine G_aload (i := 0) (n := 2) (len := 1) (Or.inl ⟨0, rfl, rfl, d_Mo_lacks_68⟩) rfl (by decide) (G_pc (pc' := 69) rfl ?_)
          refine G_get (o := 55) (c := 9) (k := 31) (v := 78) d_Mo_lacks_69 fl_Mo_78 rfl (by decide) (by decide) rfl rfl (G_pc (pc' := 72) rfl ?_)
          refine G_iload (i := 1) (n := 3) (len := 1) (Or.inl ⟨1, rfl, rfl, d_Mo_lacks_72⟩) rfl (G_pc (pc' := 73) rfl ?_)
          refine G_iaload (o := 78) (n := 32) (i := n) (v := M 78 n) d_Mo_lacks_73 rfl ⟨by decide, by decide⟩ (by omega) (rd_arr rfl) (fun t46 => G_pc (pc' := 74) rfl ?_)
          have t46 := tok_i t46
          refine G_goto (tgt := 83) d_Mo_lacks_74 (by decide) ?_
          refine G_istore (i := 4) (len := 2) (ls' := [(4, vi (M 78 n)), (3, vi 1), (2, vi (M 76 n)), (0, vr 55), (1, vi n)]) (Or.inr ⟨rfl, d_Mo_lacks_83⟩) (by decide) rfl (G_pc (pc' := 85) rfl ?_)
          refine G_aload (i := 0) (n := 3) (len := 1) (Or.inl ⟨0, rfl, rfl, d_Mo_lacks_85⟩) rfl (by decide) (G_pc (pc' := 86) rfl ?_)
          refine G_get (o := 55) (c := 9) (k := 35) (v := 82) d_Mo_lacks_86 fl_Mo_90 rfl (by decide) (by decide) rfl rfl (G_pc (pc' := 89) rfl ?_)
          refine G_iload (i := 4) (n := 0) (len := 2) (Or.inr ⟨rfl, d_Mo_lacks_89⟩) rfl (G_pc (pc' := 91) rfl ?_)
          refine G_zaload (o := 82) (n := 32) (i := M 78 n) (v := M 82 (M 78 n)) d_Mo_lacks_91 rfl ⟨by decide, by decide⟩ (by omega) (rd_arr rfl) (fun t47 => G_pc (pc' := 92) rfl ?_)
          have t47 := tok_z t47
          refine G_if_eq (tgt := 99) d_Mo_lacks_92 (by decide) (fun h48 => ?_) (fun h48 => G_pc (pc' := 95) rfl ?_)
          · skip
            refine G_iload (i := 4) (n := 0) (len := 2) (Or.inr ⟨rfl, d_Mo_lacks_99⟩) rfl (G_pc (pc' := 101) rfl ?_)
            refine G_iret d_Mo_lacks_101 rfl (tokI (by omega)) rfl rfl ?_
            exact ret_e (by unfold lackM; grind) rfl
          · skip
            refine G_iconst (n := (-1)) d_Mo_lacks_95 (by decide) (G_pc (pc' := 96) rfl ?_)
            refine G_goto (tgt := 101) d_Mo_lacks_96 (by decide) ?_
            refine G_iret d_Mo_lacks_101 rfl (tokI (by decide)) rfl rfl ?_
            exact ret_e (by unfold lackM; grind) rfl
    · skip
      refine G_aload (i := 0) (n := 1) (len := 1) (Or.inl ⟨0, rfl, rfl, d_Mo_lacks_29⟩) rfl (by decide) (G_pc (pc' := 30) rfl ?_)
      refine G_get (o := 55) (c := 9) (k := 30) (v := 77) d_Mo_lacks_30 fl_Mo_75 rfl (by decide) (by decide) rfl rfl (G_pc (pc' := 33) rfl ?_)
      refine G_iload (i := 1) (n := 2) (len := 1) (Or.inl ⟨1, rfl, rfl, d_Mo_lacks_33⟩) rfl (G_pc (pc' := 34) rfl ?_)
      refine G_iaload (o := 77) (n := 32) (i := n) (v := M 77 n) d_Mo_lacks_34 rfl ⟨by decide, by decide⟩ (by omega) (rd_arr rfl) (fun t49 => G_pc (pc' := 35) rfl ?_)
      have t49 := tok_i t49
      refine G_iret d_Mo_lacks_35 rfl (tokI (by omega)) rfl rfl ?_
      exact ret_e (by unfold lackM; grind) rfl
  · skip
    refine G_iconst (n := (-1)) d_Mo_lacks_13 (by decide) (G_pc (pc' := 14) rfl ?_)
    refine G_iret d_Mo_lacks_14 rfl (tokI (by decide)) rfl rfl ?_
    exact ret_e (by unfold lackM; grind) rfl

theorem d_Mo_has_0 : decode b_Mo_has 0 = .ok (.aload_n 0, 1) := by decide +kernel
theorem d_Mo_has_1 : decode b_Mo_has 1 = .ok (.iload_n 1, 1) := by decide +kernel
theorem d_Mo_has_2 : decode b_Mo_has 2 = .ok (.iload_n 2, 1) := by decide +kernel
theorem d_Mo_has_3 : decode b_Mo_has 3 = .ok (.iload_n 3, 1) := by decide +kernel
theorem d_Mo_has_4 : decode b_Mo_has 4 = .ok (.invokevirtual 273, 3) := by decide +kernel
theorem d_Mo_has_7 : decode b_Mo_has 7 = .ok (.istore 4, 2) := by decide +kernel
theorem d_Mo_has_9 : decode b_Mo_has 9 = .ok (.aload_n 0, 1) := by decide +kernel
theorem d_Mo_has_10 : decode b_Mo_has 10 = .ok (.aload_n 0, 1) := by decide +kernel
theorem d_Mo_has_11 : decode b_Mo_has 11 = .ok (.getfield 57, 3) := by decide +kernel
theorem d_Mo_has_14 : decode b_Mo_has 14 = .ok (.iload 4, 2) := by decide +kernel
theorem d_Mo_has_16 : decode b_Mo_has 16 = .ok (.baload, 1) := by decide +kernel
theorem d_Mo_has_17 : decode b_Mo_has 17 = .ok (.ifCond .eq 7, 3) := by decide +kernel
theorem d_Mo_has_20 : decode b_Mo_has 20 = .ok (.iconst (-1), 1) := by decide +kernel
theorem d_Mo_has_21 : decode b_Mo_has 21 = .ok (.goto 5, 3) := by decide +kernel
theorem d_Mo_has_24 : decode b_Mo_has 24 = .ok (.iload 4, 2) := by decide +kernel
theorem d_Mo_has_26 : decode b_Mo_has 26 = .ok (.putfield 277, 3) := by decide +kernel
theorem d_Mo_has_29 : decode b_Mo_has 29 = .ok (.aload_n 0, 1) := by decide +kernel
theorem d_Mo_has_30 : decode b_Mo_has 30 = .ok (.getfield 57, 3) := by decide +kernel
theorem d_Mo_has_33 : decode b_Mo_has 33 = .ok (.iload 4, 2) := by decide +kernel
theorem d_Mo_has_35 : decode b_Mo_has 35 = .ok (.baload, 1) := by decide +kernel
theorem d_Mo_has_36 : decode b_Mo_has 36 = .ok (.ireturn, 1) := by decide +kernel
theorem g_Mo_has {X : WX} {d : Nat} (hd : 1 ≤ d) (what a b : Int) (M : Mem) (ha : 0 ≤ a ∧ a ≤ 1000) (hb : 0 ≤ b ∧ b ≤ 1000) (hp : 0 ≤ pieceM what a b ∧ pieceM what a b < 423) : MG X gt d KE KE y_Mo_has b_Mo_has 5 (some .boolean) [vr 55, vi what, vi a, vi b] M (fun r M' => r = some (vi (M 71 (pieceM what a b))) ∧ M' = hasM M (pieceM what a b)) := by
  refine MG_of_G (by decide) (Nat.le_of_ble_eq_true rfl) (Nat.le_refl _) (by decide) ?_
  show G X gt d KE KE y_Mo_has b_Mo_has 5 (some .boolean) _ 0 [(0, vr 55), (1, vi what), (2, vi a), (3, vi b)] [] KE M
  refine G_rngl (i := 1) rfl (fun hr1 => ?_)
  refine G_rngl (i := 2) rfl (fun hr2 => ?_)
  refine G_rngl (i := 3) rfl (fun hr3 => ?_)
  refine G_aload (i := 0) (n := 0) (len := 1) (Or.inl ⟨0, rfl, rfl, d_Mo_has_0⟩) rfl (by decide) (G_pc (pc' := 1) rfl ?_)
  refine G_iload (i := 1) (n := 1) (len := 1) (Or.inl ⟨1, rfl, rfl, d_Mo_has_1⟩) rfl (G_pc (pc' := 2) rfl ?_)
  refine G_iload (i := 2) (n := 2) (len := 1) (Or.inl ⟨2, rfl, rfl, d_Mo_has_2⟩) rfl (G_pc (pc' := 3) rfl ?_)
  refine G_iload (i := 3) (n := 3) (len := 1) (Or.inl ⟨3, rfl, rfl, d_Mo_has_3⟩) rfl (G_pc (pc' := 4) rfl ?_)
  refine G_callV (K1 := KE) (d2 := 0) (o := 55) (cl := 9) (as := [vi what, vi a, vi b]) (rest := []) d_Mo_has_4 mf_Mo_pieceOf ml_Mo_273 rfl rfl (by decide) rfl rfl (Nat.le_of_ble_eq_true rfl) (by omega) ⟨Nat.le_refl _, Nat.le_refl _⟩ (g_Mo_pieceOf (by omega) what a b _ (by omega) (by omega)) (fun r1 M2 kq3 q3 => ?_)
  clear kq3; obtain ⟨q3a, q3b⟩ := q3; subst r1; subst M2
  refine G_ps (pc' := 7) (st' := [vi (pieceM what a b)]) rfl rfl ?_
  refine G_istore (i := 4) (len := 2) (ls' := [(4, vi (pieceM what a b)), (0, vr 55), (1, vi what), (2, vi a), (3, vi b)]) (Or.inr ⟨rfl, d_Mo_has_7⟩) (by decide) rfl (G_pc (pc' := 9) rfl ?_)
  refine G_aload (i := 0) (n := 1) (len := 1) (Or.inl ⟨0, rfl, rfl, d_Mo_has_9⟩) rfl (by decide) (G_pc (pc' := 10) rfl ?_)
  refine G_aload (i := 0) (n := 1) (len := 1) (Or.inl ⟨0, rfl, rfl, d_Mo_has_10⟩) rfl (by decide) (G_pc (pc' := 11) rfl ?_)
  refine G_get (o := 55) (c := 9) (k := 20) (v := 71) d_Mo_has_11 fl_Mo_57 rfl (by decide) (by decide) rfl rfl (G_pc (pc' := 14) rfl ?_)
  refine G_iload (i := 4) (n := 0) (len := 2) (Or.inr ⟨rfl, d_Mo_has_14⟩) rfl (G_pc (pc' := 16) rfl ?_)
  refine G_zaload (o := 71) (n := 423) (i := pieceM what a b) (v := M 71 (pieceM what a b)) d_Mo_has_16 rfl ⟨by decide, by decide⟩ (by omega) (rd_arr rfl) (fun t4 => G_pc (pc' := 17) rfl ?_)
  have t4 := tok_z t4
  refine G_if_eq (tgt := 24) d_Mo_has_17 (by decide) (fun h5 => ?_) (fun h5 => G_pc (pc' := 20) rfl ?_)
  · skip
    refine G_iload (i := 4) (n := 0) (len := 2) (Or.inr ⟨rfl, d_Mo_has_24⟩) rfl (G_pc (pc' := 26) rfl ?_)
    refine G_putL (o := 55) (c := 9) (k := 47) (ki := 47) (x := pieceM what a b) d_Mo_has_26 fl_Mo_277 rfl rfl (by decide) (by decide) (by decide) rfl rfl (tokI (by omega)) rfl (G_pc (pc' := 29) rfl ?_)
    refine G_aload (i := 0) (n := 1) (len := 1) (Or.inl ⟨0, rfl, rfl, d_Mo_has_29⟩) rfl (by decide) (G_pc (pc' := 30) rfl ?_)
    refine G_get (o := 55) (c := 9) (k := 20) (v := 71) d_Mo_has_30 fl_Mo_57 rfl (by decide) (by decide) rfl rfl (G_pc (pc' := 33) rfl ?_)
    refine G_iload (i := 4) (n := 0) (len := 2) (Or.inr ⟨rfl, d_Mo_has_33⟩) rfl (G_pc (pc' := 35) rfl ?_)
    refine G_zaload (o := 71) (n := 423) (i := pieceM what a b) (v := M 71 (pieceM what a b)) d_Mo_has_35 rfl ⟨by decide, by decide⟩ (by omega) (rd_arr rfl) (fun t6 => G_pc (pc' := 36) rfl ?_)
    have t6 := tok_z t6
    refine G_iret d_Mo_has_36 rfl (tokZ (by omega)) rfl rfl ?_
    exact ⟨rfl, by unfold hasM; first | rw [if_pos (by omega)] | rw [if_neg (by omega)]⟩
  · skip
    refine G_iconst (n := (-1)) d_Mo_has_20 (by decide) (G_pc (pc' := 21) rfl ?_)
    refine G_goto (tgt := 26) d_Mo_has_21 (by decide) ?_
    refine G_putL (o := 55) (c := 9) (k := 47) (ki := 47) (x := (-1)) d_Mo_has_26 fl_Mo_277 rfl rfl (by decide) (by decide) (by decide) rfl rfl (tokI (by decide)) rfl (G_pc (pc' := 29) rfl ?_)
    refine G_aload (i := 0) (n := 1) (len := 1) (Or.inl ⟨0, rfl, rfl, d_Mo_has_29⟩) rfl (by decide) (G_pc (pc' := 30) rfl ?_)
    refine G_get (o := 55) (c := 9) (k := 20) (v := 71) d_Mo_has_30 fl_Mo_57 rfl (by decide) (by decide) rfl rfl (G_pc (pc' := 33) rfl ?_)
    refine G_iload (i := 4) (n := 0) (len := 2) (Or.inr ⟨rfl, d_Mo_has_33⟩) rfl (G_pc (pc' := 35) rfl ?_)
    refine G_zaload (o := 71) (n := 423) (i := pieceM what a b) (v := M 71 (pieceM what a b)) d_Mo_has_35 rfl ⟨by decide, by decide⟩ (by omega) (rd_arr rfl) (fun t7 => G_pc (pc' := 36) rfl ?_)
    have t7 := tok_z t7
    refine G_iret d_Mo_has_36 rfl (tokZ (by omega)) rfl rfl ?_
    exact ⟨rfl, by unfold hasM; first | rw [if_pos (by omega)] | rw [if_neg (by omega)]⟩

