theorem d_Js_coder_0 : decode b_Js_coder 0 = .ok (.getstatic 38, 3) := by decide +kernel
theorem d_Js_coder_3 : decode b_Js_coder 3 = .ok (.ifCond .eq 10, 3) := by decide +kernel
theorem d_Js_coder_6 : decode b_Js_coder 6 = .ok (.aload_n 0, 1) := by decide +kernel
theorem d_Js_coder_7 : decode b_Js_coder 7 = .ok (.getfield 15, 3) := by decide +kernel
theorem d_Js_coder_10 : decode b_Js_coder 10 = .ok (.goto 4, 3) := by decide +kernel
theorem d_Js_coder_14 : decode b_Js_coder 14 = .ok (.ireturn, 1) := by decide +kernel
theorem g_Js_coder {X : WX} {d : Nat} (hd : 0 ≤ d) (i : Nat) (M : Mem) (hi : i < 11) : MG X gt d KE KE y_Js_coder b_Js_coder 1 (some .byte) [vr ((1000 + i : Nat) : Int)] M (fun r M' => r = some (vi 0) ∧ M' = M) := by
  refine MG_of_G (by decide) (Nat.le_of_ble_eq_true rfl) (Nat.le_refl _) (by decide) ?_
  show G X gt d KE KE y_Js_coder b_Js_coder 1 (some .byte) _ 0 [(0, vr ((1000 + i : Nat) : Int))] [] KE M
  refine G_scmp d_Js_coder_0 rfl (G_pc (pc' := 3) rfl ?_)
  refine G_if_eq (tgt := 13) d_Js_coder_3 (by decide) (fun h1 => absurd h1 (by decide)) (fun h1 => G_pc (pc' := 6) rfl ?_)
  refine G_aload (i := 0) (n := 0) (len := 1) (Or.inl ⟨0, rfl, rfl, d_Js_coder_6⟩) rfl (by omega) (G_pc (pc' := 7) rfl ?_)
  refine G_scod (i := i) hi d_Js_coder_7 rfl (G_pc (pc' := 10) rfl ?_)
  refine G_goto (tgt := 14) d_Js_coder_10 (by decide) ?_
  refine G_iret d_Js_coder_14 rfl (tokB (by decide)) rfl rfl ?_
  exact ret_e (rfl) rfl

theorem d_Js_isLatin1_0 : decode b_Js_isLatin1 0 = .ok (.getstatic 38, 3) := by decide +kernel
theorem d_Js_isLatin1_3 : decode b_Js_isLatin1 3 = .ok (.ifCond .eq 14, 3) := by decide +kernel
theorem d_Js_isLatin1_6 : decode b_Js_isLatin1 6 = .ok (.aload_n 0, 1) := by decide +kernel
theorem d_Js_isLatin1_7 : decode b_Js_isLatin1 7 = .ok (.getfield 15, 3) := by decide +kernel
theorem d_Js_isLatin1_10 : decode b_Js_isLatin1 10 = .ok (.ifCond .ne 7, 3) := by decide +kernel
theorem d_Js_isLatin1_13 : decode b_Js_isLatin1 13 = .ok (.iconst 1, 1) := by decide +kernel
theorem d_Js_isLatin1_14 : decode b_Js_isLatin1 14 = .ok (.goto 4, 3) := by decide +kernel
theorem d_Js_isLatin1_18 : decode b_Js_isLatin1 18 = .ok (.ireturn, 1) := by decide +kernel
theorem g_Js_isLatin1 {X : WX} {d : Nat} (hd : 0 ≤ d) (i : Nat) (M : Mem) (hi : i < 11) : MG X gt d KE KE y_Js_isLatin1 b_Js_isLatin1 1 (some .boolean) [vr ((1000 + i : Nat) : Int)] M (fun r M' => r = some (vi 1) ∧ M' = M) := by
  refine MG_of_G (by decide) (Nat.le_of_ble_eq_true rfl) (Nat.le_refl _) (by decide) ?_
  show G X gt d KE KE y_Js_isLatin1 b_Js_isLatin1 1 (some .boolean) _ 0 [(0, vr ((1000 + i : Nat) : Int))] [] KE M
  refine G_scmp d_Js_isLatin1_0 rfl (G_pc (pc' := 3) rfl ?_)
  refine G_if_eq (tgt := 17) d_Js_isLatin1_3 (by decide) (fun h1 => absurd h1 (by decide)) (fun h1 => G_pc (pc' := 6) rfl ?_)
  refine G_aload (i := 0) (n := 0) (len := 1) (Or.inl ⟨0, rfl, rfl, d_Js_isLatin1_6⟩) rfl (by omega) (G_pc (pc' := 7) rfl ?_)
  refine G_scod (i := i) hi d_Js_isLatin1_7 rfl (G_pc (pc' := 10) rfl ?_)
  refine G_if_ne (tgt := 17) d_Js_isLatin1_10 (by decide) (fun h2 => absurd h2 (by decide)) (fun h2 => G_pc (pc' := 13) rfl ?_)
  refine G_iconst (n := 1) d_Js_isLatin1_13 (by decide) (G_pc (pc' := 14) rfl ?_)
  refine G_goto (tgt := 18) d_Js_isLatin1_14 (by decide) ?_
  refine G_iret d_Js_isLatin1_18 rfl (tokZ (by decide)) rfl rfl ?_
  exact ret_e (rfl) rfl

theorem ln_rng {i : Nat} (hi : i < 11) : 3 ≤ lnsD i ∧ lnsD i ≤ 14 := by
  have : ∀ i : Nat, i < 11 → 3 ≤ lnsD i ∧ lnsD i ≤ 14 := by decide
  exact this i hi
theorem ln_shr {i : Nat} (hi : i < 11) : o_ishr (lnsD i : Int) 0 = (lnsD i : Int) := by
  have : ∀ i : Nat, i < 11 → o_ishr (lnsD i : Int) 0 = (lnsD i : Int) := by decide +kernel
  exact this i hi
theorem by_rng {i j : Nat} (hi : i < 11) (hj : j < lnsD i) : o_iand (bysD i j) 255 % 65536 = bysD i j ∧ 33 ≤ bysD i j ∧ bysD i j ≤ 126 := by
  have : ∀ i : Nat, i < 11 → ∀ j : Nat, j < lnsD i → o_iand (bysD i j) 255 % 65536 = bysD i j ∧ 33 ≤ bysD i j ∧ bysD i j ≤ 126 := by decide +kernel
  exact this i hi j hj
theorem d_Js_length_0 : decode b_Js_length 0 = .ok (.aload_n 0, 1) := by decide +kernel
theorem d_Js_length_1 : decode b_Js_length 1 = .ok (.getfield 9, 3) := by decide +kernel
theorem d_Js_length_4 : decode b_Js_length 4 = .ok (.arraylength, 1) := by decide +kernel
theorem d_Js_length_5 : decode b_Js_length 5 = .ok (.aload_n 0, 1) := by decide +kernel
theorem d_Js_length_6 : decode b_Js_length 6 = .ok (.invokevirtual 335, 3) := by decide +kernel
theorem d_Js_length_9 : decode b_Js_length 9 = .ok (.ishr, 1) := by decide +kernel
theorem d_Js_length_10 : decode b_Js_length 10 = .ok (.ireturn, 1) := by decide +kernel
theorem g_Js_length {X : WX} {d : Nat} (hd : 1 ≤ d) (i : Nat) (M : Mem) (hi : i < 11) : MG X gt d KE KE y_Js_length b_Js_length 1 (some .int) [vr ((1000 + i : Nat) : Int)] M (fun r M' => r = some (vi (lnsD i : Int)) ∧ M' = M) := by
  refine MG_of_G (by decide) (Nat.le_of_ble_eq_true rfl) (Nat.le_refl _) (by decide) ?_
  show G X gt d KE KE y_Js_length b_Js_length 1 (some .int) _ 0 [(0, vr ((1000 + i : Nat) : Int))] [] KE M
  refine G_aload (i := 0) (n := 0) (len := 1) (Or.inl ⟨0, rfl, rfl, d_Js_length_0⟩) rfl (by omega) (G_pc (pc' := 1) rfl ?_)
  refine G_sval (i := i) hi d_Js_length_1 rfl (G_pc (pc' := 4) rfl ?_)
  refine G_slen (i := i) hi d_Js_length_4 (G_pc (pc' := 5) rfl ?_)
  refine G_aload (i := 0) (n := 0) (len := 1) (Or.inl ⟨0, rfl, rfl, d_Js_length_5⟩) rfl (by omega) (G_pc (pc' := 6) rfl ?_)
  refine G_callSt (K1 := KE) (d2 := 0) (i := i) (as := []) (rest := [vi (lnsD i : Int)]) hi d_Js_length_6 mf_Js_coder ml_Js_335 rfl rfl rfl (Nat.le_of_ble_eq_true rfl) (by omega) ⟨Nat.le_refl _, Nat.le_refl _⟩ (g_Js_coder (by omega) i  _ hi ) (fun r1 M2 kq3 q3 => ?_)
  clear kq3; obtain ⟨q3a, q3b⟩ := q3; subst r1; subst M2
  refine G_ps (pc' := 9) (st' := [vi 0, vi (lnsD i : Int)]) rfl rfl ?_
  refine G_ishr d_Js_length_9 (G_pc (pc' := 10) rfl ?_)
  refine G_iret d_Js_length_10 rfl (tokI (by rw [ln_shr hi]; have := ln_rng hi; omega)) rfl rfl ?_
  exact ret_e (ln_shr hi) rfl

theorem d_Jp_checkIndex_0 : decode b_Jp_checkIndex 0 = .ok (.iload_n 0, 1) := by decide +kernel
theorem d_Jp_checkIndex_1 : decode b_Jp_checkIndex 1 = .ok (.ifCond .lt 8, 3) := by decide +kernel
theorem d_Jp_checkIndex_4 : decode b_Jp_checkIndex 4 = .ok (.iload_n 0, 1) := by decide +kernel
theorem d_Jp_checkIndex_5 : decode b_Jp_checkIndex 5 = .ok (.iload_n 1, 1) := by decide +kernel
theorem d_Jp_checkIndex_6 : decode b_Jp_checkIndex 6 = .ok (.if_icmp .lt 10, 3) := by decide +kernel
theorem d_Jp_checkIndex_16 : decode b_Jp_checkIndex 16 = .ok (.iload_n 0, 1) := by decide +kernel
theorem d_Jp_checkIndex_17 : decode b_Jp_checkIndex 17 = .ok (.ireturn, 1) := by decide +kernel
theorem g_Jp_checkIndex {X : WX} {d : Nat} (hd : 0 ≤ d) (j n : Int) (M : Mem) (hj : 0 ≤ j ∧ j < n) : MG X gt d KE KE y_Jp_checkIndex b_Jp_checkIndex 3 (some .int) [vi j, vi n, vr ((X.1 3001 : Nat) : Int)] M (fun r M' => r = some (vi j) ∧ M' = M) := by
  refine MG_of_G (by decide) (Nat.le_of_ble_eq_true rfl) (Nat.le_refl _) (by decide) ?_
  show G X gt d KE KE y_Jp_checkIndex b_Jp_checkIndex 3 (some .int) _ 0 [(0, vi j), (1, vi n), (2, vr ((X.1 3001 : Nat) : Int))] [] KE M
  refine G_rngl (i := 0) rfl (fun hr0 => ?_)
  refine G_rngl (i := 1) rfl (fun hr1 => ?_)
  refine G_iload (i := 0) (n := 0) (len := 1) (Or.inl ⟨0, rfl, rfl, d_Jp_checkIndex_0⟩) rfl (G_pc (pc' := 1) rfl ?_)
  refine G_if_lt (tgt := 9) d_Jp_checkIndex_1 (by decide) (fun h1 => absurd h1 (by omega)) (fun h1 => G_pc (pc' := 4) rfl ?_)
  refine G_iload (i := 0) (n := 0) (len := 1) (Or.inl ⟨0, rfl, rfl, d_Jp_checkIndex_4⟩) rfl (G_pc (pc' := 5) rfl ?_)
  refine G_iload (i := 1) (n := 1) (len := 1) (Or.inl ⟨1, rfl, rfl, d_Jp_checkIndex_5⟩) rfl (G_pc (pc' := 6) rfl ?_)
  refine G_icmp_lt (tgt := 16) d_Jp_checkIndex_6 (by decide) (fun h2 => ?_) (fun h2 => absurd h2 (by omega))
  refine G_iload (i := 0) (n := 0) (len := 1) (Or.inl ⟨0, rfl, rfl, d_Jp_checkIndex_16⟩) rfl (G_pc (pc' := 17) rfl ?_)
  refine G_iret d_Jp_checkIndex_17 rfl (tokI (by omega)) rfl rfl ?_
  exact ret_e (rfl) rfl

theorem d_Js_checkIndex_0 : decode b_Js_checkIndex 0 = .ok (.iload_n 0, 1) := by decide +kernel
theorem d_Js_checkIndex_1 : decode b_Js_checkIndex 1 = .ok (.iload_n 1, 1) := by decide +kernel
theorem d_Js_checkIndex_2 : decode b_Js_checkIndex 2 = .ok (.getstatic 1053, 3) := by decide +kernel
theorem d_Js_checkIndex_5 : decode b_Js_checkIndex 5 = .ok (.invokestatic 1059, 3) := by decide +kernel
theorem d_Js_checkIndex_8 : decode b_Js_checkIndex 8 = .ok (.pop, 1) := by decide +kernel
theorem d_Js_checkIndex_9 : decode b_Js_checkIndex 9 = .ok (.return_, 1) := by decide +kernel
theorem g_Js_checkIndex {X : WX} {d : Nat} (hd : 1 ≤ d) (j n : Int) (M : Mem) (hj : 0 ≤ j ∧ j < n) : MG X gt d KE KE y_Js_checkIndex b_Js_checkIndex 2 none [vi j, vi n] M (fun r M' => r = none ∧ M' = M) := by
  refine MG_of_G (by decide) (Nat.le_of_ble_eq_true rfl) (Nat.le_refl _) (by decide) ?_
  show G X gt d KE KE y_Js_checkIndex b_Js_checkIndex 2 none _ 0 [(0, vi j), (1, vi n)] [] KE M
  refine G_rngl (i := 0) rfl (fun hr0 => ?_)
  refine G_rngl (i := 1) rfl (fun hr1 => ?_)
  refine G_iload (i := 0) (n := 0) (len := 1) (Or.inl ⟨0, rfl, rfl, d_Js_checkIndex_0⟩) rfl (G_pc (pc' := 1) rfl ?_)
  refine G_iload (i := 1) (n := 1) (len := 1) (Or.inl ⟨1, rfl, rfl, d_Js_checkIndex_1⟩) rfl (G_pc (pc' := 2) rfl ?_)
  refine G_sfmt d_Js_checkIndex_2 rfl (G_pc (pc' := 5) rfl ?_)
  refine G_callS (K1 := KE) (d2 := 0) (as := [vi j, vi n, vr ((X.1 3001 : Nat) : Int)]) (rest := []) d_Js_checkIndex_5 mf_Jp_checkIndex ml_Js_1059 rfl rfl (Nat.le_of_ble_eq_true rfl) (by omega) ⟨Nat.le_refl _, Nat.le_refl _⟩ (g_Jp_checkIndex (by omega) j n _ (by omega)) (fun r1 M2 kq3 q3 => ?_)
  clear kq3; obtain ⟨q3a, q3b⟩ := q3; subst r1; subst M2
  refine G_ps (pc' := 8) (st' := [vi j]) rfl rfl ?_
  refine G_pop d_Js_checkIndex_8 (fun _ h => by cases h) (G_pc (pc' := 9) rfl ?_)
  refine G_vret d_Js_checkIndex_9 rfl rfl ?_
  exact ⟨rfl, rfl⟩

theorem d_Jl_charAt_0 : decode b_Jl_charAt 0 = .ok (.iload_n 1, 1) := by decide +kernel
theorem d_Jl_charAt_1 : decode b_Jl_charAt 1 = .ok (.aload_n 0, 1) := by decide +kernel
theorem d_Jl_charAt_2 : decode b_Jl_charAt 2 = .ok (.arraylength, 1) := by decide +kernel
theorem d_Jl_charAt_3 : decode b_Jl_charAt 3 = .ok (.invokestatic 9, 3) := by decide +kernel
theorem d_Jl_charAt_6 : decode b_Jl_charAt 6 = .ok (.aload_n 0, 1) := by decide +kernel
theorem d_Jl_charAt_7 : decode b_Jl_charAt 7 = .ok (.iload_n 1, 1) := by decide +kernel
theorem d_Jl_charAt_8 : decode b_Jl_charAt 8 = .ok (.baload, 1) := by decide +kernel
theorem d_Jl_charAt_9 : decode b_Jl_charAt 9 = .ok (.sipush 255, 3) := by decide +kernel
theorem d_Jl_charAt_12 : decode b_Jl_charAt 12 = .ok (.iand, 1) := by decide +kernel
theorem d_Jl_charAt_13 : decode b_Jl_charAt 13 = .ok (.i2c, 1) := by decide +kernel
theorem d_Jl_charAt_14 : decode b_Jl_charAt 14 = .ok (.ireturn, 1) := by decide +kernel
theorem g_Jl_charAt {X : WX} {d : Nat} (hd : 2 ≤ d) (i : Nat) (j : Int) (M : Mem) (hi : i < 11) (hj : 0 ≤ j ∧ j < lnsD i) : MG X gt d KE KE y_Jl_charAt b_Jl_charAt 2 (some .char) [vr ((2000 + i : Nat) : Int), vi j] M (fun r M' => r = some (vi (bysD i j.toNat)) ∧ M' = M) := by
  refine MG_of_G (by decide) (Nat.le_of_ble_eq_true rfl) (Nat.le_refl _) (by decide) ?_
  show G X gt d KE KE y_Jl_charAt b_Jl_charAt 2 (some .char) _ 0 [(0, vr ((2000 + i : Nat) : Int)), (1, vi j)] [] KE M
  refine G_rngl (i := 1) rfl (fun hr1 => ?_)
  refine G_iload (i := 1) (n := 1) (len := 1) (Or.inl ⟨1, rfl, rfl, d_Jl_charAt_0⟩) rfl (G_pc (pc' := 1) rfl ?_)
  refine G_aload (i := 0) (n := 0) (len := 1) (Or.inl ⟨0, rfl, rfl, d_Jl_charAt_1⟩) rfl (by omega) (G_pc (pc' := 2) rfl ?_)
  refine G_slen (i := i) hi d_Jl_charAt_2 (G_pc (pc' := 3) rfl ?_)
  refine G_callS (K1 := KE) (d2 := 1) (as := [vi j, vi (lnsD i : Int)]) (rest := []) d_Jl_charAt_3 mf_Js_checkIndex ml_Jl_9 rfl rfl (Nat.le_of_ble_eq_true rfl) (by omega) ⟨Nat.le_refl _, Nat.le_refl _⟩ (g_Js_checkIndex (by omega) j (lnsD i : Int) _ (by omega)) (fun r1 M2 kq3 q3 => ?_)
  clear kq3; obtain ⟨q3a, q3b⟩ := q3; subst r1; subst M2
  refine G_ps (pc' := 6) (st' := []) rfl rfl ?_
  refine G_aload (i := 0) (n := 0) (len := 1) (Or.inl ⟨0, rfl, rfl, d_Jl_charAt_6⟩) rfl (by omega) (G_pc (pc' := 7) rfl ?_)
  refine G_iload (i := 1) (n := 1) (len := 1) (Or.inl ⟨1, rfl, rfl, d_Jl_charAt_7⟩) rfl (G_pc (pc' := 8) rfl ?_)
  refine G_sbal (i := i) (j := j) hi d_Jl_charAt_8 (by omega) (G_pc (pc' := 9) rfl ?_)
  refine G_sipush (n := 255) d_Jl_charAt_9 (by decide) (G_pc (pc' := 12) rfl ?_)
  refine G_iand d_Jl_charAt_12 (G_pc (pc' := 13) rfl ?_)
  refine G_i2c d_Jl_charAt_13 (G_pc (pc' := 14) rfl ?_)
  refine G_iret d_Jl_charAt_14 rfl (tokC (by omega)) rfl rfl ?_
  exact ret_e ((by_rng hi (by omega)).1) rfl

theorem d_Js_charAt_0 : decode b_Js_charAt 0 = .ok (.aload_n 0, 1) := by decide +kernel
theorem d_Js_charAt_1 : decode b_Js_charAt 1 = .ok (.invokevirtual 492, 3) := by decide +kernel
theorem d_Js_charAt_4 : decode b_Js_charAt 4 = .ok (.ifCond .eq 12, 3) := by decide +kernel
theorem d_Js_charAt_7 : decode b_Js_charAt 7 = .ok (.aload_n 0, 1) := by decide +kernel
theorem d_Js_charAt_8 : decode b_Js_charAt 8 = .ok (.getfield 9, 3) := by decide +kernel
theorem d_Js_charAt_11 : decode b_Js_charAt 11 = .ok (.iload_n 1, 1) := by decide +kernel
theorem d_Js_charAt_12 : decode b_Js_charAt 12 = .ok (.invokestatic 495, 3) := by decide +kernel
theorem d_Js_charAt_15 : decode b_Js_charAt 15 = .ok (.ireturn, 1) := by decide +kernel
theorem g_Js_charAt {X : WX} {d : Nat} (hd : 3 ≤ d) (i : Nat) (j : Int) (M : Mem) (hi : i < 11) (hj : 0 ≤ j ∧ j < lnsD i) : MG X gt d KE KE y_Js_charAt b_Js_charAt 2 (some .char) [vr ((1000 + i : Nat) : Int), vi j] M (fun r M' => r = some (vi (bysD i j.toNat)) ∧ M' = M) := by
  refine MG_of_G (by decide) (Nat.le_of_ble_eq_true rfl) (Nat.le_refl _) (by decide) ?_
  show G X gt d KE KE y_Js_charAt b_Js_charAt 2 (some .char) _ 0 [(0, vr ((1000 + i : Nat) : Int)), (1, vi j)] [] KE M
  refine G_rngl (i := 1) rfl (fun hr1 => ?_)
  refine G_aload (i := 0) (n := 0) (len := 1) (Or.inl ⟨0, rfl, rfl, d_Js_charAt_0⟩) rfl (by omega) (G_pc (pc' := 1) rfl ?_)
  refine G_callSt (K1 := KE) (d2 := 0) (i := i) (as := []) (rest := []) hi d_Js_charAt_1 mf_Js_isLatin1 ml_Js_492 rfl rfl rfl (Nat.le_of_ble_eq_true rfl) (by omega) ⟨Nat.le_refl _, Nat.le_refl _⟩ (g_Js_isLatin1 (by omega) i  _ hi ) (fun r1 M2 kq3 q3 => ?_)
  clear kq3; obtain ⟨q3a, q3b⟩ := q3; subst r1; subst M2
  refine G_ps (pc' := 4) (st' := [vi 1]) rfl rfl ?_
  refine G_if_eq (tgt := 16) d_Js_charAt_4 (by decide) (fun h4 => absurd h4 (by decide)) (fun h4 => G_pc (pc' := 7) rfl ?_)
  refine G_aload (i := 0) (n := 0) (len := 1) (Or.inl ⟨0, rfl, rfl, d_Js_charAt_7⟩) rfl (by omega) (G_pc (pc' := 8) rfl ?_)
  refine G_sval (i := i) hi d_Js_charAt_8 rfl (G_pc (pc' := 11) rfl ?_)
  refine G_iload (i := 1) (n := 1) (len := 1) (Or.inl ⟨1, rfl, rfl, d_Js_charAt_11⟩) rfl (G_pc (pc' := 12) rfl ?_)
  refine G_callS (K1 := KE) (d2 := 2) (as := [vr ((2000 + i : Nat) : Int), vi j]) (rest := []) d_Js_charAt_12 mf_Jl_charAt ml_Js_495 rfl rfl (Nat.le_of_ble_eq_true rfl) (by omega) ⟨Nat.le_refl _, Nat.le_refl _⟩ (g_Jl_charAt (by omega) i j _ hi (by omega)) (fun r5 M6 kq7 q7 => ?_)
  clear kq7; obtain ⟨q7a, q7b⟩ := q7; subst r5; subst M6
  refine G_ps (pc' := 15) (st' := [vi (bysD i j.toNat)]) rfl rfl ?_
  refine G_iret d_Js_charAt_15 rfl (tokC (by have := by_rng hi (show j.toNat < lnsD i by omega); omega)) rfl rfl ?_
  exact ret_e (rfl) rfl

theorem d_Jl_canEncode_0 : decode b_Jl_canEncode 0 = .ok (.iload_n 0, 1) := by decide +kernel
theorem d_Jl_canEncode_1 : decode b_Jl_canEncode 1 = .ok (.ifCond .lt 14, 3) := by decide +kernel
theorem d_Jl_canEncode_4 : decode b_Jl_canEncode 4 = .ok (.iload_n 0, 1) := by decide +kernel
theorem d_Jl_canEncode_5 : decode b_Jl_canEncode 5 = .ok (.sipush 255, 3) := by decide +kernel
theorem d_Jl_canEncode_8 : decode b_Jl_canEncode 8 = .ok (.if_icmp .gt 7, 3) := by decide +kernel
theorem d_Jl_canEncode_11 : decode b_Jl_canEncode 11 = .ok (.iconst 1, 1) := by decide +kernel
theorem d_Jl_canEncode_12 : decode b_Jl_canEncode 12 = .ok (.goto 4, 3) := by decide +kernel
theorem d_Jl_canEncode_16 : decode b_Jl_canEncode 16 = .ok (.ireturn, 1) := by decide +kernel
theorem g_Jl_canEncode {X : WX} {d : Nat} (hd : 0 ≤ d) (c : Int) (M : Mem) (hc : 0 ≤ c ∧ c ≤ 255) : MG X gt d KE KE y_Jl_canEncode b_Jl_canEncode 1 (some .boolean) [vi c] M (fun r M' => r = some (vi 1) ∧ M' = M) := by
  refine MG_of_G (by decide) (Nat.le_of_ble_eq_true rfl) (Nat.le_refl _) (by decide) ?_
  show G X gt d KE KE y_Jl_canEncode b_Jl_canEncode 1 (some .boolean) _ 0 [(0, vi c)] [] KE M
  refine G_rngl (i := 0) rfl (fun hr0 => ?_)
  refine G_iload (i := 0) (n := 0) (len := 1) (Or.inl ⟨0, rfl, rfl, d_Jl_canEncode_0⟩) rfl (G_pc (pc' := 1) rfl ?_)
  refine G_if_lt (tgt := 15) d_Jl_canEncode_1 (by decide) (fun h1 => absurd h1 (by omega)) (fun h1 => G_pc (pc' := 4) rfl ?_)
  refine G_iload (i := 0) (n := 0) (len := 1) (Or.inl ⟨0, rfl, rfl, d_Jl_canEncode_4⟩) rfl (G_pc (pc' := 5) rfl ?_)
  refine G_sipush (n := 255) d_Jl_canEncode_5 (by decide) (G_pc (pc' := 8) rfl ?_)
  refine G_icmp_gt (tgt := 15) d_Jl_canEncode_8 (by decide) (fun h2 => absurd h2 (by omega)) (fun h2 => G_pc (pc' := 11) rfl ?_)
  refine G_iconst (n := 1) d_Jl_canEncode_11 (by decide) (G_pc (pc' := 12) rfl ?_)
  refine G_goto (tgt := 16) d_Jl_canEncode_12 (by decide) ?_
  refine G_iret d_Jl_canEncode_16 rfl (tokZ (by decide)) rfl rfl ?_
  exact ret_e (rfl) rfl

def bymem (i : Nat) (c : Int) : Prop := ∃ j : Nat, j < lnsD i ∧ bysD i j = c
theorem d_Jl_indexOfChar_0 : decode b_Jl_indexOfChar 0 = .ok (.iload_n 1, 1) := by decide +kernel
theorem d_Jl_indexOfChar_1 : decode b_Jl_indexOfChar 1 = .ok (.i2b, 1) := by decide +kernel
theorem d_Jl_indexOfChar_2 : decode b_Jl_indexOfChar 2 = .ok (.istore 4, 2) := by decide +kernel
theorem d_Jl_indexOfChar_4 : decode b_Jl_indexOfChar 4 = .ok (.iload_n 2, 1) := by decide +kernel
theorem d_Jl_indexOfChar_5 : decode b_Jl_indexOfChar 5 = .ok (.istore 5, 2) := by decide +kernel
theorem d_Jl_indexOfChar_7 : decode b_Jl_indexOfChar 7 = .ok (.iload 5, 2) := by decide +kernel
theorem d_Jl_indexOfChar_9 : decode b_Jl_indexOfChar 9 = .ok (.iload_n 3, 1) := by decide +kernel
theorem d_Jl_indexOfChar_10 : decode b_Jl_indexOfChar 10 = .ok (.if_icmp .ge 21, 3) := by decide +kernel
theorem d_Jl_indexOfChar_13 : decode b_Jl_indexOfChar 13 = .ok (.aload_n 0, 1) := by decide +kernel
theorem d_Jl_indexOfChar_14 : decode b_Jl_indexOfChar 14 = .ok (.iload 5, 2) := by decide +kernel
theorem d_Jl_indexOfChar_16 : decode b_Jl_indexOfChar 16 = .ok (.baload, 1) := by decide +kernel
theorem d_Jl_indexOfChar_17 : decode b_Jl_indexOfChar 17 = .ok (.iload 4, 2) := by decide +kernel
theorem d_Jl_indexOfChar_19 : decode b_Jl_indexOfChar 19 = .ok (.if_icmp .ne 6, 3) := by decide +kernel
theorem d_Jl_indexOfChar_22 : decode b_Jl_indexOfChar 22 = .ok (.iload 5, 2) := by decide +kernel
theorem d_Jl_indexOfChar_24 : decode b_Jl_indexOfChar 24 = .ok (.ireturn, 1) := by decide +kernel
theorem d_Jl_indexOfChar_25 : decode b_Jl_indexOfChar 25 = .ok (.iinc 5 1, 3) := by decide +kernel
theorem d_Jl_indexOfChar_28 : decode b_Jl_indexOfChar 28 = .ok (.goto (-21), 3) := by decide +kernel
theorem d_Jl_indexOfChar_31 : decode b_Jl_indexOfChar 31 = .ok (.iconst (-1), 1) := by decide +kernel
theorem d_Jl_indexOfChar_32 : decode b_Jl_indexOfChar 32 = .ok (.ireturn, 1) := by decide +kernel
theorem g_Jl_indexOfChar {X : WX} {d : Nat} (hd : 0 ≤ d) (i : Nat) (c : Int) (M : Mem) (hi : i < 11) (hc : 0 ≤ c ∧ c < 128) : MG X gt d KE KE y_Jl_indexOfChar b_Jl_indexOfChar 6 (some .int) [vr ((2000 + i : Nat) : Int), vi c, vi 0, vi (lnsD i : Int)] M (fun r M' => ∃ z, r = some (vi z) ∧ (-1 ≤ z ∧ z < 100) ∧ (0 ≤ z ↔ bymem i c) ∧ M' = M) := by
  refine MG_of_G (by decide) (Nat.le_of_ble_eq_true rfl) (Nat.le_refl _) (by decide) ?_
  show G X gt d KE KE y_Jl_indexOfChar b_Jl_indexOfChar 6 (some .int) _ 0 [(0, vr ((2000 + i : Nat) : Int)), (1, vi c), (2, vi 0), (3, vi (lnsD i : Int))] [] KE M
  refine G_rngl (i := 1) rfl (fun hr1 => ?_)
  refine G_rngl (i := 3) rfl (fun hr3 => ?_)
  have loop : ∀ (n : Nat) (j : Int), j + n = (lnsD i : Int) → 0 ≤ j → (∀ q : Nat, (q : Int) < j → ¬ bysD i q = c) → G X gt d KE KE y_Jl_indexOfChar b_Jl_indexOfChar 6 (some .int) (fun r M' => ∃ z, r = some (vi z) ∧ (-1 ≤ z ∧ z < 100) ∧ (0 ≤ z ↔ bymem i c) ∧ M' = M) 7 [(5, vi j), (4, vi c), (0, vr ((2000 + i : Nat) : Int)), (1, vi c), (2, vi 0), (3, vi (lnsD i : Int))] [] KE M := by
    intro n
    induction n with
    | zero =>
      intro j h1 h2 hno
      refine G_iload (i := 5) (n := 0) (len := 2) (Or.inr ⟨rfl, d_Jl_indexOfChar_7⟩) rfl (G_pc (pc' := 9) rfl ?_)
      refine G_iload (i := 3) (n := 5) (len := 1) (Or.inl ⟨3, rfl, rfl, d_Jl_indexOfChar_9⟩) rfl (G_pc (pc' := 10) rfl ?_)
      refine G_icmp_ge (tgt := 31) d_Jl_indexOfChar_10 (by decide) (fun h701 => ?_) (fun h701 => absurd h701 (by omega))
      refine G_iconst (n := (-1)) d_Jl_indexOfChar_31 (by decide) (G_pc (pc' := 32) rfl ?_)
      refine G_iret d_Jl_indexOfChar_32 rfl (tokI (by decide)) rfl rfl ?_
      exact ⟨-1, rfl, by omega, ⟨fun h => absurd h (by omega), fun ⟨q, q1, q2⟩ => absurd q2 (hno q (by omega))⟩, rfl⟩
    | succ n ih =>
      intro j h1 h2 hno
      refine G_iload (i := 5) (n := 0) (len := 2) (Or.inr ⟨rfl, d_Jl_indexOfChar_7⟩) rfl (G_pc (pc' := 9) rfl ?_)
      refine G_iload (i := 3) (n := 5) (len := 1) (Or.inl ⟨3, rfl, rfl, d_Jl_indexOfChar_9⟩) rfl (G_pc (pc' := 10) rfl ?_)
      refine G_icmp_ge (tgt := 31) d_Jl_indexOfChar_10 (by decide) (fun h801 => absurd h801 (by omega)) (fun h801 => G_pc (pc' := 13) rfl ?_)
      refine G_aload (i := 0) (n := 2) (len := 1) (Or.inl ⟨0, rfl, rfl, d_Jl_indexOfChar_13⟩) rfl (by omega) (G_pc (pc' := 14) rfl ?_)
      refine G_iload (i := 5) (n := 0) (len := 2) (Or.inr ⟨rfl, d_Jl_indexOfChar_14⟩) rfl (G_pc (pc' := 16) rfl ?_)
      refine G_sbal (i := i) (j := j) hi d_Jl_indexOfChar_16 (by omega) (G_pc (pc' := 17) rfl ?_)
      refine G_iload (i := 4) (n := 1) (len := 2) (Or.inr ⟨rfl, d_Jl_indexOfChar_17⟩) rfl (G_pc (pc' := 19) rfl ?_)
      refine G_icmp_ne (tgt := 25) d_Jl_indexOfChar_19 (by decide) (fun h802 => ?_) (fun h802 => G_pc (pc' := 22) rfl ?_)
      · skip
        refine G_iinc (i := 5) (n := 0) (z := 1) (ls' := [(5, vi (j + 1)), (4, vi c), (0, vr ((2000 + i : Nat) : Int)), (1, vi c), (2, vi 0), (3, vi (lnsD i : Int))]) d_Jl_indexOfChar_25 rfl (by decide) (by have := ln_rng hi; omega) rfl (G_pc (pc' := 28) rfl ?_)
        refine G_goto (tgt := 7) d_Jl_indexOfChar_28 (by decide) ?_
        exact ih (j + 1) (by omega) (by omega) (fun q q1 => by by_cases hq : (q : Int) < j; exact hno q hq; rw [show q = j.toNat by omega]; assumption)
      · skip
        refine G_iload (i := 5) (n := 0) (len := 2) (Or.inr ⟨rfl, d_Jl_indexOfChar_22⟩) rfl (G_pc (pc' := 24) rfl ?_)
        refine G_iret d_Jl_indexOfChar_24 rfl (tokI (by have := ln_rng hi; omega)) rfl rfl ?_
        exact ⟨j, rfl, by have := ln_rng hi; omega, ⟨fun _ => ⟨j.toNat, by omega, by omega⟩, fun _ => by omega⟩, rfl⟩
  refine G_iload (i := 1) (n := 1) (len := 1) (Or.inl ⟨1, rfl, rfl, d_Jl_indexOfChar_0⟩) rfl (G_pc (pc' := 1) rfl ?_)
  refine G_i2b d_Jl_indexOfChar_1 (by omega) (G_pc (pc' := 2) rfl ?_)
  refine G_istore (i := 4) (len := 2) (ls' := [(4, vi c), (0, vr ((2000 + i : Nat) : Int)), (1, vi c), (2, vi 0), (3, vi (lnsD i : Int))]) (Or.inr ⟨rfl, d_Jl_indexOfChar_2⟩) (by decide) rfl (G_pc (pc' := 4) rfl ?_)
  refine G_iload (i := 2) (n := 3) (len := 1) (Or.inl ⟨2, rfl, rfl, d_Jl_indexOfChar_4⟩) rfl (G_pc (pc' := 5) rfl ?_)
  refine G_istore (i := 5) (len := 2) (ls' := [(5, vi 0), (4, vi c), (0, vr ((2000 + i : Nat) : Int)), (1, vi c), (2, vi 0), (3, vi (lnsD i : Int))]) (Or.inr ⟨rfl, d_Jl_indexOfChar_5⟩) (by decide) rfl (G_pc (pc' := 7) rfl ?_)
  exact loop (lnsD i) 0 (by omega) (by omega) (fun q q1 => absurd q1 (by omega))

theorem d_Jl_indexOf_0 : decode b_Jl_indexOf 0 = .ok (.iload_n 1, 1) := by decide +kernel
theorem d_Jl_indexOf_1 : decode b_Jl_indexOf 1 = .ok (.invokestatic 88, 3) := by decide +kernel
theorem d_Jl_indexOf_4 : decode b_Jl_indexOf 4 = .ok (.ifCond .ne 5, 3) := by decide +kernel
theorem d_Jl_indexOf_9 : decode b_Jl_indexOf 9 = .ok (.iload_n 2, 1) := by decide +kernel
theorem d_Jl_indexOf_10 : decode b_Jl_indexOf 10 = .ok (.iconst 0, 1) := by decide +kernel
theorem d_Jl_indexOf_11 : decode b_Jl_indexOf 11 = .ok (.invokestatic 92, 3) := by decide +kernel
theorem d_Jl_indexOf_14 : decode b_Jl_indexOf 14 = .ok (.istore_n 2, 1) := by decide +kernel
theorem d_Jl_indexOf_15 : decode b_Jl_indexOf 15 = .ok (.iload_n 3, 1) := by decide +kernel
theorem d_Jl_indexOf_16 : decode b_Jl_indexOf 16 = .ok (.aload_n 0, 1) := by decide +kernel
theorem d_Jl_indexOf_17 : decode b_Jl_indexOf 17 = .ok (.arraylength, 1) := by decide +kernel
theorem d_Jl_indexOf_18 : decode b_Jl_indexOf 18 = .ok (.invokestatic 38, 3) := by decide +kernel
theorem d_Jl_indexOf_21 : decode b_Jl_indexOf 21 = .ok (.istore_n 3, 1) := by decide +kernel
theorem d_Jl_indexOf_22 : decode b_Jl_indexOf 22 = .ok (.iload_n 2, 1) := by decide +kernel
theorem d_Jl_indexOf_23 : decode b_Jl_indexOf 23 = .ok (.iload_n 3, 1) := by decide +kernel
theorem d_Jl_indexOf_24 : decode b_Jl_indexOf 24 = .ok (.if_icmp .lt 5, 3) := by decide +kernel
theorem d_Jl_indexOf_29 : decode b_Jl_indexOf 29 = .ok (.aload_n 0, 1) := by decide +kernel
theorem d_Jl_indexOf_30 : decode b_Jl_indexOf 30 = .ok (.iload_n 1, 1) := by decide +kernel
theorem d_Jl_indexOf_31 : decode b_Jl_indexOf 31 = .ok (.iload_n 2, 1) := by decide +kernel
theorem d_Jl_indexOf_32 : decode b_Jl_indexOf 32 = .ok (.iload_n 3, 1) := by decide +kernel
theorem d_Jl_indexOf_33 : decode b_Jl_indexOf 33 = .ok (.invokestatic 95, 3) := by decide +kernel
theorem d_Jl_indexOf_36 : decode b_Jl_indexOf 36 = .ok (.ireturn, 1) := by decide +kernel
theorem g_Jl_indexOf {X : WX} {d : Nat} (hd : 1 ≤ d) (i : Nat) (c : Int) (M : Mem) (hi : i < 11) (hc : 0 ≤ c ∧ c < 128) : MG X gt d KE KE y_Jl_indexOf b_Jl_indexOf 4 (some .int) [vr ((2000 + i : Nat) : Int), vi c, vi 0, vi (lnsD i : Int)] M (fun r M' => ∃ z, r = some (vi z) ∧ (-1 ≤ z ∧ z < 100) ∧ (0 ≤ z ↔ bymem i c) ∧ M' = M) := by
  refine MG_of_G (by decide) (Nat.le_of_ble_eq_true rfl) (Nat.le_refl _) (by decide) ?_
  show G X gt d KE KE y_Jl_indexOf b_Jl_indexOf 4 (some .int) _ 0 [(0, vr ((2000 + i : Nat) : Int)), (1, vi c), (2, vi 0), (3, vi (lnsD i : Int))] [] KE M
  have hln := ln_rng hi
  refine G_rngl (i := 1) rfl (fun hr1 => ?_)
  refine G_rngl (i := 3) rfl (fun hr3 => ?_)
  refine G_iload (i := 1) (n := 1) (len := 1) (Or.inl ⟨1, rfl, rfl, d_Jl_indexOf_0⟩) rfl (G_pc (pc' := 1) rfl ?_)
  refine G_callS (K1 := KE) (d2 := 0) (as := [vi c]) (rest := []) d_Jl_indexOf_1 mf_Jl_canEncode ml_Jl_88 rfl rfl (Nat.le_of_ble_eq_true rfl) (by omega) ⟨Nat.le_refl _, Nat.le_refl _⟩ (g_Jl_canEncode (by omega) c _ (by omega)) (fun r1 M2 kq3 q3 => ?_)
  clear kq3; obtain ⟨q3a, q3b⟩ := q3; subst r1; subst M2
  refine G_ps (pc' := 4) (st' := [vi 1]) rfl rfl ?_
  refine G_if_ne (tgt := 9) d_Jl_indexOf_4 (by decide) (fun h4 => ?_) (fun h4 => absurd h4 (by decide))
  refine G_iload (i := 2) (n := 2) (len := 1) (Or.inl ⟨2, rfl, rfl, d_Jl_indexOf_9⟩) rfl (G_pc (pc' := 10) rfl ?_)
  refine G_iconst (n := 0) d_Jl_indexOf_10 (by decide) (G_pc (pc' := 11) rfl ?_)
  refine G_mmax d_Jl_indexOf_11 rfl (by omega) (by decide) (Nat.le_refl _) trivial (G_pc (pc' := 14) rfl ?_)
  rw [show (if (0 : Int) < 0 then (0 : Int) else 0) = 0 from by split <;> omega]
  refine G_istore (i := 2) (len := 1) (ls' := [(2, vi 0), (0, vr ((2000 + i : Nat) : Int)), (1, vi c), (3, vi (lnsD i : Int))]) (Or.inl ⟨2, rfl, rfl, d_Jl_indexOf_14⟩) (by decide) rfl (G_pc (pc' := 15) rfl ?_)
  refine G_iload (i := 3) (n := 3) (len := 1) (Or.inl ⟨3, rfl, rfl, d_Jl_indexOf_15⟩) rfl (G_pc (pc' := 16) rfl ?_)
  refine G_aload (i := 0) (n := 1) (len := 1) (Or.inl ⟨0, rfl, rfl, d_Jl_indexOf_16⟩) rfl (by omega) (G_pc (pc' := 17) rfl ?_)
  refine G_slen (i := i) hi d_Jl_indexOf_17 (G_pc (pc' := 18) rfl ?_)
  refine G_mmin d_Jl_indexOf_18 rfl (by omega) (by decide) (Nat.le_refl _) trivial (G_pc (pc' := 21) rfl ?_)
  rw [show (if ((lnsD i : Int) : Int) < (lnsD i : Int) then ((lnsD i : Int) : Int) else (lnsD i : Int)) = (lnsD i : Int) from by split <;> omega]
  refine G_istore (i := 3) (len := 1) (ls' := [(3, vi (lnsD i : Int)), (2, vi 0), (0, vr ((2000 + i : Nat) : Int)), (1, vi c)]) (Or.inl ⟨3, rfl, rfl, d_Jl_indexOf_21⟩) (by decide) rfl (G_pc (pc' := 22) rfl ?_)
  refine G_iload (i := 2) (n := 1) (len := 1) (Or.inl ⟨2, rfl, rfl, d_Jl_indexOf_22⟩) rfl (G_pc (pc' := 23) rfl ?_)
  refine G_iload (i := 3) (n := 0) (len := 1) (Or.inl ⟨3, rfl, rfl, d_Jl_indexOf_23⟩) rfl (G_pc (pc' := 24) rfl ?_)
  refine G_icmp_lt (tgt := 29) d_Jl_indexOf_24 (by decide) (fun h5 => ?_) (fun h5 => absurd h5 (by omega))
  refine G_aload (i := 0) (n := 2) (len := 1) (Or.inl ⟨0, rfl, rfl, d_Jl_indexOf_29⟩) rfl (by omega) (G_pc (pc' := 30) rfl ?_)
  refine G_iload (i := 1) (n := 3) (len := 1) (Or.inl ⟨1, rfl, rfl, d_Jl_indexOf_30⟩) rfl (G_pc (pc' := 31) rfl ?_)
  refine G_iload (i := 2) (n := 1) (len := 1) (Or.inl ⟨2, rfl, rfl, d_Jl_indexOf_31⟩) rfl (G_pc (pc' := 32) rfl ?_)
  refine G_iload (i := 3) (n := 0) (len := 1) (Or.inl ⟨3, rfl, rfl, d_Jl_indexOf_32⟩) rfl (G_pc (pc' := 33) rfl ?_)
  refine G_callS (K1 := KE) (d2 := 0) (as := [vr ((2000 + i : Nat) : Int), vi c, vi 0, vi (lnsD i : Int)]) (rest := []) d_Jl_indexOf_33 mf_Jl_indexOfChar ml_Jl_95 rfl rfl (Nat.le_of_ble_eq_true rfl) (by omega) ⟨Nat.le_refl _, Nat.le_refl _⟩ (g_Jl_indexOfChar (by omega) i c _ hi (by omega)) (fun r6 M7 kq8 q8 => ?_)
  clear kq8; obtain ⟨z9, q8a, q8r, q8m, q8b⟩ := q8; subst r6; subst M7
  refine G_ps (pc' := 36) (st' := [vi z9]) rfl rfl ?_
  refine G_iret d_Jl_indexOf_36 rfl (tokI (by omega)) rfl rfl ?_
  exact ⟨_, rfl, q8r, q8m, rfl⟩

theorem d_Js_indexOf2_0 : decode b_Js_indexOf2 0 = .ok (.aload_n 0, 1) := by decide +kernel
theorem d_Js_indexOf2_1 : decode b_Js_indexOf2 1 = .ok (.invokevirtual 492, 3) := by decide +kernel
theorem d_Js_indexOf2_4 : decode b_Js_indexOf2 4 = .ok (.ifCond .eq 19, 3) := by decide +kernel
theorem d_Js_indexOf2_7 : decode b_Js_indexOf2 7 = .ok (.aload_n 0, 1) := by decide +kernel
theorem d_Js_indexOf2_8 : decode b_Js_indexOf2 8 = .ok (.getfield 9, 3) := by decide +kernel
theorem d_Js_indexOf2_11 : decode b_Js_indexOf2 11 = .ok (.iload_n 1, 1) := by decide +kernel
theorem d_Js_indexOf2_12 : decode b_Js_indexOf2 12 = .ok (.iload_n 2, 1) := by decide +kernel
theorem d_Js_indexOf2_13 : decode b_Js_indexOf2 13 = .ok (.aload_n 0, 1) := by decide +kernel
theorem d_Js_indexOf2_14 : decode b_Js_indexOf2 14 = .ok (.invokevirtual 505, 3) := by decide +kernel
theorem d_Js_indexOf2_17 : decode b_Js_indexOf2 17 = .ok (.invokestatic 637, 3) := by decide +kernel
theorem d_Js_indexOf2_20 : decode b_Js_indexOf2 20 = .ok (.goto 16, 3) := by decide +kernel
theorem d_Js_indexOf2_36 : decode b_Js_indexOf2 36 = .ok (.ireturn, 1) := by decide +kernel
theorem g_Js_indexOf2 {X : WX} {d : Nat} (hd : 2 ≤ d) (i : Nat) (c : Int) (M : Mem) (hi : i < 11) (hc : 0 ≤ c ∧ c < 128) : MG X gt d KE KE y_Js_indexOf2 b_Js_indexOf2 3 (some .int) [vr ((1000 + i : Nat) : Int), vi c, vi 0] M (fun r M' => ∃ z, r = some (vi z) ∧ (-1 ≤ z ∧ z < 100) ∧ (0 ≤ z ↔ bymem i c) ∧ M' = M) := by
  refine MG_of_G (by decide) (Nat.le_of_ble_eq_true rfl) (Nat.le_refl _) (by decide) ?_
  show G X gt d KE KE y_Js_indexOf2 b_Js_indexOf2 3 (some .int) _ 0 [(0, vr ((1000 + i : Nat) : Int)), (1, vi c), (2, vi 0)] [] KE M
  refine G_rngl (i := 1) rfl (fun hr1 => ?_)
  refine G_aload (i := 0) (n := 0) (len := 1) (Or.inl ⟨0, rfl, rfl, d_Js_indexOf2_0⟩) rfl (by omega) (G_pc (pc' := 1) rfl ?_)
  refine G_callSt (K1 := KE) (d2 := 0) (i := i) (as := []) (rest := []) hi d_Js_indexOf2_1 mf_Js_isLatin1 ml_Js_492 rfl rfl rfl (Nat.le_of_ble_eq_true rfl) (by omega) ⟨Nat.le_refl _, Nat.le_refl _⟩ (g_Js_isLatin1 (by omega) i  _ hi ) (fun r1 M2 kq3 q3 => ?_)
  clear kq3; obtain ⟨q3a, q3b⟩ := q3; subst r1; subst M2
  refine G_ps (pc' := 4) (st' := [vi 1]) rfl rfl ?_
  refine G_if_eq (tgt := 23) d_Js_indexOf2_4 (by decide) (fun h4 => absurd h4 (by decide)) (fun h4 => G_pc (pc' := 7) rfl ?_)
  refine G_aload (i := 0) (n := 0) (len := 1) (Or.inl ⟨0, rfl, rfl, d_Js_indexOf2_7⟩) rfl (by omega) (G_pc (pc' := 8) rfl ?_)
  refine G_sval (i := i) hi d_Js_indexOf2_8 rfl (G_pc (pc' := 11) rfl ?_)
  refine G_iload (i := 1) (n := 1) (len := 1) (Or.inl ⟨1, rfl, rfl, d_Js_indexOf2_11⟩) rfl (G_pc (pc' := 12) rfl ?_)
  refine G_iload (i := 2) (n := 2) (len := 1) (Or.inl ⟨2, rfl, rfl, d_Js_indexOf2_12⟩) rfl (G_pc (pc' := 13) rfl ?_)
  refine G_aload (i := 0) (n := 0) (len := 1) (Or.inl ⟨0, rfl, rfl, d_Js_indexOf2_13⟩) rfl (by omega) (G_pc (pc' := 14) rfl ?_)
  refine G_callSt (K1 := KE) (d2 := 1) (i := i) (as := []) (rest := [vi 0, vi c, vr ((2000 + i : Nat) : Int)]) hi d_Js_indexOf2_14 mf_Js_length ml_Js_505 rfl rfl rfl (Nat.le_of_ble_eq_true rfl) (by omega) ⟨Nat.le_refl _, Nat.le_refl _⟩ (g_Js_length (by omega) i  _ hi ) (fun r5 M6 kq7 q7 => ?_)
  clear kq7; obtain ⟨q7a, q7b⟩ := q7; subst r5; subst M6
  refine G_ps (pc' := 17) (st' := [vi (lnsD i : Int), vi 0, vi c, vr ((2000 + i : Nat) : Int)]) rfl rfl ?_
  refine G_callS (K1 := KE) (d2 := 1) (as := [vr ((2000 + i : Nat) : Int), vi c, vi 0, vi (lnsD i : Int)]) (rest := []) d_Js_indexOf2_17 mf_Jl_indexOf ml_Js_637 rfl rfl (Nat.le_of_ble_eq_true rfl) (by omega) ⟨Nat.le_refl _, Nat.le_refl _⟩ (g_Jl_indexOf (by omega) i c _ hi (by omega)) (fun r8 M9 kq10 q10 => ?_)
  clear kq10; obtain ⟨z11, q10a, q10r, q10m, q10b⟩ := q10; subst r8; subst M9
  refine G_ps (pc' := 20) (st' := [vi z11]) rfl rfl ?_
  refine G_goto (tgt := 36) d_Js_indexOf2_20 (by decide) ?_
  refine G_iret d_Js_indexOf2_36 rfl (tokI (by omega)) rfl rfl ?_
  exact ⟨_, rfl, q10r, q10m, rfl⟩

theorem d_Js_indexOf1_0 : decode b_Js_indexOf1 0 = .ok (.aload_n 0, 1) := by decide +kernel
theorem d_Js_indexOf1_1 : decode b_Js_indexOf1 1 = .ok (.iload_n 1, 1) := by decide +kernel
theorem d_Js_indexOf1_2 : decode b_Js_indexOf1 2 = .ok (.iconst 0, 1) := by decide +kernel
theorem d_Js_indexOf1_3 : decode b_Js_indexOf1 3 = .ok (.invokevirtual 633, 3) := by decide +kernel
theorem d_Js_indexOf1_6 : decode b_Js_indexOf1 6 = .ok (.ireturn, 1) := by decide +kernel
theorem g_Js_indexOf1 {X : WX} {d : Nat} (hd : 3 ≤ d) (i : Nat) (c : Int) (M : Mem) (hi : i < 11) (hc : 0 ≤ c ∧ c < 128) : MG X gt d KE KE y_Js_indexOf1 b_Js_indexOf1 2 (some .int) [vr ((1000 + i : Nat) : Int), vi c] M (fun r M' => ∃ z, r = some (vi z) ∧ (-1 ≤ z ∧ z < 100) ∧ (0 ≤ z ↔ bymem i c) ∧ M' = M) := by
  refine MG_of_G (by decide) (Nat.le_of_ble_eq_true rfl) (Nat.le_refl _) (by decide) ?_
  show G X gt d KE KE y_Js_indexOf1 b_Js_indexOf1 2 (some .int) _ 0 [(0, vr ((1000 + i : Nat) : Int)), (1, vi c)] [] KE M
  refine G_rngl (i := 1) rfl (fun hr1 => ?_)
  refine G_aload (i := 0) (n := 0) (len := 1) (Or.inl ⟨0, rfl, rfl, d_Js_indexOf1_0⟩) rfl (by omega) (G_pc (pc' := 1) rfl ?_)
  refine G_iload (i := 1) (n := 1) (len := 1) (Or.inl ⟨1, rfl, rfl, d_Js_indexOf1_1⟩) rfl (G_pc (pc' := 2) rfl ?_)
  refine G_iconst (n := 0) d_Js_indexOf1_2 (by decide) (G_pc (pc' := 3) rfl ?_)
  refine G_callSt (K1 := KE) (d2 := 2) (i := i) (as := [vi c, vi 0]) (rest := []) hi d_Js_indexOf1_3 mf_Js_indexOf2 ml_Js_633 rfl rfl rfl (Nat.le_of_ble_eq_true rfl) (by omega) ⟨Nat.le_refl _, Nat.le_refl _⟩ (g_Js_indexOf2 (by omega) i c _ hi (by omega)) (fun r1 M2 kq3 q3 => ?_)
  clear kq3; obtain ⟨z4, q3a, q3r, q3m, q3b⟩ := q3; subst r1; subst M2
  refine G_ps (pc' := 6) (st' := [vi z4]) rfl rfl ?_
  refine G_iret d_Js_indexOf1_6 rfl (tokI (by omega)) rfl rfl ?_
  exact ⟨_, rfl, q3r, q3m, rfl⟩

