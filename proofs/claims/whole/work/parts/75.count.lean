set_option maxRecDepth 30000 in
theorem kc_265 : Cond.constant "java/lang/Integer" 265 (Int32.ofInt 1431655765) ∈ UW := UW_of (lw_at4 221 rfl) rfl
set_option maxRecDepth 30000 in
theorem kc_266 : Cond.constant "java/lang/Integer" 266 (Int32.ofInt 858993459) ∈ UW := UW_of (lw_at4 222 rfl) rfl
set_option maxRecDepth 30000 in
theorem kc_267 : Cond.constant "java/lang/Integer" 267 (Int32.ofInt 252645135) ∈ UW := UW_of (lw_at4 223 rfl) rfl
theorem d_Ji_bitCount_0 : decode b_Ji_bitCount 0 = .ok (.iload_n 0, 1) := by decide +kernel
theorem d_Ji_bitCount_1 : decode b_Ji_bitCount 1 = .ok (.iload_n 0, 1) := by decide +kernel
theorem d_Ji_bitCount_2 : decode b_Ji_bitCount 2 = .ok (.iconst 1, 1) := by decide +kernel
theorem d_Ji_bitCount_3 : decode b_Ji_bitCount 3 = .ok (.iushr, 1) := by decide +kernel
theorem d_Ji_bitCount_4 : decode b_Ji_bitCount 4 = .ok (.ldc_w 265, 3) := by decide +kernel
theorem d_Ji_bitCount_7 : decode b_Ji_bitCount 7 = .ok (.iand, 1) := by decide +kernel
theorem d_Ji_bitCount_8 : decode b_Ji_bitCount 8 = .ok (.isub, 1) := by decide +kernel
theorem d_Ji_bitCount_9 : decode b_Ji_bitCount 9 = .ok (.istore_n 0, 1) := by decide +kernel
theorem d_Ji_bitCount_10 : decode b_Ji_bitCount 10 = .ok (.iload_n 0, 1) := by decide +kernel
theorem d_Ji_bitCount_11 : decode b_Ji_bitCount 11 = .ok (.ldc_w 266, 3) := by decide +kernel
theorem d_Ji_bitCount_14 : decode b_Ji_bitCount 14 = .ok (.iand, 1) := by decide +kernel
theorem d_Ji_bitCount_15 : decode b_Ji_bitCount 15 = .ok (.iload_n 0, 1) := by decide +kernel
theorem d_Ji_bitCount_16 : decode b_Ji_bitCount 16 = .ok (.iconst 2, 1) := by decide +kernel
theorem d_Ji_bitCount_17 : decode b_Ji_bitCount 17 = .ok (.iushr, 1) := by decide +kernel
theorem d_Ji_bitCount_18 : decode b_Ji_bitCount 18 = .ok (.ldc_w 266, 3) := by decide +kernel
theorem d_Ji_bitCount_21 : decode b_Ji_bitCount 21 = .ok (.iand, 1) := by decide +kernel
theorem d_Ji_bitCount_22 : decode b_Ji_bitCount 22 = .ok (.iadd, 1) := by decide +kernel
theorem d_Ji_bitCount_23 : decode b_Ji_bitCount 23 = .ok (.istore_n 0, 1) := by decide +kernel
theorem d_Ji_bitCount_24 : decode b_Ji_bitCount 24 = .ok (.iload_n 0, 1) := by decide +kernel
theorem d_Ji_bitCount_25 : decode b_Ji_bitCount 25 = .ok (.iload_n 0, 1) := by decide +kernel
theorem d_Ji_bitCount_26 : decode b_Ji_bitCount 26 = .ok (.iconst 4, 1) := by decide +kernel
theorem d_Ji_bitCount_27 : decode b_Ji_bitCount 27 = .ok (.iushr, 1) := by decide +kernel
theorem d_Ji_bitCount_28 : decode b_Ji_bitCount 28 = .ok (.iadd, 1) := by decide +kernel
theorem d_Ji_bitCount_29 : decode b_Ji_bitCount 29 = .ok (.ldc_w 267, 3) := by decide +kernel
theorem d_Ji_bitCount_32 : decode b_Ji_bitCount 32 = .ok (.iand, 1) := by decide +kernel
theorem d_Ji_bitCount_33 : decode b_Ji_bitCount 33 = .ok (.istore_n 0, 1) := by decide +kernel
theorem d_Ji_bitCount_34 : decode b_Ji_bitCount 34 = .ok (.iload_n 0, 1) := by decide +kernel
theorem d_Ji_bitCount_35 : decode b_Ji_bitCount 35 = .ok (.iload_n 0, 1) := by decide +kernel
theorem d_Ji_bitCount_36 : decode b_Ji_bitCount 36 = .ok (.bipush 8, 2) := by decide +kernel
theorem d_Ji_bitCount_38 : decode b_Ji_bitCount 38 = .ok (.iushr, 1) := by decide +kernel
theorem d_Ji_bitCount_39 : decode b_Ji_bitCount 39 = .ok (.iadd, 1) := by decide +kernel
theorem d_Ji_bitCount_40 : decode b_Ji_bitCount 40 = .ok (.istore_n 0, 1) := by decide +kernel
theorem d_Ji_bitCount_41 : decode b_Ji_bitCount 41 = .ok (.iload_n 0, 1) := by decide +kernel
theorem d_Ji_bitCount_42 : decode b_Ji_bitCount 42 = .ok (.iload_n 0, 1) := by decide +kernel
theorem d_Ji_bitCount_43 : decode b_Ji_bitCount 43 = .ok (.bipush 16, 2) := by decide +kernel
theorem d_Ji_bitCount_45 : decode b_Ji_bitCount 45 = .ok (.iushr, 1) := by decide +kernel
theorem d_Ji_bitCount_46 : decode b_Ji_bitCount 46 = .ok (.iadd, 1) := by decide +kernel
theorem d_Ji_bitCount_47 : decode b_Ji_bitCount 47 = .ok (.istore_n 0, 1) := by decide +kernel
theorem d_Ji_bitCount_48 : decode b_Ji_bitCount 48 = .ok (.iload_n 0, 1) := by decide +kernel
theorem d_Ji_bitCount_49 : decode b_Ji_bitCount 49 = .ok (.bipush 63, 2) := by decide +kernel
theorem d_Ji_bitCount_51 : decode b_Ji_bitCount 51 = .ok (.iand, 1) := by decide +kernel
theorem d_Ji_bitCount_52 : decode b_Ji_bitCount 52 = .ok (.ireturn, 1) := by decide +kernel
theorem g_Ji_bitCount {X : WX} {d : Nat} (hd : 0 ≤ d) (x : Nat) (M : Mem) (hx : x < 268435456) : MG X gt d KE KE y_Ji_bitCount b_Ji_bitCount 1 (some .int) [vi ((x : Nat) : Int)] M (fun r M' => r = some (vi ((pcn 32 x : Nat) : Int)) ∧ M' = M) := by
  refine MG_of_G (by decide) (Nat.le_of_ble_eq_true rfl) (Nat.le_refl _) (by decide) ?_
  show G X gt d KE KE y_Ji_bitCount b_Ji_bitCount 1 (some .int) _ 0 [(0, vi ((x : Nat) : Int))] [] KE M
  have hB := bc_all hx
  generalize hy : bs1 1431655765 x = y at hB
  generalize hz : bs2 858993459 y = z at hB
  generalize hw : bs3 252645135 z = w at hB
  generalize hv : bs4 w = v at hB
  generalize hu : bs5 v = u at hB
  obtain ⟨hB1, hB2, hB3, hB4, hB5, hB6⟩ := hB
  refine G_rngl (i := 0) rfl (fun hr0 => ?_)
  refine G_iload (i := 0) (n := 0) (len := 1) (Or.inl ⟨0, rfl, rfl, d_Ji_bitCount_0⟩) rfl (G_pc (pc' := 1) rfl ?_)
  refine G_iload (i := 0) (n := 0) (len := 1) (Or.inl ⟨0, rfl, rfl, d_Ji_bitCount_1⟩) rfl (G_pc (pc' := 2) rfl ?_)
  refine G_iconst (n := 1) d_Ji_bitCount_2 (by decide) (G_pc (pc' := 3) rfl ?_)
  refine G_iushr d_Ji_bitCount_3 (G_pc (pc' := 4) rfl ?_)
  rw [show o_iushr ((x : Nat) : Int) 1 = ((x / 2 : Nat) : Int) from iushr_1 (by omega)]
  refine G_ldcw (x := 1431655765) d_Ji_bitCount_4 kc_265 (by decide) (G_pc (pc' := 7) rfl ?_)
  refine G_iand d_Ji_bitCount_7 (G_pc (pc' := 8) rfl ?_)
  rw [show o_iand ((x / 2 : Nat) : Int) 1431655765 = ((x / 2 &&& 1431655765 : Nat) : Int) from iand_n (a := x / 2) (b := 1431655765) (by omega) (by decide)]
  have hs1 : (x / 2 &&& 1431655765) ≤ x := Nat.le_trans Nat.and_le_left (Nat.div_le_self _ _)
  refine G_isub d_Ji_bitCount_8 (by omega) (G_pc (pc' := 9) rfl ?_)
  rw [show ((x : Nat) : Int) - ((x / 2 &&& 1431655765 : Nat) : Int) = ((y : Nat) : Int) from by rw [← hy]; unfold bs1; omega]
  refine G_istore (i := 0) (len := 1) (ls' := [(0, vi ((y : Nat) : Int))]) (Or.inl ⟨0, rfl, rfl, d_Ji_bitCount_9⟩) (by decide) rfl (G_pc (pc' := 10) rfl ?_)
  refine G_iload (i := 0) (n := 0) (len := 1) (Or.inl ⟨0, rfl, rfl, d_Ji_bitCount_10⟩) rfl (G_pc (pc' := 11) rfl ?_)
  refine G_ldcw (x := 858993459) d_Ji_bitCount_11 kc_266 (by decide) (G_pc (pc' := 14) rfl ?_)
  refine G_iand d_Ji_bitCount_14 (G_pc (pc' := 15) rfl ?_)
  rw [show o_iand ((y : Nat) : Int) 858993459 = ((y &&& 858993459 : Nat) : Int) from iand_n (a := y) (b := 858993459) (by omega) (by decide)]
  refine G_iload (i := 0) (n := 0) (len := 1) (Or.inl ⟨0, rfl, rfl, d_Ji_bitCount_15⟩) rfl (G_pc (pc' := 16) rfl ?_)
  refine G_iconst (n := 2) d_Ji_bitCount_16 (by decide) (G_pc (pc' := 17) rfl ?_)
  refine G_iushr d_Ji_bitCount_17 (G_pc (pc' := 18) rfl ?_)
  rw [show o_iushr ((y : Nat) : Int) 2 = ((y / 4 : Nat) : Int) from iushr_2 (by omega)]
  refine G_ldcw (x := 858993459) d_Ji_bitCount_18 kc_266 (by decide) (G_pc (pc' := 21) rfl ?_)
  refine G_iand d_Ji_bitCount_21 (G_pc (pc' := 22) rfl ?_)
  rw [show o_iand ((y / 4 : Nat) : Int) 858993459 = ((y / 4 &&& 858993459 : Nat) : Int) from iand_n (a := y / 4) (b := 858993459) (by omega) (by decide)]
  have hs2 : (y &&& 858993459) + (y / 4 &&& 858993459) = z := hz
  refine G_iadd d_Ji_bitCount_22 (by omega) (G_pc (pc' := 23) rfl ?_)
  rw [show ((y &&& 858993459 : Nat) : Int) + ((y / 4 &&& 858993459 : Nat) : Int) = ((z : Nat) : Int) from by omega]
  refine G_istore (i := 0) (len := 1) (ls' := [(0, vi ((z : Nat) : Int))]) (Or.inl ⟨0, rfl, rfl, d_Ji_bitCount_23⟩) (by decide) rfl (G_pc (pc' := 24) rfl ?_)
  refine G_iload (i := 0) (n := 0) (len := 1) (Or.inl ⟨0, rfl, rfl, d_Ji_bitCount_24⟩) rfl (G_pc (pc' := 25) rfl ?_)
  refine G_iload (i := 0) (n := 0) (len := 1) (Or.inl ⟨0, rfl, rfl, d_Ji_bitCount_25⟩) rfl (G_pc (pc' := 26) rfl ?_)
  refine G_iconst (n := 4) d_Ji_bitCount_26 (by decide) (G_pc (pc' := 27) rfl ?_)
  refine G_iushr d_Ji_bitCount_27 (G_pc (pc' := 28) rfl ?_)
  rw [show o_iushr ((z : Nat) : Int) 4 = ((z / 16 : Nat) : Int) from iushr_4 (by omega)]
  refine G_iadd d_Ji_bitCount_28 (by omega) (G_pc (pc' := 29) rfl ?_)
  rw [show ((z : Nat) : Int) + ((z / 16 : Nat) : Int) = ((z + z / 16 : Nat) : Int) from by omega]
  refine G_ldcw (x := 252645135) d_Ji_bitCount_29 kc_267 (by decide) (G_pc (pc' := 32) rfl ?_)
  refine G_iand d_Ji_bitCount_32 (G_pc (pc' := 33) rfl ?_)
  rw [show o_iand ((z + z / 16 : Nat) : Int) 252645135 = (((z + z / 16) &&& 252645135 : Nat) : Int) from iand_n (a := z + z / 16) (b := 252645135) (by omega) (by decide)]
  rw [show (((z + z / 16) &&& 252645135 : Nat) : Int) = ((w : Nat) : Int) from by rw [← hw]; rfl]
  refine G_istore (i := 0) (len := 1) (ls' := [(0, vi ((w : Nat) : Int))]) (Or.inl ⟨0, rfl, rfl, d_Ji_bitCount_33⟩) (by decide) rfl (G_pc (pc' := 34) rfl ?_)
  refine G_iload (i := 0) (n := 0) (len := 1) (Or.inl ⟨0, rfl, rfl, d_Ji_bitCount_34⟩) rfl (G_pc (pc' := 35) rfl ?_)
  refine G_iload (i := 0) (n := 0) (len := 1) (Or.inl ⟨0, rfl, rfl, d_Ji_bitCount_35⟩) rfl (G_pc (pc' := 36) rfl ?_)
  refine G_bipush (n := 8) d_Ji_bitCount_36 (by decide) (G_pc (pc' := 38) rfl ?_)
  refine G_iushr d_Ji_bitCount_38 (G_pc (pc' := 39) rfl ?_)
  rw [show o_iushr ((w : Nat) : Int) 8 = ((w / 256 : Nat) : Int) from iushr_8 (by omega)]
  refine G_iadd d_Ji_bitCount_39 (by omega) (G_pc (pc' := 40) rfl ?_)
  rw [show ((w : Nat) : Int) + ((w / 256 : Nat) : Int) = ((v : Nat) : Int) from by rw [← hv]; unfold bs4; omega]
  refine G_istore (i := 0) (len := 1) (ls' := [(0, vi ((v : Nat) : Int))]) (Or.inl ⟨0, rfl, rfl, d_Ji_bitCount_40⟩) (by decide) rfl (G_pc (pc' := 41) rfl ?_)
  refine G_iload (i := 0) (n := 0) (len := 1) (Or.inl ⟨0, rfl, rfl, d_Ji_bitCount_41⟩) rfl (G_pc (pc' := 42) rfl ?_)
  refine G_iload (i := 0) (n := 0) (len := 1) (Or.inl ⟨0, rfl, rfl, d_Ji_bitCount_42⟩) rfl (G_pc (pc' := 43) rfl ?_)
  refine G_bipush (n := 16) d_Ji_bitCount_43 (by decide) (G_pc (pc' := 45) rfl ?_)
  refine G_iushr d_Ji_bitCount_45 (G_pc (pc' := 46) rfl ?_)
  rw [show o_iushr ((v : Nat) : Int) 16 = ((v / 65536 : Nat) : Int) from iushr_16 (by omega)]
  refine G_iadd d_Ji_bitCount_46 (by omega) (G_pc (pc' := 47) rfl ?_)
  rw [show ((v : Nat) : Int) + ((v / 65536 : Nat) : Int) = ((u : Nat) : Int) from by rw [← hu]; unfold bs5; omega]
  refine G_istore (i := 0) (len := 1) (ls' := [(0, vi ((u : Nat) : Int))]) (Or.inl ⟨0, rfl, rfl, d_Ji_bitCount_47⟩) (by decide) rfl (G_pc (pc' := 48) rfl ?_)
  refine G_iload (i := 0) (n := 0) (len := 1) (Or.inl ⟨0, rfl, rfl, d_Ji_bitCount_48⟩) rfl (G_pc (pc' := 49) rfl ?_)
  refine G_bipush (n := 63) d_Ji_bitCount_49 (by decide) (G_pc (pc' := 51) rfl ?_)
  refine G_iand d_Ji_bitCount_51 (G_pc (pc' := 52) rfl ?_)
  rw [show o_iand ((u : Nat) : Int) 63 = ((u &&& 63 : Nat) : Int) from iand_n (a := u) (b := 63) (by omega) (by decide)]
  refine G_iret d_Ji_bitCount_52 rfl (tokI (by have h9 : (u &&& 63) ≤ 63 := Nat.and_le_right; omega)) rfl rfl ?_
  exact ret_e (by rw [hB6]) rfl

def kcS (M : Mem) : Nat → Nat
  | 0 => 0
  | n + 1 => kcS M n + pcn 32 (M 10 (n : Int)).toNat
theorem pcn_le : ∀ n x : Nat, pcn n x ≤ n := by
  intro n
  induction n with
  | zero => intro x; exact Nat.le_refl 0
  | succ n ih => intro x; have := ih (x / 2); show x % 2 + pcn n (x / 2) ≤ n + 1; omega
theorem kcS_le (M : Mem) : ∀ n : Nat, kcS M n ≤ 32 * n := by
  intro n
  induction n with
  | zero => exact Nat.le_refl 0
  | succ n ih => have := pcn_le 32 (M 10 (n : Int)).toNat; show kcS M n + pcn 32 (M 10 (n : Int)).toNat ≤ 32 * (n + 1); omega
theorem d_Li_knownCount_0 : decode b_Li_knownCount 0 = .ok (.iconst 0, 1) := by decide +kernel
theorem d_Li_knownCount_1 : decode b_Li_knownCount 1 = .ok (.istore_n 1, 1) := by decide +kernel
theorem d_Li_knownCount_2 : decode b_Li_knownCount 2 = .ok (.aload_n 0, 1) := by decide +kernel
theorem d_Li_knownCount_3 : decode b_Li_knownCount 3 = .ok (.getfield 9, 3) := by decide +kernel
theorem d_Li_knownCount_6 : decode b_Li_knownCount 6 = .ok (.astore_n 2, 1) := by decide +kernel
theorem d_Li_knownCount_7 : decode b_Li_knownCount 7 = .ok (.aload_n 2, 1) := by decide +kernel
theorem d_Li_knownCount_8 : decode b_Li_knownCount 8 = .ok (.arraylength, 1) := by decide +kernel
theorem d_Li_knownCount_9 : decode b_Li_knownCount 9 = .ok (.istore_n 3, 1) := by decide +kernel
theorem d_Li_knownCount_10 : decode b_Li_knownCount 10 = .ok (.iconst 0, 1) := by decide +kernel
theorem d_Li_knownCount_11 : decode b_Li_knownCount 11 = .ok (.istore 4, 2) := by decide +kernel
theorem d_Li_knownCount_13 : decode b_Li_knownCount 13 = .ok (.iload 4, 2) := by decide +kernel
theorem d_Li_knownCount_15 : decode b_Li_knownCount 15 = .ok (.iload_n 3, 1) := by decide +kernel
theorem d_Li_knownCount_16 : decode b_Li_knownCount 16 = .ok (.if_icmp .ge 23, 3) := by decide +kernel
theorem d_Li_knownCount_19 : decode b_Li_knownCount 19 = .ok (.aload_n 2, 1) := by decide +kernel
theorem d_Li_knownCount_20 : decode b_Li_knownCount 20 = .ok (.iload 4, 2) := by decide +kernel
theorem d_Li_knownCount_22 : decode b_Li_knownCount 22 = .ok (.iaload, 1) := by decide +kernel
theorem d_Li_knownCount_23 : decode b_Li_knownCount 23 = .ok (.istore 5, 2) := by decide +kernel
theorem d_Li_knownCount_25 : decode b_Li_knownCount 25 = .ok (.iload_n 1, 1) := by decide +kernel
theorem d_Li_knownCount_26 : decode b_Li_knownCount 26 = .ok (.iload 5, 2) := by decide +kernel
theorem d_Li_knownCount_28 : decode b_Li_knownCount 28 = .ok (.invokestatic 38, 3) := by decide +kernel
theorem d_Li_knownCount_31 : decode b_Li_knownCount 31 = .ok (.iadd, 1) := by decide +kernel
theorem d_Li_knownCount_32 : decode b_Li_knownCount 32 = .ok (.istore_n 1, 1) := by decide +kernel
theorem d_Li_knownCount_33 : decode b_Li_knownCount 33 = .ok (.iinc 4 1, 3) := by decide +kernel
theorem d_Li_knownCount_36 : decode b_Li_knownCount 36 = .ok (.goto (-23), 3) := by decide +kernel
theorem d_Li_knownCount_39 : decode b_Li_knownCount 39 = .ok (.iload_n 1, 1) := by decide +kernel
theorem d_Li_knownCount_40 : decode b_Li_knownCount 40 = .ok (.ireturn, 1) := by decide +kernel
theorem g_Li_knownCount {X : WX} {d : Nat} (hd : 1 ≤ d)  (M : Mem) (hkn : ∀ j : Nat, 0 ≤ j → j < 13 → 0 ≤ M 10 (j : Int) ∧ M 10 (j : Int) < 268435456) : MG X gt d KE KE y_Li_knownCount b_Li_knownCount 6 (some .int) [vr 9] M (fun r M' => r = some (vi ((kcS M 13 : Nat) : Int)) ∧ M' = M) := by
  refine MG_of_G (by decide) (Nat.le_of_ble_eq_true rfl) (Nat.le_refl _) (by decide) ?_
  show G X gt d KE KE y_Li_knownCount b_Li_knownCount 6 (some .int) _ 0 [(0, vr 9)] [] KE M
  have loop : ∀ (n : Nat) (j : Nat), j + n = 13 → G X gt d KE KE y_Li_knownCount b_Li_knownCount 6 (some .int) (fun r M' => r = some (vi ((kcS M 13 : Nat) : Int)) ∧ M' = M) 13 [(4, vi (j : Int)), (3, vi 13), (2, vr 10), (1, vi ((kcS M j : Nat) : Int)), (0, vr 9)] [] KE M := by
    intro n
    induction n with
    | zero =>
      intro j h1
      refine G_iload (i := 4) (n := 0) (len := 2) (Or.inr ⟨rfl, d_Li_knownCount_13⟩) rfl (G_pc (pc' := 15) rfl ?_)
      refine G_iload (i := 3) (n := 1) (len := 1) (Or.inl ⟨3, rfl, rfl, d_Li_knownCount_15⟩) rfl (G_pc (pc' := 16) rfl ?_)
      refine G_icmp_ge (tgt := 39) d_Li_knownCount_16 (by decide) (fun h2901 => ?_) (fun h2901 => absurd h2901 (by omega))
      refine G_iload (i := 1) (n := 3) (len := 1) (Or.inl ⟨1, rfl, rfl, d_Li_knownCount_39⟩) rfl (G_pc (pc' := 40) rfl ?_)
      refine G_iret d_Li_knownCount_40 rfl (tokI (by have := kcS_le M j; omega)) rfl rfl ?_
      exact ret_e (by rw [show j = 13 by omega]) rfl
    | succ n ih =>
      intro j h1
      refine G_iload (i := 4) (n := 0) (len := 2) (Or.inr ⟨rfl, d_Li_knownCount_13⟩) rfl (G_pc (pc' := 15) rfl ?_)
      refine G_iload (i := 3) (n := 1) (len := 1) (Or.inl ⟨3, rfl, rfl, d_Li_knownCount_15⟩) rfl (G_pc (pc' := 16) rfl ?_)
      refine G_icmp_ge (tgt := 39) d_Li_knownCount_16 (by decide) (fun h3001 => absurd h3001 (by omega)) (fun h3001 => G_pc (pc' := 19) rfl ?_)
      refine G_aload (i := 2) (n := 2) (len := 1) (Or.inl ⟨2, rfl, rfl, d_Li_knownCount_19⟩) rfl (by decide) (G_pc (pc' := 20) rfl ?_)
      refine G_iload (i := 4) (n := 0) (len := 2) (Or.inr ⟨rfl, d_Li_knownCount_20⟩) rfl (G_pc (pc' := 22) rfl ?_)
      refine G_iaload (o := 10) (n := 13) (i := (j : Int)) (v := M 10 (j : Int)) d_Li_knownCount_22 rfl ⟨by decide, by decide⟩ (by omega) (rd_arr rfl) (fun t3002 => G_pc (pc' := 23) rfl ?_)
      have t3002 := tok_i t3002
      have hkj := hkn j (by omega) (by omega)
      rw [show M 10 (j : Int) = (((M 10 (j : Int)).toNat : Nat) : Int) from by omega]
      refine G_istore (i := 5) (len := 2) (ls' := [(5, vi (((M 10 (j : Int)).toNat : Nat) : Int)), (4, vi (j : Int)), (3, vi 13), (2, vr 10), (1, vi ((kcS M j : Nat) : Int)), (0, vr 9)]) (Or.inr ⟨rfl, d_Li_knownCount_23⟩) (by decide) rfl (G_pc (pc' := 25) rfl ?_)
      refine G_iload (i := 1) (n := 4) (len := 1) (Or.inl ⟨1, rfl, rfl, d_Li_knownCount_25⟩) rfl (G_pc (pc' := 26) rfl ?_)
      refine G_iload (i := 5) (n := 0) (len := 2) (Or.inr ⟨rfl, d_Li_knownCount_26⟩) rfl (G_pc (pc' := 28) rfl ?_)
      refine G_callS (K1 := KE) (d2 := 0) (as := [vi (((M 10 (j : Int)).toNat : Nat) : Int)]) (rest := [vi ((kcS M j : Nat) : Int)]) d_Li_knownCount_28 mf_Ji_bitCount ml_Li_38 rfl rfl (Nat.le_of_ble_eq_true rfl) (by omega) ⟨Nat.le_refl _, Nat.le_refl _⟩ (g_Ji_bitCount (by omega) ((M 10 (j : Int)).toNat) M (by omega)) (fun r3003 M3004 kq3005 q3005 => ?_)
      clear kq3005; obtain ⟨q3005a, q3005b⟩ := q3005; subst r3003; subst M3004
      refine G_ps (pc' := 31) (st' := [vi ((pcn 32 ((M 10 (j : Int)).toNat) : Nat) : Int), vi ((kcS M j : Nat) : Int)]) rfl rfl ?_
      have hle := kcS_le M j; have hle2 := pcn_le 32 (M 10 (j : Int)).toNat
      refine G_iadd d_Li_knownCount_31 (by omega) (G_pc (pc' := 32) rfl ?_)
      rw [show ((kcS M j : Nat) : Int) + ((pcn 32 ((M 10 (j : Int)).toNat) : Nat) : Int) = ((kcS M (j + 1) : Nat) : Int) from rfl]
      refine G_istore (i := 1) (len := 1) (ls' := [(1, vi ((kcS M (j + 1) : Nat) : Int)), (5, vi (((M 10 (j : Int)).toNat : Nat) : Int)), (4, vi (j : Int)), (3, vi 13), (2, vr 10), (0, vr 9)]) (Or.inl ⟨1, rfl, rfl, d_Li_knownCount_32⟩) (by decide) rfl (G_pc (pc' := 33) rfl ?_)
      refine G_iinc (i := 4) (n := 2) (z := 1) (ls' := [(4, vi ((j : Int) + 1)), (1, vi ((kcS M (j + 1) : Nat) : Int)), (5, vi (((M 10 (j : Int)).toNat : Nat) : Int)), (3, vi 13), (2, vr 10), (0, vr 9)]) d_Li_knownCount_33 rfl (by decide) (by omega) rfl (G_pc (pc' := 36) rfl ?_)
      refine G_goto (tgt := 13) d_Li_knownCount_36 (by decide) ?_
      refine G_ls (ls' := [(4, vi ((j : Int) + 1)), (3, vi 13), (2, vr 10), (1, vi ((kcS M (j + 1) : Nat) : Int)), (0, vr 9)]) (by intro z hz; simp only [List.mem_cons] at hz ⊢; grind) ?_
      rw [show ((j : Int) + 1) = ((j + 1 : Nat) : Int) from rfl]
      exact ih (j + 1) (by omega)
  refine G_iconst (n := 0) d_Li_knownCount_0 (by decide) (G_pc (pc' := 1) rfl ?_)
  refine G_istore (i := 1) (len := 1) (ls' := [(1, vi 0), (0, vr 9)]) (Or.inl ⟨1, rfl, rfl, d_Li_knownCount_1⟩) (by decide) rfl (G_pc (pc' := 2) rfl ?_)
  refine G_aload (i := 0) (n := 1) (len := 1) (Or.inl ⟨0, rfl, rfl, d_Li_knownCount_2⟩) rfl (by decide) (G_pc (pc' := 3) rfl ?_)
  refine G_get (o := 9) (c := 3) (k := 0) (v := 10) d_Li_knownCount_3 fl_Li_9 rfl (by decide) (by decide) rfl rfl (G_pc (pc' := 6) rfl ?_)
  refine G_astore (i := 2) (len := 1) (ls' := [(2, vr 10), (1, vi 0), (0, vr 9)]) (Or.inl ⟨2, rfl, rfl, d_Li_knownCount_6⟩) (by decide) (by decide) rfl (G_pc (pc' := 7) rfl ?_)
  refine G_aload (i := 2) (n := 0) (len := 1) (Or.inl ⟨2, rfl, rfl, d_Li_knownCount_7⟩) rfl (by decide) (G_pc (pc' := 8) rfl ?_)
  refine G_alen (o := 10) (n := 13) d_Li_knownCount_8 rfl (by decide) (by decide) (by decide) (G_pc (pc' := 9) rfl ?_)
  refine G_istore (i := 3) (len := 1) (ls' := [(3, vi 13), (2, vr 10), (1, vi 0), (0, vr 9)]) (Or.inl ⟨3, rfl, rfl, d_Li_knownCount_9⟩) (by decide) rfl (G_pc (pc' := 10) rfl ?_)
  refine G_iconst (n := 0) d_Li_knownCount_10 (by decide) (G_pc (pc' := 11) rfl ?_)
  refine G_istore (i := 4) (len := 2) (ls' := [(4, vi 0), (3, vi 13), (2, vr 10), (1, vi 0), (0, vr 9)]) (Or.inr ⟨rfl, d_Li_knownCount_11⟩) (by decide) rfl (G_pc (pc' := 13) rfl ?_)
  exact loop 13 0 rfl

def cntD (M : Mem) (w : Int) : Int := if w = 0 then M 1 4 else if w = 1 then M 9 3 else if w = 2 then M 9 4 else if w = 3 then ((kcS M 13 : Nat) : Int) else -1
theorem d_De_count_0 : decode b_De_count 0 = .ok (.iload_n 1, 1) := by decide +kernel
theorem d_De_count_1 : decode b_De_count 1 = .ok (.tableswitch 60 0 3 #[31, 36, 44, 52], 31) := by decide +kernel
theorem d_De_count_32 : decode b_De_count 32 = .ok (.aload_n 0, 1) := by decide +kernel
theorem d_De_count_33 : decode b_De_count 33 = .ok (.getfield 77, 3) := by decide +kernel
theorem d_De_count_36 : decode b_De_count 36 = .ok (.ireturn, 1) := by decide +kernel
theorem d_De_count_37 : decode b_De_count 37 = .ok (.aload_n 0, 1) := by decide +kernel
theorem d_De_count_38 : decode b_De_count 38 = .ok (.getfield 40, 3) := by decide +kernel
theorem d_De_count_41 : decode b_De_count 41 = .ok (.invokevirtual 137, 3) := by decide +kernel
theorem d_De_count_44 : decode b_De_count 44 = .ok (.ireturn, 1) := by decide +kernel
theorem d_De_count_45 : decode b_De_count 45 = .ok (.aload_n 0, 1) := by decide +kernel
theorem d_De_count_46 : decode b_De_count 46 = .ok (.getfield 40, 3) := by decide +kernel
theorem d_De_count_49 : decode b_De_count 49 = .ok (.invokevirtual 140, 3) := by decide +kernel
theorem d_De_count_52 : decode b_De_count 52 = .ok (.ireturn, 1) := by decide +kernel
theorem d_De_count_53 : decode b_De_count 53 = .ok (.aload_n 0, 1) := by decide +kernel
theorem d_De_count_54 : decode b_De_count 54 = .ok (.getfield 40, 3) := by decide +kernel
theorem d_De_count_57 : decode b_De_count 57 = .ok (.invokevirtual 143, 3) := by decide +kernel
theorem d_De_count_60 : decode b_De_count 60 = .ok (.ireturn, 1) := by decide +kernel
theorem d_De_count_61 : decode b_De_count 61 = .ok (.iconst (-1), 1) := by decide +kernel
theorem d_De_count_62 : decode b_De_count 62 = .ok (.ireturn, 1) := by decide +kernel
theorem g_De_count {X : WX} {d : Nat} (hd : 2 ≤ d) (w : Int) (M : Mem) (hl1 : 0 ≤ M 1 4 ∧ M 1 4 ≤ 40) (hl2 : 0 ≤ M 9 3 ∧ M 9 3 ≤ 300) (hl3 : 0 ≤ M 9 4 ∧ M 9 4 ≤ 100000) (hkn : ∀ j : Nat, 0 ≤ j → j < 13 → 0 ≤ M 10 (j : Int) ∧ M 10 (j : Int) < 268435456) : MG X gt d KE KE y_De_count b_De_count 2 (some .int) [vr 1, vi w] M (fun r M' => r = some (vi (cntD M w)) ∧ M' = M) := by
  refine MG_of_G (by decide) (Nat.le_of_ble_eq_true rfl) (Nat.le_refl _) (by decide) ?_
  show G X gt d KE KE y_De_count b_De_count 2 (some .int) _ 0 [(0, vr 1), (1, vi w)] [] KE M
  refine G_rngl (i := 1) rfl (fun hr1 => ?_)
  refine G_iload (i := 1) (n := 1) (len := 1) (Or.inl ⟨1, rfl, rfl, d_De_count_0⟩) rfl (G_pc (pc' := 1) rfl ?_)
  by_cases h1 : w = 0
  · skip
    have e2o : (#[31, 36, 44, 52] : Array Int)[(w - 0).toNat]? = some 31 := by rw [h1]; rfl
    refine G_tableIn (off := 31) (tgt := 32) d_De_count_1 (by omega) e2o (by decide) ?_
    refine G_aload (i := 0) (n := 0) (len := 1) (Or.inl ⟨0, rfl, rfl, d_De_count_32⟩) rfl (by decide) (G_pc (pc' := 33) rfl ?_)
    refine G_get (o := 1) (c := 8) (k := 4) (v := M 1 4) d_De_count_33 fl_De_77 rfl (by decide) (by decide) rfl rfl (G_pc (pc' := 36) rfl ?_)
    refine G_iret d_De_count_36 rfl (tokI (by first | omega | (have := kcS_le M 13; omega))) rfl rfl ?_
    exact ret_e (by unfold cntD; repeat (first | (rw [if_pos (by omega)]; done) | (rw [if_neg (by omega)]; done) | (rw [if_neg (by omega)]))) rfl
  by_cases h1 : w = 1
  · skip
    have e3o : (#[31, 36, 44, 52] : Array Int)[(w - 0).toNat]? = some 36 := by rw [h1]; rfl
    refine G_tableIn (off := 36) (tgt := 37) d_De_count_1 (by omega) e3o (by decide) ?_
    refine G_aload (i := 0) (n := 0) (len := 1) (Or.inl ⟨0, rfl, rfl, d_De_count_37⟩) rfl (by decide) (G_pc (pc' := 38) rfl ?_)
    refine G_get (o := 1) (c := 8) (k := 1) (v := 9) d_De_count_38 fl_De_40 rfl (by decide) (by decide) rfl rfl (G_pc (pc' := 41) rfl ?_)
    refine G_callV (K1 := KE) (d2 := 0) (o := 9) (cl := 3) (as := []) (rest := []) d_De_count_41 mf_Li_waitingCount ml_De_137 rfl rfl (by decide) rfl rfl (Nat.le_of_ble_eq_true rfl) (by omega) ⟨Nat.le_refl _, Nat.le_refl _⟩ (g_Li_waitingCount (by omega)  _) (fun r4 M5 kq6 q6 => ?_)
    clear kq6; obtain ⟨q6a, q6b⟩ := q6; subst r4; subst M5
    refine G_ps (pc' := 44) (st' := [vi (M 9 3)]) rfl rfl ?_
    refine G_iret d_De_count_44 rfl (tokI (by first | omega | (have := kcS_le M 13; omega))) rfl rfl ?_
    exact ret_e (by unfold cntD; repeat (first | (rw [if_pos (by omega)]; done) | (rw [if_neg (by omega)]; done) | (rw [if_neg (by omega)]))) rfl
  by_cases h1 : w = 2
  · skip
    have e7o : (#[31, 36, 44, 52] : Array Int)[(w - 0).toNat]? = some 44 := by rw [h1]; rfl
    refine G_tableIn (off := 44) (tgt := 45) d_De_count_1 (by omega) e7o (by decide) ?_
    refine G_aload (i := 0) (n := 0) (len := 1) (Or.inl ⟨0, rfl, rfl, d_De_count_45⟩) rfl (by decide) (G_pc (pc' := 46) rfl ?_)
    refine G_get (o := 1) (c := 8) (k := 1) (v := 9) d_De_count_46 fl_De_40 rfl (by decide) (by decide) rfl rfl (G_pc (pc' := 49) rfl ?_)
    refine G_callV (K1 := KE) (d2 := 0) (o := 9) (cl := 3) (as := []) (rest := []) d_De_count_49 mf_Li_sentCount ml_De_140 rfl rfl (by decide) rfl rfl (Nat.le_of_ble_eq_true rfl) (by omega) ⟨Nat.le_refl _, Nat.le_refl _⟩ (g_Li_sentCount (by omega)  _) (fun r8 M9 kq10 q10 => ?_)
    clear kq10; obtain ⟨q10a, q10b⟩ := q10; subst r8; subst M9
    refine G_ps (pc' := 52) (st' := [vi (M 9 4)]) rfl rfl ?_
    refine G_iret d_De_count_52 rfl (tokI (by first | omega | (have := kcS_le M 13; omega))) rfl rfl ?_
    exact ret_e (by unfold cntD; repeat (first | (rw [if_pos (by omega)]; done) | (rw [if_neg (by omega)]; done) | (rw [if_neg (by omega)]))) rfl
  by_cases h1 : w = 3
  · skip
    have e11o : (#[31, 36, 44, 52] : Array Int)[(w - 0).toNat]? = some 52 := by rw [h1]; rfl
    refine G_tableIn (off := 52) (tgt := 53) d_De_count_1 (by omega) e11o (by decide) ?_
    refine G_aload (i := 0) (n := 0) (len := 1) (Or.inl ⟨0, rfl, rfl, d_De_count_53⟩) rfl (by decide) (G_pc (pc' := 54) rfl ?_)
    refine G_get (o := 1) (c := 8) (k := 1) (v := 9) d_De_count_54 fl_De_40 rfl (by decide) (by decide) rfl rfl (G_pc (pc' := 57) rfl ?_)
    refine G_callV (K1 := KE) (d2 := 1) (o := 9) (cl := 3) (as := []) (rest := []) d_De_count_57 mf_Li_knownCount ml_De_143 rfl rfl (by decide) rfl rfl (Nat.le_of_ble_eq_true rfl) (by omega) ⟨Nat.le_refl _, Nat.le_refl _⟩ (g_Li_knownCount (by omega)  _ hkn) (fun r12 M13 kq14 q14 => ?_)
    clear kq14; obtain ⟨q14a, q14b⟩ := q14; subst r12; subst M13
    refine G_ps (pc' := 60) (st' := [vi ((kcS M 13 : Nat) : Int)]) rfl rfl ?_
    refine G_iret d_De_count_60 rfl (tokI (by first | omega | (have := kcS_le M 13; omega))) rfl rfl ?_
    exact ret_e (by unfold cntD; repeat (first | (rw [if_pos (by omega)]; done) | (rw [if_neg (by omega)]; done) | (rw [if_neg (by omega)]))) rfl
  refine G_tableOut (tgt := 61) d_De_count_1 (by omega) (by decide) ?_
  refine G_iconst (n := (-1)) d_De_count_61 (by decide) (G_pc (pc' := 62) rfl ?_)
  refine G_iret d_De_count_62 rfl (tokI (by decide)) rfl rfl ?_
  exact ret_e (by unfold cntD; repeat (first | (rw [if_pos (by omega)]; done) | (rw [if_neg (by omega)]; done) | (rw [if_neg (by omega)]))) rfl

