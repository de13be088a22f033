def shvD (c k v b : Int) : Int := if k = 1 then (if c = 130 then o_lshl v (w32 (o_land b 63)) else if c = 131 then o_lshr v (w32 (o_land b 63)) else o_lushr v (w32 (o_land b 63))) else if c = 130 then o_ishl (w32 v) (w32 (o_land b 31)) else if c = 131 then o_ishr (w32 v) (w32 (o_land b 31)) else o_iushr (w32 v) (w32 (o_land b 31))
def chgD (c v : Int) : Int := if c = 126 then o_lxor v (-1) else if c = 33 then o_lsub 1 v else if c = 148 then o_lneg v else v
def cmbD (c x y : Int) : Int := if c = 42 then o_lmul x y else if c = 47 then o_ldiv x y else if c = 37 then o_lrem x y else if c = 43 then o_ladd x y else if c = 45 then o_lsub x y else if c = 38 then o_land x y else if c = 94 then o_lxor x y else o_lor x y
def holD (c x y : Int) : Bool := if c = 60 then decide (x < y) else if c = 128 then decide (x ≤ y) else if c = 62 then decide (y < x) else if c = 129 then decide (y ≤ x) else if c = 133 then decide (x = y) else if c = 134 then decide (¬ x = y) else if c = 135 then decide (x = 1 ∧ y = 1) else decide (x = 1 ∨ y = 1)
theorem d_Ev_shifted_0 : decode b_Ev_shifted 0 = .ok (.iload_n 1, 1) := by decide +kernel
theorem d_Ev_shifted_1 : decode b_Ev_shifted 1 = .ok (.iconst 1, 1) := by decide +kernel
theorem d_Ev_shifted_2 : decode b_Ev_shifted 2 = .ok (.if_icmp .ne 43, 3) := by decide +kernel
theorem d_Ev_shifted_5 : decode b_Ev_shifted 5 = .ok (.lload 4, 2) := by decide +kernel
theorem d_Ev_shifted_7 : decode b_Ev_shifted 7 = .ok (.ldc2_w 194, 3) := by decide +kernel
theorem d_Ev_shifted_10 : decode b_Ev_shifted 10 = .ok (.land, 1) := by decide +kernel
theorem d_Ev_shifted_11 : decode b_Ev_shifted 11 = .ok (.l2i, 1) := by decide +kernel
theorem d_Ev_shifted_12 : decode b_Ev_shifted 12 = .ok (.istore 6, 2) := by decide +kernel
theorem d_Ev_shifted_14 : decode b_Ev_shifted 14 = .ok (.iload_n 0, 1) := by decide +kernel
theorem d_Ev_shifted_15 : decode b_Ev_shifted 15 = .ok (.sipush 130, 3) := by decide +kernel
theorem d_Ev_shifted_18 : decode b_Ev_shifted 18 = .ok (.if_icmp .ne 8, 3) := by decide +kernel
theorem d_Ev_shifted_21 : decode b_Ev_shifted 21 = .ok (.lload_n 2, 1) := by decide +kernel
theorem d_Ev_shifted_22 : decode b_Ev_shifted 22 = .ok (.iload 6, 2) := by decide +kernel
theorem d_Ev_shifted_24 : decode b_Ev_shifted 24 = .ok (.lshl, 1) := by decide +kernel
theorem d_Ev_shifted_25 : decode b_Ev_shifted 25 = .ok (.lreturn, 1) := by decide +kernel
theorem d_Ev_shifted_26 : decode b_Ev_shifted 26 = .ok (.iload_n 0, 1) := by decide +kernel
theorem d_Ev_shifted_27 : decode b_Ev_shifted 27 = .ok (.sipush 131, 3) := by decide +kernel
theorem d_Ev_shifted_30 : decode b_Ev_shifted 30 = .ok (.if_icmp .ne 10, 3) := by decide +kernel
theorem d_Ev_shifted_33 : decode b_Ev_shifted 33 = .ok (.lload_n 2, 1) := by decide +kernel
theorem d_Ev_shifted_34 : decode b_Ev_shifted 34 = .ok (.iload 6, 2) := by decide +kernel
theorem d_Ev_shifted_36 : decode b_Ev_shifted 36 = .ok (.lshr, 1) := by decide +kernel
theorem d_Ev_shifted_37 : decode b_Ev_shifted 37 = .ok (.goto 7, 3) := by decide +kernel
theorem d_Ev_shifted_40 : decode b_Ev_shifted 40 = .ok (.lload_n 2, 1) := by decide +kernel
theorem d_Ev_shifted_41 : decode b_Ev_shifted 41 = .ok (.iload 6, 2) := by decide +kernel
theorem d_Ev_shifted_43 : decode b_Ev_shifted 43 = .ok (.lushr, 1) := by decide +kernel
theorem d_Ev_shifted_44 : decode b_Ev_shifted 44 = .ok (.lreturn, 1) := by decide +kernel
theorem d_Ev_shifted_45 : decode b_Ev_shifted 45 = .ok (.lload 4, 2) := by decide +kernel
theorem d_Ev_shifted_47 : decode b_Ev_shifted 47 = .ok (.ldc2_w 196, 3) := by decide +kernel
theorem d_Ev_shifted_50 : decode b_Ev_shifted 50 = .ok (.land, 1) := by decide +kernel
theorem d_Ev_shifted_51 : decode b_Ev_shifted 51 = .ok (.l2i, 1) := by decide +kernel
theorem d_Ev_shifted_52 : decode b_Ev_shifted 52 = .ok (.istore 6, 2) := by decide +kernel
theorem d_Ev_shifted_54 : decode b_Ev_shifted 54 = .ok (.iload_n 0, 1) := by decide +kernel
theorem d_Ev_shifted_55 : decode b_Ev_shifted 55 = .ok (.sipush 130, 3) := by decide +kernel
theorem d_Ev_shifted_58 : decode b_Ev_shifted 58 = .ok (.if_icmp .ne 10, 3) := by decide +kernel
theorem d_Ev_shifted_61 : decode b_Ev_shifted 61 = .ok (.lload_n 2, 1) := by decide +kernel
theorem d_Ev_shifted_62 : decode b_Ev_shifted 62 = .ok (.l2i, 1) := by decide +kernel
theorem d_Ev_shifted_63 : decode b_Ev_shifted 63 = .ok (.iload 6, 2) := by decide +kernel
theorem d_Ev_shifted_65 : decode b_Ev_shifted 65 = .ok (.ishl, 1) := by decide +kernel
theorem d_Ev_shifted_66 : decode b_Ev_shifted 66 = .ok (.i2l, 1) := by decide +kernel
theorem d_Ev_shifted_67 : decode b_Ev_shifted 67 = .ok (.lreturn, 1) := by decide +kernel
theorem d_Ev_shifted_68 : decode b_Ev_shifted 68 = .ok (.iload_n 0, 1) := by decide +kernel
theorem d_Ev_shifted_69 : decode b_Ev_shifted 69 = .ok (.sipush 131, 3) := by decide +kernel
theorem d_Ev_shifted_72 : decode b_Ev_shifted 72 = .ok (.if_icmp .ne 12, 3) := by decide +kernel
theorem d_Ev_shifted_75 : decode b_Ev_shifted 75 = .ok (.lload_n 2, 1) := by decide +kernel
theorem d_Ev_shifted_76 : decode b_Ev_shifted 76 = .ok (.l2i, 1) := by decide +kernel
theorem d_Ev_shifted_77 : decode b_Ev_shifted 77 = .ok (.iload 6, 2) := by decide +kernel
theorem d_Ev_shifted_79 : decode b_Ev_shifted 79 = .ok (.ishr, 1) := by decide +kernel
theorem d_Ev_shifted_80 : decode b_Ev_shifted 80 = .ok (.i2l, 1) := by decide +kernel
theorem d_Ev_shifted_81 : decode b_Ev_shifted 81 = .ok (.goto 9, 3) := by decide +kernel
theorem d_Ev_shifted_84 : decode b_Ev_shifted 84 = .ok (.lload_n 2, 1) := by decide +kernel
theorem d_Ev_shifted_85 : decode b_Ev_shifted 85 = .ok (.l2i, 1) := by decide +kernel
theorem d_Ev_shifted_86 : decode b_Ev_shifted 86 = .ok (.iload 6, 2) := by decide +kernel
theorem d_Ev_shifted_88 : decode b_Ev_shifted 88 = .ok (.iushr, 1) := by decide +kernel
theorem d_Ev_shifted_89 : decode b_Ev_shifted 89 = .ok (.i2l, 1) := by decide +kernel
theorem d_Ev_shifted_90 : decode b_Ev_shifted 90 = .ok (.lreturn, 1) := by decide +kernel
theorem g_Ev_shifted {X : WX} {d : Nat} (hd : 0 ≤ d) (c k v b : Int) (M : Mem)  : MG X gt d KE KE y_Ev_shifted b_Ev_shifted 7 (some .long) [vi c, vi k, vl v, vl b] M (fun r M' => r = some (vl (shvD c k v b)) ∧ M' = M) := by
  refine MG_of_G (by decide) (Nat.le_of_ble_eq_true rfl) (Nat.le_refl _) (by decide) ?_
  show G X gt d KE KE y_Ev_shifted b_Ev_shifted 7 (some .long) _ 0 [(0, vi c), (1, vi k), (2, vl v), (4, vl b)] [] KE M
  refine G_rngl (i := 0) rfl (fun hr0 => ?_)
  refine G_rngl (i := 1) rfl (fun hr1 => ?_)
  refine G_rngL (i := 2) rfl (fun hr2 => ?_)
  refine G_rngL (i := 3) rfl (fun hr4 => ?_)
  refine G_iload (i := 1) (n := 1) (len := 1) (Or.inl ⟨1, rfl, rfl, d_Ev_shifted_0⟩) rfl (G_pc (pc' := 1) rfl ?_)
  refine G_iconst (n := 1) d_Ev_shifted_1 (by decide) (G_pc (pc' := 2) rfl ?_)
  refine G_icmp_ne (tgt := 45) d_Ev_shifted_2 (by decide) (fun h1 => ?_) (fun h1 => G_pc (pc' := 5) rfl ?_)
  · skip
    refine G_lload (i := 4) (n := 3) (len := 2) (Or.inr ⟨rfl, d_Ev_shifted_45⟩) rfl (G_pc (pc' := 47) rfl ?_)
    refine G_ldc2 (x := 31) d_Ev_shifted_47 k2_Ev_196 (by decide) (G_pc (pc' := 50) rfl ?_)
    refine G_land d_Ev_shifted_50 (G_pc (pc' := 51) rfl ?_)
    refine G_l2i d_Ev_shifted_51 (G_pc (pc' := 52) rfl ?_)
    refine G_istore (i := 6) (len := 2) (ls' := [(6, vi (w32 (o_land b 31))), (0, vi c), (1, vi k), (2, vl v), (4, vl b)]) (Or.inr ⟨rfl, d_Ev_shifted_52⟩) (by decide) rfl (G_pc (pc' := 54) rfl ?_)
    refine G_iload (i := 0) (n := 1) (len := 1) (Or.inl ⟨0, rfl, rfl, d_Ev_shifted_54⟩) rfl (G_pc (pc' := 55) rfl ?_)
    refine G_sipush (n := 130) d_Ev_shifted_55 (by decide) (G_pc (pc' := 58) rfl ?_)
    refine G_icmp_ne (tgt := 68) d_Ev_shifted_58 (by decide) (fun h2 => ?_) (fun h2 => G_pc (pc' := 61) rfl ?_)
    · skip
      refine G_iload (i := 0) (n := 1) (len := 1) (Or.inl ⟨0, rfl, rfl, d_Ev_shifted_68⟩) rfl (G_pc (pc' := 69) rfl ?_)
      refine G_sipush (n := 131) d_Ev_shifted_69 (by decide) (G_pc (pc' := 72) rfl ?_)
      refine G_icmp_ne (tgt := 84) d_Ev_shifted_72 (by decide) (fun h3 => ?_) (fun h3 => G_pc (pc' := 75) rfl ?_)
      · skip
        refine G_lload (i := 2) (n := 3) (len := 1) (Or.inl ⟨2, rfl, rfl, d_Ev_shifted_84⟩) rfl (G_pc (pc' := 85) rfl ?_)
        refine G_l2i d_Ev_shifted_85 (G_pc (pc' := 86) rfl ?_)
        refine G_iload (i := 6) (n := 0) (len := 2) (Or.inr ⟨rfl, d_Ev_shifted_86⟩) rfl (G_pc (pc' := 88) rfl ?_)
        refine G_iushr d_Ev_shifted_88 (G_pc (pc' := 89) rfl ?_)
        refine G_i2l d_Ev_shifted_89 (G_pc (pc' := 90) rfl ?_)
        refine G_lret d_Ev_shifted_90 rfl rfl ?_
        exact ret_l (by unfold shvD; simp [*]) rfl
      · skip
        refine G_lload (i := 2) (n := 3) (len := 1) (Or.inl ⟨2, rfl, rfl, d_Ev_shifted_75⟩) rfl (G_pc (pc' := 76) rfl ?_)
        refine G_l2i d_Ev_shifted_76 (G_pc (pc' := 77) rfl ?_)
        refine G_iload (i := 6) (n := 0) (len := 2) (Or.inr ⟨rfl, d_Ev_shifted_77⟩) rfl (G_pc (pc' := 79) rfl ?_)
        refine G_ishr d_Ev_shifted_79 (G_pc (pc' := 80) rfl ?_)
        refine G_i2l d_Ev_shifted_80 (G_pc (pc' := 81) rfl ?_)
        refine G_goto (tgt := 90) d_Ev_shifted_81 (by decide) ?_
        refine G_lret d_Ev_shifted_90 rfl rfl ?_
        exact ret_l (by unfold shvD; simp [*]) rfl
    · skip
      refine G_lload (i := 2) (n := 3) (len := 1) (Or.inl ⟨2, rfl, rfl, d_Ev_shifted_61⟩) rfl (G_pc (pc' := 62) rfl ?_)
      refine G_l2i d_Ev_shifted_62 (G_pc (pc' := 63) rfl ?_)
      refine G_iload (i := 6) (n := 0) (len := 2) (Or.inr ⟨rfl, d_Ev_shifted_63⟩) rfl (G_pc (pc' := 65) rfl ?_)
      refine G_ishl d_Ev_shifted_65 (G_pc (pc' := 66) rfl ?_)
      refine G_i2l d_Ev_shifted_66 (G_pc (pc' := 67) rfl ?_)
      refine G_lret d_Ev_shifted_67 rfl rfl ?_
      exact ret_l (by unfold shvD; simp [*]) rfl
  · skip
    refine G_lload (i := 4) (n := 3) (len := 2) (Or.inr ⟨rfl, d_Ev_shifted_5⟩) rfl (G_pc (pc' := 7) rfl ?_)
    refine G_ldc2 (x := 63) d_Ev_shifted_7 k2_Ev_194 (by decide) (G_pc (pc' := 10) rfl ?_)
    refine G_land d_Ev_shifted_10 (G_pc (pc' := 11) rfl ?_)
    refine G_l2i d_Ev_shifted_11 (G_pc (pc' := 12) rfl ?_)
    refine G_istore (i := 6) (len := 2) (ls' := [(6, vi (w32 (o_land b 63))), (0, vi c), (1, vi k), (2, vl v), (4, vl b)]) (Or.inr ⟨rfl, d_Ev_shifted_12⟩) (by decide) rfl (G_pc (pc' := 14) rfl ?_)
    refine G_iload (i := 0) (n := 1) (len := 1) (Or.inl ⟨0, rfl, rfl, d_Ev_shifted_14⟩) rfl (G_pc (pc' := 15) rfl ?_)
    refine G_sipush (n := 130) d_Ev_shifted_15 (by decide) (G_pc (pc' := 18) rfl ?_)
    refine G_icmp_ne (tgt := 26) d_Ev_shifted_18 (by decide) (fun h4 => ?_) (fun h4 => G_pc (pc' := 21) rfl ?_)
    · skip
      refine G_iload (i := 0) (n := 1) (len := 1) (Or.inl ⟨0, rfl, rfl, d_Ev_shifted_26⟩) rfl (G_pc (pc' := 27) rfl ?_)
      refine G_sipush (n := 131) d_Ev_shifted_27 (by decide) (G_pc (pc' := 30) rfl ?_)
      refine G_icmp_ne (tgt := 40) d_Ev_shifted_30 (by decide) (fun h5 => ?_) (fun h5 => G_pc (pc' := 33) rfl ?_)
      · skip
        refine G_lload (i := 2) (n := 3) (len := 1) (Or.inl ⟨2, rfl, rfl, d_Ev_shifted_40⟩) rfl (G_pc (pc' := 41) rfl ?_)
        refine G_iload (i := 6) (n := 0) (len := 2) (Or.inr ⟨rfl, d_Ev_shifted_41⟩) rfl (G_pc (pc' := 43) rfl ?_)
        refine G_lushr d_Ev_shifted_43 (G_pc (pc' := 44) rfl ?_)
        refine G_lret d_Ev_shifted_44 rfl rfl ?_
        exact ret_l (by unfold shvD; simp [*]) rfl
      · skip
        refine G_lload (i := 2) (n := 3) (len := 1) (Or.inl ⟨2, rfl, rfl, d_Ev_shifted_33⟩) rfl (G_pc (pc' := 34) rfl ?_)
        refine G_iload (i := 6) (n := 0) (len := 2) (Or.inr ⟨rfl, d_Ev_shifted_34⟩) rfl (G_pc (pc' := 36) rfl ?_)
        refine G_lshr d_Ev_shifted_36 (G_pc (pc' := 37) rfl ?_)
        refine G_goto (tgt := 44) d_Ev_shifted_37 (by decide) ?_
        refine G_lret d_Ev_shifted_44 rfl rfl ?_
        exact ret_l (by unfold shvD; simp [*]) rfl
    · skip
      refine G_lload (i := 2) (n := 3) (len := 1) (Or.inl ⟨2, rfl, rfl, d_Ev_shifted_21⟩) rfl (G_pc (pc' := 22) rfl ?_)
      refine G_iload (i := 6) (n := 0) (len := 2) (Or.inr ⟨rfl, d_Ev_shifted_22⟩) rfl (G_pc (pc' := 24) rfl ?_)
      refine G_lshl d_Ev_shifted_24 (G_pc (pc' := 25) rfl ?_)
      refine G_lret d_Ev_shifted_25 rfl rfl ?_
      exact ret_l (by unfold shvD; simp [*]) rfl

theorem d_Ev_changed_0 : decode b_Ev_changed 0 = .ok (.iload_n 0, 1) := by decide +kernel
theorem d_Ev_changed_1 : decode b_Ev_changed 1 = .ok (.lookupswitch 48 #[(33, 41), (126, 35), (148, 45)], 35) := by decide +kernel
theorem d_Ev_changed_36 : decode b_Ev_changed 36 = .ok (.lload_n 1, 1) := by decide +kernel
theorem d_Ev_changed_37 : decode b_Ev_changed 37 = .ok (.ldc2_w 198, 3) := by decide +kernel
theorem d_Ev_changed_40 : decode b_Ev_changed 40 = .ok (.lxor, 1) := by decide +kernel
theorem d_Ev_changed_41 : decode b_Ev_changed 41 = .ok (.lreturn, 1) := by decide +kernel
theorem d_Ev_changed_42 : decode b_Ev_changed 42 = .ok (.lconst 1, 1) := by decide +kernel
theorem d_Ev_changed_43 : decode b_Ev_changed 43 = .ok (.lload_n 1, 1) := by decide +kernel
theorem d_Ev_changed_44 : decode b_Ev_changed 44 = .ok (.lsub, 1) := by decide +kernel
theorem d_Ev_changed_45 : decode b_Ev_changed 45 = .ok (.lreturn, 1) := by decide +kernel
theorem d_Ev_changed_46 : decode b_Ev_changed 46 = .ok (.lload_n 1, 1) := by decide +kernel
theorem d_Ev_changed_47 : decode b_Ev_changed 47 = .ok (.lneg, 1) := by decide +kernel
theorem d_Ev_changed_48 : decode b_Ev_changed 48 = .ok (.lreturn, 1) := by decide +kernel
theorem d_Ev_changed_49 : decode b_Ev_changed 49 = .ok (.lload_n 1, 1) := by decide +kernel
theorem d_Ev_changed_50 : decode b_Ev_changed 50 = .ok (.lreturn, 1) := by decide +kernel
theorem g_Ev_changed {X : WX} {d : Nat} (hd : 0 ≤ d) (c v : Int) (M : Mem)  : MG X gt d KE KE y_Ev_changed b_Ev_changed 3 (some .long) [vi c, vl v] M (fun r M' => r = some (vl (chgD c v)) ∧ M' = M) := by
  refine MG_of_G (by decide) (Nat.le_of_ble_eq_true rfl) (Nat.le_refl _) (by decide) ?_
  show G X gt d KE KE y_Ev_changed b_Ev_changed 3 (some .long) _ 0 [(0, vi c), (1, vl v)] [] KE M
  refine G_rngl (i := 0) rfl (fun hr0 => ?_)
  refine G_rngL (i := 1) rfl (fun hr1 => ?_)
  refine G_iload (i := 0) (n := 0) (len := 1) (Or.inl ⟨0, rfl, rfl, d_Ev_changed_0⟩) rfl (G_pc (pc' := 1) rfl ?_)
  by_cases h1 : c = 33
  · skip
    have e2o : Op.lookupswitch.offset [(33, 41), (126, 35), (148, 45)] 48 c = 41 := by rw [h1]; rfl
    refine G_lookup (off := 41) (tgt := 42) d_Ev_changed_1 (by decide) e2o (by decide) ?_
    refine G_lconst1 d_Ev_changed_42 (G_pc (pc' := 43) rfl ?_)
    refine G_lload (i := 1) (n := 1) (len := 1) (Or.inl ⟨1, rfl, rfl, d_Ev_changed_43⟩) rfl (G_pc (pc' := 44) rfl ?_)
    refine G_lsub d_Ev_changed_44 (G_pc (pc' := 45) rfl ?_)
    refine G_lret d_Ev_changed_45 rfl rfl ?_
    exact ret_l (by unfold chgD; grind) rfl
  by_cases h1 : c = 126
  · skip
    have e3o : Op.lookupswitch.offset [(33, 41), (126, 35), (148, 45)] 48 c = 35 := by rw [h1]; rfl
    refine G_lookup (off := 35) (tgt := 36) d_Ev_changed_1 (by decide) e3o (by decide) ?_
    refine G_lload (i := 1) (n := 1) (len := 1) (Or.inl ⟨1, rfl, rfl, d_Ev_changed_36⟩) rfl (G_pc (pc' := 37) rfl ?_)
    refine G_ldc2 (x := (-1)) d_Ev_changed_37 k2_Ev_198 (by decide) (G_pc (pc' := 40) rfl ?_)
    refine G_lxor d_Ev_changed_40 (G_pc (pc' := 41) rfl ?_)
    refine G_lret d_Ev_changed_41 rfl rfl ?_
    exact ret_l (by unfold chgD; grind) rfl
  by_cases h1 : c = 148
  · skip
    have e4o : Op.lookupswitch.offset [(33, 41), (126, 35), (148, 45)] 48 c = 45 := by rw [h1]; rfl
    refine G_lookup (off := 45) (tgt := 46) d_Ev_changed_1 (by decide) e4o (by decide) ?_
    refine G_lload (i := 1) (n := 1) (len := 1) (Or.inl ⟨1, rfl, rfl, d_Ev_changed_46⟩) rfl (G_pc (pc' := 47) rfl ?_)
    refine G_lneg d_Ev_changed_47 (G_pc (pc' := 48) rfl ?_)
    refine G_lret d_Ev_changed_48 rfl rfl ?_
    exact ret_l (by unfold chgD; grind) rfl
  have e5o : Op.lookupswitch.offset [(33, 41), (126, 35), (148, 45)] 48 c = 48 := by rw [lk_ne (by omega), lk_ne (by omega), lk_ne (by omega)]; rfl
  refine G_lookup (off := 48) (tgt := 49) d_Ev_changed_1 (by decide) e5o (by decide) ?_
  refine G_lload (i := 1) (n := 1) (len := 1) (Or.inl ⟨1, rfl, rfl, d_Ev_changed_49⟩) rfl (G_pc (pc' := 50) rfl ?_)
  refine G_lret d_Ev_changed_50 rfl rfl ?_
  exact ret_l (by unfold chgD; grind) rfl

theorem d_Ev_combined_0 : decode b_Ev_combined 0 = .ok (.iload_n 0, 1) := by decide +kernel
theorem d_Ev_combined_1 : decode b_Ev_combined 1 = .ok (.lookupswitch 95 #[(37, 75), (38, 87), (42, 67), (43, 79), (45, 83), (47, 71), (94, 91)], 67) := by decide +kernel
theorem d_Ev_combined_68 : decode b_Ev_combined 68 = .ok (.lload_n 1, 1) := by decide +kernel
theorem d_Ev_combined_69 : decode b_Ev_combined 69 = .ok (.lload_n 3, 1) := by decide +kernel
theorem d_Ev_combined_70 : decode b_Ev_combined 70 = .ok (.lmul, 1) := by decide +kernel
theorem d_Ev_combined_71 : decode b_Ev_combined 71 = .ok (.lreturn, 1) := by decide +kernel
theorem d_Ev_combined_72 : decode b_Ev_combined 72 = .ok (.lload_n 1, 1) := by decide +kernel
theorem d_Ev_combined_73 : decode b_Ev_combined 73 = .ok (.lload_n 3, 1) := by decide +kernel
theorem d_Ev_combined_74 : decode b_Ev_combined 74 = .ok (.ldiv, 1) := by decide +kernel
theorem d_Ev_combined_75 : decode b_Ev_combined 75 = .ok (.lreturn, 1) := by decide +kernel
theorem d_Ev_combined_76 : decode b_Ev_combined 76 = .ok (.lload_n 1, 1) := by decide +kernel
theorem d_Ev_combined_77 : decode b_Ev_combined 77 = .ok (.lload_n 3, 1) := by decide +kernel
theorem d_Ev_combined_78 : decode b_Ev_combined 78 = .ok (.lrem, 1) := by decide +kernel
theorem d_Ev_combined_79 : decode b_Ev_combined 79 = .ok (.lreturn, 1) := by decide +kernel
theorem d_Ev_combined_80 : decode b_Ev_combined 80 = .ok (.lload_n 1, 1) := by decide +kernel
theorem d_Ev_combined_81 : decode b_Ev_combined 81 = .ok (.lload_n 3, 1) := by decide +kernel
theorem d_Ev_combined_82 : decode b_Ev_combined 82 = .ok (.ladd, 1) := by decide +kernel
theorem d_Ev_combined_83 : decode b_Ev_combined 83 = .ok (.lreturn, 1) := by decide +kernel
theorem d_Ev_combined_84 : decode b_Ev_combined 84 = .ok (.lload_n 1, 1) := by decide +kernel
theorem d_Ev_combined_85 : decode b_Ev_combined 85 = .ok (.lload_n 3, 1) := by decide +kernel
theorem d_Ev_combined_86 : decode b_Ev_combined 86 = .ok (.lsub, 1) := by decide +kernel
theorem d_Ev_combined_87 : decode b_Ev_combined 87 = .ok (.lreturn, 1) := by decide +kernel
theorem d_Ev_combined_88 : decode b_Ev_combined 88 = .ok (.lload_n 1, 1) := by decide +kernel
theorem d_Ev_combined_89 : decode b_Ev_combined 89 = .ok (.lload_n 3, 1) := by decide +kernel
theorem d_Ev_combined_90 : decode b_Ev_combined 90 = .ok (.land, 1) := by decide +kernel
theorem d_Ev_combined_91 : decode b_Ev_combined 91 = .ok (.lreturn, 1) := by decide +kernel
theorem d_Ev_combined_92 : decode b_Ev_combined 92 = .ok (.lload_n 1, 1) := by decide +kernel
theorem d_Ev_combined_93 : decode b_Ev_combined 93 = .ok (.lload_n 3, 1) := by decide +kernel
theorem d_Ev_combined_94 : decode b_Ev_combined 94 = .ok (.lxor, 1) := by decide +kernel
theorem d_Ev_combined_95 : decode b_Ev_combined 95 = .ok (.lreturn, 1) := by decide +kernel
theorem d_Ev_combined_96 : decode b_Ev_combined 96 = .ok (.lload_n 1, 1) := by decide +kernel
theorem d_Ev_combined_97 : decode b_Ev_combined 97 = .ok (.lload_n 3, 1) := by decide +kernel
theorem d_Ev_combined_98 : decode b_Ev_combined 98 = .ok (.lor, 1) := by decide +kernel
theorem d_Ev_combined_99 : decode b_Ev_combined 99 = .ok (.lreturn, 1) := by decide +kernel
theorem g_Ev_combined {X : WX} {d : Nat} (hd : 0 ≤ d) (c x y : Int) (M : Mem) (hz : c = 47 ∨ c = 37 → ¬ y = 0) : MG X gt d KE KE y_Ev_combined b_Ev_combined 5 (some .long) [vi c, vl x, vl y] M (fun r M' => r = some (vl (cmbD c x y)) ∧ M' = M) := by
  refine MG_of_G (by decide) (Nat.le_of_ble_eq_true rfl) (Nat.le_refl _) (by decide) ?_
  show G X gt d KE KE y_Ev_combined b_Ev_combined 5 (some .long) _ 0 [(0, vi c), (1, vl x), (3, vl y)] [] KE M
  refine G_rngl (i := 0) rfl (fun hr0 => ?_)
  refine G_rngL (i := 1) rfl (fun hr1 => ?_)
  refine G_rngL (i := 2) rfl (fun hr3 => ?_)
  refine G_iload (i := 0) (n := 0) (len := 1) (Or.inl ⟨0, rfl, rfl, d_Ev_combined_0⟩) rfl (G_pc (pc' := 1) rfl ?_)
  by_cases h1 : c = 37
  · skip
    have e2o : Op.lookupswitch.offset [(37, 75), (38, 87), (42, 67), (43, 79), (45, 83), (47, 71), (94, 91)] 95 c = 75 := by rw [h1]; rfl
    refine G_lookup (off := 75) (tgt := 76) d_Ev_combined_1 (by decide) e2o (by decide) ?_
    refine G_lload (i := 1) (n := 1) (len := 1) (Or.inl ⟨1, rfl, rfl, d_Ev_combined_76⟩) rfl (G_pc (pc' := 77) rfl ?_)
    refine G_lload (i := 3) (n := 2) (len := 1) (Or.inl ⟨3, rfl, rfl, d_Ev_combined_77⟩) rfl (G_pc (pc' := 78) rfl ?_)
    refine G_lrem d_Ev_combined_78 (by omega) (G_pc (pc' := 79) rfl ?_)
    refine G_lret d_Ev_combined_79 rfl rfl ?_
    exact ret_l (by unfold cmbD; grind) rfl
  by_cases h1 : c = 38
  · skip
    have e3o : Op.lookupswitch.offset [(37, 75), (38, 87), (42, 67), (43, 79), (45, 83), (47, 71), (94, 91)] 95 c = 87 := by rw [h1]; rfl
    refine G_lookup (off := 87) (tgt := 88) d_Ev_combined_1 (by decide) e3o (by decide) ?_
    refine G_lload (i := 1) (n := 1) (len := 1) (Or.inl ⟨1, rfl, rfl, d_Ev_combined_88⟩) rfl (G_pc (pc' := 89) rfl ?_)
    refine G_lload (i := 3) (n := 2) (len := 1) (Or.inl ⟨3, rfl, rfl, d_Ev_combined_89⟩) rfl (G_pc (pc' := 90) rfl ?_)
    refine G_land d_Ev_combined_90 (G_pc (pc' := 91) rfl ?_)
    refine G_lret d_Ev_combined_91 rfl rfl ?_
    exact ret_l (by unfold cmbD; grind) rfl
  by_cases h1 : c = 42
  · skip
    have e4o : Op.lookupswitch.offset [(37, 75), (38, 87), (42, 67), (43, 79), (45, 83), (47, 71), (94, 91)] 95 c = 67 := by rw [h1]; rfl
    refine G_lookup (off := 67) (tgt := 68) d_Ev_combined_1 (by decide) e4o (by decide) ?_
    refine G_lload (i := 1) (n := 1) (len := 1) (Or.inl ⟨1, rfl, rfl, d_Ev_combined_68⟩) rfl (G_pc (pc' := 69) rfl ?_)
    refine G_lload (i := 3) (n := 2) (len := 1) (Or.inl ⟨3, rfl, rfl, d_Ev_combined_69⟩) rfl (G_pc (pc' := 70) rfl ?_)
    refine G_lmul d_Ev_combined_70 (G_pc (pc' := 71) rfl ?_)
    refine G_lret d_Ev_combined_71 rfl rfl ?_
    exact ret_l (by unfold cmbD; grind) rfl
  by_cases h1 : c = 43
  · skip
    have e5o : Op.lookupswitch.offset [(37, 75), (38, 87), (42, 67), (43, 79), (45, 83), (47, 71), (94, 91)] 95 c = 79 := by rw [h1]; rfl
    refine G_lookup (off := 79) (tgt := 80) d_Ev_combined_1 (by decide) e5o (by decide) ?_
    refine G_lload (i := 1) (n := 1) (len := 1) (Or.inl ⟨1, rfl, rfl, d_Ev_combined_80⟩) rfl (G_pc (pc' := 81) rfl ?_)
    refine G_lload (i := 3) (n := 2) (len := 1) (Or.inl ⟨3, rfl, rfl, d_Ev_combined_81⟩) rfl (G_pc (pc' := 82) rfl ?_)
    refine G_ladd d_Ev_combined_82 (G_pc (pc' := 83) rfl ?_)
    refine G_lret d_Ev_combined_83 rfl rfl ?_
    exact ret_l (by unfold cmbD; grind) rfl
  by_cases h1 : c = 45
  · skip
    have e6o : Op.lookupswitch.offset [(37, 75), (38, 87), (42, 67), (43, 79), (45, 83), (47, 71), (94, 91)] 95 c = 83 := by rw [h1]; rfl
    refine G_lookup (off := 83) (tgt := 84) d_Ev_combined_1 (by decide) e6o (by decide) ?_
    refine G_lload (i := 1) (n := 1) (len := 1) (Or.inl ⟨1, rfl, rfl, d_Ev_combined_84⟩) rfl (G_pc (pc' := 85) rfl ?_)
    refine G_lload (i := 3) (n := 2) (len := 1) (Or.inl ⟨3, rfl, rfl, d_Ev_combined_85⟩) rfl (G_pc (pc' := 86) rfl ?_)
    refine G_lsub d_Ev_combined_86 (G_pc (pc' := 87) rfl ?_)
    refine G_lret d_Ev_combined_87 rfl rfl ?_
    exact ret_l (by unfold cmbD; grind) rfl
  by_cases h1 : c = 47
  · skip
    have e7o : Op.lookupswitch.offset [(37, 75), (38, 87), (42, 67), (43, 79), (45, 83), (47, 71), (94, 91)] 95 c = 71 := by rw [h1]; rfl
    refine G_lookup (off := 71) (tgt := 72) d_Ev_combined_1 (by decide) e7o (by decide) ?_
    refine G_lload (i := 1) (n := 1) (len := 1) (Or.inl ⟨1, rfl, rfl, d_Ev_combined_72⟩) rfl (G_pc (pc' := 73) rfl ?_)
    refine G_lload (i := 3) (n := 2) (len := 1) (Or.inl ⟨3, rfl, rfl, d_Ev_combined_73⟩) rfl (G_pc (pc' := 74) rfl ?_)
    refine G_ldiv d_Ev_combined_74 (by omega) (G_pc (pc' := 75) rfl ?_)
    refine G_lret d_Ev_combined_75 rfl rfl ?_
    exact ret_l (by unfold cmbD; grind) rfl
  by_cases h1 : c = 94
  · skip
    have e8o : Op.lookupswitch.offset [(37, 75), (38, 87), (42, 67), (43, 79), (45, 83), (47, 71), (94, 91)] 95 c = 91 := by rw [h1]; rfl
    refine G_lookup (off := 91) (tgt := 92) d_Ev_combined_1 (by decide) e8o (by decide) ?_
    refine G_lload (i := 1) (n := 1) (len := 1) (Or.inl ⟨1, rfl, rfl, d_Ev_combined_92⟩) rfl (G_pc (pc' := 93) rfl ?_)
    refine G_lload (i := 3) (n := 2) (len := 1) (Or.inl ⟨3, rfl, rfl, d_Ev_combined_93⟩) rfl (G_pc (pc' := 94) rfl ?_)
    refine G_lxor d_Ev_combined_94 (G_pc (pc' := 95) rfl ?_)
    refine G_lret d_Ev_combined_95 rfl rfl ?_
    exact ret_l (by unfold cmbD; grind) rfl
  have e9o : Op.lookupswitch.offset [(37, 75), (38, 87), (42, 67), (43, 79), (45, 83), (47, 71), (94, 91)] 95 c = 95 := by rw [lk_ne (by omega), lk_ne (by omega), lk_ne (by omega), lk_ne (by omega), lk_ne (by omega), lk_ne (by omega), lk_ne (by omega)]; rfl
  refine G_lookup (off := 95) (tgt := 96) d_Ev_combined_1 (by decide) e9o (by decide) ?_
  refine G_lload (i := 1) (n := 1) (len := 1) (Or.inl ⟨1, rfl, rfl, d_Ev_combined_96⟩) rfl (G_pc (pc' := 97) rfl ?_)
  refine G_lload (i := 3) (n := 2) (len := 1) (Or.inl ⟨3, rfl, rfl, d_Ev_combined_97⟩) rfl (G_pc (pc' := 98) rfl ?_)
  refine G_lor d_Ev_combined_98 (G_pc (pc' := 99) rfl ?_)
  refine G_lret d_Ev_combined_99 rfl rfl ?_
  exact ret_l (by unfold cmbD; grind) rfl

theorem d_Ev_holds_0 : decode b_Ev_holds 0 = .ok (.iload_n 0, 1) := by decide +kernel
theorem d_Ev_holds_1 : decode b_Ev_holds 1 = .ok (.lookupswitch 157 #[(60, 67), (62, 91), (128, 79), (129, 103), (133, 115), (134, 127), (135, 139)], 67) := by decide +kernel
theorem d_Ev_holds_68 : decode b_Ev_holds 68 = .ok (.lload_n 1, 1) := by decide +kernel
theorem d_Ev_holds_69 : decode b_Ev_holds 69 = .ok (.lload_n 3, 1) := by decide +kernel
theorem d_Ev_holds_70 : decode b_Ev_holds 70 = .ok (.lcmp, 1) := by decide +kernel
theorem d_Ev_holds_71 : decode b_Ev_holds 71 = .ok (.ifCond .ge 7, 3) := by decide +kernel
theorem d_Ev_holds_74 : decode b_Ev_holds 74 = .ok (.iconst 1, 1) := by decide +kernel
theorem d_Ev_holds_75 : decode b_Ev_holds 75 = .ok (.goto 4, 3) := by decide +kernel
theorem d_Ev_holds_78 : decode b_Ev_holds 78 = .ok (.iconst 0, 1) := by decide +kernel
theorem d_Ev_holds_79 : decode b_Ev_holds 79 = .ok (.ireturn, 1) := by decide +kernel
theorem d_Ev_holds_80 : decode b_Ev_holds 80 = .ok (.lload_n 1, 1) := by decide +kernel
theorem d_Ev_holds_81 : decode b_Ev_holds 81 = .ok (.lload_n 3, 1) := by decide +kernel
theorem d_Ev_holds_82 : decode b_Ev_holds 82 = .ok (.lcmp, 1) := by decide +kernel
theorem d_Ev_holds_83 : decode b_Ev_holds 83 = .ok (.ifCond .gt 7, 3) := by decide +kernel
theorem d_Ev_holds_86 : decode b_Ev_holds 86 = .ok (.iconst 1, 1) := by decide +kernel
theorem d_Ev_holds_87 : decode b_Ev_holds 87 = .ok (.goto 4, 3) := by decide +kernel
theorem d_Ev_holds_90 : decode b_Ev_holds 90 = .ok (.iconst 0, 1) := by decide +kernel
theorem d_Ev_holds_91 : decode b_Ev_holds 91 = .ok (.ireturn, 1) := by decide +kernel
theorem d_Ev_holds_92 : decode b_Ev_holds 92 = .ok (.lload_n 1, 1) := by decide +kernel
theorem d_Ev_holds_93 : decode b_Ev_holds 93 = .ok (.lload_n 3, 1) := by decide +kernel
theorem d_Ev_holds_94 : decode b_Ev_holds 94 = .ok (.lcmp, 1) := by decide +kernel
theorem d_Ev_holds_95 : decode b_Ev_holds 95 = .ok (.ifCond .le 7, 3) := by decide +kernel
theorem d_Ev_holds_98 : decode b_Ev_holds 98 = .ok (.iconst 1, 1) := by decide +kernel
theorem d_Ev_holds_99 : decode b_Ev_holds 99 = .ok (.goto 4, 3) := by decide +kernel
theorem d_Ev_holds_102 : decode b_Ev_holds 102 = .ok (.iconst 0, 1) := by decide +kernel
theorem d_Ev_holds_103 : decode b_Ev_holds 103 = .ok (.ireturn, 1) := by decide +kernel
theorem d_Ev_holds_104 : decode b_Ev_holds 104 = .ok (.lload_n 1, 1) := by decide +kernel
theorem d_Ev_holds_105 : decode b_Ev_holds 105 = .ok (.lload_n 3, 1) := by decide +kernel
theorem d_Ev_holds_106 : decode b_Ev_holds 106 = .ok (.lcmp, 1) := by decide +kernel
theorem d_Ev_holds_107 : decode b_Ev_holds 107 = .ok (.ifCond .lt 7, 3) := by decide +kernel
theorem d_Ev_holds_110 : decode b_Ev_holds 110 = .ok (.iconst 1, 1) := by decide +kernel
theorem d_Ev_holds_111 : decode b_Ev_holds 111 = .ok (.goto 4, 3) := by decide +kernel
theorem d_Ev_holds_114 : decode b_Ev_holds 114 = .ok (.iconst 0, 1) := by decide +kernel
theorem d_Ev_holds_115 : decode b_Ev_holds 115 = .ok (.ireturn, 1) := by decide +kernel
theorem d_Ev_holds_116 : decode b_Ev_holds 116 = .ok (.lload_n 1, 1) := by decide +kernel
theorem d_Ev_holds_117 : decode b_Ev_holds 117 = .ok (.lload_n 3, 1) := by decide +kernel
theorem d_Ev_holds_118 : decode b_Ev_holds 118 = .ok (.lcmp, 1) := by decide +kernel
theorem d_Ev_holds_119 : decode b_Ev_holds 119 = .ok (.ifCond .ne 7, 3) := by decide +kernel
theorem d_Ev_holds_122 : decode b_Ev_holds 122 = .ok (.iconst 1, 1) := by decide +kernel
theorem d_Ev_holds_123 : decode b_Ev_holds 123 = .ok (.goto 4, 3) := by decide +kernel
theorem d_Ev_holds_126 : decode b_Ev_holds 126 = .ok (.iconst 0, 1) := by decide +kernel
theorem d_Ev_holds_127 : decode b_Ev_holds 127 = .ok (.ireturn, 1) := by decide +kernel
theorem d_Ev_holds_128 : decode b_Ev_holds 128 = .ok (.lload_n 1, 1) := by decide +kernel
theorem d_Ev_holds_129 : decode b_Ev_holds 129 = .ok (.lload_n 3, 1) := by decide +kernel
theorem d_Ev_holds_130 : decode b_Ev_holds 130 = .ok (.lcmp, 1) := by decide +kernel
theorem d_Ev_holds_131 : decode b_Ev_holds 131 = .ok (.ifCond .eq 7, 3) := by decide +kernel
theorem d_Ev_holds_134 : decode b_Ev_holds 134 = .ok (.iconst 1, 1) := by decide +kernel
theorem d_Ev_holds_135 : decode b_Ev_holds 135 = .ok (.goto 4, 3) := by decide +kernel
theorem d_Ev_holds_138 : decode b_Ev_holds 138 = .ok (.iconst 0, 1) := by decide +kernel
theorem d_Ev_holds_139 : decode b_Ev_holds 139 = .ok (.ireturn, 1) := by decide +kernel
theorem d_Ev_holds_140 : decode b_Ev_holds 140 = .ok (.lload_n 1, 1) := by decide +kernel
theorem d_Ev_holds_141 : decode b_Ev_holds 141 = .ok (.lconst 1, 1) := by decide +kernel
theorem d_Ev_holds_142 : decode b_Ev_holds 142 = .ok (.lcmp, 1) := by decide +kernel
theorem d_Ev_holds_143 : decode b_Ev_holds 143 = .ok (.ifCond .ne 13, 3) := by decide +kernel
theorem d_Ev_holds_146 : decode b_Ev_holds 146 = .ok (.lload_n 3, 1) := by decide +kernel
theorem d_Ev_holds_147 : decode b_Ev_holds 147 = .ok (.lconst 1, 1) := by decide +kernel
theorem d_Ev_holds_148 : decode b_Ev_holds 148 = .ok (.lcmp, 1) := by decide +kernel
theorem d_Ev_holds_149 : decode b_Ev_holds 149 = .ok (.ifCond .ne 7, 3) := by decide +kernel
theorem d_Ev_holds_152 : decode b_Ev_holds 152 = .ok (.iconst 1, 1) := by decide +kernel
theorem d_Ev_holds_153 : decode b_Ev_holds 153 = .ok (.goto 4, 3) := by decide +kernel
theorem d_Ev_holds_156 : decode b_Ev_holds 156 = .ok (.iconst 0, 1) := by decide +kernel
theorem d_Ev_holds_157 : decode b_Ev_holds 157 = .ok (.ireturn, 1) := by decide +kernel
theorem d_Ev_holds_158 : decode b_Ev_holds 158 = .ok (.lload_n 1, 1) := by decide +kernel
theorem d_Ev_holds_159 : decode b_Ev_holds 159 = .ok (.lconst 1, 1) := by decide +kernel
theorem d_Ev_holds_160 : decode b_Ev_holds 160 = .ok (.lcmp, 1) := by decide +kernel
theorem d_Ev_holds_161 : decode b_Ev_holds 161 = .ok (.ifCond .eq 9, 3) := by decide +kernel
theorem d_Ev_holds_164 : decode b_Ev_holds 164 = .ok (.lload_n 3, 1) := by decide +kernel
theorem d_Ev_holds_165 : decode b_Ev_holds 165 = .ok (.lconst 1, 1) := by decide +kernel
theorem d_Ev_holds_166 : decode b_Ev_holds 166 = .ok (.lcmp, 1) := by decide +kernel
theorem d_Ev_holds_167 : decode b_Ev_holds 167 = .ok (.ifCond .ne 7, 3) := by decide +kernel
theorem d_Ev_holds_170 : decode b_Ev_holds 170 = .ok (.iconst 1, 1) := by decide +kernel
theorem d_Ev_holds_171 : decode b_Ev_holds 171 = .ok (.goto 4, 3) := by decide +kernel
theorem d_Ev_holds_174 : decode b_Ev_holds 174 = .ok (.iconst 0, 1) := by decide +kernel
theorem d_Ev_holds_175 : decode b_Ev_holds 175 = .ok (.ireturn, 1) := by decide +kernel
theorem g_Ev_holds {X : WX} {d : Nat} (hd : 0 ≤ d) (c x y : Int) (M : Mem)  : MG X gt d KE KE y_Ev_holds b_Ev_holds 5 (some .boolean) [vi c, vl x, vl y] M (fun r M' => r = some (vi (b2i (holD c x y))) ∧ M' = M) := by
  refine MG_of_G (by decide) (Nat.le_of_ble_eq_true rfl) (Nat.le_refl _) (by decide) ?_
  show G X gt d KE KE y_Ev_holds b_Ev_holds 5 (some .boolean) _ 0 [(0, vi c), (1, vl x), (3, vl y)] [] KE M
  refine G_rngl (i := 0) rfl (fun hr0 => ?_)
  refine G_rngL (i := 1) rfl (fun hr1 => ?_)
  refine G_rngL (i := 2) rfl (fun hr3 => ?_)
  refine G_iload (i := 0) (n := 0) (len := 1) (Or.inl ⟨0, rfl, rfl, d_Ev_holds_0⟩) rfl (G_pc (pc' := 1) rfl ?_)
  by_cases h1 : c = 60
  · skip
    have e2o : Op.lookupswitch.offset [(60, 67), (62, 91), (128, 79), (129, 103), (133, 115), (134, 127), (135, 139)] 157 c = 67 := by rw [h1]; rfl
    refine G_lookup (off := 67) (tgt := 68) d_Ev_holds_1 (by decide) e2o (by decide) ?_
    refine G_lload (i := 1) (n := 1) (len := 1) (Or.inl ⟨1, rfl, rfl, d_Ev_holds_68⟩) rfl (G_pc (pc' := 69) rfl ?_)
    refine G_lload (i := 3) (n := 2) (len := 1) (Or.inl ⟨3, rfl, rfl, d_Ev_holds_69⟩) rfl (G_pc (pc' := 70) rfl ?_)
    refine G_lcmp_ge (tgt := 78) d_Ev_holds_70 d_Ev_holds_71 (by decide) (fun h3 => ?_) (fun h3 => G_pc (pc' := 74) rfl ?_)
    · skip
      refine G_iconst (n := 0) d_Ev_holds_78 (by decide) (G_pc (pc' := 79) rfl ?_)
      refine G_iret d_Ev_holds_79 rfl (tokZ (by decide)) rfl rfl ?_
      exact ret_f (by unfold holD; grind) rfl
    · skip
      refine G_iconst (n := 1) d_Ev_holds_74 (by decide) (G_pc (pc' := 75) rfl ?_)
      refine G_goto (tgt := 79) d_Ev_holds_75 (by decide) ?_
      refine G_iret d_Ev_holds_79 rfl (tokZ (by decide)) rfl rfl ?_
      exact ret_t (by unfold holD; grind) rfl
  by_cases h1 : c = 62
  · skip
    have e4o : Op.lookupswitch.offset [(60, 67), (62, 91), (128, 79), (129, 103), (133, 115), (134, 127), (135, 139)] 157 c = 91 := by rw [h1]; rfl
    refine G_lookup (off := 91) (tgt := 92) d_Ev_holds_1 (by decide) e4o (by decide) ?_
    refine G_lload (i := 1) (n := 1) (len := 1) (Or.inl ⟨1, rfl, rfl, d_Ev_holds_92⟩) rfl (G_pc (pc' := 93) rfl ?_)
    refine G_lload (i := 3) (n := 2) (len := 1) (Or.inl ⟨3, rfl, rfl, d_Ev_holds_93⟩) rfl (G_pc (pc' := 94) rfl ?_)
    refine G_lcmp_le (tgt := 102) d_Ev_holds_94 d_Ev_holds_95 (by decide) (fun h5 => ?_) (fun h5 => G_pc (pc' := 98) rfl ?_)
    · skip
      refine G_iconst (n := 0) d_Ev_holds_102 (by decide) (G_pc (pc' := 103) rfl ?_)
      refine G_iret d_Ev_holds_103 rfl (tokZ (by decide)) rfl rfl ?_
      exact ret_f (by unfold holD; grind) rfl
    · skip
      refine G_iconst (n := 1) d_Ev_holds_98 (by decide) (G_pc (pc' := 99) rfl ?_)
      refine G_goto (tgt := 103) d_Ev_holds_99 (by decide) ?_
      refine G_iret d_Ev_holds_103 rfl (tokZ (by decide)) rfl rfl ?_
      exact ret_t (by unfold holD; grind) rfl
  by_cases h1 : c = 128
  · skip
    have e6o : Op.lookupswitch.offset [(60, 67), (62, 91), (128, 79), (129, 103), (133, 115), (134, 127), (135, 139)] 157 c = 79 := by rw [h1]; rfl
    refine G_lookup (off := 79) (tgt := 80) d_Ev_holds_1 (by decide) e6o (by decide) ?_
    refine G_lload (i := 1) (n := 1) (len := 1) (Or.inl ⟨1, rfl, rfl, d_Ev_holds_80⟩) rfl (G_pc (pc' := 81) rfl ?_)
    refine G_lload (i := 3) (n := 2) (len := 1) (Or.inl ⟨3, rfl, rfl, d_Ev_holds_81⟩) rfl (G_pc (pc' := 82) rfl ?_)
    refine G_lcmp_gt (tgt := 90) d_Ev_holds_82 d_Ev_holds_83 (by decide) (fun h7 => ?_) (fun h7 => G_pc (pc' := 86) rfl ?_)
    · skip
      refine G_iconst (n := 0) d_Ev_holds_90 (by decide) (G_pc (pc' := 91) rfl ?_)
      refine G_iret d_Ev_holds_91 rfl (tokZ (by decide)) rfl rfl ?_
      exact ret_f (by unfold holD; grind) rfl
    · skip
      refine G_iconst (n := 1) d_Ev_holds_86 (by decide) (G_pc (pc' := 87) rfl ?_)
      refine G_goto (tgt := 91) d_Ev_holds_87 (by decide) ?_
      refine G_iret d_Ev_holds_91 rfl (tokZ (by decide)) rfl rfl ?_
      exact ret_t (by unfold holD; grind) rfl
  by_cases h1 : c = 129
  · skip
    have e8o : Op.lookupswitch.offset [(60, 67), (62, 91), (128, 79), (129, 103), (133, 115), (134, 127), (135, 139)] 157 c = 103 := by rw [h1]; rfl
    refine G_lookup (off := 103) (tgt := 104) d_Ev_holds_1 (by decide) e8o (by decide) ?_
    refine G_lload (i := 1) (n := 1) (len := 1) (Or.inl ⟨1, rfl, rfl, d_Ev_holds_104⟩) rfl (G_pc (pc' := 105) rfl ?_)
    refine G_lload (i := 3) (n := 2) (len := 1) (Or.inl ⟨3, rfl, rfl, d_Ev_holds_105⟩) rfl (G_pc (pc' := 106) rfl ?_)
    refine G_lcmp_lt (tgt := 114) d_Ev_holds_106 d_Ev_holds_107 (by decide) (fun h9 => ?_) (fun h9 => G_pc (pc' := 110) rfl ?_)
    · skip
      refine G_iconst (n := 0) d_Ev_holds_114 (by decide) (G_pc (pc' := 115) rfl ?_)
      refine G_iret d_Ev_holds_115 rfl (tokZ (by decide)) rfl rfl ?_
      exact ret_f (by unfold holD; grind) rfl
    · skip
      refine G_iconst (n := 1) d_Ev_holds_110 (by decide) (G_pc (pc' := 111) rfl ?_)
      refine G_goto (tgt := 115) d_Ev_holds_111 (by decide) ?_
      refine G_iret d_Ev_holds_115 rfl (tokZ (by decide)) rfl rfl ?_
      exact ret_t (by unfold holD; grind) rfl
  by_cases h1 : c = 133
  · skip
    have e10o : Op.lookupswitch.offset [(60, 67), (62, 91), (128, 79), (129, 103), (133, 115), (134, 127), (135, 139)] 157 c = 115 := by rw [h1]; rfl
    refine G_lookup (off := 115) (tgt := 116) d_Ev_holds_1 (by decide) e10o (by decide) ?_
    refine G_lload (i := 1) (n := 1) (len := 1) (Or.inl ⟨1, rfl, rfl, d_Ev_holds_116⟩) rfl (G_pc (pc' := 117) rfl ?_)
    refine G_lload (i := 3) (n := 2) (len := 1) (Or.inl ⟨3, rfl, rfl, d_Ev_holds_117⟩) rfl (G_pc (pc' := 118) rfl ?_)
    refine G_lcmp_ne (tgt := 126) d_Ev_holds_118 d_Ev_holds_119 (by decide) (fun h11 => ?_) (fun h11 => G_pc (pc' := 122) rfl ?_)
    · skip
      refine G_iconst (n := 0) d_Ev_holds_126 (by decide) (G_pc (pc' := 127) rfl ?_)
      refine G_iret d_Ev_holds_127 rfl (tokZ (by decide)) rfl rfl ?_
      exact ret_f (by unfold holD; grind) rfl
    · skip
      refine G_iconst (n := 1) d_Ev_holds_122 (by decide) (G_pc (pc' := 123) rfl ?_)
      refine G_goto (tgt := 127) d_Ev_holds_123 (by decide) ?_
      refine G_iret d_Ev_holds_127 rfl (tokZ (by decide)) rfl rfl ?_
      exact ret_t (by unfold holD; grind) rfl
  by_cases h1 : c = 134
  · skip
    have e12o : Op.lookupswitch.offset [(60, 67), (62, 91), (128, 79), (129, 103), (133, 115), (134, 127), (135, 139)] 157 c = 127 := by rw [h1]; rfl
    refine G_lookup (off := 127) (tgt := 128) d_Ev_holds_1 (by decide) e12o (by decide) ?_
    refine G_lload (i := 1) (n := 1) (len := 1) (Or.inl ⟨1, rfl, rfl, d_Ev_holds_128⟩) rfl (G_pc (pc' := 129) rfl ?_)
    refine G_lload (i := 3) (n := 2) (len := 1) (Or.inl ⟨3, rfl, rfl, d_Ev_holds_129⟩) rfl (G_pc (pc' := 130) rfl ?_)
    refine G_lcmp_eq (tgt := 138) d_Ev_holds_130 d_Ev_holds_131 (by decide) (fun h13 => ?_) (fun h13 => G_pc (pc' := 134) rfl ?_)
    · skip
      refine G_iconst (n := 0) d_Ev_holds_138 (by decide) (G_pc (pc' := 139) rfl ?_)
      refine G_iret d_Ev_holds_139 rfl (tokZ (by decide)) rfl rfl ?_
      exact ret_f (by unfold holD; grind) rfl
    · skip
      refine G_iconst (n := 1) d_Ev_holds_134 (by decide) (G_pc (pc' := 135) rfl ?_)
      refine G_goto (tgt := 139) d_Ev_holds_135 (by decide) ?_
      refine G_iret d_Ev_holds_139 rfl (tokZ (by decide)) rfl rfl ?_
      exact ret_t (by unfold holD; grind) rfl
  by_cases h1 : c = 135
  · skip
    have e14o : Op.lookupswitch.offset [(60, 67), (62, 91), (128, 79), (129, 103), (133, 115), (134, 127), (135, 139)] 157 c = 139 := by rw [h1]; rfl
    refine G_lookup (off := 139) (tgt := 140) d_Ev_holds_1 (by decide) e14o (by decide) ?_
    refine G_lload (i := 1) (n := 1) (len := 1) (Or.inl ⟨1, rfl, rfl, d_Ev_holds_140⟩) rfl (G_pc (pc' := 141) rfl ?_)
    refine G_lconst1 d_Ev_holds_141 (G_pc (pc' := 142) rfl ?_)
    refine G_lcmp_ne (tgt := 156) d_Ev_holds_142 d_Ev_holds_143 (by decide) (fun h15 => ?_) (fun h15 => G_pc (pc' := 146) rfl ?_)
    · skip
      refine G_iconst (n := 0) d_Ev_holds_156 (by decide) (G_pc (pc' := 157) rfl ?_)
      refine G_iret d_Ev_holds_157 rfl (tokZ (by decide)) rfl rfl ?_
      exact ret_f (by unfold holD; grind) rfl
    · skip
      refine G_lload (i := 3) (n := 2) (len := 1) (Or.inl ⟨3, rfl, rfl, d_Ev_holds_146⟩) rfl (G_pc (pc' := 147) rfl ?_)
      refine G_lconst1 d_Ev_holds_147 (G_pc (pc' := 148) rfl ?_)
      refine G_lcmp_ne (tgt := 156) d_Ev_holds_148 d_Ev_holds_149 (by decide) (fun h16 => ?_) (fun h16 => G_pc (pc' := 152) rfl ?_)
      · skip
        refine G_iconst (n := 0) d_Ev_holds_156 (by decide) (G_pc (pc' := 157) rfl ?_)
        refine G_iret d_Ev_holds_157 rfl (tokZ (by decide)) rfl rfl ?_
        exact ret_f (by unfold holD; grind) rfl
      · skip
        refine G_iconst (n := 1) d_Ev_holds_152 (by decide) (G_pc (pc' := 153) rfl ?_)
        refine G_goto (tgt := 157) d_Ev_holds_153 (by decide) ?_
        refine G_iret d_Ev_holds_157 rfl (tokZ (by decide)) rfl rfl ?_
        exact ret_t (by unfold holD; grind) rfl
  have e17o : Op.lookupswitch.offset [(60, 67), (62, 91), (128, 79), (129, 103), (133, 115), (134, 127), (135, 139)] 157 c = 157 := by rw [lk_ne (by omega), lk_ne (by omega), lk_ne (by omega), lk_ne (by omega), lk_ne (by omega), lk_ne (by omega), lk_ne (by omega)]; rfl
  refine G_lookup (off := 157) (tgt := 158) d_Ev_holds_1 (by decide) e17o (by decide) ?_
  refine G_lload (i := 1) (n := 1) (len := 1) (Or.inl ⟨1, rfl, rfl, d_Ev_holds_158⟩) rfl (G_pc (pc' := 159) rfl ?_)
  refine G_lconst1 d_Ev_holds_159 (G_pc (pc' := 160) rfl ?_)
  refine G_lcmp_eq (tgt := 170) d_Ev_holds_160 d_Ev_holds_161 (by decide) (fun h18 => ?_) (fun h18 => G_pc (pc' := 164) rfl ?_)
  · skip
    refine G_iconst (n := 1) d_Ev_holds_170 (by decide) (G_pc (pc' := 171) rfl ?_)
    refine G_goto (tgt := 175) d_Ev_holds_171 (by decide) ?_
    refine G_iret d_Ev_holds_175 rfl (tokZ (by decide)) rfl rfl ?_
    exact ret_t (by unfold holD; grind) rfl
  · skip
    refine G_lload (i := 3) (n := 2) (len := 1) (Or.inl ⟨3, rfl, rfl, d_Ev_holds_164⟩) rfl (G_pc (pc' := 165) rfl ?_)
    refine G_lconst1 d_Ev_holds_165 (G_pc (pc' := 166) rfl ?_)
    refine G_lcmp_ne (tgt := 174) d_Ev_holds_166 d_Ev_holds_167 (by decide) (fun h19 => ?_) (fun h19 => G_pc (pc' := 170) rfl ?_)
    · skip
      refine G_iconst (n := 0) d_Ev_holds_174 (by decide) (G_pc (pc' := 175) rfl ?_)
      refine G_iret d_Ev_holds_175 rfl (tokZ (by decide)) rfl rfl ?_
      exact ret_f (by unfold holD; grind) rfl
    · skip
      refine G_iconst (n := 1) d_Ev_holds_170 (by decide) (G_pc (pc' := 171) rfl ?_)
      refine G_goto (tgt := 175) d_Ev_holds_171 (by decide) ?_
      refine G_iret d_Ev_holds_175 rfl (tokZ (by decide)) rfl rfl ?_
      exact ret_t (by unfold holD; grind) rfl

