theorem len_add (L : List SD) (x : SD) : ((L ++ [x]).length : Int) = (L.length : Int) + 1 := by simp
theorem d_Re_takes_0 : decode b_Re_takes 0 = .ok (.aload_n 0, 1) := by decide +kernel
theorem d_Re_takes_1 : decode b_Re_takes 1 = .ok (.getfield 12, 3) := by decide +kernel
theorem d_Re_takes_4 : decode b_Re_takes 4 = .ok (.aload_n 0, 1) := by decide +kernel
theorem d_Re_takes_5 : decode b_Re_takes 5 = .ok (.getfield 27, 3) := by decide +kernel
theorem d_Re_takes_8 : decode b_Re_takes 8 = .ok (.invokevirtual 45, 3) := by decide +kernel
theorem d_Re_takes_11 : decode b_Re_takes 11 = .ok (.iload_n 1, 1) := by decide +kernel
theorem d_Re_takes_12 : decode b_Re_takes 12 = .ok (.if_icmp .eq 5, 3) := by decide +kernel
theorem d_Re_takes_15 : decode b_Re_takes 15 = .ok (.iconst 0, 1) := by decide +kernel
theorem d_Re_takes_16 : decode b_Re_takes 16 = .ok (.ireturn, 1) := by decide +kernel
theorem d_Re_takes_17 : decode b_Re_takes 17 = .ok (.aload_n 0, 1) := by decide +kernel
theorem d_Re_takes_18 : decode b_Re_takes 18 = .ok (.dup, 1) := by decide +kernel
theorem d_Re_takes_19 : decode b_Re_takes 19 = .ok (.getfield 27, 3) := by decide +kernel
theorem d_Re_takes_22 : decode b_Re_takes 22 = .ok (.iconst 1, 1) := by decide +kernel
theorem d_Re_takes_23 : decode b_Re_takes 23 = .ok (.iadd, 1) := by decide +kernel
theorem d_Re_takes_24 : decode b_Re_takes 24 = .ok (.putfield 27, 3) := by decide +kernel
theorem d_Re_takes_27 : decode b_Re_takes 27 = .ok (.iconst 1, 1) := by decide +kernel
theorem d_Re_takes_28 : decode b_Re_takes 28 = .ok (.ireturn, 1) := by decide +kernel
theorem g_Re_takes {X : WX} {d : Nat} (hd : 1 ≤ d) (e : Nat) (T W : Int → Int) (n : Int) (M0 : Mem) (c : Int) (S : List SD) (k o a : Int) (M : Mem) (he : e < 4) (hTR : TR M0 T W n) (hR : RD e M0 M S k o a) (hk : 0 ≤ k ∧ k < 50) : MG X gt d KE KE y_Re_takes b_Re_takes 2 (some .boolean) [vr 13, vi c] M (fun r M' => (tcode (T k) = c → r = some (vi 1) ∧ M' = mset M 13 2 (k + 1)) ∧ (¬ tcode (T k) = c → r = some (vi 0) ∧ M' = M)) := by
  refine MG_of_G (by decide) (Nat.le_of_ble_eq_true rfl) (Nat.le_refl _) (by decide) ?_
  show G X gt d KE KE y_Re_takes b_Re_takes 2 (some .boolean) _ 0 [(0, vr 13), (1, vi c)] [] KE M
  have hn2 := hTR.2.1
  refine G_aload (i := 0) (n := 0) (len := 1) (Or.inl ⟨0, rfl, rfl, d_Re_takes_0⟩) rfl (by decide) (G_pc (pc' := 1) rfl ?_)
  refine G_get (o := 13) (c := 4) (k := 0) (v := 14) d_Re_takes_1 fl_Re_12 rfl (by decide) (by decide) rfl rfl (G_pc (pc' := 4) rfl ?_)
  refine G_aload (i := 0) (n := 0) (len := 1) (Or.inl ⟨0, rfl, rfl, d_Re_takes_4⟩) rfl (by decide) (G_pc (pc' := 5) rfl ?_)
  refine G_get (o := 13) (c := 4) (k := 2) (v := M 13 2) d_Re_takes_5 fl_Re_27 rfl (by decide) (by decide) rfl rfl (G_pc (pc' := 8) rfl ?_)
  rw [show M 13 2 = k from RD_k hR]
  refine G_callV (K1 := KE) (d2 := 0) (o := 14) (cl := 7) (as := [vi k]) (rest := []) d_Re_takes_8 mf_To_codeAt ml_Re_45 rfl rfl (by decide) rfl rfl (Nat.le_of_ble_eq_true rfl) (by omega) ⟨Nat.le_refl _, Nat.le_refl _⟩ (g_To_codeAt (by omega) T W n k M (RD_TR hR he hTR) (by omega)) (fun r1 M2 kq3 q3 => ?_)
  clear kq3; obtain ⟨q3a, q3b⟩ := q3; subst r1; subst M2
  refine G_ps (pc' := 11) (st' := [vi (tcode (T k))]) rfl rfl ?_
  have ok4 := TR_T hTR (k := k) (by omega)
  have rgok4 := tcode_rng ok4.1
  refine G_iload (i := 1) (n := 1) (len := 1) (Or.inl ⟨1, rfl, rfl, d_Re_takes_11⟩) rfl (G_pc (pc' := 12) rfl ?_)
  refine G_icmp_eq (tgt := 17) d_Re_takes_12 (by decide) (fun h5 => ?_) (fun h5 => G_pc (pc' := 15) rfl ?_)
  · skip
    refine G_aload (i := 0) (n := 0) (len := 1) (Or.inl ⟨0, rfl, rfl, d_Re_takes_17⟩) rfl (by decide) (G_pc (pc' := 18) rfl ?_)
    refine G_dup d_Re_takes_18 (fun _ h => by cases h) (G_pc (pc' := 19) rfl ?_)
    refine G_get (o := 13) (c := 4) (k := 2) (v := M 13 2) d_Re_takes_19 fl_Re_27 rfl (by decide) (by decide) rfl rfl (G_pc (pc' := 22) rfl ?_)
    rw [show M 13 2 = k from RD_k hR]
    refine G_iconst (n := 1) d_Re_takes_22 (by decide) (G_pc (pc' := 23) rfl ?_)
    refine G_iadd d_Re_takes_23 (by omega) (G_pc (pc' := 24) rfl ?_)
    refine G_putL (o := 13) (c := 4) (k := 2) (ki := 2) (x := k + 1) d_Re_takes_24 fl_Re_27 rfl rfl (by decide) (by decide) (by decide) rfl rfl (tokI (by omega)) rfl (G_pc (pc' := 27) rfl ?_)
    refine G_iconst (n := 1) d_Re_takes_27 (by decide) (G_pc (pc' := 28) rfl ?_)
    refine G_iret d_Re_takes_28 rfl (tokZ (by decide)) rfl rfl ?_
    exact ⟨fun _ => ⟨rfl, rfl⟩, fun h => absurd (by omega) h⟩
  · skip
    refine G_iconst (n := 0) d_Re_takes_15 (by decide) (G_pc (pc' := 16) rfl ?_)
    refine G_iret d_Re_takes_16 rfl (tokZ (by decide)) rfl rfl ?_
    exact ⟨fun h => absurd h (by omega), fun _ => ⟨rfl, rfl⟩⟩

theorem tk_0 (t : Int) : tkind t = 0 ↔ t = 1 := by unfold tkind; grind
theorem tn_1 {t : Int} (v : Int) (h : t = 1) : tnum t v = v := by unfold tnum; rw [if_pos (Or.inl h)]
theorem d_Re_isTooLarge_0 : decode b_Re_isTooLarge 0 = .ok (.aload_n 0, 1) := by decide +kernel
theorem d_Re_isTooLarge_1 : decode b_Re_isTooLarge 1 = .ok (.getfield 12, 3) := by decide +kernel
theorem d_Re_isTooLarge_4 : decode b_Re_isTooLarge 4 = .ok (.aload_n 0, 1) := by decide +kernel
theorem d_Re_isTooLarge_5 : decode b_Re_isTooLarge 5 = .ok (.getfield 27, 3) := by decide +kernel
theorem d_Re_isTooLarge_8 : decode b_Re_isTooLarge 8 = .ok (.invokevirtual 109, 3) := by decide +kernel
theorem d_Re_isTooLarge_11 : decode b_Re_isTooLarge 11 = .ok (.ifCond .ne 25, 3) := by decide +kernel
theorem d_Re_isTooLarge_14 : decode b_Re_isTooLarge 14 = .ok (.aload_n 0, 1) := by decide +kernel
theorem d_Re_isTooLarge_15 : decode b_Re_isTooLarge 15 = .ok (.getfield 12, 3) := by decide +kernel
theorem d_Re_isTooLarge_18 : decode b_Re_isTooLarge 18 = .ok (.aload_n 0, 1) := by decide +kernel
theorem d_Re_isTooLarge_19 : decode b_Re_isTooLarge 19 = .ok (.getfield 27, 3) := by decide +kernel
theorem d_Re_isTooLarge_22 : decode b_Re_isTooLarge 22 = .ok (.invokevirtual 84, 3) := by decide +kernel
theorem d_Re_isTooLarge_25 : decode b_Re_isTooLarge 25 = .ok (.ldc2_w 112, 3) := by decide +kernel
theorem d_Re_isTooLarge_28 : decode b_Re_isTooLarge 28 = .ok (.lcmp, 1) := by decide +kernel
theorem d_Re_isTooLarge_29 : decode b_Re_isTooLarge 29 = .ok (.ifCond .ne 7, 3) := by decide +kernel
theorem d_Re_isTooLarge_32 : decode b_Re_isTooLarge 32 = .ok (.iconst 1, 1) := by decide +kernel
theorem d_Re_isTooLarge_33 : decode b_Re_isTooLarge 33 = .ok (.goto 4, 3) := by decide +kernel
theorem d_Re_isTooLarge_36 : decode b_Re_isTooLarge 36 = .ok (.iconst 0, 1) := by decide +kernel
theorem d_Re_isTooLarge_37 : decode b_Re_isTooLarge 37 = .ok (.ireturn, 1) := by decide +kernel
theorem g_Re_isTooLarge {X : WX} {d : Nat} (hd : 1 ≤ d) (e : Nat) (T W : Int → Int) (n : Int) (M0 : Mem) (S : List SD) (k o a : Int) (M : Mem) (he : e < 4) (hTR : TR M0 T W n) (hR : RD e M0 M S k o a) (hk : 0 ≤ k ∧ k < 50) : MG X gt d KE KE y_Re_isTooLarge b_Re_isTooLarge 1 (some .boolean) [vr 13] M (fun r M' => r = some (vi (b2i (decide (T k = 1 ∧ W k = 2147483648)))) ∧ M' = M) := by
  refine MG_of_G (by decide) (Nat.le_of_ble_eq_true rfl) (Nat.le_refl _) (by decide) ?_
  show G X gt d KE KE y_Re_isTooLarge b_Re_isTooLarge 1 (some .boolean) _ 0 [(0, vr 13)] [] KE M
  have hn2 := hTR.2.1
  refine G_aload (i := 0) (n := 0) (len := 1) (Or.inl ⟨0, rfl, rfl, d_Re_isTooLarge_0⟩) rfl (by decide) (G_pc (pc' := 1) rfl ?_)
  refine G_get (o := 13) (c := 4) (k := 0) (v := 14) d_Re_isTooLarge_1 fl_Re_12 rfl (by decide) (by decide) rfl rfl (G_pc (pc' := 4) rfl ?_)
  refine G_aload (i := 0) (n := 0) (len := 1) (Or.inl ⟨0, rfl, rfl, d_Re_isTooLarge_4⟩) rfl (by decide) (G_pc (pc' := 5) rfl ?_)
  refine G_get (o := 13) (c := 4) (k := 2) (v := M 13 2) d_Re_isTooLarge_5 fl_Re_27 rfl (by decide) (by decide) rfl rfl (G_pc (pc' := 8) rfl ?_)
  rw [show M 13 2 = k from RD_k hR]
  refine G_callV (K1 := KE) (d2 := 0) (o := 14) (cl := 7) (as := [vi k]) (rest := []) d_Re_isTooLarge_8 mf_To_kindAt ml_Re_109 rfl rfl (by decide) rfl rfl (Nat.le_of_ble_eq_true rfl) (by omega) ⟨Nat.le_refl _, Nat.le_refl _⟩ (g_To_kindAt (by omega) T W n k M (RD_TR hR he hTR) (by omega)) (fun r1 M2 kq3 q3 => ?_)
  clear kq3; obtain ⟨q3a, q3b⟩ := q3; subst r1; subst M2
  refine G_ps (pc' := 11) (st' := [vi (tkind (T k))]) rfl rfl ?_
  have ok4 := TR_T hTR (k := k) (by omega)
  refine G_if_ne (tgt := 36) d_Re_isTooLarge_11 (by decide) (fun h5 => ?_) (fun h5 => G_pc (pc' := 14) rfl ?_)
  · skip
    refine G_iconst (n := 0) d_Re_isTooLarge_36 (by decide) (G_pc (pc' := 37) rfl ?_)
    refine G_iret d_Re_isTooLarge_37 rfl (tokZ (by decide)) rfl rfl ?_
    exact ret_f (decide_eq_false (by intro h9; have e1 := (tk_0 (T k)).mpr h9.1; have e2 := tn_1 (W k) h9.1; omega)) rfl
  · skip
    refine G_aload (i := 0) (n := 0) (len := 1) (Or.inl ⟨0, rfl, rfl, d_Re_isTooLarge_14⟩) rfl (by decide) (G_pc (pc' := 15) rfl ?_)
    refine G_get (o := 13) (c := 4) (k := 0) (v := 14) d_Re_isTooLarge_15 fl_Re_12 rfl (by decide) (by decide) rfl rfl (G_pc (pc' := 18) rfl ?_)
    refine G_aload (i := 0) (n := 0) (len := 1) (Or.inl ⟨0, rfl, rfl, d_Re_isTooLarge_18⟩) rfl (by decide) (G_pc (pc' := 19) rfl ?_)
    refine G_get (o := 13) (c := 4) (k := 2) (v := M 13 2) d_Re_isTooLarge_19 fl_Re_27 rfl (by decide) (by decide) rfl rfl (G_pc (pc' := 22) rfl ?_)
    rw [show M 13 2 = k from RD_k hR]
    refine G_callV (K1 := KE) (d2 := 0) (o := 14) (cl := 7) (as := [vi k]) (rest := []) d_Re_isTooLarge_22 mf_To_numberAt ml_Re_84 rfl rfl (by decide) rfl rfl (Nat.le_of_ble_eq_true rfl) (by omega) ⟨Nat.le_refl _, Nat.le_refl _⟩ (g_To_numberAt (by omega) T W n k M (RD_TR hR he hTR) (by omega)) (fun r6 M7 kq8 q8 => ?_)
    clear kq8; obtain ⟨q8a, q8b⟩ := q8; subst r6; subst M7
    refine G_ps (pc' := 25) (st' := [vl (tnum (T k) (W k))]) rfl rfl ?_
    have ok9 := TR_T hTR (k := k) (by omega)
    refine G_ldc2 (x := 2147483648) d_Re_isTooLarge_25 k2_Re_112 (by decide) (G_pc (pc' := 28) rfl ?_)
    refine G_lcmp_ne (tgt := 36) d_Re_isTooLarge_28 d_Re_isTooLarge_29 (by decide) (fun h10 => ?_) (fun h10 => G_pc (pc' := 32) rfl ?_)
    · skip
      refine G_iconst (n := 0) d_Re_isTooLarge_36 (by decide) (G_pc (pc' := 37) rfl ?_)
      refine G_iret d_Re_isTooLarge_37 rfl (tokZ (by decide)) rfl rfl ?_
      exact ret_f (decide_eq_false (by intro h9; have e1 := (tk_0 (T k)).mpr h9.1; have e2 := tn_1 (W k) h9.1; omega)) rfl
    · skip
      refine G_iconst (n := 1) d_Re_isTooLarge_32 (by decide) (G_pc (pc' := 33) rfl ?_)
      refine G_goto (tgt := 37) d_Re_isTooLarge_33 (by decide) ?_
      refine G_iret d_Re_isTooLarge_37 rfl (tokZ (by decide)) rfl rfl ?_
      exact ret_t (decide_eq_true (by have e1 := (tk_0 (T k)).mp (by omega); have e2 := tn_1 (W k) e1; omega)) rfl

theorem d_Re_readConstant_0 : decode b_Re_readConstant 0 = .ok (.aload_n 0, 1) := by decide +kernel
theorem d_Re_readConstant_1 : decode b_Re_readConstant 1 = .ok (.dup, 1) := by decide +kernel
theorem d_Re_readConstant_2 : decode b_Re_readConstant 2 = .ok (.getfield 27, 3) := by decide +kernel
theorem d_Re_readConstant_5 : decode b_Re_readConstant 5 = .ok (.iconst 1, 1) := by decide +kernel
theorem d_Re_readConstant_6 : decode b_Re_readConstant 6 = .ok (.iadd, 1) := by decide +kernel
theorem d_Re_readConstant_7 : decode b_Re_readConstant 7 = .ok (.putfield 27, 3) := by decide +kernel
theorem d_Re_readConstant_10 : decode b_Re_readConstant 10 = .ok (.aload_n 0, 1) := by decide +kernel
theorem d_Re_readConstant_11 : decode b_Re_readConstant 11 = .ok (.getfield 18, 3) := by decide +kernel
theorem d_Re_readConstant_14 : decode b_Re_readConstant 14 = .ok (.aload_n 0, 1) := by decide +kernel
theorem d_Re_readConstant_15 : decode b_Re_readConstant 15 = .ok (.getfield 12, 3) := by decide +kernel
theorem d_Re_readConstant_18 : decode b_Re_readConstant 18 = .ok (.aload_n 0, 1) := by decide +kernel
theorem d_Re_readConstant_19 : decode b_Re_readConstant 19 = .ok (.getfield 27, 3) := by decide +kernel
theorem d_Re_readConstant_22 : decode b_Re_readConstant 22 = .ok (.iconst 1, 1) := by decide +kernel
theorem d_Re_readConstant_23 : decode b_Re_readConstant 23 = .ok (.isub, 1) := by decide +kernel
theorem d_Re_readConstant_24 : decode b_Re_readConstant 24 = .ok (.invokevirtual 109, 3) := by decide +kernel
theorem d_Re_readConstant_27 : decode b_Re_readConstant 27 = .ok (.aload_n 0, 1) := by decide +kernel
theorem d_Re_readConstant_28 : decode b_Re_readConstant 28 = .ok (.getfield 12, 3) := by decide +kernel
theorem d_Re_readConstant_31 : decode b_Re_readConstant 31 = .ok (.aload_n 0, 1) := by decide +kernel
theorem d_Re_readConstant_32 : decode b_Re_readConstant 32 = .ok (.getfield 27, 3) := by decide +kernel
theorem d_Re_readConstant_35 : decode b_Re_readConstant 35 = .ok (.iconst 1, 1) := by decide +kernel
theorem d_Re_readConstant_36 : decode b_Re_readConstant 36 = .ok (.isub, 1) := by decide +kernel
theorem d_Re_readConstant_37 : decode b_Re_readConstant 37 = .ok (.invokevirtual 84, 3) := by decide +kernel
theorem d_Re_readConstant_40 : decode b_Re_readConstant 40 = .ok (.invokevirtual 127, 3) := by decide +kernel
theorem d_Re_readConstant_43 : decode b_Re_readConstant 43 = .ok (.ireturn, 1) := by decide +kernel
theorem g_Re_readConstant {X : WX} {d : Nat} (hd : 2 ≤ d) (e : Nat) (T W : Int → Int) (n : Int) (M0 : Mem) (S : List SD) (k o a : Int) (M : Mem) (he : e < 4) (hTR : TR M0 T W n) (hR : RD e M0 M S k o a) (hst : M0 13 1 = ((20 + 9 * e : Nat) : Int)) (hk : 0 ≤ k ∧ k < 50) (hS : (S.length : Int) < 48) : MG X gt d KE KE y_Re_readConstant b_Re_readConstant 1 (some .int) [vr 13] M (fun r M' => r = some (vi (S.length : Int)) ∧ RD e M0 M' (S ++ [(137, 0, 0, 0, tkind (T k), tnum (T k) (W k))]) (k + 1) o a) := by
  refine MG_of_G (by decide) (Nat.le_of_ble_eq_true rfl) (Nat.le_refl _) (by decide) ?_
  show G X gt d KE KE y_Re_readConstant b_Re_readConstant 1 (some .int) _ 0 [(0, vr 13)] [] KE M
  have hn2 := hTR.2.1
  refine G_aload (i := 0) (n := 0) (len := 1) (Or.inl ⟨0, rfl, rfl, d_Re_readConstant_0⟩) rfl (by decide) (G_pc (pc' := 1) rfl ?_)
  refine G_dup d_Re_readConstant_1 (fun _ h => by cases h) (G_pc (pc' := 2) rfl ?_)
  refine G_get (o := 13) (c := 4) (k := 2) (v := M 13 2) d_Re_readConstant_2 fl_Re_27 rfl (by decide) (by decide) rfl rfl (G_pc (pc' := 5) rfl ?_)
  rw [show M 13 2 = k from RD_k hR]
  refine G_iconst (n := 1) d_Re_readConstant_5 (by decide) (G_pc (pc' := 6) rfl ?_)
  refine G_iadd d_Re_readConstant_6 (by omega) (G_pc (pc' := 7) rfl ?_)
  refine G_putL (o := 13) (c := 4) (k := 2) (ki := 2) (x := k + 1) d_Re_readConstant_7 fl_Re_27 rfl rfl (by decide) (by decide) (by decide) rfl rfl (tokI (by omega)) rfl (G_pc (pc' := 10) rfl ?_)
  refine G_abs (R := fun M9 => RD e M0 M9 S (k + 1) o a) (RD_nk (RD_sk hR) (by omega)) (fun M1 hR2 => ?_)
  refine G_aload (i := 0) (n := 0) (len := 1) (Or.inl ⟨0, rfl, rfl, d_Re_readConstant_10⟩) rfl (by decide) (G_pc (pc' := 11) rfl ?_)
  refine G_get (o := 13) (c := 4) (k := 1) (v := M1 13 1) d_Re_readConstant_11 fl_Re_18 rfl (by decide) (by decide) rfl rfl (G_pc (pc' := 14) rfl ?_)
  rw [show M1 13 1 = ((20 + 9 * e : Nat) : Int) from RD_st hR2 he hst]
  refine G_aload (i := 0) (n := 0) (len := 1) (Or.inl ⟨0, rfl, rfl, d_Re_readConstant_14⟩) rfl (by decide) (G_pc (pc' := 15) rfl ?_)
  refine G_get (o := 13) (c := 4) (k := 0) (v := 14) d_Re_readConstant_15 fl_Re_12 rfl (by decide) (by decide) rfl rfl (G_pc (pc' := 18) rfl ?_)
  refine G_aload (i := 0) (n := 0) (len := 1) (Or.inl ⟨0, rfl, rfl, d_Re_readConstant_18⟩) rfl (by decide) (G_pc (pc' := 19) rfl ?_)
  refine G_get (o := 13) (c := 4) (k := 2) (v := M1 13 2) d_Re_readConstant_19 fl_Re_27 rfl (by decide) (by decide) rfl rfl (G_pc (pc' := 22) rfl ?_)
  rw [show M1 13 2 = k + 1 from RD_k hR2]
  refine G_iconst (n := 1) d_Re_readConstant_22 (by decide) (G_pc (pc' := 23) rfl ?_)
  refine G_isub d_Re_readConstant_23 (by omega) (G_pc (pc' := 24) rfl ?_)
  rw [show (k + 1) - 1 = k from by omega]
  refine G_callV (K1 := KE) (d2 := 0) (o := 14) (cl := 7) (as := [vi k]) (rest := [vr ((20 + 9 * e : Nat) : Int)]) d_Re_readConstant_24 mf_To_kindAt ml_Re_109 rfl rfl (by decide) rfl rfl (Nat.le_of_ble_eq_true rfl) (by omega) ⟨Nat.le_refl _, Nat.le_refl _⟩ (g_To_kindAt (by omega) T W n k M1 (RD_TR hR2 he hTR) (by omega)) (fun r3 M4 kq5 q5 => ?_)
  clear kq5; obtain ⟨q5a, q5b⟩ := q5; subst r3; subst M4
  refine G_ps (pc' := 27) (st' := [vi (tkind (T k)), vr ((20 + 9 * e : Nat) : Int)]) rfl rfl ?_
  have ok6 := TR_T hTR (k := k) (by omega)
  refine G_aload (i := 0) (n := 0) (len := 1) (Or.inl ⟨0, rfl, rfl, d_Re_readConstant_27⟩) rfl (by decide) (G_pc (pc' := 28) rfl ?_)
  refine G_get (o := 13) (c := 4) (k := 0) (v := 14) d_Re_readConstant_28 fl_Re_12 rfl (by decide) (by decide) rfl rfl (G_pc (pc' := 31) rfl ?_)
  refine G_aload (i := 0) (n := 0) (len := 1) (Or.inl ⟨0, rfl, rfl, d_Re_readConstant_31⟩) rfl (by decide) (G_pc (pc' := 32) rfl ?_)
  refine G_get (o := 13) (c := 4) (k := 2) (v := M1 13 2) d_Re_readConstant_32 fl_Re_27 rfl (by decide) (by decide) rfl rfl (G_pc (pc' := 35) rfl ?_)
  rw [show M1 13 2 = k + 1 from RD_k hR2]
  refine G_iconst (n := 1) d_Re_readConstant_35 (by decide) (G_pc (pc' := 36) rfl ?_)
  refine G_isub d_Re_readConstant_36 (by omega) (G_pc (pc' := 37) rfl ?_)
  rw [show (k + 1) - 1 = k from by omega]
  refine G_callV (K1 := KE) (d2 := 0) (o := 14) (cl := 7) (as := [vi k]) (rest := [vi (tkind (T k)), vr ((20 + 9 * e : Nat) : Int)]) d_Re_readConstant_37 mf_To_numberAt ml_Re_84 rfl rfl (by decide) rfl rfl (Nat.le_of_ble_eq_true rfl) (by omega) ⟨Nat.le_refl _, Nat.le_refl _⟩ (g_To_numberAt (by omega) T W n k M1 (RD_TR hR2 he hTR) (by omega)) (fun r7 M8 kq9 q9 => ?_)
  clear kq9; obtain ⟨q9a, q9b⟩ := q9; subst r7; subst M8
  refine G_ps (pc' := 40) (st' := [vl (tnum (T k) (W k)), vi (tkind (T k)), vr ((20 + 9 * e : Nat) : Int)]) rfl rfl ?_
  have ok10 := TR_T hTR (k := k) (by omega)
  refine G_callV (K1 := KE) (d2 := 1) (o := (20 + 9 * e)) (cl := 5) (as := [vi (tkind (T k)), vl (tnum (T k) (W k))]) (rest := []) d_Re_readConstant_40 mf_St_addConstant ml_Re_127 (kd_St he) rfl (by show 20 + 9 * e < 87; omega) rfl rfl (Nat.le_of_ble_eq_true rfl) (by omega) ⟨Nat.le_refl _, Nat.le_refl _⟩ (g_St_addConstant (by omega) e (tkind (T k)) (tnum (T k) (W k)) M1 he (by have h9 := RD_n hR2; omega)) (fun r11 M12 kq13 q13 => ?_)
  clear kq13; obtain ⟨q13a, q13b⟩ := q13; subst r11; subst M12
  refine G_ps (pc' := 43) (st' := [vi ((S).length : Int)]) rfl (by rw [RD_n hR2]; rfl) ?_
  refine G_abs (R := fun M9 => RD e M0 M9 (S ++ [(137, 0, 0, 0, tkind (T k), tnum (T k) (W k))]) (k + 1) o a) (RD_con hR2 he) (fun M14 hR15 => ?_)
  refine G_iret d_Re_readConstant_43 rfl (tokI (by omega)) rfl rfl ?_
  exact ⟨rfl, hR15⟩

def lvD (c : Int) : Int := if c = 136 then 1 else if c = 135 then 2 else if c = 124 then 3 else if c = 94 then 4 else if c = 38 then 5 else if c = 133 ∨ c = 134 then 6 else if c = 60 ∨ c = 62 ∨ c = 128 ∨ c = 129 ∨ c = 141 then 7 else if c = 130 ∨ c = 131 ∨ c = 132 then 8 else if c = 43 ∨ c = 45 then 9 else if c = 37 ∨ c = 42 ∨ c = 47 then 10 else 0
theorem lv_t {t : Int} (h : okt t) : lvD (tcode t) = bq t := tc_lift (P := fun t => lvD (tcode t) = bq t) (by decide +kernel) h
def ucD (c : Int) : Int := if c = 43 then 147 else if c = 45 then 148 else if c = 126 ∨ c = 33 then c else 0
theorem uc_t {t : Int} (h : okt t) : ucD (tcode t) = ucode t := tc_lift (P := fun t => ucD (tcode t) = ucode t) (by decide +kernel) h
theorem ts_add (S : List SD) (x : SD) : ts (S ++ [x]) = (S.length : Int) := by unfold ts; simp
theorem d_Re_levelOf_0 : decode b_Re_levelOf 0 = .ok (.iload_n 0, 1) := by decide +kernel
theorem d_Re_levelOf_1 : decode b_Re_levelOf 1 = .ok (.lookupswitch 196 #[(37, 193), (38, 179), (42, 193), (43, 190), (45, 190), (47, 193), (60, 184), (62, 184), (94, 177), (124, 175), (128, 184), (129, 184), (130, 187), (131, 187), (132, 187), (133, 181), (134, 181), (135, 173), (136, 171), (141, 184)], 171) := by decide +kernel
theorem d_Re_levelOf_172 : decode b_Re_levelOf 172 = .ok (.iconst 1, 1) := by decide +kernel
theorem d_Re_levelOf_173 : decode b_Re_levelOf 173 = .ok (.ireturn, 1) := by decide +kernel
theorem d_Re_levelOf_174 : decode b_Re_levelOf 174 = .ok (.iconst 2, 1) := by decide +kernel
theorem d_Re_levelOf_175 : decode b_Re_levelOf 175 = .ok (.ireturn, 1) := by decide +kernel
theorem d_Re_levelOf_176 : decode b_Re_levelOf 176 = .ok (.iconst 3, 1) := by decide +kernel
theorem d_Re_levelOf_177 : decode b_Re_levelOf 177 = .ok (.ireturn, 1) := by decide +kernel
theorem d_Re_levelOf_178 : decode b_Re_levelOf 178 = .ok (.iconst 4, 1) := by decide +kernel
theorem d_Re_levelOf_179 : decode b_Re_levelOf 179 = .ok (.ireturn, 1) := by decide +kernel
theorem d_Re_levelOf_180 : decode b_Re_levelOf 180 = .ok (.iconst 5, 1) := by decide +kernel
theorem d_Re_levelOf_181 : decode b_Re_levelOf 181 = .ok (.ireturn, 1) := by decide +kernel
theorem d_Re_levelOf_182 : decode b_Re_levelOf 182 = .ok (.bipush 6, 2) := by decide +kernel
theorem d_Re_levelOf_184 : decode b_Re_levelOf 184 = .ok (.ireturn, 1) := by decide +kernel
theorem d_Re_levelOf_185 : decode b_Re_levelOf 185 = .ok (.bipush 7, 2) := by decide +kernel
theorem d_Re_levelOf_187 : decode b_Re_levelOf 187 = .ok (.ireturn, 1) := by decide +kernel
theorem d_Re_levelOf_188 : decode b_Re_levelOf 188 = .ok (.bipush 8, 2) := by decide +kernel
theorem d_Re_levelOf_190 : decode b_Re_levelOf 190 = .ok (.ireturn, 1) := by decide +kernel
theorem d_Re_levelOf_191 : decode b_Re_levelOf 191 = .ok (.bipush 9, 2) := by decide +kernel
theorem d_Re_levelOf_193 : decode b_Re_levelOf 193 = .ok (.ireturn, 1) := by decide +kernel
theorem d_Re_levelOf_194 : decode b_Re_levelOf 194 = .ok (.bipush 10, 2) := by decide +kernel
theorem d_Re_levelOf_196 : decode b_Re_levelOf 196 = .ok (.ireturn, 1) := by decide +kernel
theorem d_Re_levelOf_197 : decode b_Re_levelOf 197 = .ok (.iconst 0, 1) := by decide +kernel
theorem d_Re_levelOf_198 : decode b_Re_levelOf 198 = .ok (.ireturn, 1) := by decide +kernel
theorem g_Re_levelOf {X : WX} {d : Nat} (hd : 0 ≤ d) (c : Int) (M : Mem)  : MG X gt d KE KE y_Re_levelOf b_Re_levelOf 1 (some .int) [vi c] M (fun r M' => r = some (vi (lvD c)) ∧ M' = M) := by
  refine MG_of_G (by decide) (Nat.le_of_ble_eq_true rfl) (Nat.le_refl _) (by decide) ?_
  show G X gt d KE KE y_Re_levelOf b_Re_levelOf 1 (some .int) _ 0 [(0, vi c)] [] KE M
  refine G_iload (i := 0) (n := 0) (len := 1) (Or.inl ⟨0, rfl, rfl, d_Re_levelOf_0⟩) rfl (G_pc (pc' := 1) rfl ?_)
  by_cases h1 : c = 37 ∨ c = 42 ∨ c = 47
  · skip
    have e2o : Op.lookupswitch.offset [(37, 193), (38, 179), (42, 193), (43, 190), (45, 190), (47, 193), (60, 184), (62, 184), (94, 177), (124, 175), (128, 184), (129, 184), (130, 187), (131, 187), (132, 187), (133, 181), (134, 181), (135, 173), (136, 171), (141, 184)] 196 c = 193 := by rcases h1 with e2 | e2 | e2 <;> rw [e2] <;> rfl
    refine G_lookup (off := 193) (tgt := 194) d_Re_levelOf_1 (by decide) e2o (by decide) ?_
    refine G_bipush (n := 10) d_Re_levelOf_194 (by decide) (G_pc (pc' := 196) rfl ?_)
    refine G_iret d_Re_levelOf_196 rfl (tokI (by decide)) rfl rfl ?_
    exact ret_e (by unfold lvD; grind (splits := 40)) rfl
  by_cases h1 : c = 38
  · skip
    have e3o : Op.lookupswitch.offset [(37, 193), (38, 179), (42, 193), (43, 190), (45, 190), (47, 193), (60, 184), (62, 184), (94, 177), (124, 175), (128, 184), (129, 184), (130, 187), (131, 187), (132, 187), (133, 181), (134, 181), (135, 173), (136, 171), (141, 184)] 196 c = 179 := by rw [h1]; rfl
    refine G_lookup (off := 179) (tgt := 180) d_Re_levelOf_1 (by decide) e3o (by decide) ?_
    refine G_iconst (n := 5) d_Re_levelOf_180 (by decide) (G_pc (pc' := 181) rfl ?_)
    refine G_iret d_Re_levelOf_181 rfl (tokI (by decide)) rfl rfl ?_
    exact ret_e (by unfold lvD; grind (splits := 40)) rfl
  by_cases h1 : c = 43 ∨ c = 45
  · skip
    have e4o : Op.lookupswitch.offset [(37, 193), (38, 179), (42, 193), (43, 190), (45, 190), (47, 193), (60, 184), (62, 184), (94, 177), (124, 175), (128, 184), (129, 184), (130, 187), (131, 187), (132, 187), (133, 181), (134, 181), (135, 173), (136, 171), (141, 184)] 196 c = 190 := by rcases h1 with e4 | e4 <;> rw [e4] <;> rfl
    refine G_lookup (off := 190) (tgt := 191) d_Re_levelOf_1 (by decide) e4o (by decide) ?_
    refine G_bipush (n := 9) d_Re_levelOf_191 (by decide) (G_pc (pc' := 193) rfl ?_)
    refine G_iret d_Re_levelOf_193 rfl (tokI (by decide)) rfl rfl ?_
    exact ret_e (by unfold lvD; grind (splits := 40)) rfl
  by_cases h1 : c = 60 ∨ c = 62 ∨ c = 128 ∨ c = 129 ∨ c = 141
  · skip
    have e5o : Op.lookupswitch.offset [(37, 193), (38, 179), (42, 193), (43, 190), (45, 190), (47, 193), (60, 184), (62, 184), (94, 177), (124, 175), (128, 184), (129, 184), (130, 187), (131, 187), (132, 187), (133, 181), (134, 181), (135, 173), (136, 171), (141, 184)] 196 c = 184 := by rcases h1 with e5 | e5 | e5 | e5 | e5 <;> rw [e5] <;> rfl
    refine G_lookup (off := 184) (tgt := 185) d_Re_levelOf_1 (by decide) e5o (by decide) ?_
    refine G_bipush (n := 7) d_Re_levelOf_185 (by decide) (G_pc (pc' := 187) rfl ?_)
    refine G_iret d_Re_levelOf_187 rfl (tokI (by decide)) rfl rfl ?_
    exact ret_e (by unfold lvD; grind (splits := 40)) rfl
  by_cases h1 : c = 94
  · skip
    have e6o : Op.lookupswitch.offset [(37, 193), (38, 179), (42, 193), (43, 190), (45, 190), (47, 193), (60, 184), (62, 184), (94, 177), (124, 175), (128, 184), (129, 184), (130, 187), (131, 187), (132, 187), (133, 181), (134, 181), (135, 173), (136, 171), (141, 184)] 196 c = 177 := by rw [h1]; rfl
    refine G_lookup (off := 177) (tgt := 178) d_Re_levelOf_1 (by decide) e6o (by decide) ?_
    refine G_iconst (n := 4) d_Re_levelOf_178 (by decide) (G_pc (pc' := 179) rfl ?_)
    refine G_iret d_Re_levelOf_179 rfl (tokI (by decide)) rfl rfl ?_
    exact ret_e (by unfold lvD; grind (splits := 40)) rfl
  by_cases h1 : c = 124
  · skip
    have e7o : Op.lookupswitch.offset [(37, 193), (38, 179), (42, 193), (43, 190), (45, 190), (47, 193), (60, 184), (62, 184), (94, 177), (124, 175), (128, 184), (129, 184), (130, 187), (131, 187), (132, 187), (133, 181), (134, 181), (135, 173), (136, 171), (141, 184)] 196 c = 175 := by rw [h1]; rfl
    refine G_lookup (off := 175) (tgt := 176) d_Re_levelOf_1 (by decide) e7o (by decide) ?_
    refine G_iconst (n := 3) d_Re_levelOf_176 (by decide) (G_pc (pc' := 177) rfl ?_)
    refine G_iret d_Re_levelOf_177 rfl (tokI (by decide)) rfl rfl ?_
    exact ret_e (by unfold lvD; grind (splits := 40)) rfl
  by_cases h1 : c = 130 ∨ c = 131 ∨ c = 132
  · skip
    have e8o : Op.lookupswitch.offset [(37, 193), (38, 179), (42, 193), (43, 190), (45, 190), (47, 193), (60, 184), (62, 184), (94, 177), (124, 175), (128, 184), (129, 184), (130, 187), (131, 187), (132, 187), (133, 181), (134, 181), (135, 173), (136, 171), (141, 184)] 196 c = 187 := by rcases h1 with e8 | e8 | e8 <;> rw [e8] <;> rfl
    refine G_lookup (off := 187) (tgt := 188) d_Re_levelOf_1 (by decide) e8o (by decide) ?_
    refine G_bipush (n := 8) d_Re_levelOf_188 (by decide) (G_pc (pc' := 190) rfl ?_)
    refine G_iret d_Re_levelOf_190 rfl (tokI (by decide)) rfl rfl ?_
    exact ret_e (by unfold lvD; grind (splits := 40)) rfl
  by_cases h1 : c = 133 ∨ c = 134
  · skip
    have e9o : Op.lookupswitch.offset [(37, 193), (38, 179), (42, 193), (43, 190), (45, 190), (47, 193), (60, 184), (62, 184), (94, 177), (124, 175), (128, 184), (129, 184), (130, 187), (131, 187), (132, 187), (133, 181), (134, 181), (135, 173), (136, 171), (141, 184)] 196 c = 181 := by rcases h1 with e9 | e9 <;> rw [e9] <;> rfl
    refine G_lookup (off := 181) (tgt := 182) d_Re_levelOf_1 (by decide) e9o (by decide) ?_
    refine G_bipush (n := 6) d_Re_levelOf_182 (by decide) (G_pc (pc' := 184) rfl ?_)
    refine G_iret d_Re_levelOf_184 rfl (tokI (by decide)) rfl rfl ?_
    exact ret_e (by unfold lvD; grind (splits := 40)) rfl
  by_cases h1 : c = 135
  · skip
    have e10o : Op.lookupswitch.offset [(37, 193), (38, 179), (42, 193), (43, 190), (45, 190), (47, 193), (60, 184), (62, 184), (94, 177), (124, 175), (128, 184), (129, 184), (130, 187), (131, 187), (132, 187), (133, 181), (134, 181), (135, 173), (136, 171), (141, 184)] 196 c = 173 := by rw [h1]; rfl
    refine G_lookup (off := 173) (tgt := 174) d_Re_levelOf_1 (by decide) e10o (by decide) ?_
    refine G_iconst (n := 2) d_Re_levelOf_174 (by decide) (G_pc (pc' := 175) rfl ?_)
    refine G_iret d_Re_levelOf_175 rfl (tokI (by decide)) rfl rfl ?_
    exact ret_e (by unfold lvD; grind (splits := 40)) rfl
  by_cases h1 : c = 136
  · skip
    have e11o : Op.lookupswitch.offset [(37, 193), (38, 179), (42, 193), (43, 190), (45, 190), (47, 193), (60, 184), (62, 184), (94, 177), (124, 175), (128, 184), (129, 184), (130, 187), (131, 187), (132, 187), (133, 181), (134, 181), (135, 173), (136, 171), (141, 184)] 196 c = 171 := by rw [h1]; rfl
    refine G_lookup (off := 171) (tgt := 172) d_Re_levelOf_1 (by decide) e11o (by decide) ?_
    refine G_iconst (n := 1) d_Re_levelOf_172 (by decide) (G_pc (pc' := 173) rfl ?_)
    refine G_iret d_Re_levelOf_173 rfl (tokI (by decide)) rfl rfl ?_
    exact ret_e (by unfold lvD; grind (splits := 40)) rfl
  have e12o : Op.lookupswitch.offset [(37, 193), (38, 179), (42, 193), (43, 190), (45, 190), (47, 193), (60, 184), (62, 184), (94, 177), (124, 175), (128, 184), (129, 184), (130, 187), (131, 187), (132, 187), (133, 181), (134, 181), (135, 173), (136, 171), (141, 184)] 196 c = 196 := by rw [lk_ne (by omega), lk_ne (by omega), lk_ne (by omega), lk_ne (by omega), lk_ne (by omega), lk_ne (by omega), lk_ne (by omega), lk_ne (by omega), lk_ne (by omega), lk_ne (by omega), lk_ne (by omega), lk_ne (by omega), lk_ne (by omega), lk_ne (by omega), lk_ne (by omega), lk_ne (by omega), lk_ne (by omega), lk_ne (by omega), lk_ne (by omega), lk_ne (by omega)]; rfl
  refine G_lookup (off := 196) (tgt := 197) d_Re_levelOf_1 (by decide) e12o (by decide) ?_
  refine G_iconst (n := 0) d_Re_levelOf_197 (by decide) (G_pc (pc' := 198) rfl ?_)
  refine G_iret d_Re_levelOf_198 rfl (tokI (by decide)) rfl rfl ?_
  exact ret_e (by unfold lvD; grind (splits := 40)) rfl

theorem d_Re_unaryCode_0 : decode b_Re_unaryCode 0 = .ok (.iload_n 0, 1) := by decide +kernel
theorem d_Re_unaryCode_1 : decode b_Re_unaryCode 1 = .ok (.lookupswitch 53 #[(33, 51), (43, 43), (45, 47), (126, 51)], 43) := by decide +kernel
theorem d_Re_unaryCode_44 : decode b_Re_unaryCode 44 = .ok (.sipush 147, 3) := by decide +kernel
theorem d_Re_unaryCode_47 : decode b_Re_unaryCode 47 = .ok (.ireturn, 1) := by decide +kernel
theorem d_Re_unaryCode_48 : decode b_Re_unaryCode 48 = .ok (.sipush 148, 3) := by decide +kernel
theorem d_Re_unaryCode_51 : decode b_Re_unaryCode 51 = .ok (.ireturn, 1) := by decide +kernel
theorem d_Re_unaryCode_52 : decode b_Re_unaryCode 52 = .ok (.iload_n 0, 1) := by decide +kernel
theorem d_Re_unaryCode_53 : decode b_Re_unaryCode 53 = .ok (.ireturn, 1) := by decide +kernel
theorem d_Re_unaryCode_54 : decode b_Re_unaryCode 54 = .ok (.iconst 0, 1) := by decide +kernel
theorem d_Re_unaryCode_55 : decode b_Re_unaryCode 55 = .ok (.ireturn, 1) := by decide +kernel
theorem g_Re_unaryCode {X : WX} {d : Nat} (hd : 0 ≤ d) (c : Int) (M : Mem)  : MG X gt d KE KE y_Re_unaryCode b_Re_unaryCode 1 (some .int) [vi c] M (fun r M' => r = some (vi (ucD c)) ∧ M' = M) := by
  refine MG_of_G (by decide) (Nat.le_of_ble_eq_true rfl) (Nat.le_refl _) (by decide) ?_
  show G X gt d KE KE y_Re_unaryCode b_Re_unaryCode 1 (some .int) _ 0 [(0, vi c)] [] KE M
  refine G_rngl (i := 0) rfl (fun hr0 => ?_)
  refine G_iload (i := 0) (n := 0) (len := 1) (Or.inl ⟨0, rfl, rfl, d_Re_unaryCode_0⟩) rfl (G_pc (pc' := 1) rfl ?_)
  by_cases h1 : c = 33 ∨ c = 126
  · skip
    have e2o : Op.lookupswitch.offset [(33, 51), (43, 43), (45, 47), (126, 51)] 53 c = 51 := by rcases h1 with e2 | e2 <;> rw [e2] <;> rfl
    refine G_lookup (off := 51) (tgt := 52) d_Re_unaryCode_1 (by decide) e2o (by decide) ?_
    refine G_iload (i := 0) (n := 0) (len := 1) (Or.inl ⟨0, rfl, rfl, d_Re_unaryCode_52⟩) rfl (G_pc (pc' := 53) rfl ?_)
    refine G_iret d_Re_unaryCode_53 rfl (tokI (by omega)) rfl rfl ?_
    exact ret_e (by unfold ucD; grind) rfl
  by_cases h1 : c = 43
  · skip
    have e3o : Op.lookupswitch.offset [(33, 51), (43, 43), (45, 47), (126, 51)] 53 c = 43 := by rw [h1]; rfl
    refine G_lookup (off := 43) (tgt := 44) d_Re_unaryCode_1 (by decide) e3o (by decide) ?_
    refine G_sipush (n := 147) d_Re_unaryCode_44 (by decide) (G_pc (pc' := 47) rfl ?_)
    refine G_iret d_Re_unaryCode_47 rfl (tokI (by decide)) rfl rfl ?_
    exact ret_e (by unfold ucD; grind) rfl
  by_cases h1 : c = 45
  · skip
    have e4o : Op.lookupswitch.offset [(33, 51), (43, 43), (45, 47), (126, 51)] 53 c = 47 := by rw [h1]; rfl
    refine G_lookup (off := 47) (tgt := 48) d_Re_unaryCode_1 (by decide) e4o (by decide) ?_
    refine G_sipush (n := 148) d_Re_unaryCode_48 (by decide) (G_pc (pc' := 51) rfl ?_)
    refine G_iret d_Re_unaryCode_51 rfl (tokI (by decide)) rfl rfl ?_
    exact ret_e (by unfold ucD; grind) rfl
  have e5o : Op.lookupswitch.offset [(33, 51), (43, 43), (45, 47), (126, 51)] 53 c = 53 := by rw [lk_ne (by omega), lk_ne (by omega), lk_ne (by omega), lk_ne (by omega)]; rfl
  refine G_lookup (off := 53) (tgt := 54) d_Re_unaryCode_1 (by decide) e5o (by decide) ?_
  refine G_iconst (n := 0) d_Re_unaryCode_54 (by decide) (G_pc (pc' := 55) rfl ?_)
  refine G_iret d_Re_unaryCode_55 rfl (tokI (by decide)) rfl rfl ?_
  exact ret_e (by unfold ucD; grind) rfl

theorem tn_7 {t v : Int} (h : t = 7) (hv : 0 ≤ v ∧ v < 26) : w32 (tnum t v) = v := by unfold tnum; rw [if_pos (by omega)]; exact w32_id (by omega)
theorem tn_ty {t v : Int} (h : 8 ≤ t ∧ t ≤ 12) (hv : 0 ≤ v ∧ v < 6) : w32 (tnum t v) = castK t v false ∧ 0 ≤ castK t v false ∧ castK t v false ≤ 9 ∧ (t = 8 ↔ 4 ≤ castK t v false) := by
  have e : tnum t v = castK t v false := by unfold tnum castK; grind
  have r : 0 ≤ castK t v false ∧ castK t v false ≤ 9 ∧ (t = 8 ↔ 4 ≤ castK t v false) := by unfold castK; grind
  exact ⟨by rw [e]; exact w32_id (by omega), r⟩
theorem ck_8 (v : Int) : castK 8 v false = 4 + v := rfl
theorem d_Re_readPart_0 : decode b_Re_readPart 0 = .ok (.aload_n 0, 1) := by decide +kernel
theorem d_Re_readPart_1 : decode b_Re_readPart 1 = .ok (.getfield 12, 3) := by decide +kernel
theorem d_Re_readPart_4 : decode b_Re_readPart 4 = .ok (.aload_n 0, 1) := by decide +kernel
theorem d_Re_readPart_5 : decode b_Re_readPart 5 = .ok (.getfield 27, 3) := by decide +kernel
theorem d_Re_readPart_8 : decode b_Re_readPart 8 = .ok (.invokevirtual 84, 3) := by decide +kernel
theorem d_Re_readPart_11 : decode b_Re_readPart 11 = .ok (.l2i, 1) := by decide +kernel
theorem d_Re_readPart_12 : decode b_Re_readPart 12 = .ok (.istore_n 2, 1) := by decide +kernel
theorem d_Re_readPart_13 : decode b_Re_readPart 13 = .ok (.aload_n 0, 1) := by decide +kernel
theorem d_Re_readPart_14 : decode b_Re_readPart 14 = .ok (.sipush 138, 3) := by decide +kernel
theorem d_Re_readPart_17 : decode b_Re_readPart 17 = .ok (.invokevirtual 52, 3) := by decide +kernel
theorem d_Re_readPart_20 : decode b_Re_readPart 20 = .ok (.ifCond .eq 16, 3) := by decide +kernel
theorem d_Re_readPart_23 : decode b_Re_readPart 23 = .ok (.aload_n 0, 1) := by decide +kernel
theorem d_Re_readPart_24 : decode b_Re_readPart 24 = .ok (.getfield 18, 3) := by decide +kernel
theorem d_Re_readPart_27 : decode b_Re_readPart 27 = .ok (.sipush 144, 3) := by decide +kernel
theorem d_Re_readPart_30 : decode b_Re_readPart 30 = .ok (.iload_n 1, 1) := by decide +kernel
theorem d_Re_readPart_31 : decode b_Re_readPart 31 = .ok (.iload_n 2, 1) := by decide +kernel
theorem d_Re_readPart_32 : decode b_Re_readPart 32 = .ok (.invokevirtual 56, 3) := by decide +kernel
theorem d_Re_readPart_35 : decode b_Re_readPart 35 = .ok (.ireturn, 1) := by decide +kernel
theorem d_Re_readPart_36 : decode b_Re_readPart 36 = .ok (.aload_n 0, 1) := by decide +kernel
theorem d_Re_readPart_37 : decode b_Re_readPart 37 = .ok (.sipush 142, 3) := by decide +kernel
theorem d_Re_readPart_40 : decode b_Re_readPart 40 = .ok (.invokevirtual 52, 3) := by decide +kernel
theorem d_Re_readPart_43 : decode b_Re_readPart 43 = .ok (.ifCond .eq 18, 3) := by decide +kernel
theorem d_Re_readPart_46 : decode b_Re_readPart 46 = .ok (.aload_n 0, 1) := by decide +kernel
theorem d_Re_readPart_47 : decode b_Re_readPart 47 = .ok (.getfield 18, 3) := by decide +kernel
theorem d_Re_readPart_50 : decode b_Re_readPart 50 = .ok (.sipush 142, 3) := by decide +kernel
theorem d_Re_readPart_53 : decode b_Re_readPart 53 = .ok (.iload_n 1, 1) := by decide +kernel
theorem d_Re_readPart_54 : decode b_Re_readPart 54 = .ok (.iconst 0, 1) := by decide +kernel
theorem d_Re_readPart_55 : decode b_Re_readPart 55 = .ok (.invokevirtual 56, 3) := by decide +kernel
theorem d_Re_readPart_58 : decode b_Re_readPart 58 = .ok (.goto 4, 3) := by decide +kernel
theorem d_Re_readPart_61 : decode b_Re_readPart 61 = .ok (.iconst (-1), 1) := by decide +kernel
theorem d_Re_readPart_62 : decode b_Re_readPart 62 = .ok (.ireturn, 1) := by decide +kernel
theorem g_Re_readPart {X : WX} {d : Nat} (hd : 2 ≤ d) (e : Nat) (T W : Int → Int) (n : Int) (M0 : Mem) (N : List ND) (S : List SD) (k o a : Int) (c : Int) (M : Mem) (he : e < 4) (hTR : TR M0 T W n) (hR : RD e M0 M S (k + 1) o a) (hst : M0 13 1 = ((20 + 9 * e : Nat) : Int)) (hk : 0 ≤ k ∧ k + 1 ≤ n) (ho : 0 ≤ o ∧ o ≤ 6) (ha : 0 ≤ a ∧ a ≤ 4) (hS : (S.length : Int) + 1 ≤ 2 * k) (hS1 : 1 ≤ S.length) : MG X gt d KE KE y_Re_readPart b_Re_readPart 3 (some .int) [vr 13, vi (ts S)] M (RQ e M0 o (partD T W (k, N, S, o, a, c))) := by
  refine MG_of_G (by decide) (Nat.le_of_ble_eq_true rfl) (Nat.le_refl _) (by decide) ?_
  show G X gt d KE KE y_Re_readPart b_Re_readPart 3 (some .int) _ 0 [(0, vr 13), (1, vi (ts S))] [] KE M
  have hn2 := hTR.2.1
  have hts : ts S = (S.length : Int) - 1 := rfl
  have hok := TR_T hTR (k := k + 1) (by omega)
  refine G_aload (i := 0) (n := 0) (len := 1) (Or.inl ⟨0, rfl, rfl, d_Re_readPart_0⟩) rfl (by decide) (G_pc (pc' := 1) rfl ?_)
  refine G_get (o := 13) (c := 4) (k := 0) (v := 14) d_Re_readPart_1 fl_Re_12 rfl (by decide) (by decide) rfl rfl (G_pc (pc' := 4) rfl ?_)
  refine G_aload (i := 0) (n := 0) (len := 1) (Or.inl ⟨0, rfl, rfl, d_Re_readPart_4⟩) rfl (by decide) (G_pc (pc' := 5) rfl ?_)
  refine G_get (o := 13) (c := 4) (k := 2) (v := M 13 2) d_Re_readPart_5 fl_Re_27 rfl (by decide) (by decide) rfl rfl (G_pc (pc' := 8) rfl ?_)
  rw [show M 13 2 = k + 1 from RD_k hR]
  refine G_callV (K1 := KE) (d2 := 0) (o := 14) (cl := 7) (as := [vi (k + 1)]) (rest := []) d_Re_readPart_8 mf_To_numberAt ml_Re_84 rfl rfl (by decide) rfl rfl (Nat.le_of_ble_eq_true rfl) (by omega) ⟨Nat.le_refl _, Nat.le_refl _⟩ (g_To_numberAt (by omega) T W n (k + 1) M (RD_TR hR he hTR) (by omega)) (fun r1 M2 kq3 q3 => ?_)
  clear kq3; obtain ⟨q3a, q3b⟩ := q3; subst r1; subst M2
  refine G_ps (pc' := 11) (st' := [vl (tnum (T (k + 1)) (W (k + 1)))]) rfl rfl ?_
  have ok4 := TR_T hTR (k := k + 1) (by omega)
  refine G_l2i d_Re_readPart_11 (G_pc (pc' := 12) rfl ?_)
  refine G_istore (i := 2) (len := 1) (ls' := [(2, vi (w32 (tnum (T (k + 1)) (W (k + 1))))), (0, vr 13), (1, vi (ts S))]) (Or.inl ⟨2, rfl, rfl, d_Re_readPart_12⟩) (by decide) rfl (G_pc (pc' := 13) rfl ?_)
  refine G_aload (i := 0) (n := 1) (len := 1) (Or.inl ⟨0, rfl, rfl, d_Re_readPart_13⟩) rfl (by decide) (G_pc (pc' := 14) rfl ?_)
  refine G_sipush (n := 138) d_Re_readPart_14 (by decide) (G_pc (pc' := 17) rfl ?_)
  refine G_callV (K1 := KE) (d2 := 1) (o := 13) (cl := 4) (as := [vi 138]) (rest := []) d_Re_readPart_17 mf_Re_takes ml_Re_52 rfl rfl (by decide) rfl rfl (Nat.le_of_ble_eq_true rfl) (by omega) ⟨Nat.le_refl _, Nat.le_refl _⟩ (g_Re_takes (by omega) e T W n M0 138 S (k + 1) o a M he hTR hR (by omega)) (fun r5 M6 kq7 q7 => ?_)
  clear kq7
  by_cases hc8 : tcode (T (k + 1)) = 138
  · skip
    obtain ⟨q7a, q7b⟩ := q7.1 hc8
    subst r5; subst M6
    rw [tc_138 (TR_T hTR (by omega)).1] at hc8
    refine G_ps (pc' := 20) (st' := [vi 1]) rfl rfl ?_
    refine G_abs (R := fun M9 => RD e M0 M9 S (k + 2) o a) (RD_nk (RD_sk hR) (by omega)) (fun M9 hR10 => ?_)
    refine G_if_eq (tgt := 36) d_Re_readPart_20 (by decide) (fun h11 => absurd h11 (by decide)) (fun h11 => G_pc (pc' := 23) rfl ?_)
    refine G_aload (i := 0) (n := 1) (len := 1) (Or.inl ⟨0, rfl, rfl, d_Re_readPart_23⟩) rfl (by decide) (G_pc (pc' := 24) rfl ?_)
    refine G_get (o := 13) (c := 4) (k := 1) (v := M9 13 1) d_Re_readPart_24 fl_Re_18 rfl (by decide) (by decide) rfl rfl (G_pc (pc' := 27) rfl ?_)
    rw [show M9 13 1 = ((20 + 9 * e : Nat) : Int) from RD_st hR10 he hst]
    refine G_sipush (n := 144) d_Re_readPart_27 (by decide) (G_pc (pc' := 30) rfl ?_)
    refine G_iload (i := 1) (n := 2) (len := 1) (Or.inl ⟨1, rfl, rfl, d_Re_readPart_30⟩) rfl (G_pc (pc' := 31) rfl ?_)
    refine G_iload (i := 2) (n := 0) (len := 1) (Or.inl ⟨2, rfl, rfl, d_Re_readPart_31⟩) rfl (G_pc (pc' := 32) rfl ?_)
    refine G_callV (K1 := KE) (d2 := 1) (o := (20 + 9 * e)) (cl := 5) (as := [vi 144, vi (ts S), vi (w32 (tnum (T (k + 1)) (W (k + 1))))]) (rest := []) d_Re_readPart_32 mf_St_add ml_Re_56 (kd_St he) rfl (by show 20 + 9 * e < 87; omega) rfl rfl (Nat.le_of_ble_eq_true rfl) (by omega) ⟨Nat.le_refl _, Nat.le_refl _⟩ (g_St_add (by omega) e 144 (ts S) (w32 (tnum (T (k + 1)) (W (k + 1)))) M9 he (by have h9 := RD_n hR10; omega)) (fun r12 M13 kq14 q14 => ?_)
    clear kq14; obtain ⟨q14a, q14b⟩ := q14; subst r12; subst M13
    rw [RD_n hR10]
    refine G_ps (pc' := 35) (st' := [vi ((S).length : Int)]) rfl rfl ?_
    refine G_abs (R := fun M9 => RD e M0 M9 (S ++ [(144, ts S, w32 (tnum (T (k + 1)) (W (k + 1))), 0, 0, 0)]) (k + 2) o a) (RD_add hR10 (by first | decide | omega) he) (fun M15 hR16 => ?_)
    have hl17 : ((S ++ [(144, ts S, w32 (tnum (T (k + 1)) (W (k + 1))), 0, 0, 0)]).length : Int) = (S).length + 1 := len_add _ _
    refine G_iret d_Re_readPart_35 rfl (tokI (by omega)) rfl rfl ?_
    have e7 : w32 (tnum (T (k + 1)) (W (k + 1))) = W (k + 1) := tn_7 (by omega) ((hTR.2.2.2.2.2 (k + 1) (by omega) (by omega)).1 (by omega))
    rw [e7] at hR16
    exact Or.inr ⟨_, _, _, _, _, _, by unfold partD; simp only []; rw [if_pos (by omega)], by rw [ts_add], hR16⟩
  · skip
    obtain ⟨q7a, q7b⟩ := q7.2 hc8
    subst r5; subst M6
    rw [tc_138 (TR_T hTR (by omega)).1] at hc8
    refine G_ps (pc' := 20) (st' := [vi 0]) rfl rfl ?_
    refine G_if_eq (tgt := 36) d_Re_readPart_20 (by decide) (fun h18 => ?_) (fun h18 => absurd h18 (by decide))
    refine G_aload (i := 0) (n := 1) (len := 1) (Or.inl ⟨0, rfl, rfl, d_Re_readPart_36⟩) rfl (by decide) (G_pc (pc' := 37) rfl ?_)
    refine G_sipush (n := 142) d_Re_readPart_37 (by decide) (G_pc (pc' := 40) rfl ?_)
    refine G_callV (K1 := KE) (d2 := 1) (o := 13) (cl := 4) (as := [vi 142]) (rest := []) d_Re_readPart_40 mf_Re_takes ml_Re_52 rfl rfl (by decide) rfl rfl (Nat.le_of_ble_eq_true rfl) (by omega) ⟨Nat.le_refl _, Nat.le_refl _⟩ (g_Re_takes (by omega) e T W n M0 142 S (k + 1) o a M he hTR hR (by omega)) (fun r19 M20 kq21 q21 => ?_)
    clear kq21
    by_cases hc22 : tcode (T (k + 1)) = 142
    · skip
      obtain ⟨q21a, q21b⟩ := q21.1 hc22
      subst r19; subst M20
      rw [tc_142 (TR_T hTR (by omega)).1] at hc22
      refine G_ps (pc' := 43) (st' := [vi 1]) rfl rfl ?_
      refine G_abs (R := fun M9 => RD e M0 M9 S (k + 2) o a) (RD_nk (RD_sk hR) (by omega)) (fun M23 hR24 => ?_)
      refine G_if_eq (tgt := 61) d_Re_readPart_43 (by decide) (fun h25 => absurd h25 (by decide)) (fun h25 => G_pc (pc' := 46) rfl ?_)
      refine G_aload (i := 0) (n := 1) (len := 1) (Or.inl ⟨0, rfl, rfl, d_Re_readPart_46⟩) rfl (by decide) (G_pc (pc' := 47) rfl ?_)
      refine G_get (o := 13) (c := 4) (k := 1) (v := M23 13 1) d_Re_readPart_47 fl_Re_18 rfl (by decide) (by decide) rfl rfl (G_pc (pc' := 50) rfl ?_)
      rw [show M23 13 1 = ((20 + 9 * e : Nat) : Int) from RD_st hR24 he hst]
      refine G_sipush (n := 142) d_Re_readPart_50 (by decide) (G_pc (pc' := 53) rfl ?_)
      refine G_iload (i := 1) (n := 2) (len := 1) (Or.inl ⟨1, rfl, rfl, d_Re_readPart_53⟩) rfl (G_pc (pc' := 54) rfl ?_)
      refine G_iconst (n := 0) d_Re_readPart_54 (by decide) (G_pc (pc' := 55) rfl ?_)
      refine G_callV (K1 := KE) (d2 := 1) (o := (20 + 9 * e)) (cl := 5) (as := [vi 142, vi (ts S), vi 0]) (rest := []) d_Re_readPart_55 mf_St_add ml_Re_56 (kd_St he) rfl (by show 20 + 9 * e < 87; omega) rfl rfl (Nat.le_of_ble_eq_true rfl) (by omega) ⟨Nat.le_refl _, Nat.le_refl _⟩ (g_St_add (by omega) e 142 (ts S) 0 M23 he (by have h9 := RD_n hR24; omega)) (fun r26 M27 kq28 q28 => ?_)
      clear kq28; obtain ⟨q28a, q28b⟩ := q28; subst r26; subst M27
      rw [RD_n hR24]
      refine G_ps (pc' := 58) (st' := [vi ((S).length : Int)]) rfl rfl ?_
      refine G_abs (R := fun M9 => RD e M0 M9 (S ++ [(142, ts S, 0, 0, 0, 0)]) (k + 2) o a) (RD_add hR24 (by first | decide | omega) he) (fun M29 hR30 => ?_)
      have hl31 : ((S ++ [(142, ts S, 0, 0, 0, 0)]).length : Int) = (S).length + 1 := len_add _ _
      refine G_goto (tgt := 62) d_Re_readPart_58 (by decide) ?_
      refine G_iret d_Re_readPart_62 rfl (tokI (by omega)) rfl rfl ?_
      exact Or.inr ⟨_, _, _, _, _, _, by unfold partD; simp only []; rw [if_neg (by omega), if_pos (by omega)], by rw [ts_add], hR30⟩
    · skip
      obtain ⟨q21a, q21b⟩ := q21.2 hc22
      subst r19; subst M20
      rw [tc_142 (TR_T hTR (by omega)).1] at hc22
      refine G_ps (pc' := 43) (st' := [vi 0]) rfl rfl ?_
      refine G_if_eq (tgt := 61) d_Re_readPart_43 (by decide) (fun h32 => ?_) (fun h32 => absurd h32 (by decide))
      refine G_iconst (n := (-1)) d_Re_readPart_61 (by decide) (G_pc (pc' := 62) rfl ?_)
      refine G_iret d_Re_readPart_62 rfl (tokI (by decide)) rfl rfl ?_
      exact Or.inl ⟨by unfold partD; simp only []; rw [if_neg (by omega), if_neg (by omega)], rfl, hR.1, RD_o hR⟩

theorem d_Re_readClassBehind_0 : decode b_Re_readClassBehind 0 = .ok (.aload_n 0, 1) := by decide +kernel
theorem d_Re_readClassBehind_1 : decode b_Re_readClassBehind 1 = .ok (.getfield 12, 3) := by decide +kernel
theorem d_Re_readClassBehind_4 : decode b_Re_readClassBehind 4 = .ok (.aload_n 0, 1) := by decide +kernel
theorem d_Re_readClassBehind_5 : decode b_Re_readClassBehind 5 = .ok (.getfield 27, 3) := by decide +kernel
theorem d_Re_readClassBehind_8 : decode b_Re_readClassBehind 8 = .ok (.invokevirtual 84, 3) := by decide +kernel
theorem d_Re_readClassBehind_11 : decode b_Re_readClassBehind 11 = .ok (.l2i, 1) := by decide +kernel
theorem d_Re_readClassBehind_12 : decode b_Re_readClassBehind 12 = .ok (.istore_n 2, 1) := by decide +kernel
theorem d_Re_readClassBehind_13 : decode b_Re_readClassBehind 13 = .ok (.aload_n 0, 1) := by decide +kernel
theorem d_Re_readClassBehind_14 : decode b_Re_readClassBehind 14 = .ok (.sipush 140, 3) := by decide +kernel
theorem d_Re_readClassBehind_17 : decode b_Re_readClassBehind 17 = .ok (.invokevirtual 52, 3) := by decide +kernel
theorem d_Re_readClassBehind_20 : decode b_Re_readClassBehind 20 = .ok (.ifCond .eq 25, 3) := by decide +kernel
theorem d_Re_readClassBehind_23 : decode b_Re_readClassBehind 23 = .ok (.iload_n 2, 1) := by decide +kernel
theorem d_Re_readClassBehind_24 : decode b_Re_readClassBehind 24 = .ok (.invokestatic 88, 3) := by decide +kernel
theorem d_Re_readClassBehind_27 : decode b_Re_readClassBehind 27 = .ok (.ifCond .eq 18, 3) := by decide +kernel
theorem d_Re_readClassBehind_30 : decode b_Re_readClassBehind 30 = .ok (.aload_n 0, 1) := by decide +kernel
theorem d_Re_readClassBehind_31 : decode b_Re_readClassBehind 31 = .ok (.getfield 18, 3) := by decide +kernel
theorem d_Re_readClassBehind_34 : decode b_Re_readClassBehind 34 = .ok (.sipush 141, 3) := by decide +kernel
theorem d_Re_readClassBehind_37 : decode b_Re_readClassBehind 37 = .ok (.iload_n 1, 1) := by decide +kernel
theorem d_Re_readClassBehind_38 : decode b_Re_readClassBehind 38 = .ok (.iload_n 2, 1) := by decide +kernel
theorem d_Re_readClassBehind_39 : decode b_Re_readClassBehind 39 = .ok (.invokevirtual 56, 3) := by decide +kernel
theorem d_Re_readClassBehind_42 : decode b_Re_readClassBehind 42 = .ok (.goto 4, 3) := by decide +kernel
theorem d_Re_readClassBehind_45 : decode b_Re_readClassBehind 45 = .ok (.iconst (-1), 1) := by decide +kernel
theorem d_Re_readClassBehind_46 : decode b_Re_readClassBehind 46 = .ok (.ireturn, 1) := by decide +kernel
theorem g_Re_readClassBehind {X : WX} {d : Nat} (hd : 2 ≤ d) (e : Nat) (T W : Int → Int) (n : Int) (M0 : Mem) (N : List ND) (S : List SD) (k o a : Int) (M : Mem) (he : e < 4) (hTR : TR M0 T W n) (hR : RD e M0 M S (k + 1) o a) (hst : M0 13 1 = ((20 + 9 * e : Nat) : Int)) (hk : 0 ≤ k ∧ k + 1 ≤ n) (ho : 0 ≤ o ∧ o ≤ 6) (ha : 0 ≤ a ∧ a ≤ 4) (hS : (S.length : Int) + 1 ≤ 2 * k) (hS1 : 1 ≤ S.length) : MG X gt d KE KE y_Re_readClassBehind b_Re_readClassBehind 3 (some .int) [vr 13, vi (ts S)] M (RQ e M0 o (if T (k + 1) = 8 then some (k + 2, N ++ [(63, tp N, -1, -1, W (k + 1))], S ++ [(141, ts S, 4 + W (k + 1), 0, 0, 0)], o, a, 1) else none)) := by
  refine MG_of_G (by decide) (Nat.le_of_ble_eq_true rfl) (Nat.le_refl _) (by decide) ?_
  show G X gt d KE KE y_Re_readClassBehind b_Re_readClassBehind 3 (some .int) _ 0 [(0, vr 13), (1, vi (ts S))] [] KE M
  have hn2 := hTR.2.1
  have hts : ts S = (S.length : Int) - 1 := rfl
  have hok := TR_T hTR (k := k + 1) (by omega)
  refine G_aload (i := 0) (n := 0) (len := 1) (Or.inl ⟨0, rfl, rfl, d_Re_readClassBehind_0⟩) rfl (by decide) (G_pc (pc' := 1) rfl ?_)
  refine G_get (o := 13) (c := 4) (k := 0) (v := 14) d_Re_readClassBehind_1 fl_Re_12 rfl (by decide) (by decide) rfl rfl (G_pc (pc' := 4) rfl ?_)
  refine G_aload (i := 0) (n := 0) (len := 1) (Or.inl ⟨0, rfl, rfl, d_Re_readClassBehind_4⟩) rfl (by decide) (G_pc (pc' := 5) rfl ?_)
  refine G_get (o := 13) (c := 4) (k := 2) (v := M 13 2) d_Re_readClassBehind_5 fl_Re_27 rfl (by decide) (by decide) rfl rfl (G_pc (pc' := 8) rfl ?_)
  rw [show M 13 2 = k + 1 from RD_k hR]
  refine G_callV (K1 := KE) (d2 := 0) (o := 14) (cl := 7) (as := [vi (k + 1)]) (rest := []) d_Re_readClassBehind_8 mf_To_numberAt ml_Re_84 rfl rfl (by decide) rfl rfl (Nat.le_of_ble_eq_true rfl) (by omega) ⟨Nat.le_refl _, Nat.le_refl _⟩ (g_To_numberAt (by omega) T W n (k + 1) M (RD_TR hR he hTR) (by omega)) (fun r1 M2 kq3 q3 => ?_)
  clear kq3; obtain ⟨q3a, q3b⟩ := q3; subst r1; subst M2
  refine G_ps (pc' := 11) (st' := [vl (tnum (T (k + 1)) (W (k + 1)))]) rfl rfl ?_
  have ok4 := TR_T hTR (k := k + 1) (by omega)
  refine G_l2i d_Re_readClassBehind_11 (G_pc (pc' := 12) rfl ?_)
  refine G_istore (i := 2) (len := 1) (ls' := [(2, vi (w32 (tnum (T (k + 1)) (W (k + 1))))), (0, vr 13), (1, vi (ts S))]) (Or.inl ⟨2, rfl, rfl, d_Re_readClassBehind_12⟩) (by decide) rfl (G_pc (pc' := 13) rfl ?_)
  refine G_aload (i := 0) (n := 1) (len := 1) (Or.inl ⟨0, rfl, rfl, d_Re_readClassBehind_13⟩) rfl (by decide) (G_pc (pc' := 14) rfl ?_)
  refine G_sipush (n := 140) d_Re_readClassBehind_14 (by decide) (G_pc (pc' := 17) rfl ?_)
  refine G_callV (K1 := KE) (d2 := 1) (o := 13) (cl := 4) (as := [vi 140]) (rest := []) d_Re_readClassBehind_17 mf_Re_takes ml_Re_52 rfl rfl (by decide) rfl rfl (Nat.le_of_ble_eq_true rfl) (by omega) ⟨Nat.le_refl _, Nat.le_refl _⟩ (g_Re_takes (by omega) e T W n M0 140 S (k + 1) o a M he hTR hR (by omega)) (fun r5 M6 kq7 q7 => ?_)
  clear kq7
  by_cases hc8 : tcode (T (k + 1)) = 140
  · skip
    obtain ⟨q7a, q7b⟩ := q7.1 hc8
    subst r5; subst M6
    rw [tc_140 (TR_T hTR (by omega)).1] at hc8
    refine G_ps (pc' := 20) (st' := [vi 1]) rfl rfl ?_
    refine G_abs (R := fun M9 => RD e M0 M9 S (k + 2) o a) (RD_nk (RD_sk hR) (by omega)) (fun M9 hR10 => ?_)
    refine G_if_eq (tgt := 45) d_Re_readClassBehind_20 (by decide) (fun h11 => absurd h11 (by decide)) (fun h11 => G_pc (pc' := 23) rfl ?_)
    refine G_iload (i := 2) (n := 0) (len := 1) (Or.inl ⟨2, rfl, rfl, d_Re_readClassBehind_23⟩) rfl (G_pc (pc' := 24) rfl ?_)
    refine G_callS (K1 := KE) (d2 := 0) (as := [vi (w32 (tnum (T (k + 1)) (W (k + 1))))]) (rest := []) d_Re_readClassBehind_24 mf_Ki_isClass ml_Re_88 rfl rfl (Nat.le_of_ble_eq_true rfl) (by omega) ⟨Nat.le_refl _, Nat.le_refl _⟩ (g_Ki_isClass (by omega) (w32 (tnum (T (k + 1)) (W (k + 1)))) _) (fun r12 M13 kq14 q14 => ?_)
    clear kq14; obtain ⟨q14a, q14b⟩ := q14; subst r12; subst M13
    refine G_ps (pc' := 27) (st' := [vi (b2i (clB (w32 (tnum (T (k + 1)) (W (k + 1))))))]) rfl rfl ?_
    refine G_if_eq (tgt := 45) d_Re_readClassBehind_27 (by decide) (fun h15 => ?_) (fun h15 => G_pc (pc' := 30) rfl ?_)
    · skip
      replace h15 := b2i_0.mp h15
      replace h15 := clB_f.mp h15
      refine G_iconst (n := (-1)) d_Re_readClassBehind_45 (by decide) (G_pc (pc' := 46) rfl ?_)
      refine G_iret d_Re_readClassBehind_46 rfl (tokI (by decide)) rfl rfl ?_
      exact Or.inl ⟨by rw [if_neg (by have e9 := tn_ty hc8 ((hTR.2.2.2.2.2 (k + 1) (by omega) (by omega)).2.1 (by omega) (by omega)); omega)], rfl, hR10.1, RD_o hR10⟩
    · skip
      replace h15 := b2i_nz.mp h15
      replace h15 := clB_t.mp h15
      refine G_aload (i := 0) (n := 1) (len := 1) (Or.inl ⟨0, rfl, rfl, d_Re_readClassBehind_30⟩) rfl (by decide) (G_pc (pc' := 31) rfl ?_)
      refine G_get (o := 13) (c := 4) (k := 1) (v := M9 13 1) d_Re_readClassBehind_31 fl_Re_18 rfl (by decide) (by decide) rfl rfl (G_pc (pc' := 34) rfl ?_)
      rw [show M9 13 1 = ((20 + 9 * e : Nat) : Int) from RD_st hR10 he hst]
      refine G_sipush (n := 141) d_Re_readClassBehind_34 (by decide) (G_pc (pc' := 37) rfl ?_)
      refine G_iload (i := 1) (n := 2) (len := 1) (Or.inl ⟨1, rfl, rfl, d_Re_readClassBehind_37⟩) rfl (G_pc (pc' := 38) rfl ?_)
      refine G_iload (i := 2) (n := 0) (len := 1) (Or.inl ⟨2, rfl, rfl, d_Re_readClassBehind_38⟩) rfl (G_pc (pc' := 39) rfl ?_)
      refine G_callV (K1 := KE) (d2 := 1) (o := (20 + 9 * e)) (cl := 5) (as := [vi 141, vi (ts S), vi (w32 (tnum (T (k + 1)) (W (k + 1))))]) (rest := []) d_Re_readClassBehind_39 mf_St_add ml_Re_56 (kd_St he) rfl (by show 20 + 9 * e < 87; omega) rfl rfl (Nat.le_of_ble_eq_true rfl) (by omega) ⟨Nat.le_refl _, Nat.le_refl _⟩ (g_St_add (by omega) e 141 (ts S) (w32 (tnum (T (k + 1)) (W (k + 1)))) M9 he (by have h9 := RD_n hR10; omega)) (fun r16 M17 kq18 q18 => ?_)
      clear kq18; obtain ⟨q18a, q18b⟩ := q18; subst r16; subst M17
      rw [RD_n hR10]
      refine G_ps (pc' := 42) (st' := [vi ((S).length : Int)]) rfl rfl ?_
      refine G_abs (R := fun M9 => RD e M0 M9 (S ++ [(141, ts S, w32 (tnum (T (k + 1)) (W (k + 1))), 0, 0, 0)]) (k + 2) o a) (RD_add hR10 (by first | decide | omega) he) (fun M19 hR20 => ?_)
      have hl21 : ((S ++ [(141, ts S, w32 (tnum (T (k + 1)) (W (k + 1))), 0, 0, 0)]).length : Int) = (S).length + 1 := len_add _ _
      refine G_goto (tgt := 46) d_Re_readClassBehind_42 (by decide) ?_
      refine G_iret d_Re_readClassBehind_46 rfl (tokI (by omega)) rfl rfl ?_
      have e9 := tn_ty hc8 ((hTR.2.2.2.2.2 (k + 1) (by omega) (by omega)).2.1 (by omega) (by omega))
      have e8 : T (k + 1) = 8 := by omega
      rw [e9.1, e8, ck_8] at hR20
      exact Or.inr ⟨_, _, _, _, _, _, by rw [if_pos e8], by rw [ts_add], hR20⟩
  · skip
    obtain ⟨q7a, q7b⟩ := q7.2 hc8
    subst r5; subst M6
    rw [tc_140 (TR_T hTR (by omega)).1] at hc8
    refine G_ps (pc' := 20) (st' := [vi 0]) rfl rfl ?_
    refine G_if_eq (tgt := 45) d_Re_readClassBehind_20 (by decide) (fun h22 => ?_) (fun h22 => absurd h22 (by decide))
    refine G_iconst (n := (-1)) d_Re_readClassBehind_45 (by decide) (G_pc (pc' := 46) rfl ?_)
    refine G_iret d_Re_readClassBehind_46 rfl (tokI (by decide)) rfl rfl ?_
    exact Or.inl ⟨by rw [if_neg (by omega)], rfl, hR.1, RD_o hR⟩

