def addClassOK (M : Mem) (a : Int) : Prop := -1 ≤ a ∧ a < M 55 0 ∧ M 55 0 ≠ 6 ∧ M 55 10 = 0
theorem d_Mo_addClass_0 : decode b_Mo_addClass 0 = .ok (.iload_n 1, 1) := by decide +kernel
theorem d_Mo_addClass_1 : decode b_Mo_addClass 1 = .ok (.iconst (-1), 1) := by decide +kernel
theorem d_Mo_addClass_2 : decode b_Mo_addClass 2 = .ok (.if_icmp .lt 27, 3) := by decide +kernel
theorem d_Mo_addClass_5 : decode b_Mo_addClass 5 = .ok (.iload_n 1, 1) := by decide +kernel
theorem d_Mo_addClass_6 : decode b_Mo_addClass 6 = .ok (.aload_n 0, 1) := by decide +kernel
theorem d_Mo_addClass_7 : decode b_Mo_addClass 7 = .ok (.getfield 109, 3) := by decide +kernel
theorem d_Mo_addClass_10 : decode b_Mo_addClass 10 = .ok (.if_icmp .ge 19, 3) := by decide +kernel
theorem d_Mo_addClass_13 : decode b_Mo_addClass 13 = .ok (.aload_n 0, 1) := by decide +kernel
theorem d_Mo_addClass_14 : decode b_Mo_addClass 14 = .ok (.getfield 109, 3) := by decide +kernel
theorem d_Mo_addClass_17 : decode b_Mo_addClass 17 = .ok (.bipush 6, 2) := by decide +kernel
theorem d_Mo_addClass_19 : decode b_Mo_addClass 19 = .ok (.if_icmp .eq 10, 3) := by decide +kernel
theorem d_Mo_addClass_22 : decode b_Mo_addClass 22 = .ok (.aload_n 0, 1) := by decide +kernel
theorem d_Mo_addClass_23 : decode b_Mo_addClass 23 = .ok (.getfield 123, 3) := by decide +kernel
theorem d_Mo_addClass_26 : decode b_Mo_addClass 26 = .ok (.ifCond .eq 5, 3) := by decide +kernel
theorem d_Mo_addClass_29 : decode b_Mo_addClass 29 = .ok (.iconst (-1), 1) := by decide +kernel
theorem d_Mo_addClass_30 : decode b_Mo_addClass 30 = .ok (.ireturn, 1) := by decide +kernel
theorem d_Mo_addClass_31 : decode b_Mo_addClass 31 = .ok (.aload_n 0, 1) := by decide +kernel
theorem d_Mo_addClass_32 : decode b_Mo_addClass 32 = .ok (.getfield 7, 3) := by decide +kernel
theorem d_Mo_addClass_35 : decode b_Mo_addClass 35 = .ok (.aload_n 0, 1) := by decide +kernel
theorem d_Mo_addClass_36 : decode b_Mo_addClass 36 = .ok (.getfield 109, 3) := by decide +kernel
theorem d_Mo_addClass_39 : decode b_Mo_addClass 39 = .ok (.iload_n 1, 1) := by decide +kernel
theorem d_Mo_addClass_40 : decode b_Mo_addClass 40 = .ok (.iastore, 1) := by decide +kernel
theorem d_Mo_addClass_41 : decode b_Mo_addClass 41 = .ok (.aload_n 0, 1) := by decide +kernel
theorem d_Mo_addClass_42 : decode b_Mo_addClass 42 = .ok (.dup, 1) := by decide +kernel
theorem d_Mo_addClass_43 : decode b_Mo_addClass 43 = .ok (.getfield 109, 3) := by decide +kernel
theorem d_Mo_addClass_46 : decode b_Mo_addClass 46 = .ok (.iconst 1, 1) := by decide +kernel
theorem d_Mo_addClass_47 : decode b_Mo_addClass 47 = .ok (.iadd, 1) := by decide +kernel
theorem d_Mo_addClass_48 : decode b_Mo_addClass 48 = .ok (.putfield 109, 3) := by decide +kernel
theorem d_Mo_addClass_51 : decode b_Mo_addClass 51 = .ok (.aload_n 0, 1) := by decide +kernel
theorem d_Mo_addClass_52 : decode b_Mo_addClass 52 = .ok (.getfield 109, 3) := by decide +kernel
theorem d_Mo_addClass_55 : decode b_Mo_addClass 55 = .ok (.iconst 1, 1) := by decide +kernel
theorem d_Mo_addClass_56 : decode b_Mo_addClass 56 = .ok (.isub, 1) := by decide +kernel
theorem d_Mo_addClass_57 : decode b_Mo_addClass 57 = .ok (.ireturn, 1) := by decide +kernel
theorem g_Mo_addClass {X : WX} {d : Nat} (hd : 0 ≤ d) (a : Int) (M : Mem) (hc : 0 ≤ M 55 0 ∧ M 55 0 ≤ 6) : MG X gt d KE KE y_Mo_addClass b_Mo_addClass 2 (some .int) [vr 55, vi a] M (fun r M' => (addClassOK M a → r = some (vi (M 55 0)) ∧ M' = (mset (mset M 56 (M 55 0) a) 55 0 (M 55 0 + 1))) ∧ (¬ addClassOK M a → r = some (vi (-1)) ∧ M' = M)) := by
  refine MG_of_G (by decide) (Nat.le_of_ble_eq_true rfl) (Nat.le_refl _) (by decide) ?_
  show G X gt d KE KE y_Mo_addClass b_Mo_addClass 2 (some .int) _ 0 [(0, vr 55), (1, vi a)] [] KE M
  refine G_rngl (i := 1) rfl (fun hr1 => ?_)
  refine G_iload (i := 1) (n := 1) (len := 1) (Or.inl ⟨1, rfl, rfl, d_Mo_addClass_0⟩) rfl (G_pc (pc' := 1) rfl ?_)
  refine G_iconst (n := (-1)) d_Mo_addClass_1 (by decide) (G_pc (pc' := 2) rfl ?_)
  refine G_icmp_lt (tgt := 29) d_Mo_addClass_2 (by decide) (fun h1 => ?_) (fun h1 => G_pc (pc' := 5) rfl ?_)
  · skip
    refine G_iconst (n := (-1)) d_Mo_addClass_29 (by decide) (G_pc (pc' := 30) rfl ?_)
    refine G_iret d_Mo_addClass_30 rfl (tokI (by decide)) rfl rfl ?_
    exact ⟨fun h => absurd h (by unfold addClassOK; grind [isKindB, inB, refB, numB]), fun _ => ⟨rfl, rfl⟩⟩
  · skip
    refine G_iload (i := 1) (n := 1) (len := 1) (Or.inl ⟨1, rfl, rfl, d_Mo_addClass_5⟩) rfl (G_pc (pc' := 6) rfl ?_)
    refine G_aload (i := 0) (n := 0) (len := 1) (Or.inl ⟨0, rfl, rfl, d_Mo_addClass_6⟩) rfl (by decide) (G_pc (pc' := 7) rfl ?_)
    refine G_get (o := 55) (c := 9) (k := 0) (v := M 55 0) d_Mo_addClass_7 fl_Mo_109 rfl (by decide) (by decide) rfl rfl (G_pc (pc' := 10) rfl ?_)
    refine G_icmp_ge (tgt := 29) d_Mo_addClass_10 (by decide) (fun h2 => ?_) (fun h2 => G_pc (pc' := 13) rfl ?_)
    · skip
      refine G_iconst (n := (-1)) d_Mo_addClass_29 (by decide) (G_pc (pc' := 30) rfl ?_)
      refine G_iret d_Mo_addClass_30 rfl (tokI (by decide)) rfl rfl ?_
      exact ⟨fun h => absurd h (by unfold addClassOK; grind [isKindB, inB, refB, numB]), fun _ => ⟨rfl, rfl⟩⟩
    · skip
      refine G_aload (i := 0) (n := 0) (len := 1) (Or.inl ⟨0, rfl, rfl, d_Mo_addClass_13⟩) rfl (by decide) (G_pc (pc' := 14) rfl ?_)
      refine G_get (o := 55) (c := 9) (k := 0) (v := M 55 0) d_Mo_addClass_14 fl_Mo_109 rfl (by decide) (by decide) rfl rfl (G_pc (pc' := 17) rfl ?_)
      refine G_bipush (n := 6) d_Mo_addClass_17 (by decide) (G_pc (pc' := 19) rfl ?_)
      refine G_icmp_eq (tgt := 29) d_Mo_addClass_19 (by decide) (fun h3 => ?_) (fun h3 => G_pc (pc' := 22) rfl ?_)
      · skip
        refine G_iconst (n := (-1)) d_Mo_addClass_29 (by decide) (G_pc (pc' := 30) rfl ?_)
        refine G_iret d_Mo_addClass_30 rfl (tokI (by decide)) rfl rfl ?_
        exact ⟨fun h => absurd h (by unfold addClassOK; grind [isKindB, inB, refB, numB]), fun _ => ⟨rfl, rfl⟩⟩
      · skip
        refine G_aload (i := 0) (n := 0) (len := 1) (Or.inl ⟨0, rfl, rfl, d_Mo_addClass_22⟩) rfl (by decide) (G_pc (pc' := 23) rfl ?_)
        refine G_get (o := 55) (c := 9) (k := 10) (v := M 55 10) d_Mo_addClass_23 fl_Mo_123 rfl (by decide) (by decide) rfl rfl (G_pc (pc' := 26) rfl ?_)
        refine G_if_eq (tgt := 31) d_Mo_addClass_26 (by decide) (fun h4 => ?_) (fun h4 => G_pc (pc' := 29) rfl ?_)
        · skip
          refine G_aload (i := 0) (n := 0) (len := 1) (Or.inl ⟨0, rfl, rfl, d_Mo_addClass_31⟩) rfl (by decide) (G_pc (pc' := 32) rfl ?_)
          refine G_get (o := 55) (c := 9) (k := 1) (v := 56) d_Mo_addClass_32 fl_Mo_7 rfl (by decide) (by decide) rfl rfl (G_pc (pc' := 35) rfl ?_)
          refine G_aload (i := 0) (n := 0) (len := 1) (Or.inl ⟨0, rfl, rfl, d_Mo_addClass_35⟩) rfl (by decide) (G_pc (pc' := 36) rfl ?_)
          refine G_get (o := 55) (c := 9) (k := 0) (v := M 55 0) d_Mo_addClass_36 fl_Mo_109 rfl (by decide) (by decide) rfl rfl (G_pc (pc' := 39) rfl ?_)
          refine G_iload (i := 1) (n := 1) (len := 1) (Or.inl ⟨1, rfl, rfl, d_Mo_addClass_39⟩) rfl (G_pc (pc' := 40) rfl ?_)
          refine G_iastore (o := 56) (n := 6) (i := M 55 0) (x := a) d_Mo_addClass_40 rfl ⟨by decide, by decide⟩ (by decide) (gt_arr rfl _) (by omega) (tokI (by omega)) (G_pc (pc' := 41) rfl ?_)
          refine G_aload (i := 0) (n := 0) (len := 1) (Or.inl ⟨0, rfl, rfl, d_Mo_addClass_41⟩) rfl (by decide) (G_pc (pc' := 42) rfl ?_)
          refine G_dup d_Mo_addClass_42 (fun _ h => by cases h) (G_pc (pc' := 43) rfl ?_)
          refine G_get (o := 55) (c := 9) (k := 0) (v := M 55 0) d_Mo_addClass_43 fl_Mo_109 rfl (by decide) (by decide) rfl rfl (G_pc (pc' := 46) rfl ?_)
          refine G_iconst (n := 1) d_Mo_addClass_46 (by decide) (G_pc (pc' := 47) rfl ?_)
          refine G_iadd d_Mo_addClass_47 (by omega) (G_pc (pc' := 48) rfl ?_)
          refine G_putL (o := 55) (c := 9) (k := 0) (ki := 0) (x := (M 55 0) + 1) d_Mo_addClass_48 fl_Mo_109 rfl rfl (by decide) (by decide) (by decide) rfl rfl (tokI (by omega)) rfl (G_pc (pc' := 51) rfl ?_)
          refine G_aload (i := 0) (n := 0) (len := 1) (Or.inl ⟨0, rfl, rfl, d_Mo_addClass_51⟩) rfl (by decide) (G_pc (pc' := 52) rfl ?_)
          refine G_get (o := 55) (c := 9) (k := 0) (v := (M 55 0) + 1) d_Mo_addClass_52 fl_Mo_109 rfl (by decide) (by decide) rfl rfl (G_pc (pc' := 55) rfl ?_)
          refine G_iconst (n := 1) d_Mo_addClass_55 (by decide) (G_pc (pc' := 56) rfl ?_)
          refine G_isub d_Mo_addClass_56 (by omega) (G_pc (pc' := 57) rfl ?_)
          refine G_iret d_Mo_addClass_57 rfl (tokI (by omega)) rfl rfl ?_
          exact ⟨fun _ => ⟨by first | rfl | (congr 2; omega), rfl⟩, fun h => absurd (show addClassOK M a by unfold addClassOK; grind [isKindB, inB, refB, numB]) h⟩
        · skip
          refine G_iconst (n := (-1)) d_Mo_addClass_29 (by decide) (G_pc (pc' := 30) rfl ?_)
          refine G_iret d_Mo_addClass_30 rfl (tokI (by decide)) rfl rfl ?_
          exact ⟨fun h => absurd h (by unfold addClassOK; grind [isKindB, inB, refB, numB]), fun _ => ⟨rfl, rfl⟩⟩

def addVarOK (M : Mem) (name kind : Int) : Prop := (0 ≤ name ∧ name < 27) ∧ isKindB (M 55 0) kind = true ∧ M 55 10 = 0 ∧ M 58 name < 0 ∧ ¬ (name = 26 ∧ (kind < 4 ∨ kind > 9))
theorem d_Mo_addVariable_0 : decode b_Mo_addVariable 0 = .ok (.iload_n 1, 1) := by decide +kernel
theorem d_Mo_addVariable_1 : decode b_Mo_addVariable 1 = .ok (.bipush 27, 2) := by decide +kernel
theorem d_Mo_addVariable_3 : decode b_Mo_addVariable 3 = .ok (.invokestatic 105, 3) := by decide +kernel
theorem d_Mo_addVariable_6 : decode b_Mo_addVariable 6 = .ok (.ifCond .eq 44, 3) := by decide +kernel
theorem d_Mo_addVariable_9 : decode b_Mo_addVariable 9 = .ok (.aload_n 0, 1) := by decide +kernel
theorem d_Mo_addVariable_10 : decode b_Mo_addVariable 10 = .ok (.iload_n 2, 1) := by decide +kernel
theorem d_Mo_addVariable_11 : decode b_Mo_addVariable 11 = .ok (.invokevirtual 127, 3) := by decide +kernel
theorem d_Mo_addVariable_14 : decode b_Mo_addVariable 14 = .ok (.ifCond .eq 36, 3) := by decide +kernel
theorem d_Mo_addVariable_17 : decode b_Mo_addVariable 17 = .ok (.aload_n 0, 1) := by decide +kernel
theorem d_Mo_addVariable_18 : decode b_Mo_addVariable 18 = .ok (.getfield 123, 3) := by decide +kernel
theorem d_Mo_addVariable_21 : decode b_Mo_addVariable 21 = .ok (.ifCond .ne 29, 3) := by decide +kernel
theorem d_Mo_addVariable_24 : decode b_Mo_addVariable 24 = .ok (.aload_n 0, 1) := by decide +kernel
theorem d_Mo_addVariable_25 : decode b_Mo_addVariable 25 = .ok (.getfield 16, 3) := by decide +kernel
theorem d_Mo_addVariable_28 : decode b_Mo_addVariable 28 = .ok (.iload_n 1, 1) := by decide +kernel
theorem d_Mo_addVariable_29 : decode b_Mo_addVariable 29 = .ok (.iaload, 1) := by decide +kernel
theorem d_Mo_addVariable_30 : decode b_Mo_addVariable 30 = .ok (.ifCond .ge 20, 3) := by decide +kernel
theorem d_Mo_addVariable_33 : decode b_Mo_addVariable 33 = .ok (.iload_n 1, 1) := by decide +kernel
theorem d_Mo_addVariable_34 : decode b_Mo_addVariable 34 = .ok (.bipush 26, 2) := by decide +kernel
theorem d_Mo_addVariable_36 : decode b_Mo_addVariable 36 = .ok (.if_icmp .ne 16, 3) := by decide +kernel
theorem d_Mo_addVariable_39 : decode b_Mo_addVariable 39 = .ok (.iload_n 2, 1) := by decide +kernel
theorem d_Mo_addVariable_40 : decode b_Mo_addVariable 40 = .ok (.iconst 4, 1) := by decide +kernel
theorem d_Mo_addVariable_41 : decode b_Mo_addVariable 41 = .ok (.if_icmp .lt 9, 3) := by decide +kernel
theorem d_Mo_addVariable_44 : decode b_Mo_addVariable 44 = .ok (.iload_n 2, 1) := by decide +kernel
theorem d_Mo_addVariable_45 : decode b_Mo_addVariable 45 = .ok (.bipush 9, 2) := by decide +kernel
theorem d_Mo_addVariable_47 : decode b_Mo_addVariable 47 = .ok (.if_icmp .le 5, 3) := by decide +kernel
theorem d_Mo_addVariable_50 : decode b_Mo_addVariable 50 = .ok (.iconst 0, 1) := by decide +kernel
theorem d_Mo_addVariable_51 : decode b_Mo_addVariable 51 = .ok (.ireturn, 1) := by decide +kernel
theorem d_Mo_addVariable_52 : decode b_Mo_addVariable 52 = .ok (.aload_n 0, 1) := by decide +kernel
theorem d_Mo_addVariable_53 : decode b_Mo_addVariable 53 = .ok (.getfield 16, 3) := by decide +kernel
theorem d_Mo_addVariable_56 : decode b_Mo_addVariable 56 = .ok (.iload_n 1, 1) := by decide +kernel
theorem d_Mo_addVariable_57 : decode b_Mo_addVariable 57 = .ok (.iload_n 2, 1) := by decide +kernel
theorem d_Mo_addVariable_58 : decode b_Mo_addVariable 58 = .ok (.iastore, 1) := by decide +kernel
theorem d_Mo_addVariable_59 : decode b_Mo_addVariable 59 = .ok (.iconst 1, 1) := by decide +kernel
theorem d_Mo_addVariable_60 : decode b_Mo_addVariable 60 = .ok (.ireturn, 1) := by decide +kernel
theorem g_Mo_addVariable {X : WX} {d : Nat} (hd : 2 ≤ d) (name kind : Int) (M : Mem) (hc : 0 ≤ M 55 0 ∧ M 55 0 ≤ 6) : MG X gt d KE KE y_Mo_addVariable b_Mo_addVariable 3 (some .boolean) [vr 55, vi name, vi kind] M (fun r M' => (addVarOK M name kind → r = some (vi 1) ∧ M' = (mset M 58 name kind)) ∧ (¬ addVarOK M name kind → r = some (vi 0) ∧ M' = M)) := by
  refine MG_of_G (by decide) (Nat.le_of_ble_eq_true rfl) (Nat.le_refl _) (by decide) ?_
  show G X gt d KE KE y_Mo_addVariable b_Mo_addVariable 3 (some .boolean) _ 0 [(0, vr 55), (1, vi name), (2, vi kind)] [] KE M
  refine G_rngl (i := 1) rfl (fun hr1 => ?_)
  refine G_rngl (i := 2) rfl (fun hr2 => ?_)
  refine G_iload (i := 1) (n := 1) (len := 1) (Or.inl ⟨1, rfl, rfl, d_Mo_addVariable_0⟩) rfl (G_pc (pc' := 1) rfl ?_)
  refine G_bipush (n := 27) d_Mo_addVariable_1 (by decide) (G_pc (pc' := 3) rfl ?_)
  refine G_callS (K1 := KE) (d2 := 0) (as := [vi name, vi 27]) (rest := []) d_Mo_addVariable_3 mf_Mo_in ml_Mo_105 rfl rfl (by decide) (by omega) ⟨Nat.le_refl _, Nat.le_refl _⟩ (g_Mo_in (by omega) name 27 _) (fun r1 M2 kq3 q3 => ?_)
  clear kq3; obtain ⟨q3a, q3b⟩ := q3; subst r1; subst M2
  refine G_ps (pc' := 6) (st' := [vi (b2i (inB name 27))]) rfl rfl ?_
  refine G_if_eq (tgt := 50) d_Mo_addVariable_6 (by decide) (fun h4 => ?_) (fun h4 => G_pc (pc' := 9) rfl ?_)
  · skip
    replace h4 := b2i_0.mp h4
    replace h4 := inB_f.mp h4
    refine G_iconst (n := 0) d_Mo_addVariable_50 (by decide) (G_pc (pc' := 51) rfl ?_)
    refine G_iret d_Mo_addVariable_51 rfl (tokZ (by decide)) rfl rfl ?_
    exact ⟨fun h => absurd h (by unfold addVarOK; grind [isKindB, inB, refB, numB]), fun _ => ⟨rfl, rfl⟩⟩
  · skip
    replace h4 := b2i_nz.mp h4
    replace h4 := inB_t.mp h4
    refine G_aload (i := 0) (n := 0) (len := 1) (Or.inl ⟨0, rfl, rfl, d_Mo_addVariable_9⟩) rfl (by decide) (G_pc (pc' := 10) rfl ?_)
    refine G_iload (i := 2) (n := 2) (len := 1) (Or.inl ⟨2, rfl, rfl, d_Mo_addVariable_10⟩) rfl (G_pc (pc' := 11) rfl ?_)
    refine G_callV (K1 := KE) (d2 := 1) (o := 55) (cl := 9) (as := [vi kind]) (rest := []) d_Mo_addVariable_11 mf_Mo_isKind ml_Mo_127 rfl rfl (by decide) rfl rfl (by decide) (by omega) ⟨Nat.le_refl _, Nat.le_refl _⟩ (g_Mo_isKind (by omega) kind _ hc) (fun r5 M6 kq7 q7 => ?_)
    clear kq7; obtain ⟨q7a, q7b⟩ := q7; subst r5; subst M6
    refine G_ps (pc' := 14) (st' := [vi (b2i (isKindB (M 55 0) kind))]) rfl rfl ?_
    refine G_if_eq (tgt := 50) d_Mo_addVariable_14 (by decide) (fun h8 => ?_) (fun h8 => G_pc (pc' := 17) rfl ?_)
    · skip
      replace h8 := b2i_0.mp h8
      replace h8 := isKindB_f.mp h8
      refine G_iconst (n := 0) d_Mo_addVariable_50 (by decide) (G_pc (pc' := 51) rfl ?_)
      refine G_iret d_Mo_addVariable_51 rfl (tokZ (by decide)) rfl rfl ?_
      exact ⟨fun h => absurd h (by unfold addVarOK; grind [isKindB, inB, refB, numB]), fun _ => ⟨rfl, rfl⟩⟩
    · skip
      replace h8 := b2i_nz.mp h8
      replace h8 := isKindB_t.mp h8
      refine G_aload (i := 0) (n := 0) (len := 1) (Or.inl ⟨0, rfl, rfl, d_Mo_addVariable_17⟩) rfl (by decide) (G_pc (pc' := 18) rfl ?_)
      refine G_get (o := 55) (c := 9) (k := 10) (v := M 55 10) d_Mo_addVariable_18 fl_Mo_123 rfl (by decide) (by decide) rfl rfl (G_pc (pc' := 21) rfl ?_)
      refine G_if_ne (tgt := 50) d_Mo_addVariable_21 (by decide) (fun h9 => ?_) (fun h9 => G_pc (pc' := 24) rfl ?_)
      · skip
        refine G_iconst (n := 0) d_Mo_addVariable_50 (by decide) (G_pc (pc' := 51) rfl ?_)
        refine G_iret d_Mo_addVariable_51 rfl (tokZ (by decide)) rfl rfl ?_
        exact ⟨fun h => absurd h (by unfold addVarOK; grind [isKindB, inB, refB, numB]), fun _ => ⟨rfl, rfl⟩⟩
      · skip
        refine G_aload (i := 0) (n := 0) (len := 1) (Or.inl ⟨0, rfl, rfl, d_Mo_addVariable_24⟩) rfl (by decide) (G_pc (pc' := 25) rfl ?_)
        refine G_get (o := 55) (c := 9) (k := 3) (v := 58) d_Mo_addVariable_25 fl_Mo_16 rfl (by decide) (by decide) rfl rfl (G_pc (pc' := 28) rfl ?_)
        refine G_iload (i := 1) (n := 1) (len := 1) (Or.inl ⟨1, rfl, rfl, d_Mo_addVariable_28⟩) rfl (G_pc (pc' := 29) rfl ?_)
        refine G_iaload (o := 58) (n := 27) (i := name) (v := M 58 name) d_Mo_addVariable_29 rfl ⟨by decide, by decide⟩ (by omega) (rd_arr rfl) (fun t10 => G_pc (pc' := 30) rfl ?_)
        have t10 := tok_i t10
        refine G_if_ge (tgt := 50) d_Mo_addVariable_30 (by decide) (fun h11 => ?_) (fun h11 => G_pc (pc' := 33) rfl ?_)
        · skip
          refine G_iconst (n := 0) d_Mo_addVariable_50 (by decide) (G_pc (pc' := 51) rfl ?_)
          refine G_iret d_Mo_addVariable_51 rfl (tokZ (by decide)) rfl rfl ?_
          exact ⟨fun h => absurd h (by unfold addVarOK; grind [isKindB, inB, refB, numB]), fun _ => ⟨rfl, rfl⟩⟩
        · skip
          refine G_iload (i := 1) (n := 1) (len := 1) (Or.inl ⟨1, rfl, rfl, d_Mo_addVariable_33⟩) rfl (G_pc (pc' := 34) rfl ?_)
          refine G_bipush (n := 26) d_Mo_addVariable_34 (by decide) (G_pc (pc' := 36) rfl ?_)
          refine G_icmp_ne (tgt := 52) d_Mo_addVariable_36 (by decide) (fun h12 => ?_) (fun h12 => G_pc (pc' := 39) rfl ?_)
          · skip
            refine G_aload (i := 0) (n := 0) (len := 1) (Or.inl ⟨0, rfl, rfl, d_Mo_addVariable_52⟩) rfl (by decide) (G_pc (pc' := 53) rfl ?_)
            refine G_get (o := 55) (c := 9) (k := 3) (v := 58) d_Mo_addVariable_53 fl_Mo_16 rfl (by decide) (by decide) rfl rfl (G_pc (pc' := 56) rfl ?_)
            refine G_iload (i := 1) (n := 1) (len := 1) (Or.inl ⟨1, rfl, rfl, d_Mo_addVariable_56⟩) rfl (G_pc (pc' := 57) rfl ?_)
            refine G_iload (i := 2) (n := 2) (len := 1) (Or.inl ⟨2, rfl, rfl, d_Mo_addVariable_57⟩) rfl (G_pc (pc' := 58) rfl ?_)
            refine G_iastore (o := 58) (n := 27) (i := name) (x := kind) d_Mo_addVariable_58 rfl ⟨by decide, by decide⟩ (by decide) (gt_arr rfl _) (by omega) (tokI (by omega)) (G_pc (pc' := 59) rfl ?_)
            refine G_iconst (n := 1) d_Mo_addVariable_59 (by decide) (G_pc (pc' := 60) rfl ?_)
            refine G_iret d_Mo_addVariable_60 rfl (tokZ (by decide)) rfl rfl ?_
            exact ⟨fun _ => ⟨by first | rfl | (congr 2; omega), rfl⟩, fun h => absurd (show addVarOK M name kind by unfold addVarOK; grind [isKindB, inB, refB, numB]) h⟩
          · skip
            refine G_iload (i := 2) (n := 2) (len := 1) (Or.inl ⟨2, rfl, rfl, d_Mo_addVariable_39⟩) rfl (G_pc (pc' := 40) rfl ?_)
            refine G_iconst (n := 4) d_Mo_addVariable_40 (by decide) (G_pc (pc' := 41) rfl ?_)
            refine G_icmp_lt (tgt := 50) d_Mo_addVariable_41 (by decide) (fun h13 => ?_) (fun h13 => G_pc (pc' := 44) rfl ?_)
            · skip
              refine G_iconst (n := 0) d_Mo_addVariable_50 (by decide) (G_pc (pc' := 51) rfl ?_)
              refine G_iret d_Mo_addVariable_51 rfl (tokZ (by decide)) rfl rfl ?_
              exact ⟨fun h => absurd h (by unfold addVarOK; grind [isKindB, inB, refB, numB]), fun _ => ⟨rfl, rfl⟩⟩
            · skip
              refine G_iload (i := 2) (n := 2) (len := 1) (Or.inl ⟨2, rfl, rfl, d_Mo_addVariable_44⟩) rfl (G_pc (pc' := 45) rfl ?_)
              refine G_bipush (n := 9) d_Mo_addVariable_45 (by decide) (G_pc (pc' := 47) rfl ?_)
              refine G_icmp_le (tgt := 52) d_Mo_addVariable_47 (by decide) (fun h14 => ?_) (fun h14 => G_pc (pc' := 50) rfl ?_)
              · skip
                refine G_aload (i := 0) (n := 0) (len := 1) (Or.inl ⟨0, rfl, rfl, d_Mo_addVariable_52⟩) rfl (by decide) (G_pc (pc' := 53) rfl ?_)
                refine G_get (o := 55) (c := 9) (k := 3) (v := 58) d_Mo_addVariable_53 fl_Mo_16 rfl (by decide) (by decide) rfl rfl (G_pc (pc' := 56) rfl ?_)
                refine G_iload (i := 1) (n := 1) (len := 1) (Or.inl ⟨1, rfl, rfl, d_Mo_addVariable_56⟩) rfl (G_pc (pc' := 57) rfl ?_)
                refine G_iload (i := 2) (n := 2) (len := 1) (Or.inl ⟨2, rfl, rfl, d_Mo_addVariable_57⟩) rfl (G_pc (pc' := 58) rfl ?_)
                refine G_iastore (o := 58) (n := 27) (i := name) (x := kind) d_Mo_addVariable_58 rfl ⟨by decide, by decide⟩ (by decide) (gt_arr rfl _) (by omega) (tokI (by omega)) (G_pc (pc' := 59) rfl ?_)
                refine G_iconst (n := 1) d_Mo_addVariable_59 (by decide) (G_pc (pc' := 60) rfl ?_)
                refine G_iret d_Mo_addVariable_60 rfl (tokZ (by decide)) rfl rfl ?_
                exact ⟨fun _ => ⟨by first | rfl | (congr 2; omega), rfl⟩, fun h => absurd (show addVarOK M name kind by unfold addVarOK; grind [isKindB, inB, refB, numB]) h⟩
              · skip
                refine G_iconst (n := 0) d_Mo_addVariable_50 (by decide) (G_pc (pc' := 51) rfl ?_)
                refine G_iret d_Mo_addVariable_51 rfl (tokZ (by decide)) rfl rfl ?_
                exact ⟨fun h => absurd h (by unfold addVarOK; grind [isKindB, inB, refB, numB]), fun _ => ⟨rfl, rfl⟩⟩

def makeOK (M : Mem) (kind len : Int) : Prop := isKindB (M 55 0) kind = true ∧ ¬ kind < 4 ∧ ¬ (10 ≤ kind ∧ ¬ (0 ≤ len ∧ len < 6)) ∧ M 55 5 ≠ 12 ∧ M 55 9 = 0
def makeM (M : Mem) (kind len : Int) : Mem := mset (mset (mset M 55 5 (M 55 5 + 1)) 60 (M 55 5 + 1) kind) 61 (M 55 5 + 1) (if 10 ≤ kind then len else 0)
theorem d_Mo_make_0 : decode b_Mo_make 0 = .ok (.iload_n 1, 1) := by decide +kernel
theorem d_Mo_make_1 : decode b_Mo_make 1 = .ok (.bipush 10, 2) := by decide +kernel
theorem d_Mo_make_3 : decode b_Mo_make 3 = .ok (.if_icmp .lt 7, 3) := by decide +kernel
theorem d_Mo_make_6 : decode b_Mo_make 6 = .ok (.iconst 1, 1) := by decide +kernel
theorem d_Mo_make_7 : decode b_Mo_make 7 = .ok (.goto 4, 3) := by decide +kernel
theorem d_Mo_make_10 : decode b_Mo_make 10 = .ok (.iconst 0, 1) := by decide +kernel
theorem d_Mo_make_11 : decode b_Mo_make 11 = .ok (.istore_n 3, 1) := by decide +kernel
theorem d_Mo_make_12 : decode b_Mo_make 12 = .ok (.aload_n 0, 1) := by decide +kernel
theorem d_Mo_make_13 : decode b_Mo_make 13 = .ok (.iload_n 1, 1) := by decide +kernel
theorem d_Mo_make_14 : decode b_Mo_make 14 = .ok (.invokevirtual 127, 3) := by decide +kernel
theorem d_Mo_make_17 : decode b_Mo_make 17 = .ok (.ifCond .eq 37, 3) := by decide +kernel
theorem d_Mo_make_20 : decode b_Mo_make 20 = .ok (.iload_n 1, 1) := by decide +kernel
theorem d_Mo_make_21 : decode b_Mo_make 21 = .ok (.iconst 4, 1) := by decide +kernel
theorem d_Mo_make_22 : decode b_Mo_make 22 = .ok (.if_icmp .lt 32, 3) := by decide +kernel
theorem d_Mo_make_25 : decode b_Mo_make 25 = .ok (.iload_n 3, 1) := by decide +kernel
theorem d_Mo_make_26 : decode b_Mo_make 26 = .ok (.ifCond .eq 12, 3) := by decide +kernel
theorem d_Mo_make_29 : decode b_Mo_make 29 = .ok (.iload_n 2, 1) := by decide +kernel
theorem d_Mo_make_30 : decode b_Mo_make 30 = .ok (.bipush 6, 2) := by decide +kernel
theorem d_Mo_make_32 : decode b_Mo_make 32 = .ok (.invokestatic 105, 3) := by decide +kernel
theorem d_Mo_make_35 : decode b_Mo_make 35 = .ok (.ifCond .eq 19, 3) := by decide +kernel
theorem d_Mo_make_38 : decode b_Mo_make 38 = .ok (.aload_n 0, 1) := by decide +kernel
theorem d_Mo_make_39 : decode b_Mo_make 39 = .ok (.getfield 130, 3) := by decide +kernel
theorem d_Mo_make_42 : decode b_Mo_make 42 = .ok (.bipush 12, 2) := by decide +kernel
theorem d_Mo_make_44 : decode b_Mo_make 44 = .ok (.if_icmp .eq 10, 3) := by decide +kernel
theorem d_Mo_make_47 : decode b_Mo_make 47 = .ok (.aload_n 0, 1) := by decide +kernel
theorem d_Mo_make_48 : decode b_Mo_make 48 = .ok (.getfield 133, 3) := by decide +kernel
theorem d_Mo_make_51 : decode b_Mo_make 51 = .ok (.ifCond .eq 5, 3) := by decide +kernel
theorem d_Mo_make_54 : decode b_Mo_make 54 = .ok (.iconst (-1), 1) := by decide +kernel
theorem d_Mo_make_55 : decode b_Mo_make 55 = .ok (.ireturn, 1) := by decide +kernel
theorem d_Mo_make_56 : decode b_Mo_make 56 = .ok (.aload_n 0, 1) := by decide +kernel
theorem d_Mo_make_57 : decode b_Mo_make 57 = .ok (.dup, 1) := by decide +kernel
theorem d_Mo_make_58 : decode b_Mo_make 58 = .ok (.getfield 130, 3) := by decide +kernel
theorem d_Mo_make_61 : decode b_Mo_make 61 = .ok (.iconst 1, 1) := by decide +kernel
theorem d_Mo_make_62 : decode b_Mo_make 62 = .ok (.iadd, 1) := by decide +kernel
theorem d_Mo_make_63 : decode b_Mo_make 63 = .ok (.putfield 130, 3) := by decide +kernel
theorem d_Mo_make_66 : decode b_Mo_make 66 = .ok (.aload_n 0, 1) := by decide +kernel
theorem d_Mo_make_67 : decode b_Mo_make 67 = .ok (.getfield 23, 3) := by decide +kernel
theorem d_Mo_make_70 : decode b_Mo_make 70 = .ok (.aload_n 0, 1) := by decide +kernel
theorem d_Mo_make_71 : decode b_Mo_make 71 = .ok (.getfield 130, 3) := by decide +kernel
theorem d_Mo_make_74 : decode b_Mo_make 74 = .ok (.iload_n 1, 1) := by decide +kernel
theorem d_Mo_make_75 : decode b_Mo_make 75 = .ok (.iastore, 1) := by decide +kernel
theorem d_Mo_make_76 : decode b_Mo_make 76 = .ok (.aload_n 0, 1) := by decide +kernel
theorem d_Mo_make_77 : decode b_Mo_make 77 = .ok (.getfield 26, 3) := by decide +kernel
theorem d_Mo_make_80 : decode b_Mo_make 80 = .ok (.aload_n 0, 1) := by decide +kernel
theorem d_Mo_make_81 : decode b_Mo_make 81 = .ok (.getfield 130, 3) := by decide +kernel
theorem d_Mo_make_84 : decode b_Mo_make 84 = .ok (.iload_n 3, 1) := by decide +kernel
theorem d_Mo_make_85 : decode b_Mo_make 85 = .ok (.ifCond .eq 7, 3) := by decide +kernel
theorem d_Mo_make_88 : decode b_Mo_make 88 = .ok (.iload_n 2, 1) := by decide +kernel
theorem d_Mo_make_89 : decode b_Mo_make 89 = .ok (.goto 4, 3) := by decide +kernel
theorem d_Mo_make_92 : decode b_Mo_make 92 = .ok (.iconst 0, 1) := by decide +kernel
theorem d_Mo_make_93 : decode b_Mo_make 93 = .ok (.iastore, 1) := by decide +kernel
theorem d_Mo_make_94 : decode b_Mo_make 94 = .ok (.aload_n 0, 1) := by decide +kernel
theorem d_Mo_make_95 : decode b_Mo_make 95 = .ok (.getfield 130, 3) := by decide +kernel
theorem d_Mo_make_98 : decode b_Mo_make 98 = .ok (.ireturn, 1) := by decide +kernel
theorem g_Mo_make {X : WX} {d : Nat} (hd : 2 ≤ d) (kind len : Int) (M : Mem) (hc : 0 ≤ M 55 0 ∧ M 55 0 ≤ 6) (hO : 0 ≤ M 55 5 ∧ M 55 5 ≤ 12) : MG X gt d KE KE y_Mo_make b_Mo_make 4 (some .int) [vr 55, vi kind, vi len] M (fun r M' => (makeOK M kind len → r = some (vi (M 55 5 + 1)) ∧ M' = makeM M kind len) ∧ (¬ makeOK M kind len → r = some (vi (-1)) ∧ M' = M)) := by
  refine MG_of_G (by decide) (Nat.le_of_ble_eq_true rfl) (Nat.le_refl _) (by decide) ?_
  show G X gt d KE KE y_Mo_make b_Mo_make 4 (some .int) _ 0 [(0, vr 55), (1, vi kind), (2, vi len)] [] KE M
  refine G_rngl (i := 1) rfl (fun hr1 => ?_)
  refine G_rngl (i := 2) rfl (fun hr2 => ?_)
  refine G_iload (i := 1) (n := 1) (len := 1) (Or.inl ⟨1, rfl, rfl, d_Mo_make_0⟩) rfl (G_pc (pc' := 1) rfl ?_)
  refine G_bipush (n := 10) d_Mo_make_1 (by decide) (G_pc (pc' := 3) rfl ?_)
  refine G_icmp_lt (tgt := 10) d_Mo_make_3 (by decide) (fun h1 => ?_) (fun h1 => G_pc (pc' := 6) rfl ?_)
  · skip
    refine G_iconst (n := 0) d_Mo_make_10 (by decide) (G_pc (pc' := 11) rfl ?_)
    refine G_istore (i := 3) (len := 1) (ls' := [(3, vi 0), (0, vr 55), (1, vi kind), (2, vi len)]) (Or.inl ⟨3, rfl, rfl, d_Mo_make_11⟩) (by decide) rfl (G_pc (pc' := 12) rfl ?_)
    refine G_aload (i := 0) (n := 1) (len := 1) (Or.inl ⟨0, rfl, rfl, d_Mo_make_12⟩) rfl (by decide) (G_pc (pc' := 13) rfl ?_)
    refine G_iload (i := 1) (n := 2) (len := 1) (Or.inl ⟨1, rfl, rfl, d_Mo_make_13⟩) rfl (G_pc (pc' := 14) rfl ?_)
    refine G_callV (K1 := KE) (d2 := 1) (o := 55) (cl := 9) (as := [vi kind]) (rest := []) d_Mo_make_14 mf_Mo_isKind ml_Mo_127 rfl rfl (by decide) rfl rfl (by decide) (by omega) ⟨Nat.le_refl _, Nat.le_refl _⟩ (g_Mo_isKind (by omega) kind _ hc) (fun r2 M3 kq4 q4 => ?_)
    clear kq4; obtain ⟨q4a, q4b⟩ := q4; subst r2; subst M3
    refine G_ps (pc' := 17) (st' := [vi (b2i (isKindB (M 55 0) kind))]) rfl rfl ?_
    refine G_if_eq (tgt := 54) d_Mo_make_17 (by decide) (fun h5 => ?_) (fun h5 => G_pc (pc' := 20) rfl ?_)
    · skip
      replace h5 := b2i_0.mp h5
      replace h5 := isKindB_f.mp h5
      refine G_iconst (n := (-1)) d_Mo_make_54 (by decide) (G_pc (pc' := 55) rfl ?_)
      refine G_iret d_Mo_make_55 rfl (tokI (by decide)) rfl rfl ?_
      exact ⟨fun h => absurd h (by unfold makeOK; grind [isKindB, inB, refB, numB]), fun _ => ⟨rfl, rfl⟩⟩
    · skip
      replace h5 := b2i_nz.mp h5
      replace h5 := isKindB_t.mp h5
      refine G_iload (i := 1) (n := 2) (len := 1) (Or.inl ⟨1, rfl, rfl, d_Mo_make_20⟩) rfl (G_pc (pc' := 21) rfl ?_)
      refine G_iconst (n := 4) d_Mo_make_21 (by decide) (G_pc (pc' := 22) rfl ?_)
      refine G_icmp_lt (tgt := 54) d_Mo_make_22 (by decide) (fun h6 => ?_) (fun h6 => G_pc (pc' := 25) rfl ?_)
      · skip
        refine G_iconst (n := (-1)) d_Mo_make_54 (by decide) (G_pc (pc' := 55) rfl ?_)
        refine G_iret d_Mo_make_55 rfl (tokI (by decide)) rfl rfl ?_
        exact ⟨fun h => absurd h (by unfold makeOK; grind [isKindB, inB, refB, numB]), fun _ => ⟨rfl, rfl⟩⟩
      · skip
        refine G_iload (i := 3) (n := 0) (len := 1) (Or.inl ⟨3, rfl, rfl, d_Mo_make_25⟩) rfl (G_pc (pc' := 26) rfl ?_)
        refine G_if_eq (tgt := 38) d_Mo_make_26 (by decide) (fun h7 => ?_) (fun h7 => absurd h7 (by decide))
        refine G_aload (i := 0) (n := 1) (len := 1) (Or.inl ⟨0, rfl, rfl, d_Mo_make_38⟩) rfl (by decide) (G_pc (pc' := 39) rfl ?_)
        refine G_get (o := 55) (c := 9) (k := 5) (v := M 55 5) d_Mo_make_39 fl_Mo_130 rfl (by decide) (by decide) rfl rfl (G_pc (pc' := 42) rfl ?_)
        refine G_bipush (n := 12) d_Mo_make_42 (by decide) (G_pc (pc' := 44) rfl ?_)
        refine G_icmp_eq (tgt := 54) d_Mo_make_44 (by decide) (fun h8 => ?_) (fun h8 => G_pc (pc' := 47) rfl ?_)
        · skip
          refine G_iconst (n := (-1)) d_Mo_make_54 (by decide) (G_pc (pc' := 55) rfl ?_)
          refine G_iret d_Mo_make_55 rfl (tokI (by decide)) rfl rfl ?_
          exact ⟨fun h => absurd h (by unfold makeOK; grind [isKindB, inB, refB, numB]), fun _ => ⟨rfl, rfl⟩⟩
        · skip
          refine G_aload (i := 0) (n := 1) (len := 1) (Or.inl ⟨0, rfl, rfl, d_Mo_make_47⟩) rfl (by decide) (G_pc (pc' := 48) rfl ?_)
          refine G_get (o := 55) (c := 9) (k := 9) (v := M 55 9) d_Mo_make_48 fl_Mo_133 rfl (by decide) (by decide) rfl rfl (G_pc (pc' := 51) rfl ?_)
          refine G_if_eq (tgt := 56) d_Mo_make_51 (by decide) (fun h9 => ?_) (fun h9 => G_pc (pc' := 54) rfl ?_)
          · skip
            refine G_aload (i := 0) (n := 1) (len := 1) (Or.inl ⟨0, rfl, rfl, d_Mo_make_56⟩) rfl (by decide) (G_pc (pc' := 57) rfl ?_)
            refine G_dup d_Mo_make_57 (fun _ h => by cases h) (G_pc (pc' := 58) rfl ?_)
            refine G_get (o := 55) (c := 9) (k := 5) (v := M 55 5) d_Mo_make_58 fl_Mo_130 rfl (by decide) (by decide) rfl rfl (G_pc (pc' := 61) rfl ?_)
            refine G_iconst (n := 1) d_Mo_make_61 (by decide) (G_pc (pc' := 62) rfl ?_)
            refine G_iadd d_Mo_make_62 (by omega) (G_pc (pc' := 63) rfl ?_)
            refine G_putL (o := 55) (c := 9) (k := 5) (ki := 5) (x := (M 55 5) + 1) d_Mo_make_63 fl_Mo_130 rfl rfl (by decide) (by decide) (by decide) rfl rfl (tokI (by omega)) rfl (G_pc (pc' := 66) rfl ?_)
            refine G_aload (i := 0) (n := 1) (len := 1) (Or.inl ⟨0, rfl, rfl, d_Mo_make_66⟩) rfl (by decide) (G_pc (pc' := 67) rfl ?_)
            refine G_get (o := 55) (c := 9) (k := 6) (v := 60) d_Mo_make_67 fl_Mo_23 rfl (by decide) (by decide) rfl rfl (G_pc (pc' := 70) rfl ?_)
            refine G_aload (i := 0) (n := 1) (len := 1) (Or.inl ⟨0, rfl, rfl, d_Mo_make_70⟩) rfl (by decide) (G_pc (pc' := 71) rfl ?_)
            refine G_get (o := 55) (c := 9) (k := 5) (v := (M 55 5) + 1) d_Mo_make_71 fl_Mo_130 rfl (by decide) (by decide) rfl rfl (G_pc (pc' := 74) rfl ?_)
            refine G_iload (i := 1) (n := 2) (len := 1) (Or.inl ⟨1, rfl, rfl, d_Mo_make_74⟩) rfl (G_pc (pc' := 75) rfl ?_)
            refine G_iastore (o := 60) (n := 13) (i := (M 55 5) + 1) (x := kind) d_Mo_make_75 rfl ⟨by decide, by decide⟩ (by decide) (gt_arr rfl _) (by omega) (tokI (by omega)) (G_pc (pc' := 76) rfl ?_)
            refine G_aload (i := 0) (n := 1) (len := 1) (Or.inl ⟨0, rfl, rfl, d_Mo_make_76⟩) rfl (by decide) (G_pc (pc' := 77) rfl ?_)
            refine G_get (o := 55) (c := 9) (k := 7) (v := 61) d_Mo_make_77 fl_Mo_26 rfl (by decide) (by decide) rfl rfl (G_pc (pc' := 80) rfl ?_)
            refine G_aload (i := 0) (n := 1) (len := 1) (Or.inl ⟨0, rfl, rfl, d_Mo_make_80⟩) rfl (by decide) (G_pc (pc' := 81) rfl ?_)
            refine G_get (o := 55) (c := 9) (k := 5) (v := (M 55 5) + 1) d_Mo_make_81 fl_Mo_130 rfl (by decide) (by decide) rfl rfl (G_pc (pc' := 84) rfl ?_)
            refine G_iload (i := 3) (n := 0) (len := 1) (Or.inl ⟨3, rfl, rfl, d_Mo_make_84⟩) rfl (G_pc (pc' := 85) rfl ?_)
            refine G_if_eq (tgt := 92) d_Mo_make_85 (by decide) (fun h10 => ?_) (fun h10 => absurd h10 (by decide))
            refine G_iconst (n := 0) d_Mo_make_92 (by decide) (G_pc (pc' := 93) rfl ?_)
            refine G_iastore (o := 61) (n := 13) (i := (M 55 5) + 1) (x := 0) d_Mo_make_93 rfl ⟨by decide, by decide⟩ (by decide) (gt_arr rfl _) (by omega) (tokI (by decide)) (G_pc (pc' := 94) rfl ?_)
            refine G_aload (i := 0) (n := 1) (len := 1) (Or.inl ⟨0, rfl, rfl, d_Mo_make_94⟩) rfl (by decide) (G_pc (pc' := 95) rfl ?_)
            refine G_get (o := 55) (c := 9) (k := 5) (v := (M 55 5) + 1) d_Mo_make_95 fl_Mo_130 rfl (by decide) (by decide) rfl rfl (G_pc (pc' := 98) rfl ?_)
            refine G_iret d_Mo_make_98 rfl (tokI (by omega)) rfl rfl ?_
            exact ⟨fun _ => ⟨rfl, by unfold makeM; first | rfl | (rw [if_pos (by omega)]) | (rw [if_neg (by omega)])⟩, fun h => absurd (show makeOK M kind len by unfold makeOK; grind [isKindB, inB, refB, numB]) h⟩
          · skip
            refine G_iconst (n := (-1)) d_Mo_make_54 (by decide) (G_pc (pc' := 55) rfl ?_)
            refine G_iret d_Mo_make_55 rfl (tokI (by decide)) rfl rfl ?_
            exact ⟨fun h => absurd h (by unfold makeOK; grind [isKindB, inB, refB, numB]), fun _ => ⟨rfl, rfl⟩⟩
  · skip
    refine G_iconst (n := 1) d_Mo_make_6 (by decide) (G_pc (pc' := 7) rfl ?_)
    refine G_goto (tgt := 11) d_Mo_make_7 (by decide) ?_
    refine G_istore (i := 3) (len := 1) (ls' := [(3, vi 1), (0, vr 55), (1, vi kind), (2, vi len)]) (Or.inl ⟨3, rfl, rfl, d_Mo_make_11⟩) (by decide) rfl (G_pc (pc' := 12) rfl ?_)
    refine G_aload (i := 0) (n := 1) (len := 1) (Or.inl ⟨0, rfl, rfl, d_Mo_make_12⟩) rfl (by decide) (G_pc (pc' := 13) rfl ?_)
    refine G_iload (i := 1) (n := 2) (len := 1) (Or.inl ⟨1, rfl, rfl, d_Mo_make_13⟩) rfl (G_pc (pc' := 14) rfl ?_)
    refine G_callV (K1 := KE) (d2 := 1) (o := 55) (cl := 9) (as := [vi kind]) (rest := []) d_Mo_make_14 mf_Mo_isKind ml_Mo_127 rfl rfl (by decide) rfl rfl (by decide) (by omega) ⟨Nat.le_refl _, Nat.le_refl _⟩ (g_Mo_isKind (by omega) kind _ hc) (fun r11 M12 kq13 q13 => ?_)
    clear kq13; obtain ⟨q13a, q13b⟩ := q13; subst r11; subst M12
    refine G_ps (pc' := 17) (st' := [vi (b2i (isKindB (M 55 0) kind))]) rfl rfl ?_
    refine G_if_eq (tgt := 54) d_Mo_make_17 (by decide) (fun h14 => ?_) (fun h14 => G_pc (pc' := 20) rfl ?_)
    · skip
      replace h14 := b2i_0.mp h14
      replace h14 := isKindB_f.mp h14
      refine G_iconst (n := (-1)) d_Mo_make_54 (by decide) (G_pc (pc' := 55) rfl ?_)
      refine G_iret d_Mo_make_55 rfl (tokI (by decide)) rfl rfl ?_
      exact ⟨fun h => absurd h (by unfold makeOK; grind [isKindB, inB, refB, numB]), fun _ => ⟨rfl, rfl⟩⟩
    · skip
      replace h14 := b2i_nz.mp h14
      replace h14 := isKindB_t.mp h14
      refine G_iload (i := 1) (n := 2) (len := 1) (Or.inl ⟨1, rfl, rfl, d_Mo_make_20⟩) rfl (G_pc (pc' := 21) rfl ?_)
      refine G_iconst (n := 4) d_Mo_make_21 (by decide) (G_pc (pc' := 22) rfl ?_)
      refine G_icmp_lt (tgt := 54) d_Mo_make_22 (by decide) (fun h15 => ?_) (fun h15 => G_pc (pc' := 25) rfl ?_)
      · skip
        refine G_iconst (n := (-1)) d_Mo_make_54 (by decide) (G_pc (pc' := 55) rfl ?_)
        refine G_iret d_Mo_make_55 rfl (tokI (by decide)) rfl rfl ?_
        exact ⟨fun h => absurd h (by unfold makeOK; grind [isKindB, inB, refB, numB]), fun _ => ⟨rfl, rfl⟩⟩
      · skip
        refine G_iload (i := 3) (n := 0) (len := 1) (Or.inl ⟨3, rfl, rfl, d_Mo_make_25⟩) rfl (G_pc (pc' := 26) rfl ?_)
        refine G_if_eq (tgt := 38) d_Mo_make_26 (by decide) (fun h16 => absurd h16 (by decide)) (fun h16 => G_pc (pc' := 29) rfl ?_)
        refine G_iload (i := 2) (n := 3) (len := 1) (Or.inl ⟨2, rfl, rfl, d_Mo_make_29⟩) rfl (G_pc (pc' := 30) rfl ?_)
        refine G_bipush (n := 6) d_Mo_make_30 (by decide) (G_pc (pc' := 32) rfl ?_)
        refine G_callS (K1 := KE) (d2 := 0) (as := [vi len, vi 6]) (rest := []) d_Mo_make_32 mf_Mo_in ml_Mo_105 rfl rfl (by decide) (by omega) ⟨Nat.le_refl _, Nat.le_refl _⟩ (g_Mo_in (by omega) len 6 _) (fun r17 M18 kq19 q19 => ?_)
        clear kq19; obtain ⟨q19a, q19b⟩ := q19; subst r17; subst M18
        refine G_ps (pc' := 35) (st' := [vi (b2i (inB len 6))]) rfl rfl ?_
        refine G_if_eq (tgt := 54) d_Mo_make_35 (by decide) (fun h20 => ?_) (fun h20 => G_pc (pc' := 38) rfl ?_)
        · skip
          replace h20 := b2i_0.mp h20
          replace h20 := inB_f.mp h20
          refine G_iconst (n := (-1)) d_Mo_make_54 (by decide) (G_pc (pc' := 55) rfl ?_)
          refine G_iret d_Mo_make_55 rfl (tokI (by decide)) rfl rfl ?_
          exact ⟨fun h => absurd h (by unfold makeOK; grind [isKindB, inB, refB, numB]), fun _ => ⟨rfl, rfl⟩⟩
        · skip
          replace h20 := b2i_nz.mp h20
          replace h20 := inB_t.mp h20
          refine G_aload (i := 0) (n := 1) (len := 1) (Or.inl ⟨0, rfl, rfl, d_Mo_make_38⟩) rfl (by decide) (G_pc (pc' := 39) rfl ?_)
          refine G_get (o := 55) (c := 9) (k := 5) (v := M 55 5) d_Mo_make_39 fl_Mo_130 rfl (by decide) (by decide) rfl rfl (G_pc (pc' := 42) rfl ?_)
          refine G_bipush (n := 12) d_Mo_make_42 (by decide) (G_pc (pc' := 44) rfl ?_)
          refine G_icmp_eq (tgt := 54) d_Mo_make_44 (by decide) (fun h21 => ?_) (fun h21 => G_pc (pc' := 47) rfl ?_)
          · skip
            refine G_iconst (n := (-1)) d_Mo_make_54 (by decide) (G_pc (pc' := 55) rfl ?_)
            refine G_iret d_Mo_make_55 rfl (tokI (by decide)) rfl rfl ?_
            exact ⟨fun h => absurd h (by unfold makeOK; grind [isKindB, inB, refB, numB]), fun _ => ⟨rfl, rfl⟩⟩
          · skip
            refine G_aload (i := 0) (n := 1) (len := 1) (Or.inl ⟨0, rfl, rfl, d_Mo_make_47⟩) rfl (by decide) (G_pc (pc' := 48) rfl ?_)
            refine G_get (o := 55) (c := 9) (k := 9) (v := M 55 9) d_Mo_make_48 fl_Mo_133 rfl (by decide) (by decide) rfl rfl (G_pc (pc' := 51) rfl ?_)
            refine G_if_eq (tgt := 56) d_Mo_make_51 (by decide) (fun h22 => ?_) (fun h22 => G_pc (pc' := 54) rfl ?_)
            · skip
              refine G_aload (i := 0) (n := 1) (len := 1) (Or.inl ⟨0, rfl, rfl, d_Mo_make_56⟩) rfl (by decide) (G_pc (pc' := 57) rfl ?_)
              refine G_dup d_Mo_make_57 (fun _ h => by cases h) (G_pc (pc' := 58) rfl ?_)
              refine G_get (o := 55) (c := 9) (k := 5) (v := M 55 5) d_Mo_make_58 fl_Mo_130 rfl (by decide) (by decide) rfl rfl (G_pc (pc' := 61) rfl ?_)
              refine G_iconst (n := 1) d_Mo_make_61 (by decide) (G_pc (pc' := 62) rfl ?_)
              refine G_iadd d_Mo_make_62 (by omega) (G_pc (pc' := 63) rfl ?_)
              refine G_putL (o := 55) (c := 9) (k := 5) (ki := 5) (x := (M 55 5) + 1) d_Mo_make_63 fl_Mo_130 rfl rfl (by decide) (by decide) (by decide) rfl rfl (tokI (by omega)) rfl (G_pc (pc' := 66) rfl ?_)
              refine G_aload (i := 0) (n := 1) (len := 1) (Or.inl ⟨0, rfl, rfl, d_Mo_make_66⟩) rfl (by decide) (G_pc (pc' := 67) rfl ?_)
              refine G_get (o := 55) (c := 9) (k := 6) (v := 60) d_Mo_make_67 fl_Mo_23 rfl (by decide) (by decide) rfl rfl (G_pc (pc' := 70) rfl ?_)
              refine G_aload (i := 0) (n := 1) (len := 1) (Or.inl ⟨0, rfl, rfl, d_Mo_make_70⟩) rfl (by decide) (G_pc (pc' := 71) rfl ?_)
              refine G_get (o := 55) (c := 9) (k := 5) (v := (M 55 5) + 1) d_Mo_make_71 fl_Mo_130 rfl (by decide) (by decide) rfl rfl (G_pc (pc' := 74) rfl ?_)
              refine G_iload (i := 1) (n := 2) (len := 1) (Or.inl ⟨1, rfl, rfl, d_Mo_make_74⟩) rfl (G_pc (pc' := 75) rfl ?_)
              refine G_iastore (o := 60) (n := 13) (i := (M 55 5) + 1) (x := kind) d_Mo_make_75 rfl ⟨by decide, by decide⟩ (by decide) (gt_arr rfl _) (by omega) (tokI (by omega)) (G_pc (pc' := 76) rfl ?_)
              refine G_aload (i := 0) (n := 1) (len := 1) (Or.inl ⟨0, rfl, rfl, d_Mo_make_76⟩) rfl (by decide) (G_pc (pc' := 77) rfl ?_)
              refine G_get (o := 55) (c := 9) (k := 7) (v := 61) d_Mo_make_77 fl_Mo_26 rfl (by decide) (by decide) rfl rfl (G_pc (pc' := 80) rfl ?_)
              refine G_aload (i := 0) (n := 1) (len := 1) (Or.inl ⟨0, rfl, rfl, d_Mo_make_80⟩) rfl (by decide) (G_pc (pc' := 81) rfl ?_)
              refine G_get (o := 55) (c := 9) (k := 5) (v := (M 55 5) + 1) d_Mo_make_81 fl_Mo_130 rfl (by decide) (by decide) rfl rfl (G_pc (pc' := 84) rfl ?_)
              refine G_iload (i := 3) (n := 0) (len := 1) (Or.inl ⟨3, rfl, rfl, d_Mo_make_84⟩) rfl (G_pc (pc' := 85) rfl ?_)
              refine G_if_eq (tgt := 92) d_Mo_make_85 (by decide) (fun h23 => absurd h23 (by decide)) (fun h23 => G_pc (pc' := 88) rfl ?_)
              refine G_iload (i := 2) (n := 3) (len := 1) (Or.inl ⟨2, rfl, rfl, d_Mo_make_88⟩) rfl (G_pc (pc' := 89) rfl ?_)
              refine G_goto (tgt := 93) d_Mo_make_89 (by decide) ?_
              refine G_iastore (o := 61) (n := 13) (i := (M 55 5) + 1) (x := len) d_Mo_make_93 rfl ⟨by decide, by decide⟩ (by decide) (gt_arr rfl _) (by omega) (tokI (by omega)) (G_pc (pc' := 94) rfl ?_)
              refine G_aload (i := 0) (n := 1) (len := 1) (Or.inl ⟨0, rfl, rfl, d_Mo_make_94⟩) rfl (by decide) (G_pc (pc' := 95) rfl ?_)
              refine G_get (o := 55) (c := 9) (k := 5) (v := (M 55 5) + 1) d_Mo_make_95 fl_Mo_130 rfl (by decide) (by decide) rfl rfl (G_pc (pc' := 98) rfl ?_)
              refine G_iret d_Mo_make_98 rfl (tokI (by omega)) rfl rfl ?_
              exact ⟨fun _ => ⟨rfl, by unfold makeM; first | rfl | (rw [if_pos (by omega)]) | (rw [if_neg (by omega)])⟩, fun h => absurd (show makeOK M kind len by unfold makeOK; grind [isKindB, inB, refB, numB]) h⟩
            · skip
              refine G_iconst (n := (-1)) d_Mo_make_54 (by decide) (G_pc (pc' := 55) rfl ?_)
              refine G_iret d_Mo_make_55 rfl (tokI (by decide)) rfl rfl ?_
              exact ⟨fun h => absurd h (by unfold makeOK; grind [isKindB, inB, refB, numB]), fun _ => ⟨rfl, rfl⟩⟩

def setVarOK (M : Mem) (name v : Int) : Prop := (0 ≤ name ∧ name < 27) ∧ ¬ M 58 name < 0 ∧ M 55 9 = 0 ∧ validB M (M 58 name) v = true
theorem d_Mo_setVariable_0 : decode b_Mo_setVariable 0 = .ok (.iload_n 1, 1) := by decide +kernel
theorem d_Mo_setVariable_1 : decode b_Mo_setVariable 1 = .ok (.bipush 27, 2) := by decide +kernel
theorem d_Mo_setVariable_3 : decode b_Mo_setVariable 3 = .ok (.invokestatic 105, 3) := by decide +kernel
theorem d_Mo_setVariable_6 : decode b_Mo_setVariable 6 = .ok (.ifCond .eq 33, 3) := by decide +kernel
theorem d_Mo_setVariable_9 : decode b_Mo_setVariable 9 = .ok (.aload_n 0, 1) := by decide +kernel
theorem d_Mo_setVariable_10 : decode b_Mo_setVariable 10 = .ok (.getfield 16, 3) := by decide +kernel
theorem d_Mo_setVariable_13 : decode b_Mo_setVariable 13 = .ok (.iload_n 1, 1) := by decide +kernel
theorem d_Mo_setVariable_14 : decode b_Mo_setVariable 14 = .ok (.iaload, 1) := by decide +kernel
theorem d_Mo_setVariable_15 : decode b_Mo_setVariable 15 = .ok (.ifCond .lt 24, 3) := by decide +kernel
theorem d_Mo_setVariable_18 : decode b_Mo_setVariable 18 = .ok (.aload_n 0, 1) := by decide +kernel
theorem d_Mo_setVariable_19 : decode b_Mo_setVariable 19 = .ok (.getfield 133, 3) := by decide +kernel
theorem d_Mo_setVariable_22 : decode b_Mo_setVariable 22 = .ok (.ifCond .ne 17, 3) := by decide +kernel
theorem d_Mo_setVariable_25 : decode b_Mo_setVariable 25 = .ok (.aload_n 0, 1) := by decide +kernel
theorem d_Mo_setVariable_26 : decode b_Mo_setVariable 26 = .ok (.aload_n 0, 1) := by decide +kernel
theorem d_Mo_setVariable_27 : decode b_Mo_setVariable 27 = .ok (.getfield 16, 3) := by decide +kernel
theorem d_Mo_setVariable_30 : decode b_Mo_setVariable 30 = .ok (.iload_n 1, 1) := by decide +kernel
theorem d_Mo_setVariable_31 : decode b_Mo_setVariable 31 = .ok (.iaload, 1) := by decide +kernel
theorem d_Mo_setVariable_32 : decode b_Mo_setVariable 32 = .ok (.lload_n 2, 1) := by decide +kernel
theorem d_Mo_setVariable_33 : decode b_Mo_setVariable 33 = .ok (.invokevirtual 138, 3) := by decide +kernel
theorem d_Mo_setVariable_36 : decode b_Mo_setVariable 36 = .ok (.ifCond .ne 5, 3) := by decide +kernel
theorem d_Mo_setVariable_39 : decode b_Mo_setVariable 39 = .ok (.iconst 0, 1) := by decide +kernel
theorem d_Mo_setVariable_40 : decode b_Mo_setVariable 40 = .ok (.ireturn, 1) := by decide +kernel
theorem d_Mo_setVariable_41 : decode b_Mo_setVariable 41 = .ok (.aload_n 0, 1) := by decide +kernel
theorem d_Mo_setVariable_42 : decode b_Mo_setVariable 42 = .ok (.getfield 19, 3) := by decide +kernel
theorem d_Mo_setVariable_45 : decode b_Mo_setVariable 45 = .ok (.iload_n 1, 1) := by decide +kernel
theorem d_Mo_setVariable_46 : decode b_Mo_setVariable 46 = .ok (.lload_n 2, 1) := by decide +kernel
theorem d_Mo_setVariable_47 : decode b_Mo_setVariable 47 = .ok (.lastore, 1) := by decide +kernel
theorem d_Mo_setVariable_48 : decode b_Mo_setVariable 48 = .ok (.iconst 1, 1) := by decide +kernel
theorem d_Mo_setVariable_49 : decode b_Mo_setVariable 49 = .ok (.ireturn, 1) := by decide +kernel
theorem g_Mo_setVariable {X : WX} {d : Nat} (hd : 3 ≤ d) (name v : Int) (M : Mem) (hP : okP M) (hO : 0 ≤ M 55 5 ∧ M 55 5 ≤ 12) (hk : okK M) (hvk : ∀ n, 0 ≤ n → n < 27 → -1 ≤ M 58 n ∧ M 58 n < 17) : MG X gt d KE KE y_Mo_setVariable b_Mo_setVariable 4 (some .boolean) [vr 55, vi name, vl v] M (fun r M' => (setVarOK M name v → r = some (vi 1) ∧ M' = (mset M 59 name v)) ∧ (¬ setVarOK M name v → r = some (vi 0) ∧ M' = M)) := by
  refine MG_of_G (by decide) (Nat.le_of_ble_eq_true rfl) (Nat.le_refl _) (by decide) ?_
  show G X gt d KE KE y_Mo_setVariable b_Mo_setVariable 4 (some .boolean) _ 0 [(0, vr 55), (1, vi name), (2, vl v)] [] KE M
  refine G_rngl (i := 1) rfl (fun hr1 => ?_)
  refine G_rngL (i := 2) rfl (fun hr2 => ?_)
  refine G_iload (i := 1) (n := 1) (len := 1) (Or.inl ⟨1, rfl, rfl, d_Mo_setVariable_0⟩) rfl (G_pc (pc' := 1) rfl ?_)
  refine G_bipush (n := 27) d_Mo_setVariable_1 (by decide) (G_pc (pc' := 3) rfl ?_)
  refine G_callS (K1 := KE) (d2 := 0) (as := [vi name, vi 27]) (rest := []) d_Mo_setVariable_3 mf_Mo_in ml_Mo_105 rfl rfl (by decide) (by omega) ⟨Nat.le_refl _, Nat.le_refl _⟩ (g_Mo_in (by omega) name 27 _) (fun r1 M2 kq3 q3 => ?_)
  clear kq3; obtain ⟨q3a, q3b⟩ := q3; subst r1; subst M2
  refine G_ps (pc' := 6) (st' := [vi (b2i (inB name 27))]) rfl rfl ?_
  refine G_if_eq (tgt := 39) d_Mo_setVariable_6 (by decide) (fun h4 => ?_) (fun h4 => G_pc (pc' := 9) rfl ?_)
  · skip
    replace h4 := b2i_0.mp h4
    replace h4 := inB_f.mp h4
    refine G_iconst (n := 0) d_Mo_setVariable_39 (by decide) (G_pc (pc' := 40) rfl ?_)
    refine G_iret d_Mo_setVariable_40 rfl (tokZ (by decide)) rfl rfl ?_
    exact ⟨fun h => absurd h (by unfold setVarOK; grind [isKindB, inB, refB, numB]), fun _ => ⟨rfl, rfl⟩⟩
  · skip
    replace h4 := b2i_nz.mp h4
    replace h4 := inB_t.mp h4
    refine G_aload (i := 0) (n := 0) (len := 1) (Or.inl ⟨0, rfl, rfl, d_Mo_setVariable_9⟩) rfl (by decide) (G_pc (pc' := 10) rfl ?_)
    refine G_get (o := 55) (c := 9) (k := 3) (v := 58) d_Mo_setVariable_10 fl_Mo_16 rfl (by decide) (by decide) rfl rfl (G_pc (pc' := 13) rfl ?_)
    refine G_iload (i := 1) (n := 1) (len := 1) (Or.inl ⟨1, rfl, rfl, d_Mo_setVariable_13⟩) rfl (G_pc (pc' := 14) rfl ?_)
    refine G_iaload (o := 58) (n := 27) (i := name) (v := M 58 name) d_Mo_setVariable_14 rfl ⟨by decide, by decide⟩ (by omega) (rd_arr rfl) (fun t5 => G_pc (pc' := 15) rfl ?_)
    have t5 := tok_i t5
    refine G_if_lt (tgt := 39) d_Mo_setVariable_15 (by decide) (fun h6 => ?_) (fun h6 => G_pc (pc' := 18) rfl ?_)
    · skip
      refine G_iconst (n := 0) d_Mo_setVariable_39 (by decide) (G_pc (pc' := 40) rfl ?_)
      refine G_iret d_Mo_setVariable_40 rfl (tokZ (by decide)) rfl rfl ?_
      exact ⟨fun h => absurd h (by unfold setVarOK; grind [isKindB, inB, refB, numB]), fun _ => ⟨rfl, rfl⟩⟩
    · skip
      refine G_aload (i := 0) (n := 0) (len := 1) (Or.inl ⟨0, rfl, rfl, d_Mo_setVariable_18⟩) rfl (by decide) (G_pc (pc' := 19) rfl ?_)
      refine G_get (o := 55) (c := 9) (k := 9) (v := M 55 9) d_Mo_setVariable_19 fl_Mo_133 rfl (by decide) (by decide) rfl rfl (G_pc (pc' := 22) rfl ?_)
      refine G_if_ne (tgt := 39) d_Mo_setVariable_22 (by decide) (fun h7 => ?_) (fun h7 => G_pc (pc' := 25) rfl ?_)
      · skip
        refine G_iconst (n := 0) d_Mo_setVariable_39 (by decide) (G_pc (pc' := 40) rfl ?_)
        refine G_iret d_Mo_setVariable_40 rfl (tokZ (by decide)) rfl rfl ?_
        exact ⟨fun h => absurd h (by unfold setVarOK; grind [isKindB, inB, refB, numB]), fun _ => ⟨rfl, rfl⟩⟩
      · skip
        refine G_aload (i := 0) (n := 0) (len := 1) (Or.inl ⟨0, rfl, rfl, d_Mo_setVariable_25⟩) rfl (by decide) (G_pc (pc' := 26) rfl ?_)
        refine G_aload (i := 0) (n := 0) (len := 1) (Or.inl ⟨0, rfl, rfl, d_Mo_setVariable_26⟩) rfl (by decide) (G_pc (pc' := 27) rfl ?_)
        refine G_get (o := 55) (c := 9) (k := 3) (v := 58) d_Mo_setVariable_27 fl_Mo_16 rfl (by decide) (by decide) rfl rfl (G_pc (pc' := 30) rfl ?_)
        refine G_iload (i := 1) (n := 1) (len := 1) (Or.inl ⟨1, rfl, rfl, d_Mo_setVariable_30⟩) rfl (G_pc (pc' := 31) rfl ?_)
        refine G_iaload (o := 58) (n := 27) (i := name) (v := M 58 name) d_Mo_setVariable_31 rfl ⟨by decide, by decide⟩ (by omega) (rd_arr rfl) (fun t8 => G_pc (pc' := 32) rfl ?_)
        have t8 := tok_i t8
        refine G_lload (i := 2) (n := 2) (len := 1) (Or.inl ⟨2, rfl, rfl, d_Mo_setVariable_32⟩) rfl (G_pc (pc' := 33) rfl ?_)
        refine G_callV (K1 := KE) (d2 := 2) (o := 55) (cl := 9) (as := [vi (M 58 name), vl v]) (rest := []) d_Mo_setVariable_33 mf_Mo_valid ml_Mo_138 rfl rfl (by decide) rfl rfl (by decide) (by omega) ⟨Nat.le_refl _, Nat.le_refl _⟩ (g_Mo_valid (by omega) (M 58 name) v _ hP hO hk (by have := hvk name (by omega) (by omega); omega)) (fun r9 M10 kq11 q11 => ?_)
        clear kq11; obtain ⟨q11a, q11b⟩ := q11; subst r9; subst M10
        refine G_ps (pc' := 36) (st' := [vi (b2i (validB M (M 58 name) v))]) rfl rfl ?_
        refine G_if_ne (tgt := 41) d_Mo_setVariable_36 (by decide) (fun h12 => ?_) (fun h12 => G_pc (pc' := 39) rfl ?_)
        · skip
          replace h12 := b2i_nz.mp h12
          refine G_aload (i := 0) (n := 0) (len := 1) (Or.inl ⟨0, rfl, rfl, d_Mo_setVariable_41⟩) rfl (by decide) (G_pc (pc' := 42) rfl ?_)
          refine G_get (o := 55) (c := 9) (k := 4) (v := 59) d_Mo_setVariable_42 fl_Mo_19 rfl (by decide) (by decide) rfl rfl (G_pc (pc' := 45) rfl ?_)
          refine G_iload (i := 1) (n := 1) (len := 1) (Or.inl ⟨1, rfl, rfl, d_Mo_setVariable_45⟩) rfl (G_pc (pc' := 46) rfl ?_)
          refine G_lload (i := 2) (n := 2) (len := 1) (Or.inl ⟨2, rfl, rfl, d_Mo_setVariable_46⟩) rfl (G_pc (pc' := 47) rfl ?_)
          refine G_lastore (o := 59) (n := 27) (i := name) (x := v) d_Mo_setVariable_47 rfl ⟨by decide, by decide⟩ (by decide) (gt_arr rfl _) (by omega) (tokJ (by omega)) (G_pc (pc' := 48) rfl ?_)
          refine G_iconst (n := 1) d_Mo_setVariable_48 (by decide) (G_pc (pc' := 49) rfl ?_)
          refine G_iret d_Mo_setVariable_49 rfl (tokZ (by decide)) rfl rfl ?_
          exact ⟨fun _ => ⟨by first | rfl | (congr 2; omega), rfl⟩, fun h => absurd (show setVarOK M name v by unfold setVarOK; grind [isKindB, inB, refB, numB]) h⟩
        · skip
          replace h12 := b2i_0.mp h12
          refine G_iconst (n := 0) d_Mo_setVariable_39 (by decide) (G_pc (pc' := 40) rfl ?_)
          refine G_iret d_Mo_setVariable_40 rfl (tokZ (by decide)) rfl rfl ?_
          exact ⟨fun h => absurd h (by unfold setVarOK; grind [isKindB, inB, refB, numB]), fun _ => ⟨rfl, rfl⟩⟩

def dueM (M : Mem) (o part : Int) : Int := if M 60 o < 10 then fieldM M (M 60 o - 4) part else if part < M 61 o then elemM (M 60 o) else -1
def setPartOK (M : Mem) (o part v : Int) : Prop := (1 ≤ o ∧ o ≤ M 55 5) ∧ (0 ≤ part ∧ part ≤ 25) ∧ M 55 9 = 0 ∧ ¬ dueM M o part < 0 ∧ validB M (dueM M o part) v = true
def okF (M : Mem) : Prop := ∀ j, 0 ≤ j → j < 156 → -1 ≤ M 57 j ∧ M 57 j < 17
theorem foF_rng {p f : Int → Int} {name : Int} (hp : ∀ c, 0 ≤ c → c < 6 → -1 ≤ p c ∧ p c < 6) (hf : ∀ j, 0 ≤ j → j < 156 → -1 ≤ f j ∧ f j < 17) (hn : 0 ≤ name ∧ name < 26) : ∀ (n : Nat) (c : Int), -1 ≤ c ∧ c < 6 → -1 ≤ foF p f name n c ∧ foF p f name n c < 17 := by
  intro n
  induction n with
  | zero => intro c _; simp [foF]
  | succ n ih =>
    intro c hc
    unfold foF
    split
    · omega
    · split
      · exact hf _ (by omega) (by omega)
      · exact ih _ (hp c (by omega) (by omega))
theorem fieldM_rng {M : Mem} (hP : okP M) (hF : okF M) {c name : Int} (hc : -1 ≤ c ∧ c < 6) (hn : 0 ≤ name ∧ name < 26) : -1 ≤ fieldM M c name ∧ fieldM M c name < 17 := foF_rng hP hF hn 6 c hc
theorem elemM_rng {a : Int} (h : 10 ≤ a ∧ a < 17) : 0 ≤ elemM a ∧ elemM a < 10 := by unfold elemM; split <;> omega
theorem d_Mo_setPart_0 : decode b_Mo_setPart 0 = .ok (.iload_n 1, 1) := by decide +kernel
theorem d_Mo_setPart_1 : decode b_Mo_setPart 1 = .ok (.iconst 1, 1) := by decide +kernel
theorem d_Mo_setPart_2 : decode b_Mo_setPart 2 = .ok (.if_icmp .lt 28, 3) := by decide +kernel
theorem d_Mo_setPart_5 : decode b_Mo_setPart 5 = .ok (.iload_n 1, 1) := by decide +kernel
theorem d_Mo_setPart_6 : decode b_Mo_setPart 6 = .ok (.aload_n 0, 1) := by decide +kernel
theorem d_Mo_setPart_7 : decode b_Mo_setPart 7 = .ok (.getfield 130, 3) := by decide +kernel
theorem d_Mo_setPart_10 : decode b_Mo_setPart 10 = .ok (.if_icmp .gt 20, 3) := by decide +kernel
theorem d_Mo_setPart_13 : decode b_Mo_setPart 13 = .ok (.iload_n 2, 1) := by decide +kernel
theorem d_Mo_setPart_14 : decode b_Mo_setPart 14 = .ok (.ifCond .lt 16, 3) := by decide +kernel
theorem d_Mo_setPart_17 : decode b_Mo_setPart 17 = .ok (.iload_n 2, 1) := by decide +kernel
theorem d_Mo_setPart_18 : decode b_Mo_setPart 18 = .ok (.bipush 25, 2) := by decide +kernel
theorem d_Mo_setPart_20 : decode b_Mo_setPart 20 = .ok (.if_icmp .gt 10, 3) := by decide +kernel
theorem d_Mo_setPart_23 : decode b_Mo_setPart 23 = .ok (.aload_n 0, 1) := by decide +kernel
theorem d_Mo_setPart_24 : decode b_Mo_setPart 24 = .ok (.getfield 133, 3) := by decide +kernel
theorem d_Mo_setPart_27 : decode b_Mo_setPart 27 = .ok (.ifCond .eq 5, 3) := by decide +kernel
theorem d_Mo_setPart_30 : decode b_Mo_setPart 30 = .ok (.iconst 0, 1) := by decide +kernel
theorem d_Mo_setPart_31 : decode b_Mo_setPart 31 = .ok (.ireturn, 1) := by decide +kernel
theorem d_Mo_setPart_32 : decode b_Mo_setPart 32 = .ok (.aload_n 0, 1) := by decide +kernel
theorem d_Mo_setPart_33 : decode b_Mo_setPart 33 = .ok (.getfield 23, 3) := by decide +kernel
theorem d_Mo_setPart_36 : decode b_Mo_setPart 36 = .ok (.iload_n 1, 1) := by decide +kernel
theorem d_Mo_setPart_37 : decode b_Mo_setPart 37 = .ok (.iaload, 1) := by decide +kernel
theorem d_Mo_setPart_38 : decode b_Mo_setPart 38 = .ok (.istore 5, 2) := by decide +kernel
theorem d_Mo_setPart_40 : decode b_Mo_setPart 40 = .ok (.iload 5, 2) := by decide +kernel
theorem d_Mo_setPart_42 : decode b_Mo_setPart 42 = .ok (.bipush 10, 2) := by decide +kernel
theorem d_Mo_setPart_44 : decode b_Mo_setPart 44 = .ok (.if_icmp .ge 15, 3) := by decide +kernel
theorem d_Mo_setPart_47 : decode b_Mo_setPart 47 = .ok (.aload_n 0, 1) := by decide +kernel
theorem d_Mo_setPart_48 : decode b_Mo_setPart 48 = .ok (.iload 5, 2) := by decide +kernel
theorem d_Mo_setPart_50 : decode b_Mo_setPart 50 = .ok (.iconst 4, 1) := by decide +kernel
theorem d_Mo_setPart_51 : decode b_Mo_setPart 51 = .ok (.isub, 1) := by decide +kernel
theorem d_Mo_setPart_52 : decode b_Mo_setPart 52 = .ok (.iload_n 2, 1) := by decide +kernel
theorem d_Mo_setPart_53 : decode b_Mo_setPart 53 = .ok (.invokevirtual 142, 3) := by decide +kernel
theorem d_Mo_setPart_56 : decode b_Mo_setPart 56 = .ok (.goto 22, 3) := by decide +kernel
theorem d_Mo_setPart_59 : decode b_Mo_setPart 59 = .ok (.iload_n 2, 1) := by decide +kernel
theorem d_Mo_setPart_60 : decode b_Mo_setPart 60 = .ok (.aload_n 0, 1) := by decide +kernel
theorem d_Mo_setPart_61 : decode b_Mo_setPart 61 = .ok (.getfield 26, 3) := by decide +kernel
theorem d_Mo_setPart_64 : decode b_Mo_setPart 64 = .ok (.iload_n 1, 1) := by decide +kernel
theorem d_Mo_setPart_65 : decode b_Mo_setPart 65 = .ok (.iaload, 1) := by decide +kernel
theorem d_Mo_setPart_66 : decode b_Mo_setPart 66 = .ok (.if_icmp .ge 11, 3) := by decide +kernel
theorem d_Mo_setPart_69 : decode b_Mo_setPart 69 = .ok (.iload 5, 2) := by decide +kernel
theorem d_Mo_setPart_71 : decode b_Mo_setPart 71 = .ok (.invokestatic 146, 3) := by decide +kernel
theorem d_Mo_setPart_74 : decode b_Mo_setPart 74 = .ok (.goto 4, 3) := by decide +kernel
theorem d_Mo_setPart_77 : decode b_Mo_setPart 77 = .ok (.iconst (-1), 1) := by decide +kernel
theorem d_Mo_setPart_78 : decode b_Mo_setPart 78 = .ok (.istore 6, 2) := by decide +kernel
theorem d_Mo_setPart_80 : decode b_Mo_setPart 80 = .ok (.iload 6, 2) := by decide +kernel
theorem d_Mo_setPart_82 : decode b_Mo_setPart 82 = .ok (.ifCond .lt 13, 3) := by decide +kernel
theorem d_Mo_setPart_85 : decode b_Mo_setPart 85 = .ok (.aload_n 0, 1) := by decide +kernel
theorem d_Mo_setPart_86 : decode b_Mo_setPart 86 = .ok (.iload 6, 2) := by decide +kernel
theorem d_Mo_setPart_88 : decode b_Mo_setPart 88 = .ok (.lload_n 3, 1) := by decide +kernel
theorem d_Mo_setPart_89 : decode b_Mo_setPart 89 = .ok (.invokevirtual 138, 3) := by decide +kernel
theorem d_Mo_setPart_92 : decode b_Mo_setPart 92 = .ok (.ifCond .ne 5, 3) := by decide +kernel
theorem d_Mo_setPart_95 : decode b_Mo_setPart 95 = .ok (.iconst 0, 1) := by decide +kernel
theorem d_Mo_setPart_96 : decode b_Mo_setPart 96 = .ok (.ireturn, 1) := by decide +kernel
theorem d_Mo_setPart_97 : decode b_Mo_setPart 97 = .ok (.aload_n 0, 1) := by decide +kernel
theorem d_Mo_setPart_98 : decode b_Mo_setPart 98 = .ok (.getfield 29, 3) := by decide +kernel
theorem d_Mo_setPart_101 : decode b_Mo_setPart 101 = .ok (.bipush 26, 2) := by decide +kernel
theorem d_Mo_setPart_103 : decode b_Mo_setPart 103 = .ok (.iload_n 1, 1) := by decide +kernel
theorem d_Mo_setPart_104 : decode b_Mo_setPart 104 = .ok (.imul, 1) := by decide +kernel
theorem d_Mo_setPart_105 : decode b_Mo_setPart 105 = .ok (.iload_n 2, 1) := by decide +kernel
theorem d_Mo_setPart_106 : decode b_Mo_setPart 106 = .ok (.iadd, 1) := by decide +kernel
theorem d_Mo_setPart_107 : decode b_Mo_setPart 107 = .ok (.lload_n 3, 1) := by decide +kernel
theorem d_Mo_setPart_108 : decode b_Mo_setPart 108 = .ok (.lastore, 1) := by decide +kernel
theorem d_Mo_setPart_109 : decode b_Mo_setPart 109 = .ok (.iconst 1, 1) := by decide +kernel
theorem d_Mo_setPart_110 : decode b_Mo_setPart 110 = .ok (.ireturn, 1) := by decide +kernel
theorem g_Mo_setPart {X : WX} {d : Nat} (hd : 3 ≤ d) (o part v : Int) (M : Mem) (hP : okP M) (hO : 0 ≤ M 55 5 ∧ M 55 5 ≤ 12) (hk : okK M) (hF : okF M) (hsz : ∀ o, 1 ≤ o → o ≤ M 55 5 → 0 ≤ M 61 o ∧ M 61 o ≤ 5) : MG X gt d KE KE y_Mo_setPart b_Mo_setPart 7 (some .boolean) [vr 55, vi o, vi part, vl v] M (fun r M' => (setPartOK M o part v → r = some (vi 1) ∧ M' = mset M 62 (26 * o + part) v) ∧ (¬ setPartOK M o part v → r = some (vi 0) ∧ M' = M)) := by
  refine MG_of_G (by decide) (Nat.le_of_ble_eq_true rfl) (Nat.le_refl _) (by decide) ?_
  show G X gt d KE KE y_Mo_setPart b_Mo_setPart 7 (some .boolean) _ 0 [(0, vr 55), (1, vi o), (2, vi part), (3, vl v)] [] KE M
  refine G_rngl (i := 1) rfl (fun hr1 => ?_)
  refine G_rngl (i := 2) rfl (fun hr2 => ?_)
  refine G_rngL (i := 3) rfl (fun hr3 => ?_)
  refine G_iload (i := 1) (n := 1) (len := 1) (Or.inl ⟨1, rfl, rfl, d_Mo_setPart_0⟩) rfl (G_pc (pc' := 1) rfl ?_)
  refine G_iconst (n := 1) d_Mo_setPart_1 (by decide) (G_pc (pc' := 2) rfl ?_)
  refine G_icmp_lt (tgt := 30) d_Mo_setPart_2 (by decide) (fun h1 => ?_) (fun h1 => G_pc (pc' := 5) rfl ?_)
  · skip
    refine G_iconst (n := 0) d_Mo_setPart_30 (by decide) (G_pc (pc' := 31) rfl ?_)
    refine G_iret d_Mo_setPart_31 rfl (tokZ (by decide)) rfl rfl ?_
    exact ⟨fun h => absurd h (by unfold setPartOK; grind), fun _ => ⟨rfl, rfl⟩⟩
  · skip
    refine G_iload (i := 1) (n := 1) (len := 1) (Or.inl ⟨1, rfl, rfl, d_Mo_setPart_5⟩) rfl (G_pc (pc' := 6) rfl ?_)
    refine G_aload (i := 0) (n := 0) (len := 1) (Or.inl ⟨0, rfl, rfl, d_Mo_setPart_6⟩) rfl (by decide) (G_pc (pc' := 7) rfl ?_)
    refine G_get (o := 55) (c := 9) (k := 5) (v := M 55 5) d_Mo_setPart_7 fl_Mo_130 rfl (by decide) (by decide) rfl rfl (G_pc (pc' := 10) rfl ?_)
    refine G_icmp_gt (tgt := 30) d_Mo_setPart_10 (by decide) (fun h2 => ?_) (fun h2 => G_pc (pc' := 13) rfl ?_)
    · skip
      refine G_iconst (n := 0) d_Mo_setPart_30 (by decide) (G_pc (pc' := 31) rfl ?_)
      refine G_iret d_Mo_setPart_31 rfl (tokZ (by decide)) rfl rfl ?_
      exact ⟨fun h => absurd h (by unfold setPartOK; grind), fun _ => ⟨rfl, rfl⟩⟩
    · skip
      refine G_iload (i := 2) (n := 2) (len := 1) (Or.inl ⟨2, rfl, rfl, d_Mo_setPart_13⟩) rfl (G_pc (pc' := 14) rfl ?_)
      refine G_if_lt (tgt := 30) d_Mo_setPart_14 (by decide) (fun h3 => ?_) (fun h3 => G_pc (pc' := 17) rfl ?_)
      · skip
        refine G_iconst (n := 0) d_Mo_setPart_30 (by decide) (G_pc (pc' := 31) rfl ?_)
        refine G_iret d_Mo_setPart_31 rfl (tokZ (by decide)) rfl rfl ?_
        exact ⟨fun h => absurd h (by unfold setPartOK; grind), fun _ => ⟨rfl, rfl⟩⟩
      · skip
        refine G_iload (i := 2) (n := 2) (len := 1) (Or.inl ⟨2, rfl, rfl, d_Mo_setPart_17⟩) rfl (G_pc (pc' := 18) rfl ?_)
        refine G_bipush (n := 25) d_Mo_setPart_18 (by decide) (G_pc (pc' := 20) rfl ?_)
        refine G_icmp_gt (tgt := 30) d_Mo_setPart_20 (by decide) (fun h4 => ?_) (fun h4 => G_pc (pc' := 23) rfl ?_)
        · skip
          refine G_iconst (n := 0) d_Mo_setPart_30 (by decide) (G_pc (pc' := 31) rfl ?_)
          refine G_iret d_Mo_setPart_31 rfl (tokZ (by decide)) rfl rfl ?_
          exact ⟨fun h => absurd h (by unfold setPartOK; grind), fun _ => ⟨rfl, rfl⟩⟩
        · skip
          refine G_aload (i := 0) (n := 0) (len := 1) (Or.inl ⟨0, rfl, rfl, d_Mo_setPart_23⟩) rfl (by decide) (G_pc (pc' := 24) rfl ?_)
          refine G_get (o := 55) (c := 9) (k := 9) (v := M 55 9) d_Mo_setPart_24 fl_Mo_133 rfl (by decide) (by decide) rfl rfl (G_pc (pc' := 27) rfl ?_)
          refine G_if_eq (tgt := 32) d_Mo_setPart_27 (by decide) (fun h5 => ?_) (fun h5 => G_pc (pc' := 30) rfl ?_)
          · skip
            have hko := hk o (by omega) (by omega)
            have hso := hsz o (by omega) (by omega)
            refine G_aload (i := 0) (n := 0) (len := 1) (Or.inl ⟨0, rfl, rfl, d_Mo_setPart_32⟩) rfl (by decide) (G_pc (pc' := 33) rfl ?_)
            refine G_get (o := 55) (c := 9) (k := 6) (v := 60) d_Mo_setPart_33 fl_Mo_23 rfl (by decide) (by decide) rfl rfl (G_pc (pc' := 36) rfl ?_)
            refine G_iload (i := 1) (n := 1) (len := 1) (Or.inl ⟨1, rfl, rfl, d_Mo_setPart_36⟩) rfl (G_pc (pc' := 37) rfl ?_)
            refine G_iaload (o := 60) (n := 13) (i := o) (v := M 60 o) d_Mo_setPart_37 rfl ⟨by decide, by decide⟩ (by omega) (rd_arr rfl) (fun t6 => G_pc (pc' := 38) rfl ?_)
            have t6 := tok_i t6
            refine G_istore (i := 5) (len := 2) (ls' := [(5, vi (M 60 o)), (0, vr 55), (1, vi o), (2, vi part), (3, vl v)]) (Or.inr ⟨rfl, d_Mo_setPart_38⟩) (by decide) rfl (G_pc (pc' := 40) rfl ?_)
            refine G_iload (i := 5) (n := 0) (len := 2) (Or.inr ⟨rfl, d_Mo_setPart_40⟩) rfl (G_pc (pc' := 42) rfl ?_)
            refine G_bipush (n := 10) d_Mo_setPart_42 (by decide) (G_pc (pc' := 44) rfl ?_)
            refine G_icmp_ge (tgt := 59) d_Mo_setPart_44 (by decide) (fun h7 => ?_) (fun h7 => G_pc (pc' := 47) rfl ?_)
            · skip
              refine G_iload (i := 2) (n := 3) (len := 1) (Or.inl ⟨2, rfl, rfl, d_Mo_setPart_59⟩) rfl (G_pc (pc' := 60) rfl ?_)
              refine G_aload (i := 0) (n := 1) (len := 1) (Or.inl ⟨0, rfl, rfl, d_Mo_setPart_60⟩) rfl (by decide) (G_pc (pc' := 61) rfl ?_)
              refine G_get (o := 55) (c := 9) (k := 7) (v := 61) d_Mo_setPart_61 fl_Mo_26 rfl (by decide) (by decide) rfl rfl (G_pc (pc' := 64) rfl ?_)
              refine G_iload (i := 1) (n := 2) (len := 1) (Or.inl ⟨1, rfl, rfl, d_Mo_setPart_64⟩) rfl (G_pc (pc' := 65) rfl ?_)
              refine G_iaload (o := 61) (n := 13) (i := o) (v := M 61 o) d_Mo_setPart_65 rfl ⟨by decide, by decide⟩ (by omega) (rd_arr rfl) (fun t8 => G_pc (pc' := 66) rfl ?_)
              have t8 := tok_i t8
              refine G_icmp_ge (tgt := 77) d_Mo_setPart_66 (by decide) (fun h9 => ?_) (fun h9 => G_pc (pc' := 69) rfl ?_)
              · skip
                refine G_iconst (n := (-1)) d_Mo_setPart_77 (by decide) (G_pc (pc' := 78) rfl ?_)
                refine G_ps (pc' := 78) (st' := [vi (dueM M o part)]) rfl (by rw [show dueM M o part = -1 by unfold dueM; rw [if_neg (by omega), if_neg (by omega)]]) ?_
                have hdue : -1 ≤ dueM M o part ∧ dueM M o part < 17 := by rw [show dueM M o part = -1 by unfold dueM; rw [if_neg (by omega), if_neg (by omega)]]; omega
                refine G_istore (i := 6) (len := 2) (ls' := [(6, vi (dueM M o part)), (5, vi (M 60 o)), (0, vr 55), (1, vi o), (2, vi part), (3, vl v)]) (Or.inr ⟨rfl, d_Mo_setPart_78⟩) (by decide) rfl (G_pc (pc' := 80) rfl ?_)
                refine G_iload (i := 6) (n := 0) (len := 2) (Or.inr ⟨rfl, d_Mo_setPart_80⟩) rfl (G_pc (pc' := 82) rfl ?_)
                refine G_if_lt (tgt := 95) d_Mo_setPart_82 (by decide) (fun h10 => ?_) (fun h10 => G_pc (pc' := 85) rfl ?_)
                · skip
                  refine G_iconst (n := 0) d_Mo_setPart_95 (by decide) (G_pc (pc' := 96) rfl ?_)
                  refine G_iret d_Mo_setPart_96 rfl (tokZ (by decide)) rfl rfl ?_
                  exact ⟨fun h => absurd h (by unfold setPartOK; grind), fun _ => ⟨rfl, rfl⟩⟩
                · skip
                  refine G_aload (i := 0) (n := 2) (len := 1) (Or.inl ⟨0, rfl, rfl, d_Mo_setPart_85⟩) rfl (by decide) (G_pc (pc' := 86) rfl ?_)
                  refine G_iload (i := 6) (n := 0) (len := 2) (Or.inr ⟨rfl, d_Mo_setPart_86⟩) rfl (G_pc (pc' := 88) rfl ?_)
                  refine G_lload (i := 3) (n := 5) (len := 1) (Or.inl ⟨3, rfl, rfl, d_Mo_setPart_88⟩) rfl (G_pc (pc' := 89) rfl ?_)
                  refine G_callV (K1 := KE) (d2 := 2) (o := 55) (cl := 9) (as := [vi (dueM M o part), vl v]) (rest := []) d_Mo_setPart_89 mf_Mo_valid ml_Mo_138 rfl rfl (by decide) rfl rfl (by decide) (by omega) ⟨Nat.le_refl _, Nat.le_refl _⟩ (g_Mo_valid (by omega) (dueM M o part) v _ hP hO hk (by omega)) (fun r11 M12 kq13 q13 => ?_)
                  clear kq13; obtain ⟨q13a, q13b⟩ := q13; subst r11; subst M12
                  refine G_ps (pc' := 92) (st' := [vi (b2i (validB M (dueM M o part) v))]) rfl rfl ?_
                  refine G_if_ne (tgt := 97) d_Mo_setPart_92 (by decide) (fun h14 => ?_) (fun h14 => G_pc (pc' := 95) rfl ?_)
                  · skip
                    replace h14 := b2i_nz.mp h14
                    refine G_aload (i := 0) (n := 2) (len := 1) (Or.inl ⟨0, rfl, rfl, d_Mo_setPart_97⟩) rfl (by decide) (G_pc (pc' := 98) rfl ?_)
                    refine G_get (o := 55) (c := 9) (k := 8) (v := 62) d_Mo_setPart_98 fl_Mo_29 rfl (by decide) (by decide) rfl rfl (G_pc (pc' := 101) rfl ?_)
                    refine G_bipush (n := 26) d_Mo_setPart_101 (by decide) (G_pc (pc' := 103) rfl ?_)
                    refine G_iload (i := 1) (n := 3) (len := 1) (Or.inl ⟨1, rfl, rfl, d_Mo_setPart_103⟩) rfl (G_pc (pc' := 104) rfl ?_)
                    refine G_imul d_Mo_setPart_104 (by omega) (G_pc (pc' := 105) rfl ?_)
                    refine G_iload (i := 2) (n := 4) (len := 1) (Or.inl ⟨2, rfl, rfl, d_Mo_setPart_105⟩) rfl (G_pc (pc' := 106) rfl ?_)
                    refine G_iadd d_Mo_setPart_106 (by omega) (G_pc (pc' := 107) rfl ?_)
                    refine G_lload (i := 3) (n := 5) (len := 1) (Or.inl ⟨3, rfl, rfl, d_Mo_setPart_107⟩) rfl (G_pc (pc' := 108) rfl ?_)
                    refine G_lastore (o := 62) (n := 338) (i := (26 * o) + part) (x := v) d_Mo_setPart_108 rfl ⟨by decide, by decide⟩ (by decide) (gt_arr rfl _) (by omega) (tokJ (by omega)) (G_pc (pc' := 109) rfl ?_)
                    refine G_iconst (n := 1) d_Mo_setPart_109 (by decide) (G_pc (pc' := 110) rfl ?_)
                    refine G_iret d_Mo_setPart_110 rfl (tokZ (by decide)) rfl rfl ?_
                    exact ⟨fun _ => ⟨rfl, rfl⟩, fun h => absurd (show setPartOK M o part v by unfold setPartOK; grind) h⟩
                  · skip
                    replace h14 := b2i_0.mp h14
                    refine G_iconst (n := 0) d_Mo_setPart_95 (by decide) (G_pc (pc' := 96) rfl ?_)
                    refine G_iret d_Mo_setPart_96 rfl (tokZ (by decide)) rfl rfl ?_
                    exact ⟨fun h => absurd h (by unfold setPartOK; grind), fun _ => ⟨rfl, rfl⟩⟩
              · skip
                refine G_iload (i := 5) (n := 0) (len := 2) (Or.inr ⟨rfl, d_Mo_setPart_69⟩) rfl (G_pc (pc' := 71) rfl ?_)
                refine G_callS (K1 := KE) (d2 := 0) (as := [vi (M 60 o)]) (rest := []) d_Mo_setPart_71 mf_Mo_elementOf ml_Mo_146 rfl rfl (by decide) (by omega) ⟨Nat.le_refl _, Nat.le_refl _⟩ (g_Mo_elementOf (by omega) (M 60 o) _ (by omega)) (fun r15 M16 kq17 q17 => ?_)
                clear kq17; obtain ⟨q17a, q17b⟩ := q17; subst r15; subst M16
                refine G_ps (pc' := 74) (st' := [vi (elemM (M 60 o))]) rfl rfl ?_
                refine G_goto (tgt := 78) d_Mo_setPart_74 (by decide) ?_
                refine G_ps (pc' := 78) (st' := [vi (dueM M o part)]) rfl (by rw [show dueM M o part = elemM (M 60 o) by unfold dueM; rw [if_neg (by omega), if_pos (by omega)]]) ?_
                have hdue : -1 ≤ dueM M o part ∧ dueM M o part < 17 := by rw [show dueM M o part = elemM (M 60 o) by unfold dueM; rw [if_neg (by omega), if_pos (by omega)]]; have := elemM_rng (a := M 60 o) (by omega); omega
                refine G_istore (i := 6) (len := 2) (ls' := [(6, vi (dueM M o part)), (5, vi (M 60 o)), (0, vr 55), (1, vi o), (2, vi part), (3, vl v)]) (Or.inr ⟨rfl, d_Mo_setPart_78⟩) (by decide) rfl (G_pc (pc' := 80) rfl ?_)
                refine G_iload (i := 6) (n := 0) (len := 2) (Or.inr ⟨rfl, d_Mo_setPart_80⟩) rfl (G_pc (pc' := 82) rfl ?_)
                refine G_if_lt (tgt := 95) d_Mo_setPart_82 (by decide) (fun h18 => ?_) (fun h18 => G_pc (pc' := 85) rfl ?_)
                · skip
                  refine G_iconst (n := 0) d_Mo_setPart_95 (by decide) (G_pc (pc' := 96) rfl ?_)
                  refine G_iret d_Mo_setPart_96 rfl (tokZ (by decide)) rfl rfl ?_
                  exact ⟨fun h => absurd h (by unfold setPartOK; grind), fun _ => ⟨rfl, rfl⟩⟩
                · skip
                  refine G_aload (i := 0) (n := 2) (len := 1) (Or.inl ⟨0, rfl, rfl, d_Mo_setPart_85⟩) rfl (by decide) (G_pc (pc' := 86) rfl ?_)
                  refine G_iload (i := 6) (n := 0) (len := 2) (Or.inr ⟨rfl, d_Mo_setPart_86⟩) rfl (G_pc (pc' := 88) rfl ?_)
                  refine G_lload (i := 3) (n := 5) (len := 1) (Or.inl ⟨3, rfl, rfl, d_Mo_setPart_88⟩) rfl (G_pc (pc' := 89) rfl ?_)
                  refine G_callV (K1 := KE) (d2 := 2) (o := 55) (cl := 9) (as := [vi (dueM M o part), vl v]) (rest := []) d_Mo_setPart_89 mf_Mo_valid ml_Mo_138 rfl rfl (by decide) rfl rfl (by decide) (by omega) ⟨Nat.le_refl _, Nat.le_refl _⟩ (g_Mo_valid (by omega) (dueM M o part) v _ hP hO hk (by omega)) (fun r19 M20 kq21 q21 => ?_)
                  clear kq21; obtain ⟨q21a, q21b⟩ := q21; subst r19; subst M20
                  refine G_ps (pc' := 92) (st' := [vi (b2i (validB M (dueM M o part) v))]) rfl rfl ?_
                  refine G_if_ne (tgt := 97) d_Mo_setPart_92 (by decide) (fun h22 => ?_) (fun h22 => G_pc (pc' := 95) rfl ?_)
                  · skip
                    replace h22 := b2i_nz.mp h22
                    refine G_aload (i := 0) (n := 2) (len := 1) (Or.inl ⟨0, rfl, rfl, d_Mo_setPart_97⟩) rfl (by decide) (G_pc (pc' := 98) rfl ?_)
                    refine G_get (o := 55) (c := 9) (k := 8) (v := 62) d_Mo_setPart_98 fl_Mo_29 rfl (by decide) (by decide) rfl rfl (G_pc (pc' := 101) rfl ?_)
                    refine G_bipush (n := 26) d_Mo_setPart_101 (by decide) (G_pc (pc' := 103) rfl ?_)
                    refine G_iload (i := 1) (n := 3) (len := 1) (Or.inl ⟨1, rfl, rfl, d_Mo_setPart_103⟩) rfl (G_pc (pc' := 104) rfl ?_)
                    refine G_imul d_Mo_setPart_104 (by omega) (G_pc (pc' := 105) rfl ?_)
                    refine G_iload (i := 2) (n := 4) (len := 1) (Or.inl ⟨2, rfl, rfl, d_Mo_setPart_105⟩) rfl (G_pc (pc' := 106) rfl ?_)
                    refine G_iadd d_Mo_setPart_106 (by omega) (G_pc (pc' := 107) rfl ?_)
                    refine G_lload (i := 3) (n := 5) (len := 1) (Or.inl ⟨3, rfl, rfl, d_Mo_setPart_107⟩) rfl (G_pc (pc' := 108) rfl ?_)
                    refine G_lastore (o := 62) (n := 338) (i := (26 * o) + part) (x := v) d_Mo_setPart_108 rfl ⟨by decide, by decide⟩ (by decide) (gt_arr rfl _) (by omega) (tokJ (by omega)) (G_pc (pc' := 109) rfl ?_)
                    refine G_iconst (n := 1) d_Mo_setPart_109 (by decide) (G_pc (pc' := 110) rfl ?_)
                    refine G_iret d_Mo_setPart_110 rfl (tokZ (by decide)) rfl rfl ?_
                    exact ⟨fun _ => ⟨rfl, rfl⟩, fun h => absurd (show setPartOK M o part v by unfold setPartOK; grind) h⟩
                  · skip
                    replace h22 := b2i_0.mp h22
                    refine G_iconst (n := 0) d_Mo_setPart_95 (by decide) (G_pc (pc' := 96) rfl ?_)
                    refine G_iret d_Mo_setPart_96 rfl (tokZ (by decide)) rfl rfl ?_
                    exact ⟨fun h => absurd h (by unfold setPartOK; grind), fun _ => ⟨rfl, rfl⟩⟩
            · skip
              refine G_aload (i := 0) (n := 1) (len := 1) (Or.inl ⟨0, rfl, rfl, d_Mo_setPart_47⟩) rfl (by decide) (G_pc (pc' := 48) rfl ?_)
              refine G_iload (i := 5) (n := 0) (len := 2) (Or.inr ⟨rfl, d_Mo_setPart_48⟩) rfl (G_pc (pc' := 50) rfl ?_)
              refine G_iconst (n := 4) d_Mo_setPart_50 (by decide) (G_pc (pc' := 51) rfl ?_)
              refine G_isub d_Mo_setPart_51 (by omega) (G_pc (pc' := 52) rfl ?_)
              refine G_iload (i := 2) (n := 3) (len := 1) (Or.inl ⟨2, rfl, rfl, d_Mo_setPart_52⟩) rfl (G_pc (pc' := 53) rfl ?_)
              refine G_callV (K1 := KE) (d2 := 0) (o := 55) (cl := 9) (as := [vi ((M 60 o) - 4), vi part]) (rest := []) d_Mo_setPart_53 mf_Mo_fieldOf ml_Mo_142 rfl rfl (by decide) rfl rfl (by decide) (by omega) ⟨Nat.le_refl _, Nat.le_refl _⟩ (g_Mo_fieldOf (by omega) ((M 60 o) - 4) part _ hP (by omega) (by omega)) (fun r23 M24 kq25 q25 => ?_)
              clear kq25; obtain ⟨q25a, q25b⟩ := q25; subst r23; subst M24
              refine G_ps (pc' := 56) (st' := [vi (fieldM M ((M 60 o) - 4) part)]) rfl rfl ?_
              refine G_goto (tgt := 78) d_Mo_setPart_56 (by decide) ?_
              refine G_ps (pc' := 78) (st' := [vi (dueM M o part)]) rfl (by rw [show dueM M o part = fieldM M (M 60 o - 4) part by unfold dueM; rw [if_pos (by omega)]]) ?_
              have hdue : -1 ≤ dueM M o part ∧ dueM M o part < 17 := by rw [show dueM M o part = fieldM M (M 60 o - 4) part by unfold dueM; rw [if_pos (by omega)]]; exact fieldM_rng hP hF (by omega) (by omega)
              refine G_istore (i := 6) (len := 2) (ls' := [(6, vi (dueM M o part)), (5, vi (M 60 o)), (0, vr 55), (1, vi o), (2, vi part), (3, vl v)]) (Or.inr ⟨rfl, d_Mo_setPart_78⟩) (by decide) rfl (G_pc (pc' := 80) rfl ?_)
              refine G_iload (i := 6) (n := 0) (len := 2) (Or.inr ⟨rfl, d_Mo_setPart_80⟩) rfl (G_pc (pc' := 82) rfl ?_)
              refine G_if_lt (tgt := 95) d_Mo_setPart_82 (by decide) (fun h26 => ?_) (fun h26 => G_pc (pc' := 85) rfl ?_)
              · skip
                refine G_iconst (n := 0) d_Mo_setPart_95 (by decide) (G_pc (pc' := 96) rfl ?_)
                refine G_iret d_Mo_setPart_96 rfl (tokZ (by decide)) rfl rfl ?_
                exact ⟨fun h => absurd h (by unfold setPartOK; grind), fun _ => ⟨rfl, rfl⟩⟩
              · skip
                refine G_aload (i := 0) (n := 2) (len := 1) (Or.inl ⟨0, rfl, rfl, d_Mo_setPart_85⟩) rfl (by decide) (G_pc (pc' := 86) rfl ?_)
                refine G_iload (i := 6) (n := 0) (len := 2) (Or.inr ⟨rfl, d_Mo_setPart_86⟩) rfl (G_pc (pc' := 88) rfl ?_)
                refine G_lload (i := 3) (n := 5) (len := 1) (Or.inl ⟨3, rfl, rfl, d_Mo_setPart_88⟩) rfl (G_pc (pc' := 89) rfl ?_)
                refine G_callV (K1 := KE) (d2 := 2) (o := 55) (cl := 9) (as := [vi (dueM M o part), vl v]) (rest := []) d_Mo_setPart_89 mf_Mo_valid ml_Mo_138 rfl rfl (by decide) rfl rfl (by decide) (by omega) ⟨Nat.le_refl _, Nat.le_refl _⟩ (g_Mo_valid (by omega) (dueM M o part) v _ hP hO hk (by omega)) (fun r27 M28 kq29 q29 => ?_)
                clear kq29; obtain ⟨q29a, q29b⟩ := q29; subst r27; subst M28
                refine G_ps (pc' := 92) (st' := [vi (b2i (validB M (dueM M o part) v))]) rfl rfl ?_
                refine G_if_ne (tgt := 97) d_Mo_setPart_92 (by decide) (fun h30 => ?_) (fun h30 => G_pc (pc' := 95) rfl ?_)
                · skip
                  replace h30 := b2i_nz.mp h30
                  refine G_aload (i := 0) (n := 2) (len := 1) (Or.inl ⟨0, rfl, rfl, d_Mo_setPart_97⟩) rfl (by decide) (G_pc (pc' := 98) rfl ?_)
                  refine G_get (o := 55) (c := 9) (k := 8) (v := 62) d_Mo_setPart_98 fl_Mo_29 rfl (by decide) (by decide) rfl rfl (G_pc (pc' := 101) rfl ?_)
                  refine G_bipush (n := 26) d_Mo_setPart_101 (by decide) (G_pc (pc' := 103) rfl ?_)
                  refine G_iload (i := 1) (n := 3) (len := 1) (Or.inl ⟨1, rfl, rfl, d_Mo_setPart_103⟩) rfl (G_pc (pc' := 104) rfl ?_)
                  refine G_imul d_Mo_setPart_104 (by omega) (G_pc (pc' := 105) rfl ?_)
                  refine G_iload (i := 2) (n := 4) (len := 1) (Or.inl ⟨2, rfl, rfl, d_Mo_setPart_105⟩) rfl (G_pc (pc' := 106) rfl ?_)
                  refine G_iadd d_Mo_setPart_106 (by omega) (G_pc (pc' := 107) rfl ?_)
                  refine G_lload (i := 3) (n := 5) (len := 1) (Or.inl ⟨3, rfl, rfl, d_Mo_setPart_107⟩) rfl (G_pc (pc' := 108) rfl ?_)
                  refine G_lastore (o := 62) (n := 338) (i := (26 * o) + part) (x := v) d_Mo_setPart_108 rfl ⟨by decide, by decide⟩ (by decide) (gt_arr rfl _) (by omega) (tokJ (by omega)) (G_pc (pc' := 109) rfl ?_)
                  refine G_iconst (n := 1) d_Mo_setPart_109 (by decide) (G_pc (pc' := 110) rfl ?_)
                  refine G_iret d_Mo_setPart_110 rfl (tokZ (by decide)) rfl rfl ?_
                  exact ⟨fun _ => ⟨rfl, rfl⟩, fun h => absurd (show setPartOK M o part v by unfold setPartOK; grind) h⟩
                · skip
                  replace h30 := b2i_0.mp h30
                  refine G_iconst (n := 0) d_Mo_setPart_95 (by decide) (G_pc (pc' := 96) rfl ?_)
                  refine G_iret d_Mo_setPart_96 rfl (tokZ (by decide)) rfl rfl ?_
                  exact ⟨fun h => absurd h (by unfold setPartOK; grind), fun _ => ⟨rfl, rfl⟩⟩
          · skip
            refine G_iconst (n := 0) d_Mo_setPart_30 (by decide) (G_pc (pc' := 31) rfl ?_)
            refine G_iret d_Mo_setPart_31 rfl (tokZ (by decide)) rfl rfl ?_
            exact ⟨fun h => absurd h (by unfold setPartOK; grind), fun _ => ⟨rfl, rfl⟩⟩

