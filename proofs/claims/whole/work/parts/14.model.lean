def runM (M : Mem) (on : Int) : Mem := if on = 1 then forgetM (mset (mset M 55 9 0) 55 10 (M 55 10)) 8 else mset (mset M 55 9 1) 55 10 1
def lineM (M : Mem) (on : Int) : Mem := if on = 1 then mset M 55 11 0 else forgetM (mset M 55 11 1) 7
theorem d_Mo_run_0 : decode b_Mo_run 0 = .ok (.iload_n 1, 1) := by decide +kernel
theorem d_Mo_run_1 : decode b_Mo_run 1 = .ok (.aload_n 0, 1) := by decide +kernel
theorem d_Mo_run_2 : decode b_Mo_run 2 = .ok (.getfield 133, 3) := by decide +kernel
theorem d_Mo_run_5 : decode b_Mo_run 5 = .ok (.if_icmp .eq 5, 3) := by decide +kernel
theorem d_Mo_run_8 : decode b_Mo_run 8 = .ok (.iconst 0, 1) := by decide +kernel
theorem d_Mo_run_9 : decode b_Mo_run 9 = .ok (.ireturn, 1) := by decide +kernel
theorem d_Mo_run_10 : decode b_Mo_run 10 = .ok (.aload_n 0, 1) := by decide +kernel
theorem d_Mo_run_11 : decode b_Mo_run 11 = .ok (.iload_n 1, 1) := by decide +kernel
theorem d_Mo_run_12 : decode b_Mo_run 12 = .ok (.ifCond .ne 7, 3) := by decide +kernel
theorem d_Mo_run_15 : decode b_Mo_run 15 = .ok (.iconst 1, 1) := by decide +kernel
theorem d_Mo_run_16 : decode b_Mo_run 16 = .ok (.goto 4, 3) := by decide +kernel
theorem d_Mo_run_19 : decode b_Mo_run 19 = .ok (.iconst 0, 1) := by decide +kernel
theorem d_Mo_run_20 : decode b_Mo_run 20 = .ok (.putfield 133, 3) := by decide +kernel
theorem d_Mo_run_23 : decode b_Mo_run 23 = .ok (.aload_n 0, 1) := by decide +kernel
theorem d_Mo_run_24 : decode b_Mo_run 24 = .ok (.aload_n 0, 1) := by decide +kernel
theorem d_Mo_run_25 : decode b_Mo_run 25 = .ok (.getfield 123, 3) := by decide +kernel
theorem d_Mo_run_28 : decode b_Mo_run 28 = .ok (.ifCond .ne 10, 3) := by decide +kernel
theorem d_Mo_run_31 : decode b_Mo_run 31 = .ok (.aload_n 0, 1) := by decide +kernel
theorem d_Mo_run_32 : decode b_Mo_run 32 = .ok (.getfield 133, 3) := by decide +kernel
theorem d_Mo_run_35 : decode b_Mo_run 35 = .ok (.ifCond .eq 7, 3) := by decide +kernel
theorem d_Mo_run_38 : decode b_Mo_run 38 = .ok (.iconst 1, 1) := by decide +kernel
theorem d_Mo_run_39 : decode b_Mo_run 39 = .ok (.goto 4, 3) := by decide +kernel
theorem d_Mo_run_42 : decode b_Mo_run 42 = .ok (.iconst 0, 1) := by decide +kernel
theorem d_Mo_run_43 : decode b_Mo_run 43 = .ok (.putfield 123, 3) := by decide +kernel
theorem d_Mo_run_46 : decode b_Mo_run 46 = .ok (.iload_n 1, 1) := by decide +kernel
theorem d_Mo_run_47 : decode b_Mo_run 47 = .ok (.ifCond .eq 9, 3) := by decide +kernel
theorem d_Mo_run_50 : decode b_Mo_run 50 = .ok (.aload_n 0, 1) := by decide +kernel
theorem d_Mo_run_51 : decode b_Mo_run 51 = .ok (.bipush 8, 2) := by decide +kernel
theorem d_Mo_run_53 : decode b_Mo_run 53 = .ok (.invokevirtual 153, 3) := by decide +kernel
theorem d_Mo_run_56 : decode b_Mo_run 56 = .ok (.iconst 1, 1) := by decide +kernel
theorem d_Mo_run_57 : decode b_Mo_run 57 = .ok (.ireturn, 1) := by decide +kernel
theorem g_Mo_run {X : WX} {d : Nat} (hd : 1 ≤ d) (on : Int) (M : Mem) (hon : 0 ≤ on ∧ on ≤ 1) (h9 : 0 ≤ M 55 9 ∧ M 55 9 ≤ 1) (h10 : 0 ≤ M 55 10 ∧ M 55 10 ≤ 1) : MG X gt d KE KE y_Mo_run b_Mo_run 2 (some .boolean) [vr 55, vi on] M (fun r M' => (on = M 55 9 → r = some (vi 1) ∧ M' = runM M on) ∧ (¬ on = M 55 9 → r = some (vi 0) ∧ M' = M)) := by
  refine MG_of_G (by decide) (Nat.le_of_ble_eq_true rfl) (Nat.le_refl _) (by decide) ?_
  show G X gt d KE KE y_Mo_run b_Mo_run 2 (some .boolean) _ 0 [(0, vr 55), (1, vi on)] [] KE M
  refine G_rngl (i := 1) rfl (fun hr1 => ?_)
  refine G_iload (i := 1) (n := 1) (len := 1) (Or.inl ⟨1, rfl, rfl, d_Mo_run_0⟩) rfl (G_pc (pc' := 1) rfl ?_)
  refine G_aload (i := 0) (n := 0) (len := 1) (Or.inl ⟨0, rfl, rfl, d_Mo_run_1⟩) rfl (by decide) (G_pc (pc' := 2) rfl ?_)
  refine G_get (o := 55) (c := 9) (k := 9) (v := M 55 9) d_Mo_run_2 fl_Mo_133 rfl (by decide) (by decide) rfl rfl (G_pc (pc' := 5) rfl ?_)
  refine G_icmp_eq (tgt := 10) d_Mo_run_5 (by decide) (fun h1 => ?_) (fun h1 => G_pc (pc' := 8) rfl ?_)
  · skip
    refine G_aload (i := 0) (n := 0) (len := 1) (Or.inl ⟨0, rfl, rfl, d_Mo_run_10⟩) rfl (by decide) (G_pc (pc' := 11) rfl ?_)
    refine G_iload (i := 1) (n := 1) (len := 1) (Or.inl ⟨1, rfl, rfl, d_Mo_run_11⟩) rfl (G_pc (pc' := 12) rfl ?_)
    refine G_if_ne (tgt := 19) d_Mo_run_12 (by decide) (fun h2 => ?_) (fun h2 => G_pc (pc' := 15) rfl ?_)
    · skip
      refine G_iconst (n := 0) d_Mo_run_19 (by decide) (G_pc (pc' := 20) rfl ?_)
      refine G_putL (o := 55) (c := 9) (k := 9) (ki := 9) (x := 0) d_Mo_run_20 fl_Mo_133 rfl rfl (by decide) (by decide) (by decide) rfl rfl (tokZ (by decide)) rfl (G_pc (pc' := 23) rfl ?_)
      refine G_aload (i := 0) (n := 0) (len := 1) (Or.inl ⟨0, rfl, rfl, d_Mo_run_23⟩) rfl (by decide) (G_pc (pc' := 24) rfl ?_)
      refine G_aload (i := 0) (n := 0) (len := 1) (Or.inl ⟨0, rfl, rfl, d_Mo_run_24⟩) rfl (by decide) (G_pc (pc' := 25) rfl ?_)
      refine G_get (o := 55) (c := 9) (k := 10) (v := M 55 10) d_Mo_run_25 fl_Mo_123 rfl (by decide) (by decide) rfl rfl (G_pc (pc' := 28) rfl ?_)
      refine G_if_ne (tgt := 38) d_Mo_run_28 (by decide) (fun h3 => ?_) (fun h3 => G_pc (pc' := 31) rfl ?_)
      · skip
        refine G_iconst (n := 1) d_Mo_run_38 (by decide) (G_pc (pc' := 39) rfl ?_)
        refine G_goto (tgt := 43) d_Mo_run_39 (by decide) ?_
        refine G_putL (o := 55) (c := 9) (k := 10) (ki := 10) (x := 1) d_Mo_run_43 fl_Mo_123 rfl rfl (by decide) (by decide) (by decide) rfl rfl (tokZ (by decide)) rfl (G_pc (pc' := 46) rfl ?_)
        refine G_iload (i := 1) (n := 1) (len := 1) (Or.inl ⟨1, rfl, rfl, d_Mo_run_46⟩) rfl (G_pc (pc' := 47) rfl ?_)
        refine G_if_eq (tgt := 56) d_Mo_run_47 (by decide) (fun h4 => ?_) (fun h4 => G_pc (pc' := 50) rfl ?_)
        · skip
          refine G_iconst (n := 1) d_Mo_run_56 (by decide) (G_pc (pc' := 57) rfl ?_)
          refine G_iret d_Mo_run_57 rfl (tokZ (by decide)) rfl rfl ?_
          exact ⟨fun _ => ⟨rfl, by unfold runM; grind⟩, fun h => by exfalso; omega⟩
        · skip
          refine G_aload (i := 0) (n := 0) (len := 1) (Or.inl ⟨0, rfl, rfl, d_Mo_run_50⟩) rfl (by decide) (G_pc (pc' := 51) rfl ?_)
          refine G_bipush (n := 8) d_Mo_run_51 (by decide) (G_pc (pc' := 53) rfl ?_)
          refine G_callV (K1 := KE) (d2 := 0) (o := 55) (cl := 9) (as := [vi 8]) (rest := []) d_Mo_run_53 mf_Mo_forget ml_Mo_153 rfl rfl (by decide) rfl rfl (by decide) (by omega) ⟨Nat.le_refl _, Nat.le_refl _⟩ (g_Mo_forget (by omega) 8 _) (fun r5 M6 kq7 q7 => ?_)
          clear kq7; obtain ⟨q7a, q7b⟩ := q7; subst r5; subst M6
          refine G_ps (pc' := 56) (st' := []) rfl rfl ?_
          refine G_iconst (n := 1) d_Mo_run_56 (by decide) (G_pc (pc' := 57) rfl ?_)
          refine G_iret d_Mo_run_57 rfl (tokZ (by decide)) rfl rfl ?_
          exact ⟨fun _ => ⟨rfl, by unfold runM; grind⟩, fun h => by exfalso; omega⟩
      · skip
        refine G_aload (i := 0) (n := 0) (len := 1) (Or.inl ⟨0, rfl, rfl, d_Mo_run_31⟩) rfl (by decide) (G_pc (pc' := 32) rfl ?_)
        refine G_get (o := 55) (c := 9) (k := 9) (v := 0) d_Mo_run_32 fl_Mo_133 rfl (by decide) (by decide) rfl rfl (G_pc (pc' := 35) rfl ?_)
        refine G_if_eq (tgt := 42) d_Mo_run_35 (by decide) (fun h8 => ?_) (fun h8 => absurd h8 (by decide))
        refine G_iconst (n := 0) d_Mo_run_42 (by decide) (G_pc (pc' := 43) rfl ?_)
        refine G_putL (o := 55) (c := 9) (k := 10) (ki := 10) (x := 0) d_Mo_run_43 fl_Mo_123 rfl rfl (by decide) (by decide) (by decide) rfl rfl (tokZ (by decide)) rfl (G_pc (pc' := 46) rfl ?_)
        refine G_iload (i := 1) (n := 1) (len := 1) (Or.inl ⟨1, rfl, rfl, d_Mo_run_46⟩) rfl (G_pc (pc' := 47) rfl ?_)
        refine G_if_eq (tgt := 56) d_Mo_run_47 (by decide) (fun h9 => ?_) (fun h9 => G_pc (pc' := 50) rfl ?_)
        · skip
          refine G_iconst (n := 1) d_Mo_run_56 (by decide) (G_pc (pc' := 57) rfl ?_)
          refine G_iret d_Mo_run_57 rfl (tokZ (by decide)) rfl rfl ?_
          exact ⟨fun _ => ⟨rfl, by unfold runM; grind⟩, fun h => by exfalso; omega⟩
        · skip
          refine G_aload (i := 0) (n := 0) (len := 1) (Or.inl ⟨0, rfl, rfl, d_Mo_run_50⟩) rfl (by decide) (G_pc (pc' := 51) rfl ?_)
          refine G_bipush (n := 8) d_Mo_run_51 (by decide) (G_pc (pc' := 53) rfl ?_)
          refine G_callV (K1 := KE) (d2 := 0) (o := 55) (cl := 9) (as := [vi 8]) (rest := []) d_Mo_run_53 mf_Mo_forget ml_Mo_153 rfl rfl (by decide) rfl rfl (by decide) (by omega) ⟨Nat.le_refl _, Nat.le_refl _⟩ (g_Mo_forget (by omega) 8 _) (fun r10 M11 kq12 q12 => ?_)
          clear kq12; obtain ⟨q12a, q12b⟩ := q12; subst r10; subst M11
          refine G_ps (pc' := 56) (st' := []) rfl rfl ?_
          refine G_iconst (n := 1) d_Mo_run_56 (by decide) (G_pc (pc' := 57) rfl ?_)
          refine G_iret d_Mo_run_57 rfl (tokZ (by decide)) rfl rfl ?_
          exact ⟨fun _ => ⟨rfl, by unfold runM; grind⟩, fun h => by exfalso; omega⟩
    · skip
      refine G_iconst (n := 1) d_Mo_run_15 (by decide) (G_pc (pc' := 16) rfl ?_)
      refine G_goto (tgt := 20) d_Mo_run_16 (by decide) ?_
      refine G_putL (o := 55) (c := 9) (k := 9) (ki := 9) (x := 1) d_Mo_run_20 fl_Mo_133 rfl rfl (by decide) (by decide) (by decide) rfl rfl (tokZ (by decide)) rfl (G_pc (pc' := 23) rfl ?_)
      refine G_aload (i := 0) (n := 0) (len := 1) (Or.inl ⟨0, rfl, rfl, d_Mo_run_23⟩) rfl (by decide) (G_pc (pc' := 24) rfl ?_)
      refine G_aload (i := 0) (n := 0) (len := 1) (Or.inl ⟨0, rfl, rfl, d_Mo_run_24⟩) rfl (by decide) (G_pc (pc' := 25) rfl ?_)
      refine G_get (o := 55) (c := 9) (k := 10) (v := M 55 10) d_Mo_run_25 fl_Mo_123 rfl (by decide) (by decide) rfl rfl (G_pc (pc' := 28) rfl ?_)
      refine G_if_ne (tgt := 38) d_Mo_run_28 (by decide) (fun h13 => ?_) (fun h13 => G_pc (pc' := 31) rfl ?_)
      · skip
        refine G_iconst (n := 1) d_Mo_run_38 (by decide) (G_pc (pc' := 39) rfl ?_)
        refine G_goto (tgt := 43) d_Mo_run_39 (by decide) ?_
        refine G_putL (o := 55) (c := 9) (k := 10) (ki := 10) (x := 1) d_Mo_run_43 fl_Mo_123 rfl rfl (by decide) (by decide) (by decide) rfl rfl (tokZ (by decide)) rfl (G_pc (pc' := 46) rfl ?_)
        refine G_iload (i := 1) (n := 1) (len := 1) (Or.inl ⟨1, rfl, rfl, d_Mo_run_46⟩) rfl (G_pc (pc' := 47) rfl ?_)
        refine G_if_eq (tgt := 56) d_Mo_run_47 (by decide) (fun h14 => ?_) (fun h14 => G_pc (pc' := 50) rfl ?_)
        · skip
          refine G_iconst (n := 1) d_Mo_run_56 (by decide) (G_pc (pc' := 57) rfl ?_)
          refine G_iret d_Mo_run_57 rfl (tokZ (by decide)) rfl rfl ?_
          exact ⟨fun _ => ⟨rfl, by unfold runM; grind⟩, fun h => by exfalso; omega⟩
        · skip
          refine G_aload (i := 0) (n := 0) (len := 1) (Or.inl ⟨0, rfl, rfl, d_Mo_run_50⟩) rfl (by decide) (G_pc (pc' := 51) rfl ?_)
          refine G_bipush (n := 8) d_Mo_run_51 (by decide) (G_pc (pc' := 53) rfl ?_)
          refine G_callV (K1 := KE) (d2 := 0) (o := 55) (cl := 9) (as := [vi 8]) (rest := []) d_Mo_run_53 mf_Mo_forget ml_Mo_153 rfl rfl (by decide) rfl rfl (by decide) (by omega) ⟨Nat.le_refl _, Nat.le_refl _⟩ (g_Mo_forget (by omega) 8 _) (fun r15 M16 kq17 q17 => ?_)
          clear kq17; obtain ⟨q17a, q17b⟩ := q17; subst r15; subst M16
          refine G_ps (pc' := 56) (st' := []) rfl rfl ?_
          refine G_iconst (n := 1) d_Mo_run_56 (by decide) (G_pc (pc' := 57) rfl ?_)
          refine G_iret d_Mo_run_57 rfl (tokZ (by decide)) rfl rfl ?_
          exact ⟨fun _ => ⟨rfl, by unfold runM; grind⟩, fun h => by exfalso; omega⟩
      · skip
        refine G_aload (i := 0) (n := 0) (len := 1) (Or.inl ⟨0, rfl, rfl, d_Mo_run_31⟩) rfl (by decide) (G_pc (pc' := 32) rfl ?_)
        refine G_get (o := 55) (c := 9) (k := 9) (v := 1) d_Mo_run_32 fl_Mo_133 rfl (by decide) (by decide) rfl rfl (G_pc (pc' := 35) rfl ?_)
        refine G_if_eq (tgt := 42) d_Mo_run_35 (by decide) (fun h18 => absurd h18 (by decide)) (fun h18 => G_pc (pc' := 38) rfl ?_)
        refine G_iconst (n := 1) d_Mo_run_38 (by decide) (G_pc (pc' := 39) rfl ?_)
        refine G_goto (tgt := 43) d_Mo_run_39 (by decide) ?_
        refine G_putL (o := 55) (c := 9) (k := 10) (ki := 10) (x := 1) d_Mo_run_43 fl_Mo_123 rfl rfl (by decide) (by decide) (by decide) rfl rfl (tokZ (by decide)) rfl (G_pc (pc' := 46) rfl ?_)
        refine G_iload (i := 1) (n := 1) (len := 1) (Or.inl ⟨1, rfl, rfl, d_Mo_run_46⟩) rfl (G_pc (pc' := 47) rfl ?_)
        refine G_if_eq (tgt := 56) d_Mo_run_47 (by decide) (fun h19 => ?_) (fun h19 => G_pc (pc' := 50) rfl ?_)
        · skip
          refine G_iconst (n := 1) d_Mo_run_56 (by decide) (G_pc (pc' := 57) rfl ?_)
          refine G_iret d_Mo_run_57 rfl (tokZ (by decide)) rfl rfl ?_
          exact ⟨fun _ => ⟨rfl, by unfold runM; grind⟩, fun h => by exfalso; omega⟩
        · skip
          refine G_aload (i := 0) (n := 0) (len := 1) (Or.inl ⟨0, rfl, rfl, d_Mo_run_50⟩) rfl (by decide) (G_pc (pc' := 51) rfl ?_)
          refine G_bipush (n := 8) d_Mo_run_51 (by decide) (G_pc (pc' := 53) rfl ?_)
          refine G_callV (K1 := KE) (d2 := 0) (o := 55) (cl := 9) (as := [vi 8]) (rest := []) d_Mo_run_53 mf_Mo_forget ml_Mo_153 rfl rfl (by decide) rfl rfl (by decide) (by omega) ⟨Nat.le_refl _, Nat.le_refl _⟩ (g_Mo_forget (by omega) 8 _) (fun r20 M21 kq22 q22 => ?_)
          clear kq22; obtain ⟨q22a, q22b⟩ := q22; subst r20; subst M21
          refine G_ps (pc' := 56) (st' := []) rfl rfl ?_
          refine G_iconst (n := 1) d_Mo_run_56 (by decide) (G_pc (pc' := 57) rfl ?_)
          refine G_iret d_Mo_run_57 rfl (tokZ (by decide)) rfl rfl ?_
          exact ⟨fun _ => ⟨rfl, by unfold runM; grind⟩, fun h => by exfalso; omega⟩
  · skip
    refine G_iconst (n := 0) d_Mo_run_8 (by decide) (G_pc (pc' := 9) rfl ?_)
    refine G_iret d_Mo_run_9 rfl (tokZ (by decide)) rfl rfl ?_
    exact ⟨fun h => absurd h (by omega), fun _ => ⟨rfl, rfl⟩⟩

theorem d_Mo_line_0 : decode b_Mo_line 0 = .ok (.iload_n 1, 1) := by decide +kernel
theorem d_Mo_line_1 : decode b_Mo_line 1 = .ok (.aload_n 0, 1) := by decide +kernel
theorem d_Mo_line_2 : decode b_Mo_line 2 = .ok (.getfield 157, 3) := by decide +kernel
theorem d_Mo_line_5 : decode b_Mo_line 5 = .ok (.if_icmp .eq 5, 3) := by decide +kernel
theorem d_Mo_line_8 : decode b_Mo_line 8 = .ok (.iconst 0, 1) := by decide +kernel
theorem d_Mo_line_9 : decode b_Mo_line 9 = .ok (.ireturn, 1) := by decide +kernel
theorem d_Mo_line_10 : decode b_Mo_line 10 = .ok (.aload_n 0, 1) := by decide +kernel
theorem d_Mo_line_11 : decode b_Mo_line 11 = .ok (.iload_n 1, 1) := by decide +kernel
theorem d_Mo_line_12 : decode b_Mo_line 12 = .ok (.ifCond .ne 7, 3) := by decide +kernel
theorem d_Mo_line_15 : decode b_Mo_line 15 = .ok (.iconst 1, 1) := by decide +kernel
theorem d_Mo_line_16 : decode b_Mo_line 16 = .ok (.goto 4, 3) := by decide +kernel
theorem d_Mo_line_19 : decode b_Mo_line 19 = .ok (.iconst 0, 1) := by decide +kernel
theorem d_Mo_line_20 : decode b_Mo_line 20 = .ok (.putfield 157, 3) := by decide +kernel
theorem d_Mo_line_23 : decode b_Mo_line 23 = .ok (.aload_n 0, 1) := by decide +kernel
theorem d_Mo_line_24 : decode b_Mo_line 24 = .ok (.getfield 157, 3) := by decide +kernel
theorem d_Mo_line_27 : decode b_Mo_line 27 = .ok (.ifCond .eq 9, 3) := by decide +kernel
theorem d_Mo_line_30 : decode b_Mo_line 30 = .ok (.aload_n 0, 1) := by decide +kernel
theorem d_Mo_line_31 : decode b_Mo_line 31 = .ok (.bipush 7, 2) := by decide +kernel
theorem d_Mo_line_33 : decode b_Mo_line 33 = .ok (.invokevirtual 153, 3) := by decide +kernel
theorem d_Mo_line_36 : decode b_Mo_line 36 = .ok (.iconst 1, 1) := by decide +kernel
theorem d_Mo_line_37 : decode b_Mo_line 37 = .ok (.ireturn, 1) := by decide +kernel
theorem g_Mo_line {X : WX} {d : Nat} (hd : 1 ≤ d) (on : Int) (M : Mem) (hon : 0 ≤ on ∧ on ≤ 1) (h9 : 0 ≤ M 55 11 ∧ M 55 11 ≤ 1) : MG X gt d KE KE y_Mo_line b_Mo_line 2 (some .boolean) [vr 55, vi on] M (fun r M' => (on = M 55 11 → r = some (vi 1) ∧ M' = lineM M on) ∧ (¬ on = M 55 11 → r = some (vi 0) ∧ M' = M)) := by
  refine MG_of_G (by decide) (Nat.le_of_ble_eq_true rfl) (Nat.le_refl _) (by decide) ?_
  show G X gt d KE KE y_Mo_line b_Mo_line 2 (some .boolean) _ 0 [(0, vr 55), (1, vi on)] [] KE M
  refine G_rngl (i := 1) rfl (fun hr1 => ?_)
  refine G_iload (i := 1) (n := 1) (len := 1) (Or.inl ⟨1, rfl, rfl, d_Mo_line_0⟩) rfl (G_pc (pc' := 1) rfl ?_)
  refine G_aload (i := 0) (n := 0) (len := 1) (Or.inl ⟨0, rfl, rfl, d_Mo_line_1⟩) rfl (by decide) (G_pc (pc' := 2) rfl ?_)
  refine G_get (o := 55) (c := 9) (k := 11) (v := M 55 11) d_Mo_line_2 fl_Mo_157 rfl (by decide) (by decide) rfl rfl (G_pc (pc' := 5) rfl ?_)
  refine G_icmp_eq (tgt := 10) d_Mo_line_5 (by decide) (fun h1 => ?_) (fun h1 => G_pc (pc' := 8) rfl ?_)
  · skip
    refine G_aload (i := 0) (n := 0) (len := 1) (Or.inl ⟨0, rfl, rfl, d_Mo_line_10⟩) rfl (by decide) (G_pc (pc' := 11) rfl ?_)
    refine G_iload (i := 1) (n := 1) (len := 1) (Or.inl ⟨1, rfl, rfl, d_Mo_line_11⟩) rfl (G_pc (pc' := 12) rfl ?_)
    refine G_if_ne (tgt := 19) d_Mo_line_12 (by decide) (fun h2 => ?_) (fun h2 => G_pc (pc' := 15) rfl ?_)
    · skip
      refine G_iconst (n := 0) d_Mo_line_19 (by decide) (G_pc (pc' := 20) rfl ?_)
      refine G_putL (o := 55) (c := 9) (k := 11) (ki := 11) (x := 0) d_Mo_line_20 fl_Mo_157 rfl rfl (by decide) (by decide) (by decide) rfl rfl (tokZ (by decide)) rfl (G_pc (pc' := 23) rfl ?_)
      refine G_aload (i := 0) (n := 0) (len := 1) (Or.inl ⟨0, rfl, rfl, d_Mo_line_23⟩) rfl (by decide) (G_pc (pc' := 24) rfl ?_)
      refine G_get (o := 55) (c := 9) (k := 11) (v := 0) d_Mo_line_24 fl_Mo_157 rfl (by decide) (by decide) rfl rfl (G_pc (pc' := 27) rfl ?_)
      refine G_if_eq (tgt := 36) d_Mo_line_27 (by decide) (fun h3 => ?_) (fun h3 => absurd h3 (by decide))
      refine G_iconst (n := 1) d_Mo_line_36 (by decide) (G_pc (pc' := 37) rfl ?_)
      refine G_iret d_Mo_line_37 rfl (tokZ (by decide)) rfl rfl ?_
      exact ⟨fun _ => ⟨rfl, by unfold lineM; grind⟩, fun h => by exfalso; omega⟩
    · skip
      refine G_iconst (n := 1) d_Mo_line_15 (by decide) (G_pc (pc' := 16) rfl ?_)
      refine G_goto (tgt := 20) d_Mo_line_16 (by decide) ?_
      refine G_putL (o := 55) (c := 9) (k := 11) (ki := 11) (x := 1) d_Mo_line_20 fl_Mo_157 rfl rfl (by decide) (by decide) (by decide) rfl rfl (tokZ (by decide)) rfl (G_pc (pc' := 23) rfl ?_)
      refine G_aload (i := 0) (n := 0) (len := 1) (Or.inl ⟨0, rfl, rfl, d_Mo_line_23⟩) rfl (by decide) (G_pc (pc' := 24) rfl ?_)
      refine G_get (o := 55) (c := 9) (k := 11) (v := 1) d_Mo_line_24 fl_Mo_157 rfl (by decide) (by decide) rfl rfl (G_pc (pc' := 27) rfl ?_)
      refine G_if_eq (tgt := 36) d_Mo_line_27 (by decide) (fun h4 => absurd h4 (by decide)) (fun h4 => G_pc (pc' := 30) rfl ?_)
      refine G_aload (i := 0) (n := 0) (len := 1) (Or.inl ⟨0, rfl, rfl, d_Mo_line_30⟩) rfl (by decide) (G_pc (pc' := 31) rfl ?_)
      refine G_bipush (n := 7) d_Mo_line_31 (by decide) (G_pc (pc' := 33) rfl ?_)
      refine G_callV (K1 := KE) (d2 := 0) (o := 55) (cl := 9) (as := [vi 7]) (rest := []) d_Mo_line_33 mf_Mo_forget ml_Mo_153 rfl rfl (by decide) rfl rfl (by decide) (by omega) ⟨Nat.le_refl _, Nat.le_refl _⟩ (g_Mo_forget (by omega) 7 _) (fun r5 M6 kq7 q7 => ?_)
      clear kq7; obtain ⟨q7a, q7b⟩ := q7; subst r5; subst M6
      refine G_ps (pc' := 36) (st' := []) rfl rfl ?_
      refine G_iconst (n := 1) d_Mo_line_36 (by decide) (G_pc (pc' := 37) rfl ?_)
      refine G_iret d_Mo_line_37 rfl (tokZ (by decide)) rfl rfl ?_
      exact ⟨fun _ => ⟨rfl, by unfold lineM; grind⟩, fun h => by exfalso; omega⟩
  · skip
    refine G_iconst (n := 0) d_Mo_line_8 (by decide) (G_pc (pc' := 9) rfl ?_)
    refine G_iret d_Mo_line_9 rfl (tokZ (by decide)) rfl rfl ?_
    exact ⟨fun h => absurd h (by omega), fun _ => ⟨rfl, rfl⟩⟩

def putOK (M : Mem) (c : Int) : Prop := 32 ≤ c ∧ c ≤ 126 ∧ M 64 4 ≠ 40
theorem d_Mo_put_0 : decode b_Mo_put 0 = .ok (.iload_n 1, 1) := by decide +kernel
theorem d_Mo_put_1 : decode b_Mo_put 1 = .ok (.bipush 32, 2) := by decide +kernel
theorem d_Mo_put_3 : decode b_Mo_put 3 = .ok (.if_icmp .lt 20, 3) := by decide +kernel
theorem d_Mo_put_6 : decode b_Mo_put 6 = .ok (.iload_n 1, 1) := by decide +kernel
theorem d_Mo_put_7 : decode b_Mo_put 7 = .ok (.bipush 126, 2) := by decide +kernel
theorem d_Mo_put_9 : decode b_Mo_put 9 = .ok (.if_icmp .gt 14, 3) := by decide +kernel
theorem d_Mo_put_12 : decode b_Mo_put 12 = .ok (.aload_n 0, 1) := by decide +kernel
theorem d_Mo_put_13 : decode b_Mo_put 13 = .ok (.getfield 35, 3) := by decide +kernel
theorem d_Mo_put_16 : decode b_Mo_put 16 = .ok (.iconst 4, 1) := by decide +kernel
theorem d_Mo_put_17 : decode b_Mo_put 17 = .ok (.iaload, 1) := by decide +kernel
theorem d_Mo_put_18 : decode b_Mo_put 18 = .ok (.bipush 40, 2) := by decide +kernel
theorem d_Mo_put_20 : decode b_Mo_put 20 = .ok (.if_icmp .ne 5, 3) := by decide +kernel
theorem d_Mo_put_23 : decode b_Mo_put 23 = .ok (.iconst 0, 1) := by decide +kernel
theorem d_Mo_put_24 : decode b_Mo_put 24 = .ok (.ireturn, 1) := by decide +kernel
theorem d_Mo_put_25 : decode b_Mo_put 25 = .ok (.aload_n 0, 1) := by decide +kernel
theorem d_Mo_put_26 : decode b_Mo_put 26 = .ok (.getfield 32, 3) := by decide +kernel
theorem d_Mo_put_29 : decode b_Mo_put 29 = .ok (.sipush 160, 3) := by decide +kernel
theorem d_Mo_put_32 : decode b_Mo_put 32 = .ok (.aload_n 0, 1) := by decide +kernel
theorem d_Mo_put_33 : decode b_Mo_put 33 = .ok (.getfield 35, 3) := by decide +kernel
theorem d_Mo_put_36 : decode b_Mo_put 36 = .ok (.iconst 4, 1) := by decide +kernel
theorem d_Mo_put_37 : decode b_Mo_put 37 = .ok (.iaload, 1) := by decide +kernel
theorem d_Mo_put_38 : decode b_Mo_put 38 = .ok (.iadd, 1) := by decide +kernel
theorem d_Mo_put_39 : decode b_Mo_put 39 = .ok (.iload_n 1, 1) := by decide +kernel
theorem d_Mo_put_40 : decode b_Mo_put 40 = .ok (.iastore, 1) := by decide +kernel
theorem d_Mo_put_41 : decode b_Mo_put 41 = .ok (.aload_n 0, 1) := by decide +kernel
theorem d_Mo_put_42 : decode b_Mo_put 42 = .ok (.getfield 35, 3) := by decide +kernel
theorem d_Mo_put_45 : decode b_Mo_put 45 = .ok (.iconst 4, 1) := by decide +kernel
theorem d_Mo_put_46 : decode b_Mo_put 46 = .ok (.dup2, 1) := by decide +kernel
theorem d_Mo_put_47 : decode b_Mo_put 47 = .ok (.iaload, 1) := by decide +kernel
theorem d_Mo_put_48 : decode b_Mo_put 48 = .ok (.iconst 1, 1) := by decide +kernel
theorem d_Mo_put_49 : decode b_Mo_put 49 = .ok (.iadd, 1) := by decide +kernel
theorem d_Mo_put_50 : decode b_Mo_put 50 = .ok (.iastore, 1) := by decide +kernel
theorem d_Mo_put_51 : decode b_Mo_put 51 = .ok (.iconst 1, 1) := by decide +kernel
theorem d_Mo_put_52 : decode b_Mo_put 52 = .ok (.ireturn, 1) := by decide +kernel
theorem g_Mo_put {X : WX} {d : Nat} (hd : 0 ≤ d) (c : Int) (M : Mem) (hL : 0 ≤ M 64 4 ∧ M 64 4 ≤ 40) : MG X gt d KE KE y_Mo_put b_Mo_put 2 (some .boolean) [vr 55, vi c] M (fun r M' => (putOK M c → r = some (vi 1) ∧ M' = (mset (mset M 63 (160 + M 64 4) c) 64 4 (M 64 4 + 1))) ∧ (¬ putOK M c → r = some (vi 0) ∧ M' = M)) := by
  refine MG_of_G (by decide) (Nat.le_of_ble_eq_true rfl) (Nat.le_refl _) (by decide) ?_
  show G X gt d KE KE y_Mo_put b_Mo_put 2 (some .boolean) _ 0 [(0, vr 55), (1, vi c)] [] KE M
  refine G_rngl (i := 1) rfl (fun hr1 => ?_)
  refine G_iload (i := 1) (n := 1) (len := 1) (Or.inl ⟨1, rfl, rfl, d_Mo_put_0⟩) rfl (G_pc (pc' := 1) rfl ?_)
  refine G_bipush (n := 32) d_Mo_put_1 (by decide) (G_pc (pc' := 3) rfl ?_)
  refine G_icmp_lt (tgt := 23) d_Mo_put_3 (by decide) (fun h1 => ?_) (fun h1 => G_pc (pc' := 6) rfl ?_)
  · skip
    refine G_iconst (n := 0) d_Mo_put_23 (by decide) (G_pc (pc' := 24) rfl ?_)
    refine G_iret d_Mo_put_24 rfl (tokZ (by decide)) rfl rfl ?_
    exact ⟨fun h => absurd h (by unfold putOK; grind [isKindB, inB, refB, numB]), fun _ => ⟨rfl, rfl⟩⟩
  · skip
    refine G_iload (i := 1) (n := 1) (len := 1) (Or.inl ⟨1, rfl, rfl, d_Mo_put_6⟩) rfl (G_pc (pc' := 7) rfl ?_)
    refine G_bipush (n := 126) d_Mo_put_7 (by decide) (G_pc (pc' := 9) rfl ?_)
    refine G_icmp_gt (tgt := 23) d_Mo_put_9 (by decide) (fun h2 => ?_) (fun h2 => G_pc (pc' := 12) rfl ?_)
    · skip
      refine G_iconst (n := 0) d_Mo_put_23 (by decide) (G_pc (pc' := 24) rfl ?_)
      refine G_iret d_Mo_put_24 rfl (tokZ (by decide)) rfl rfl ?_
      exact ⟨fun h => absurd h (by unfold putOK; grind [isKindB, inB, refB, numB]), fun _ => ⟨rfl, rfl⟩⟩
    · skip
      refine G_aload (i := 0) (n := 0) (len := 1) (Or.inl ⟨0, rfl, rfl, d_Mo_put_12⟩) rfl (by decide) (G_pc (pc' := 13) rfl ?_)
      refine G_get (o := 55) (c := 9) (k := 13) (v := 64) d_Mo_put_13 fl_Mo_35 rfl (by decide) (by decide) rfl rfl (G_pc (pc' := 16) rfl ?_)
      refine G_iconst (n := 4) d_Mo_put_16 (by decide) (G_pc (pc' := 17) rfl ?_)
      refine G_iaload (o := 64) (n := 5) (i := 4) (v := M 64 4) d_Mo_put_17 rfl ⟨by decide, by decide⟩ (by omega) (rd_arr rfl) (fun t3 => G_pc (pc' := 18) rfl ?_)
      have t3 := tok_i t3
      refine G_bipush (n := 40) d_Mo_put_18 (by decide) (G_pc (pc' := 20) rfl ?_)
      refine G_icmp_ne (tgt := 25) d_Mo_put_20 (by decide) (fun h4 => ?_) (fun h4 => G_pc (pc' := 23) rfl ?_)
      · skip
        refine G_aload (i := 0) (n := 0) (len := 1) (Or.inl ⟨0, rfl, rfl, d_Mo_put_25⟩) rfl (by decide) (G_pc (pc' := 26) rfl ?_)
        refine G_get (o := 55) (c := 9) (k := 12) (v := 63) d_Mo_put_26 fl_Mo_32 rfl (by decide) (by decide) rfl rfl (G_pc (pc' := 29) rfl ?_)
        refine G_sipush (n := 160) d_Mo_put_29 (by decide) (G_pc (pc' := 32) rfl ?_)
        refine G_aload (i := 0) (n := 0) (len := 1) (Or.inl ⟨0, rfl, rfl, d_Mo_put_32⟩) rfl (by decide) (G_pc (pc' := 33) rfl ?_)
        refine G_get (o := 55) (c := 9) (k := 13) (v := 64) d_Mo_put_33 fl_Mo_35 rfl (by decide) (by decide) rfl rfl (G_pc (pc' := 36) rfl ?_)
        refine G_iconst (n := 4) d_Mo_put_36 (by decide) (G_pc (pc' := 37) rfl ?_)
        refine G_iaload (o := 64) (n := 5) (i := 4) (v := M 64 4) d_Mo_put_37 rfl ⟨by decide, by decide⟩ (by omega) (rd_arr rfl) (fun t5 => G_pc (pc' := 38) rfl ?_)
        have t5 := tok_i t5
        refine G_iadd d_Mo_put_38 (by omega) (G_pc (pc' := 39) rfl ?_)
        refine G_iload (i := 1) (n := 1) (len := 1) (Or.inl ⟨1, rfl, rfl, d_Mo_put_39⟩) rfl (G_pc (pc' := 40) rfl ?_)
        refine G_iastore (o := 63) (n := 200) (i := 160 + (M 64 4)) (x := c) d_Mo_put_40 rfl ⟨by decide, by decide⟩ (by decide) (gt_arr rfl _) (by omega) (tokI (by omega)) (G_pc (pc' := 41) rfl ?_)
        refine G_aload (i := 0) (n := 0) (len := 1) (Or.inl ⟨0, rfl, rfl, d_Mo_put_41⟩) rfl (by decide) (G_pc (pc' := 42) rfl ?_)
        refine G_get (o := 55) (c := 9) (k := 13) (v := 64) d_Mo_put_42 fl_Mo_35 rfl (by decide) (by decide) rfl rfl (G_pc (pc' := 45) rfl ?_)
        refine G_iconst (n := 4) d_Mo_put_45 (by decide) (G_pc (pc' := 46) rfl ?_)
        refine G_dup2 d_Mo_put_46 (fun _ h => by cases h) (fun _ h => by cases h) (G_pc (pc' := 47) rfl ?_)
        refine G_iaload (o := 64) (n := 5) (i := 4) (v := M 64 4) d_Mo_put_47 rfl ⟨by decide, by decide⟩ (by omega) (rd_arr rfl) (fun t6 => G_pc (pc' := 48) rfl ?_)
        have t6 := tok_i t6
        refine G_iconst (n := 1) d_Mo_put_48 (by decide) (G_pc (pc' := 49) rfl ?_)
        refine G_iadd d_Mo_put_49 (by omega) (G_pc (pc' := 50) rfl ?_)
        refine G_iastore (o := 64) (n := 5) (i := 4) (x := (M 64 4) + 1) d_Mo_put_50 rfl ⟨by decide, by decide⟩ (by decide) (gt_arr rfl _) (by omega) (tokI (by omega)) (G_pc (pc' := 51) rfl ?_)
        refine G_iconst (n := 1) d_Mo_put_51 (by decide) (G_pc (pc' := 52) rfl ?_)
        refine G_iret d_Mo_put_52 rfl (tokZ (by decide)) rfl rfl ?_
        exact ⟨fun _ => ⟨by first | rfl | (congr 2; omega), rfl⟩, fun h => absurd (show putOK M c by unfold putOK; grind [isKindB, inB, refB, numB]) h⟩
      · skip
        refine G_iconst (n := 0) d_Mo_put_23 (by decide) (G_pc (pc' := 24) rfl ?_)
        refine G_iret d_Mo_put_24 rfl (tokZ (by decide)) rfl rfl ?_
        exact ⟨fun h => absurd h (by unfold putOK; grind [isKindB, inB, refB, numB]), fun _ => ⟨rfl, rfl⟩⟩

def nearM (M : Mem) (type name c : Int) : Prop := (isAm M c type = true ∨ isAm M type c = true) ∧ 0 ≤ M 57 (26 * c + name)
def addFieldOK (M : Mem) (type name kind : Int) : Prop := (0 ≤ type ∧ type < M 55 0) ∧ (0 ≤ name ∧ name < 26) ∧ isKindB (M 55 0) kind = true ∧ M 55 10 = 0 ∧ ∀ c, 0 ≤ c → c < M 55 0 → ¬ nearM M type name c
theorem d_Mo_addField_0 : decode b_Mo_addField 0 = .ok (.iload_n 1, 1) := by decide +kernel
theorem d_Mo_addField_1 : decode b_Mo_addField 1 = .ok (.aload_n 0, 1) := by decide +kernel
theorem d_Mo_addField_2 : decode b_Mo_addField 2 = .ok (.getfield 109, 3) := by decide +kernel
theorem d_Mo_addField_5 : decode b_Mo_addField 5 = .ok (.invokestatic 105, 3) := by decide +kernel
theorem d_Mo_addField_8 : decode b_Mo_addField 8 = .ok (.ifCond .eq 27, 3) := by decide +kernel
theorem d_Mo_addField_11 : decode b_Mo_addField 11 = .ok (.iload_n 2, 1) := by decide +kernel
theorem d_Mo_addField_12 : decode b_Mo_addField 12 = .ok (.bipush 26, 2) := by decide +kernel
theorem d_Mo_addField_14 : decode b_Mo_addField 14 = .ok (.invokestatic 105, 3) := by decide +kernel
theorem d_Mo_addField_17 : decode b_Mo_addField 17 = .ok (.ifCond .eq 18, 3) := by decide +kernel
theorem d_Mo_addField_20 : decode b_Mo_addField 20 = .ok (.aload_n 0, 1) := by decide +kernel
theorem d_Mo_addField_21 : decode b_Mo_addField 21 = .ok (.iload_n 3, 1) := by decide +kernel
theorem d_Mo_addField_22 : decode b_Mo_addField 22 = .ok (.invokevirtual 127, 3) := by decide +kernel
theorem d_Mo_addField_25 : decode b_Mo_addField 25 = .ok (.ifCond .eq 10, 3) := by decide +kernel
theorem d_Mo_addField_28 : decode b_Mo_addField 28 = .ok (.aload_n 0, 1) := by decide +kernel
theorem d_Mo_addField_29 : decode b_Mo_addField 29 = .ok (.getfield 123, 3) := by decide +kernel
theorem d_Mo_addField_32 : decode b_Mo_addField 32 = .ok (.ifCond .eq 5, 3) := by decide +kernel
theorem d_Mo_addField_35 : decode b_Mo_addField 35 = .ok (.iconst 0, 1) := by decide +kernel
theorem d_Mo_addField_36 : decode b_Mo_addField 36 = .ok (.ireturn, 1) := by decide +kernel
theorem d_Mo_addField_37 : decode b_Mo_addField 37 = .ok (.iconst 0, 1) := by decide +kernel
theorem d_Mo_addField_38 : decode b_Mo_addField 38 = .ok (.istore 4, 2) := by decide +kernel
theorem d_Mo_addField_40 : decode b_Mo_addField 40 = .ok (.iload 4, 2) := by decide +kernel
theorem d_Mo_addField_42 : decode b_Mo_addField 42 = .ok (.aload_n 0, 1) := by decide +kernel
theorem d_Mo_addField_43 : decode b_Mo_addField 43 = .ok (.getfield 109, 3) := by decide +kernel
theorem d_Mo_addField_46 : decode b_Mo_addField 46 = .ok (.if_icmp .ge 46, 3) := by decide +kernel
theorem d_Mo_addField_49 : decode b_Mo_addField 49 = .ok (.aload_n 0, 1) := by decide +kernel
theorem d_Mo_addField_50 : decode b_Mo_addField 50 = .ok (.iload 4, 2) := by decide +kernel
theorem d_Mo_addField_52 : decode b_Mo_addField 52 = .ok (.iload_n 1, 1) := by decide +kernel
theorem d_Mo_addField_53 : decode b_Mo_addField 53 = .ok (.invokevirtual 117, 3) := by decide +kernel
theorem d_Mo_addField_56 : decode b_Mo_addField 56 = .ok (.ifCond .ne 13, 3) := by decide +kernel
theorem d_Mo_addField_59 : decode b_Mo_addField 59 = .ok (.aload_n 0, 1) := by decide +kernel
theorem d_Mo_addField_60 : decode b_Mo_addField 60 = .ok (.iload_n 1, 1) := by decide +kernel
theorem d_Mo_addField_61 : decode b_Mo_addField 61 = .ok (.iload 4, 2) := by decide +kernel
theorem d_Mo_addField_63 : decode b_Mo_addField 63 = .ok (.invokevirtual 117, 3) := by decide +kernel
theorem d_Mo_addField_66 : decode b_Mo_addField 66 = .ok (.ifCond .eq 20, 3) := by decide +kernel
theorem d_Mo_addField_69 : decode b_Mo_addField 69 = .ok (.aload_n 0, 1) := by decide +kernel
theorem d_Mo_addField_70 : decode b_Mo_addField 70 = .ok (.getfield 13, 3) := by decide +kernel
theorem d_Mo_addField_73 : decode b_Mo_addField 73 = .ok (.bipush 26, 2) := by decide +kernel
theorem d_Mo_addField_75 : decode b_Mo_addField 75 = .ok (.iload 4, 2) := by decide +kernel
theorem d_Mo_addField_77 : decode b_Mo_addField 77 = .ok (.imul, 1) := by decide +kernel
theorem d_Mo_addField_78 : decode b_Mo_addField 78 = .ok (.iload_n 2, 1) := by decide +kernel
theorem d_Mo_addField_79 : decode b_Mo_addField 79 = .ok (.iadd, 1) := by decide +kernel
theorem d_Mo_addField_80 : decode b_Mo_addField 80 = .ok (.iaload, 1) := by decide +kernel
theorem d_Mo_addField_81 : decode b_Mo_addField 81 = .ok (.ifCond .lt 5, 3) := by decide +kernel
theorem d_Mo_addField_84 : decode b_Mo_addField 84 = .ok (.iconst 0, 1) := by decide +kernel
theorem d_Mo_addField_85 : decode b_Mo_addField 85 = .ok (.ireturn, 1) := by decide +kernel
theorem d_Mo_addField_86 : decode b_Mo_addField 86 = .ok (.iinc 4 1, 3) := by decide +kernel
theorem d_Mo_addField_89 : decode b_Mo_addField 89 = .ok (.goto (-49), 3) := by decide +kernel
theorem d_Mo_addField_92 : decode b_Mo_addField 92 = .ok (.aload_n 0, 1) := by decide +kernel
theorem d_Mo_addField_93 : decode b_Mo_addField 93 = .ok (.getfield 13, 3) := by decide +kernel
theorem d_Mo_addField_96 : decode b_Mo_addField 96 = .ok (.bipush 26, 2) := by decide +kernel
theorem d_Mo_addField_98 : decode b_Mo_addField 98 = .ok (.iload_n 1, 1) := by decide +kernel
theorem d_Mo_addField_99 : decode b_Mo_addField 99 = .ok (.imul, 1) := by decide +kernel
theorem d_Mo_addField_100 : decode b_Mo_addField 100 = .ok (.iload_n 2, 1) := by decide +kernel
theorem d_Mo_addField_101 : decode b_Mo_addField 101 = .ok (.iadd, 1) := by decide +kernel
theorem d_Mo_addField_102 : decode b_Mo_addField 102 = .ok (.iload_n 3, 1) := by decide +kernel
theorem d_Mo_addField_103 : decode b_Mo_addField 103 = .ok (.iastore, 1) := by decide +kernel
theorem d_Mo_addField_104 : decode b_Mo_addField 104 = .ok (.iconst 1, 1) := by decide +kernel
theorem d_Mo_addField_105 : decode b_Mo_addField 105 = .ok (.ireturn, 1) := by decide +kernel
theorem g_Mo_addField {X : WX} {d : Nat} (hd : 2 ≤ d) (type name kind : Int) (M : Mem) (hc : 0 ≤ M 55 0 ∧ M 55 0 ≤ 6) (hP : okP M) : MG X gt d KE KE y_Mo_addField b_Mo_addField 5 (some .boolean) [vr 55, vi type, vi name, vi kind] M (fun r M' => (addFieldOK M type name kind → r = some (vi 1) ∧ M' = mset M 57 (26 * type + name) kind) ∧ (¬ addFieldOK M type name kind → r = some (vi 0) ∧ M' = M)) := by
  refine MG_of_G (by decide) (Nat.le_of_ble_eq_true rfl) (Nat.le_refl _) (by decide) ?_
  show G X gt d KE KE y_Mo_addField b_Mo_addField 5 (some .boolean) _ 0 [(0, vr 55), (1, vi type), (2, vi name), (3, vi kind)] [] KE M
  refine G_rngl (i := 1) rfl (fun hr1 => ?_)
  refine G_rngl (i := 2) rfl (fun hr2 => ?_)
  refine G_rngl (i := 3) rfl (fun hr3 => ?_)
  have loop : ∀ (n : Nat) (c : Int), c + n = M 55 0 → 0 ≤ c → ((0 ≤ type ∧ type < M 55 0) ∧ (0 ≤ name ∧ name < 26) ∧ ((0 ≤ kind ∧ kind < 4) ∨ (4 ≤ kind ∧ kind < 4 + M 55 0) ∨ kind = 10 ∨ (11 ≤ kind ∧ kind < 11 + M 55 0)) ∧ M 55 10 = 0) → (∀ j, 0 ≤ j → j < c → ¬ nearM M type name j) → G X gt d KE KE y_Mo_addField b_Mo_addField 5 (some .boolean) (fun r M' => (addFieldOK M type name kind → r = some (vi 1) ∧ M' = mset M 57 (26 * type + name) kind) ∧ (¬ addFieldOK M type name kind → r = some (vi 0) ∧ M' = M)) 40 [(4, vi c), (0, vr 55), (1, vi type), (2, vi name), (3, vi kind)] [] KE M := by
    intro n
    induction n with
    | zero =>
      intro c h1 h2 hbase hnear
      refine G_iload (i := 4) (n := 0) (len := 2) (Or.inr ⟨rfl, d_Mo_addField_40⟩) rfl (G_pc (pc' := 42) rfl ?_)
      refine G_aload (i := 0) (n := 1) (len := 1) (Or.inl ⟨0, rfl, rfl, d_Mo_addField_42⟩) rfl (by decide) (G_pc (pc' := 43) rfl ?_)
      refine G_get (o := 55) (c := 9) (k := 0) (v := M 55 0) d_Mo_addField_43 fl_Mo_109 rfl (by decide) (by decide) rfl rfl (G_pc (pc' := 46) rfl ?_)
      refine G_icmp_ge (tgt := 92) d_Mo_addField_46 (by decide) (fun h1301 => ?_) (fun h1301 => absurd h1301 (by omega))
      refine G_aload (i := 0) (n := 1) (len := 1) (Or.inl ⟨0, rfl, rfl, d_Mo_addField_92⟩) rfl (by decide) (G_pc (pc' := 93) rfl ?_)
      refine G_get (o := 55) (c := 9) (k := 2) (v := 57) d_Mo_addField_93 fl_Mo_13 rfl (by decide) (by decide) rfl rfl (G_pc (pc' := 96) rfl ?_)
      refine G_bipush (n := 26) d_Mo_addField_96 (by decide) (G_pc (pc' := 98) rfl ?_)
      refine G_iload (i := 1) (n := 2) (len := 1) (Or.inl ⟨1, rfl, rfl, d_Mo_addField_98⟩) rfl (G_pc (pc' := 99) rfl ?_)
      refine G_imul d_Mo_addField_99 (by omega) (G_pc (pc' := 100) rfl ?_)
      refine G_iload (i := 2) (n := 3) (len := 1) (Or.inl ⟨2, rfl, rfl, d_Mo_addField_100⟩) rfl (G_pc (pc' := 101) rfl ?_)
      refine G_iadd d_Mo_addField_101 (by omega) (G_pc (pc' := 102) rfl ?_)
      refine G_iload (i := 3) (n := 4) (len := 1) (Or.inl ⟨3, rfl, rfl, d_Mo_addField_102⟩) rfl (G_pc (pc' := 103) rfl ?_)
      refine G_iastore (o := 57) (n := 156) (i := (26 * type) + name) (x := kind) d_Mo_addField_103 rfl ⟨by decide, by decide⟩ (by decide) (gt_arr rfl _) (by omega) (tokI (by omega)) (G_pc (pc' := 104) rfl ?_)
      refine G_iconst (n := 1) d_Mo_addField_104 (by decide) (G_pc (pc' := 105) rfl ?_)
      refine G_iret d_Mo_addField_105 rfl (tokZ (by decide)) rfl rfl ?_
      exact ⟨fun _ => ⟨rfl, rfl⟩, fun h => absurd (show addFieldOK M type name kind from ⟨by omega, by omega, by unfold isKindB; simp; omega, by omega, fun c h7 h8 => hnear c h7 (by omega)⟩) h⟩
    | succ n ih =>
      intro c h1 h2 hbase hnear
      refine G_iload (i := 4) (n := 0) (len := 2) (Or.inr ⟨rfl, d_Mo_addField_40⟩) rfl (G_pc (pc' := 42) rfl ?_)
      refine G_aload (i := 0) (n := 1) (len := 1) (Or.inl ⟨0, rfl, rfl, d_Mo_addField_42⟩) rfl (by decide) (G_pc (pc' := 43) rfl ?_)
      refine G_get (o := 55) (c := 9) (k := 0) (v := M 55 0) d_Mo_addField_43 fl_Mo_109 rfl (by decide) (by decide) rfl rfl (G_pc (pc' := 46) rfl ?_)
      refine G_icmp_ge (tgt := 92) d_Mo_addField_46 (by decide) (fun h1401 => absurd h1401 (by omega)) (fun h1401 => G_pc (pc' := 49) rfl ?_)
      refine G_aload (i := 0) (n := 1) (len := 1) (Or.inl ⟨0, rfl, rfl, d_Mo_addField_49⟩) rfl (by decide) (G_pc (pc' := 50) rfl ?_)
      refine G_iload (i := 4) (n := 0) (len := 2) (Or.inr ⟨rfl, d_Mo_addField_50⟩) rfl (G_pc (pc' := 52) rfl ?_)
      refine G_iload (i := 1) (n := 2) (len := 1) (Or.inl ⟨1, rfl, rfl, d_Mo_addField_52⟩) rfl (G_pc (pc' := 53) rfl ?_)
      refine G_callV (K1 := KE) (d2 := 0) (o := 55) (cl := 9) (as := [vi c, vi type]) (rest := []) d_Mo_addField_53 mf_Mo_isA ml_Mo_117 rfl rfl (by decide) rfl rfl (by decide) (by omega) ⟨Nat.le_refl _, Nat.le_refl _⟩ (g_Mo_isA (by omega) c type _ hP (by omega)) (fun r1402 M1403 kq1404 q1404 => ?_)
      clear kq1404; obtain ⟨q1404a, q1404b⟩ := q1404; subst r1402; subst M1403
      refine G_ps (pc' := 56) (st' := [vi (b2i (isAm M c type))]) rfl rfl ?_
      refine G_if_ne (tgt := 69) d_Mo_addField_56 (by decide) (fun h1405 => ?_) (fun h1405 => G_pc (pc' := 59) rfl ?_)
      · skip
        replace h1405 := b2i_nz.mp h1405
        refine G_aload (i := 0) (n := 1) (len := 1) (Or.inl ⟨0, rfl, rfl, d_Mo_addField_69⟩) rfl (by decide) (G_pc (pc' := 70) rfl ?_)
        refine G_get (o := 55) (c := 9) (k := 2) (v := 57) d_Mo_addField_70 fl_Mo_13 rfl (by decide) (by decide) rfl rfl (G_pc (pc' := 73) rfl ?_)
        refine G_bipush (n := 26) d_Mo_addField_73 (by decide) (G_pc (pc' := 75) rfl ?_)
        refine G_iload (i := 4) (n := 0) (len := 2) (Or.inr ⟨rfl, d_Mo_addField_75⟩) rfl (G_pc (pc' := 77) rfl ?_)
        refine G_imul d_Mo_addField_77 (by omega) (G_pc (pc' := 78) rfl ?_)
        refine G_iload (i := 2) (n := 3) (len := 1) (Or.inl ⟨2, rfl, rfl, d_Mo_addField_78⟩) rfl (G_pc (pc' := 79) rfl ?_)
        refine G_iadd d_Mo_addField_79 (by omega) (G_pc (pc' := 80) rfl ?_)
        refine G_iaload (o := 57) (n := 156) (i := (26 * c) + name) (v := M 57 ((26 * c) + name)) d_Mo_addField_80 rfl ⟨by decide, by decide⟩ (by omega) (rd_arr rfl) (fun t1406 => G_pc (pc' := 81) rfl ?_)
        have t1406 := tok_i t1406
        refine G_if_lt (tgt := 86) d_Mo_addField_81 (by decide) (fun h1407 => ?_) (fun h1407 => G_pc (pc' := 84) rfl ?_)
        · skip
          refine G_iinc (i := 4) (n := 0) (z := 1) (ls' := [(4, vi (c + 1)), (0, vr 55), (1, vi type), (2, vi name), (3, vi kind)]) d_Mo_addField_86 rfl (by decide) (by omega) rfl (G_pc (pc' := 89) rfl ?_)
          refine G_goto (tgt := 40) d_Mo_addField_89 (by decide) ?_
          exact ih (c + 1) (by omega) (by omega) hbase (ext_lt hnear (by unfold nearM; grind))
        · skip
          refine G_iconst (n := 0) d_Mo_addField_84 (by decide) (G_pc (pc' := 85) rfl ?_)
          refine G_iret d_Mo_addField_85 rfl (tokZ (by decide)) rfl rfl ?_
          exact ⟨fun h => absurd (h.2.2.2.2 c (by omega) (by omega)) (fun hh => hh ⟨by first | exact Or.inl (by assumption) | exact Or.inr (by assumption), by omega⟩), fun _ => ⟨rfl, rfl⟩⟩
      · skip
        replace h1405 := b2i_0.mp h1405
        refine G_aload (i := 0) (n := 1) (len := 1) (Or.inl ⟨0, rfl, rfl, d_Mo_addField_59⟩) rfl (by decide) (G_pc (pc' := 60) rfl ?_)
        refine G_iload (i := 1) (n := 2) (len := 1) (Or.inl ⟨1, rfl, rfl, d_Mo_addField_60⟩) rfl (G_pc (pc' := 61) rfl ?_)
        refine G_iload (i := 4) (n := 0) (len := 2) (Or.inr ⟨rfl, d_Mo_addField_61⟩) rfl (G_pc (pc' := 63) rfl ?_)
        refine G_callV (K1 := KE) (d2 := 0) (o := 55) (cl := 9) (as := [vi type, vi c]) (rest := []) d_Mo_addField_63 mf_Mo_isA ml_Mo_117 rfl rfl (by decide) rfl rfl (by decide) (by omega) ⟨Nat.le_refl _, Nat.le_refl _⟩ (g_Mo_isA (by omega) type c _ hP (by omega)) (fun r1408 M1409 kq1410 q1410 => ?_)
        clear kq1410; obtain ⟨q1410a, q1410b⟩ := q1410; subst r1408; subst M1409
        refine G_ps (pc' := 66) (st' := [vi (b2i (isAm M type c))]) rfl rfl ?_
        refine G_if_eq (tgt := 86) d_Mo_addField_66 (by decide) (fun h1411 => ?_) (fun h1411 => G_pc (pc' := 69) rfl ?_)
        · skip
          replace h1411 := b2i_0.mp h1411
          refine G_iinc (i := 4) (n := 0) (z := 1) (ls' := [(4, vi (c + 1)), (0, vr 55), (1, vi type), (2, vi name), (3, vi kind)]) d_Mo_addField_86 rfl (by decide) (by omega) rfl (G_pc (pc' := 89) rfl ?_)
          refine G_goto (tgt := 40) d_Mo_addField_89 (by decide) ?_
          exact ih (c + 1) (by omega) (by omega) hbase (ext_lt hnear (by unfold nearM; grind))
        · skip
          replace h1411 := b2i_nz.mp h1411
          refine G_aload (i := 0) (n := 1) (len := 1) (Or.inl ⟨0, rfl, rfl, d_Mo_addField_69⟩) rfl (by decide) (G_pc (pc' := 70) rfl ?_)
          refine G_get (o := 55) (c := 9) (k := 2) (v := 57) d_Mo_addField_70 fl_Mo_13 rfl (by decide) (by decide) rfl rfl (G_pc (pc' := 73) rfl ?_)
          refine G_bipush (n := 26) d_Mo_addField_73 (by decide) (G_pc (pc' := 75) rfl ?_)
          refine G_iload (i := 4) (n := 0) (len := 2) (Or.inr ⟨rfl, d_Mo_addField_75⟩) rfl (G_pc (pc' := 77) rfl ?_)
          refine G_imul d_Mo_addField_77 (by omega) (G_pc (pc' := 78) rfl ?_)
          refine G_iload (i := 2) (n := 3) (len := 1) (Or.inl ⟨2, rfl, rfl, d_Mo_addField_78⟩) rfl (G_pc (pc' := 79) rfl ?_)
          refine G_iadd d_Mo_addField_79 (by omega) (G_pc (pc' := 80) rfl ?_)
          refine G_iaload (o := 57) (n := 156) (i := (26 * c) + name) (v := M 57 ((26 * c) + name)) d_Mo_addField_80 rfl ⟨by decide, by decide⟩ (by omega) (rd_arr rfl) (fun t1412 => G_pc (pc' := 81) rfl ?_)
          have t1412 := tok_i t1412
          refine G_if_lt (tgt := 86) d_Mo_addField_81 (by decide) (fun h1413 => ?_) (fun h1413 => G_pc (pc' := 84) rfl ?_)
          · skip
            refine G_iinc (i := 4) (n := 0) (z := 1) (ls' := [(4, vi (c + 1)), (0, vr 55), (1, vi type), (2, vi name), (3, vi kind)]) d_Mo_addField_86 rfl (by decide) (by omega) rfl (G_pc (pc' := 89) rfl ?_)
            refine G_goto (tgt := 40) d_Mo_addField_89 (by decide) ?_
            exact ih (c + 1) (by omega) (by omega) hbase (ext_lt hnear (by unfold nearM; grind))
          · skip
            refine G_iconst (n := 0) d_Mo_addField_84 (by decide) (G_pc (pc' := 85) rfl ?_)
            refine G_iret d_Mo_addField_85 rfl (tokZ (by decide)) rfl rfl ?_
            exact ⟨fun h => absurd (h.2.2.2.2 c (by omega) (by omega)) (fun hh => hh ⟨by first | exact Or.inl (by assumption) | exact Or.inr (by assumption), by omega⟩), fun _ => ⟨rfl, rfl⟩⟩
  refine G_iload (i := 1) (n := 1) (len := 1) (Or.inl ⟨1, rfl, rfl, d_Mo_addField_0⟩) rfl (G_pc (pc' := 1) rfl ?_)
  refine G_aload (i := 0) (n := 0) (len := 1) (Or.inl ⟨0, rfl, rfl, d_Mo_addField_1⟩) rfl (by decide) (G_pc (pc' := 2) rfl ?_)
  refine G_get (o := 55) (c := 9) (k := 0) (v := M 55 0) d_Mo_addField_2 fl_Mo_109 rfl (by decide) (by decide) rfl rfl (G_pc (pc' := 5) rfl ?_)
  refine G_callS (K1 := KE) (d2 := 0) (as := [vi type, vi (M 55 0)]) (rest := []) d_Mo_addField_5 mf_Mo_in ml_Mo_105 rfl rfl (by decide) (by omega) ⟨Nat.le_refl _, Nat.le_refl _⟩ (g_Mo_in (by omega) type (M 55 0) _) (fun r1 M2 kq3 q3 => ?_)
  clear kq3; obtain ⟨q3a, q3b⟩ := q3; subst r1; subst M2
  refine G_ps (pc' := 8) (st' := [vi (b2i (inB type (M 55 0)))]) rfl rfl ?_
  refine G_if_eq (tgt := 35) d_Mo_addField_8 (by decide) (fun h4 => ?_) (fun h4 => G_pc (pc' := 11) rfl ?_)
  · skip
    replace h4 := b2i_0.mp h4
    replace h4 := inB_f.mp h4
    refine G_iconst (n := 0) d_Mo_addField_35 (by decide) (G_pc (pc' := 36) rfl ?_)
    refine G_iret d_Mo_addField_36 rfl (tokZ (by decide)) rfl rfl ?_
    exact ⟨fun h => absurd h (by unfold addFieldOK; grind [isKindB, inB]), fun _ => ⟨rfl, rfl⟩⟩
  · skip
    replace h4 := b2i_nz.mp h4
    replace h4 := inB_t.mp h4
    refine G_iload (i := 2) (n := 2) (len := 1) (Or.inl ⟨2, rfl, rfl, d_Mo_addField_11⟩) rfl (G_pc (pc' := 12) rfl ?_)
    refine G_bipush (n := 26) d_Mo_addField_12 (by decide) (G_pc (pc' := 14) rfl ?_)
    refine G_callS (K1 := KE) (d2 := 0) (as := [vi name, vi 26]) (rest := []) d_Mo_addField_14 mf_Mo_in ml_Mo_105 rfl rfl (by decide) (by omega) ⟨Nat.le_refl _, Nat.le_refl _⟩ (g_Mo_in (by omega) name 26 _) (fun r5 M6 kq7 q7 => ?_)
    clear kq7; obtain ⟨q7a, q7b⟩ := q7; subst r5; subst M6
    refine G_ps (pc' := 17) (st' := [vi (b2i (inB name 26))]) rfl rfl ?_
    refine G_if_eq (tgt := 35) d_Mo_addField_17 (by decide) (fun h8 => ?_) (fun h8 => G_pc (pc' := 20) rfl ?_)
    · skip
      replace h8 := b2i_0.mp h8
      replace h8 := inB_f.mp h8
      refine G_iconst (n := 0) d_Mo_addField_35 (by decide) (G_pc (pc' := 36) rfl ?_)
      refine G_iret d_Mo_addField_36 rfl (tokZ (by decide)) rfl rfl ?_
      exact ⟨fun h => absurd h (by unfold addFieldOK; grind [isKindB, inB]), fun _ => ⟨rfl, rfl⟩⟩
    · skip
      replace h8 := b2i_nz.mp h8
      replace h8 := inB_t.mp h8
      refine G_aload (i := 0) (n := 0) (len := 1) (Or.inl ⟨0, rfl, rfl, d_Mo_addField_20⟩) rfl (by decide) (G_pc (pc' := 21) rfl ?_)
      refine G_iload (i := 3) (n := 3) (len := 1) (Or.inl ⟨3, rfl, rfl, d_Mo_addField_21⟩) rfl (G_pc (pc' := 22) rfl ?_)
      refine G_callV (K1 := KE) (d2 := 1) (o := 55) (cl := 9) (as := [vi kind]) (rest := []) d_Mo_addField_22 mf_Mo_isKind ml_Mo_127 rfl rfl (by decide) rfl rfl (by decide) (by omega) ⟨Nat.le_refl _, Nat.le_refl _⟩ (g_Mo_isKind (by omega) kind _ hc) (fun r9 M10 kq11 q11 => ?_)
      clear kq11; obtain ⟨q11a, q11b⟩ := q11; subst r9; subst M10
      refine G_ps (pc' := 25) (st' := [vi (b2i (isKindB (M 55 0) kind))]) rfl rfl ?_
      refine G_if_eq (tgt := 35) d_Mo_addField_25 (by decide) (fun h12 => ?_) (fun h12 => G_pc (pc' := 28) rfl ?_)
      · skip
        replace h12 := b2i_0.mp h12
        replace h12 := isKindB_f.mp h12
        refine G_iconst (n := 0) d_Mo_addField_35 (by decide) (G_pc (pc' := 36) rfl ?_)
        refine G_iret d_Mo_addField_36 rfl (tokZ (by decide)) rfl rfl ?_
        exact ⟨fun h => absurd h (by unfold addFieldOK; grind [isKindB, inB]), fun _ => ⟨rfl, rfl⟩⟩
      · skip
        replace h12 := b2i_nz.mp h12
        replace h12 := isKindB_t.mp h12
        refine G_aload (i := 0) (n := 0) (len := 1) (Or.inl ⟨0, rfl, rfl, d_Mo_addField_28⟩) rfl (by decide) (G_pc (pc' := 29) rfl ?_)
        refine G_get (o := 55) (c := 9) (k := 10) (v := M 55 10) d_Mo_addField_29 fl_Mo_123 rfl (by decide) (by decide) rfl rfl (G_pc (pc' := 32) rfl ?_)
        refine G_if_eq (tgt := 37) d_Mo_addField_32 (by decide) (fun h13 => ?_) (fun h13 => G_pc (pc' := 35) rfl ?_)
        · skip
          refine G_iconst (n := 0) d_Mo_addField_37 (by decide) (G_pc (pc' := 38) rfl ?_)
          refine G_istore (i := 4) (len := 2) (ls' := [(4, vi 0), (0, vr 55), (1, vi type), (2, vi name), (3, vi kind)]) (Or.inr ⟨rfl, d_Mo_addField_38⟩) (by decide) rfl (G_pc (pc' := 40) rfl ?_)
          exact loop (M 55 0).toNat 0 (by omega) (by omega) (by omega) (fun j h7 h8 => absurd h8 (by omega))
        · skip
          refine G_iconst (n := 0) d_Mo_addField_35 (by decide) (G_pc (pc' := 36) rfl ?_)
          refine G_iret d_Mo_addField_36 rfl (tokZ (by decide)) rfl rfl ?_
          exact ⟨fun h => absurd h (by unfold addFieldOK; grind [isKindB, inB]), fun _ => ⟨rfl, rfl⟩⟩

