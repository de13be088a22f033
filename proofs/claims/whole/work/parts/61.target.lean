theorem d_Ta_extendClass_0 : decode b_Ta_extendClass 0 = .ok (.aload_n 0, 1) := by decide +kernel
theorem d_Ta_extendClass_1 : decode b_Ta_extendClass 1 = .ok (.getfield 35, 3) := by decide +kernel
theorem d_Ta_extendClass_4 : decode b_Ta_extendClass 4 = .ok (.ifCond .ne 25, 3) := by decide +kernel
theorem d_Ta_extendClass_7 : decode b_Ta_extendClass 7 = .ok (.aload_n 0, 1) := by decide +kernel
theorem d_Ta_extendClass_8 : decode b_Ta_extendClass 8 = .ok (.getfield 38, 3) := by decide +kernel
theorem d_Ta_extendClass_11 : decode b_Ta_extendClass 11 = .ok (.bipush 6, 2) := by decide +kernel
theorem d_Ta_extendClass_13 : decode b_Ta_extendClass 13 = .ok (.if_icmp .eq 16, 3) := by decide +kernel
theorem d_Ta_extendClass_16 : decode b_Ta_extendClass 16 = .ok (.iload_n 1, 1) := by decide +kernel
theorem d_Ta_extendClass_17 : decode b_Ta_extendClass 17 = .ok (.iconst (-1), 1) := by decide +kernel
theorem d_Ta_extendClass_18 : decode b_Ta_extendClass 18 = .ok (.if_icmp .lt 11, 3) := by decide +kernel
theorem d_Ta_extendClass_21 : decode b_Ta_extendClass 21 = .ok (.iload_n 1, 1) := by decide +kernel
theorem d_Ta_extendClass_22 : decode b_Ta_extendClass 22 = .ok (.aload_n 0, 1) := by decide +kernel
theorem d_Ta_extendClass_23 : decode b_Ta_extendClass 23 = .ok (.getfield 38, 3) := by decide +kernel
theorem d_Ta_extendClass_26 : decode b_Ta_extendClass 26 = .ok (.if_icmp .lt 5, 3) := by decide +kernel
theorem d_Ta_extendClass_29 : decode b_Ta_extendClass 29 = .ok (.iconst (-1), 1) := by decide +kernel
theorem d_Ta_extendClass_30 : decode b_Ta_extendClass 30 = .ok (.ireturn, 1) := by decide +kernel
theorem d_Ta_extendClass_31 : decode b_Ta_extendClass 31 = .ok (.aload_n 0, 1) := by decide +kernel
theorem d_Ta_extendClass_32 : decode b_Ta_extendClass 32 = .ok (.getfield 9, 3) := by decide +kernel
theorem d_Ta_extendClass_35 : decode b_Ta_extendClass 35 = .ok (.aload_n 0, 1) := by decide +kernel
theorem d_Ta_extendClass_36 : decode b_Ta_extendClass 36 = .ok (.getfield 38, 3) := by decide +kernel
theorem d_Ta_extendClass_39 : decode b_Ta_extendClass 39 = .ok (.iload_n 1, 1) := by decide +kernel
theorem d_Ta_extendClass_40 : decode b_Ta_extendClass 40 = .ok (.iastore, 1) := by decide +kernel
theorem d_Ta_extendClass_41 : decode b_Ta_extendClass 41 = .ok (.aload_n 0, 1) := by decide +kernel
theorem d_Ta_extendClass_42 : decode b_Ta_extendClass 42 = .ok (.dup, 1) := by decide +kernel
theorem d_Ta_extendClass_43 : decode b_Ta_extendClass 43 = .ok (.getfield 38, 3) := by decide +kernel
theorem d_Ta_extendClass_46 : decode b_Ta_extendClass 46 = .ok (.iconst 1, 1) := by decide +kernel
theorem d_Ta_extendClass_47 : decode b_Ta_extendClass 47 = .ok (.iadd, 1) := by decide +kernel
theorem d_Ta_extendClass_48 : decode b_Ta_extendClass 48 = .ok (.putfield 38, 3) := by decide +kernel
theorem d_Ta_extendClass_51 : decode b_Ta_extendClass 51 = .ok (.aload_n 0, 1) := by decide +kernel
theorem d_Ta_extendClass_52 : decode b_Ta_extendClass 52 = .ok (.getfield 38, 3) := by decide +kernel
theorem d_Ta_extendClass_55 : decode b_Ta_extendClass 55 = .ok (.iconst 1, 1) := by decide +kernel
theorem d_Ta_extendClass_56 : decode b_Ta_extendClass 56 = .ok (.isub, 1) := by decide +kernel
theorem d_Ta_extendClass_57 : decode b_Ta_extendClass 57 = .ok (.ireturn, 1) := by decide +kernel
theorem g_Ta_extendClass {X : WX} {d : Nat} (hd : 0 ≤ d) (a : Int) (M : Mem) (hT : RT M) (hI : TI M) : MG X gt d KE KE y_Ta_extendClass b_Ta_extendClass 2 (some .int) [vr 4, vi a] M (fun r M' => (addClassOK M a → r = some (vi (M 55 0)) ∧ M' = mset (mset M 5 (M 55 0) a) 4 4 (M 55 0 + 1)) ∧ (¬ addClassOK M a → r = some (vi (-1)) ∧ M' = M)) := by
  refine MG_of_G (by decide) (Nat.le_of_ble_eq_true rfl) (Nat.le_refl _) (by decide) ?_
  show G X gt d KE KE y_Ta_extendClass b_Ta_extendClass 2 (some .int) _ 0 [(0, vr 4), (1, vi a)] [] KE M
  have hI0 := hI
  obtain ⟨hI1, hI2, hI3, hI4, hI5, hI6, hI7, hI8, hI9, hI10, hI11, hI12, hI13, hI14⟩ := hI
  refine G_rngl (i := 1) rfl (fun hr1 => ?_)
  refine G_aload (i := 0) (n := 0) (len := 1) (Or.inl ⟨0, rfl, rfl, d_Ta_extendClass_0⟩) rfl (by decide) (G_pc (pc' := 1) rfl ?_)
  refine G_get (o := 4) (c := 6) (k := 7) (v := M 4 7) d_Ta_extendClass_1 fl_Ta_35 rfl (by decide) (by decide) rfl rfl (G_pc (pc' := 4) rfl ?_)
  rw [show M 4 7 = M 55 10 from hT.2.2.2.1.2.2.2]
  refine G_if_ne (tgt := 29) d_Ta_extendClass_4 (by decide) (fun h1 => ?_) (fun h1 => G_pc (pc' := 7) rfl ?_)
  · skip
    refine G_iconst (n := (-1)) d_Ta_extendClass_29 (by decide) (G_pc (pc' := 30) rfl ?_)
    refine G_iret d_Ta_extendClass_30 rfl (tokI (by decide)) rfl rfl ?_
    exact ⟨fun h => absurd h (by unfold addClassOK; grind [isKindB, inB, refB, numB]), fun _ => ⟨rfl, rfl⟩⟩
  · skip
    refine G_aload (i := 0) (n := 0) (len := 1) (Or.inl ⟨0, rfl, rfl, d_Ta_extendClass_7⟩) rfl (by decide) (G_pc (pc' := 8) rfl ?_)
    refine G_get (o := 4) (c := 6) (k := 4) (v := M 4 4) d_Ta_extendClass_8 fl_Ta_38 rfl (by decide) (by decide) rfl rfl (G_pc (pc' := 11) rfl ?_)
    rw [show M 4 4 = M 55 0 from hT.2.2.2.1.1]
    refine G_bipush (n := 6) d_Ta_extendClass_11 (by decide) (G_pc (pc' := 13) rfl ?_)
    refine G_icmp_eq (tgt := 29) d_Ta_extendClass_13 (by decide) (fun h2 => ?_) (fun h2 => G_pc (pc' := 16) rfl ?_)
    · skip
      refine G_iconst (n := (-1)) d_Ta_extendClass_29 (by decide) (G_pc (pc' := 30) rfl ?_)
      refine G_iret d_Ta_extendClass_30 rfl (tokI (by decide)) rfl rfl ?_
      exact ⟨fun h => absurd h (by unfold addClassOK; grind [isKindB, inB, refB, numB]), fun _ => ⟨rfl, rfl⟩⟩
    · skip
      refine G_iload (i := 1) (n := 1) (len := 1) (Or.inl ⟨1, rfl, rfl, d_Ta_extendClass_16⟩) rfl (G_pc (pc' := 17) rfl ?_)
      refine G_iconst (n := (-1)) d_Ta_extendClass_17 (by decide) (G_pc (pc' := 18) rfl ?_)
      refine G_icmp_lt (tgt := 29) d_Ta_extendClass_18 (by decide) (fun h3 => ?_) (fun h3 => G_pc (pc' := 21) rfl ?_)
      · skip
        refine G_iconst (n := (-1)) d_Ta_extendClass_29 (by decide) (G_pc (pc' := 30) rfl ?_)
        refine G_iret d_Ta_extendClass_30 rfl (tokI (by decide)) rfl rfl ?_
        exact ⟨fun h => absurd h (by unfold addClassOK; grind [isKindB, inB, refB, numB]), fun _ => ⟨rfl, rfl⟩⟩
      · skip
        refine G_iload (i := 1) (n := 1) (len := 1) (Or.inl ⟨1, rfl, rfl, d_Ta_extendClass_21⟩) rfl (G_pc (pc' := 22) rfl ?_)
        refine G_aload (i := 0) (n := 0) (len := 1) (Or.inl ⟨0, rfl, rfl, d_Ta_extendClass_22⟩) rfl (by decide) (G_pc (pc' := 23) rfl ?_)
        refine G_get (o := 4) (c := 6) (k := 4) (v := M 4 4) d_Ta_extendClass_23 fl_Ta_38 rfl (by decide) (by decide) rfl rfl (G_pc (pc' := 26) rfl ?_)
        rw [show M 4 4 = M 55 0 from hT.2.2.2.1.1]
        refine G_icmp_lt (tgt := 31) d_Ta_extendClass_26 (by decide) (fun h4 => ?_) (fun h4 => G_pc (pc' := 29) rfl ?_)
        · skip
          refine G_aload (i := 0) (n := 0) (len := 1) (Or.inl ⟨0, rfl, rfl, d_Ta_extendClass_31⟩) rfl (by decide) (G_pc (pc' := 32) rfl ?_)
          refine G_get (o := 4) (c := 6) (k := 0) (v := 5) d_Ta_extendClass_32 fl_Ta_9 rfl (by decide) (by decide) rfl rfl (G_pc (pc' := 35) rfl ?_)
          refine G_aload (i := 0) (n := 0) (len := 1) (Or.inl ⟨0, rfl, rfl, d_Ta_extendClass_35⟩) rfl (by decide) (G_pc (pc' := 36) rfl ?_)
          refine G_get (o := 4) (c := 6) (k := 4) (v := M 4 4) d_Ta_extendClass_36 fl_Ta_38 rfl (by decide) (by decide) rfl rfl (G_pc (pc' := 39) rfl ?_)
          rw [show M 4 4 = M 55 0 from hT.2.2.2.1.1]
          refine G_iload (i := 1) (n := 1) (len := 1) (Or.inl ⟨1, rfl, rfl, d_Ta_extendClass_39⟩) rfl (G_pc (pc' := 40) rfl ?_)
          refine G_iastore (o := 5) (n := 6) (i := M 55 0) (x := a) d_Ta_extendClass_40 rfl ⟨by decide, by decide⟩ (by decide) (gt_arr rfl _) (by omega) (tokI (by omega)) (G_pc (pc' := 41) rfl ?_)
          refine G_aload (i := 0) (n := 0) (len := 1) (Or.inl ⟨0, rfl, rfl, d_Ta_extendClass_41⟩) rfl (by decide) (G_pc (pc' := 42) rfl ?_)
          refine G_dup d_Ta_extendClass_42 (fun _ h => by cases h) (G_pc (pc' := 43) rfl ?_)
          refine G_get (o := 4) (c := 6) (k := 4) (v := M 4 4) d_Ta_extendClass_43 fl_Ta_38 rfl (by decide) (by decide) rfl rfl (G_pc (pc' := 46) rfl ?_)
          rw [show M 4 4 = M 55 0 from hT.2.2.2.1.1]
          refine G_iconst (n := 1) d_Ta_extendClass_46 (by decide) (G_pc (pc' := 47) rfl ?_)
          refine G_iadd d_Ta_extendClass_47 (by omega) (G_pc (pc' := 48) rfl ?_)
          refine G_putL (o := 4) (c := 6) (k := 4) (ki := 4) (x := (M 55 0) + 1) d_Ta_extendClass_48 fl_Ta_38 rfl rfl (by decide) (by decide) (by decide) rfl rfl (tokI (by omega)) rfl (G_pc (pc' := 51) rfl ?_)
          refine G_aload (i := 0) (n := 0) (len := 1) (Or.inl ⟨0, rfl, rfl, d_Ta_extendClass_51⟩) rfl (by decide) (G_pc (pc' := 52) rfl ?_)
          refine G_get (o := 4) (c := 6) (k := 4) (v := (M 55 0) + 1) d_Ta_extendClass_52 fl_Ta_38 rfl (by decide) (by decide) rfl rfl (G_pc (pc' := 55) rfl ?_)
          refine G_iconst (n := 1) d_Ta_extendClass_55 (by decide) (G_pc (pc' := 56) rfl ?_)
          refine G_isub d_Ta_extendClass_56 (by omega) (G_pc (pc' := 57) rfl ?_)
          refine G_iret d_Ta_extendClass_57 rfl (tokI (by omega)) rfl rfl ?_
          exact ⟨fun _ => ⟨by first | rfl | (congr 2; omega), rfl⟩, fun h => absurd (by unfold addClassOK; grind [isKindB, inB, refB, numB]) h⟩
        · skip
          refine G_iconst (n := (-1)) d_Ta_extendClass_29 (by decide) (G_pc (pc' := 30) rfl ?_)
          refine G_iret d_Ta_extendClass_30 rfl (tokI (by decide)) rfl rfl ?_
          exact ⟨fun h => absurd h (by unfold addClassOK; grind [isKindB, inB, refB, numB]), fun _ => ⟨rfl, rfl⟩⟩

theorem d_Ta_isFieldNear_0 : decode b_Ta_isFieldNear 0 = .ok (.iconst 0, 1) := by decide +kernel
theorem d_Ta_isFieldNear_1 : decode b_Ta_isFieldNear 1 = .ok (.istore_n 3, 1) := by decide +kernel
theorem d_Ta_isFieldNear_2 : decode b_Ta_isFieldNear 2 = .ok (.iload_n 3, 1) := by decide +kernel
theorem d_Ta_isFieldNear_3 : decode b_Ta_isFieldNear 3 = .ok (.aload_n 0, 1) := by decide +kernel
theorem d_Ta_isFieldNear_4 : decode b_Ta_isFieldNear 4 = .ok (.getfield 38, 3) := by decide +kernel
theorem d_Ta_isFieldNear_7 : decode b_Ta_isFieldNear 7 = .ok (.if_icmp .ge 56, 3) := by decide +kernel
theorem d_Ta_isFieldNear_10 : decode b_Ta_isFieldNear 10 = .ok (.aload_n 0, 1) := by decide +kernel
theorem d_Ta_isFieldNear_11 : decode b_Ta_isFieldNear 11 = .ok (.iload_n 1, 1) := by decide +kernel
theorem d_Ta_isFieldNear_12 : decode b_Ta_isFieldNear 12 = .ok (.iload_n 3, 1) := by decide +kernel
theorem d_Ta_isFieldNear_13 : decode b_Ta_isFieldNear 13 = .ok (.invokevirtual 79, 3) := by decide +kernel
theorem d_Ta_isFieldNear_16 : decode b_Ta_isFieldNear 16 = .ok (.ifCond .ne 12, 3) := by decide +kernel
theorem d_Ta_isFieldNear_19 : decode b_Ta_isFieldNear 19 = .ok (.aload_n 0, 1) := by decide +kernel
theorem d_Ta_isFieldNear_20 : decode b_Ta_isFieldNear 20 = .ok (.iload_n 3, 1) := by decide +kernel
theorem d_Ta_isFieldNear_21 : decode b_Ta_isFieldNear 21 = .ok (.iload_n 1, 1) := by decide +kernel
theorem d_Ta_isFieldNear_22 : decode b_Ta_isFieldNear 22 = .ok (.invokevirtual 79, 3) := by decide +kernel
theorem d_Ta_isFieldNear_25 : decode b_Ta_isFieldNear 25 = .ok (.ifCond .eq 7, 3) := by decide +kernel
theorem d_Ta_isFieldNear_28 : decode b_Ta_isFieldNear 28 = .ok (.iconst 1, 1) := by decide +kernel
theorem d_Ta_isFieldNear_29 : decode b_Ta_isFieldNear 29 = .ok (.goto 4, 3) := by decide +kernel
theorem d_Ta_isFieldNear_32 : decode b_Ta_isFieldNear 32 = .ok (.iconst 0, 1) := by decide +kernel
theorem d_Ta_isFieldNear_33 : decode b_Ta_isFieldNear 33 = .ok (.istore 4, 2) := by decide +kernel
theorem d_Ta_isFieldNear_35 : decode b_Ta_isFieldNear 35 = .ok (.iload 4, 2) := by decide +kernel
theorem d_Ta_isFieldNear_37 : decode b_Ta_isFieldNear 37 = .ok (.ifCond .eq 20, 3) := by decide +kernel
theorem d_Ta_isFieldNear_40 : decode b_Ta_isFieldNear 40 = .ok (.aload_n 0, 1) := by decide +kernel
theorem d_Ta_isFieldNear_41 : decode b_Ta_isFieldNear 41 = .ok (.getfield 15, 3) := by decide +kernel
theorem d_Ta_isFieldNear_44 : decode b_Ta_isFieldNear 44 = .ok (.iload_n 3, 1) := by decide +kernel
theorem d_Ta_isFieldNear_45 : decode b_Ta_isFieldNear 45 = .ok (.bipush 26, 2) := by decide +kernel
theorem d_Ta_isFieldNear_47 : decode b_Ta_isFieldNear 47 = .ok (.imul, 1) := by decide +kernel
theorem d_Ta_isFieldNear_48 : decode b_Ta_isFieldNear 48 = .ok (.iload_n 2, 1) := by decide +kernel
theorem d_Ta_isFieldNear_49 : decode b_Ta_isFieldNear 49 = .ok (.iadd, 1) := by decide +kernel
theorem d_Ta_isFieldNear_50 : decode b_Ta_isFieldNear 50 = .ok (.iaload, 1) := by decide +kernel
theorem d_Ta_isFieldNear_51 : decode b_Ta_isFieldNear 51 = .ok (.iconst (-1), 1) := by decide +kernel
theorem d_Ta_isFieldNear_52 : decode b_Ta_isFieldNear 52 = .ok (.if_icmp .eq 5, 3) := by decide +kernel
theorem d_Ta_isFieldNear_55 : decode b_Ta_isFieldNear 55 = .ok (.iconst 1, 1) := by decide +kernel
theorem d_Ta_isFieldNear_56 : decode b_Ta_isFieldNear 56 = .ok (.ireturn, 1) := by decide +kernel
theorem d_Ta_isFieldNear_57 : decode b_Ta_isFieldNear 57 = .ok (.iinc 3 1, 3) := by decide +kernel
theorem d_Ta_isFieldNear_60 : decode b_Ta_isFieldNear 60 = .ok (.goto (-58), 3) := by decide +kernel
theorem d_Ta_isFieldNear_63 : decode b_Ta_isFieldNear 63 = .ok (.iconst 0, 1) := by decide +kernel
theorem d_Ta_isFieldNear_64 : decode b_Ta_isFieldNear 64 = .ok (.ireturn, 1) := by decide +kernel
theorem g_Ta_isFieldNear {X : WX} {d : Nat} (hd : 1 ≤ d) (type name : Int) (M : Mem) (hT : RT M) (hI : TI M) (ht : 0 ≤ type ∧ type < M 55 0) (hn : 0 ≤ name ∧ name < 26) : MG X gt d KE KE y_Ta_isFieldNear b_Ta_isFieldNear 5 (some .boolean) [vr 4, vi type, vi name] M (fun r M' => ∃ z, r = some (vi z) ∧ (z = 0 ∨ z = 1) ∧ (z = 1 ↔ ∃ c, 0 ≤ c ∧ c < M 55 0 ∧ nearM M type name c) ∧ M' = M) := by
  refine MG_of_G (by decide) (Nat.le_of_ble_eq_true rfl) (Nat.le_refl _) (by decide) ?_
  show G X gt d KE KE y_Ta_isFieldNear b_Ta_isFieldNear 5 (some .boolean) _ 0 [(0, vr 4), (1, vi type), (2, vi name)] [] KE M
  have hI0 := hI
  obtain ⟨hI1, hI2, hI3, hI4, hI5, hI6, hI7, hI8, hI9, hI10, hI11, hI12, hI13, hI14⟩ := hI
  refine G_rngl (i := 1) rfl (fun hr1 => ?_)
  refine G_rngl (i := 2) rfl (fun hr2 => ?_)
  have loop : ∀ (n : Nat) (c : Int), c + n = M 55 0 → 0 ≤ c → (∀ q, 0 ≤ q → q < c → ¬ nearM M type name q) → G X gt d KE KE y_Ta_isFieldNear b_Ta_isFieldNear 5 (some .boolean) (fun r M' => ∃ z, r = some (vi z) ∧ (z = 0 ∨ z = 1) ∧ (z = 1 ↔ ∃ c, 0 ≤ c ∧ c < M 55 0 ∧ nearM M type name c) ∧ M' = M) 2 [(3, vi c), (0, vr 4), (1, vi type), (2, vi name)] [] KE M := by
    intro n
    induction n with
    | zero =>
      intro c h1 h2 hno
      refine G_iload (i := 3) (n := 0) (len := 1) (Or.inl ⟨3, rfl, rfl, d_Ta_isFieldNear_2⟩) rfl (G_pc (pc' := 3) rfl ?_)
      refine G_aload (i := 0) (n := 1) (len := 1) (Or.inl ⟨0, rfl, rfl, d_Ta_isFieldNear_3⟩) rfl (by decide) (G_pc (pc' := 4) rfl ?_)
      refine G_get (o := 4) (c := 6) (k := 4) (v := M 4 4) d_Ta_isFieldNear_4 fl_Ta_38 rfl (by decide) (by decide) rfl rfl (G_pc (pc' := 7) rfl ?_)
      rw [show M 4 4 = M 55 0 from hT.2.2.2.1.1]
      refine G_icmp_ge (tgt := 63) d_Ta_isFieldNear_7 (by decide) (fun h1101 => ?_) (fun h1101 => absurd h1101 (by omega))
      refine G_iconst (n := 0) d_Ta_isFieldNear_63 (by decide) (G_pc (pc' := 64) rfl ?_)
      refine G_iret d_Ta_isFieldNear_64 rfl (tokZ (by decide)) rfl rfl ?_
      exact ⟨0, rfl, by omega, ⟨fun h => absurd h (by omega), fun ⟨q, q1, q2, q3⟩ => absurd q3 (hno q q1 (by omega))⟩, rfl⟩
    | succ n ih =>
      intro c h1 h2 hno
      refine G_iload (i := 3) (n := 0) (len := 1) (Or.inl ⟨3, rfl, rfl, d_Ta_isFieldNear_2⟩) rfl (G_pc (pc' := 3) rfl ?_)
      refine G_aload (i := 0) (n := 1) (len := 1) (Or.inl ⟨0, rfl, rfl, d_Ta_isFieldNear_3⟩) rfl (by decide) (G_pc (pc' := 4) rfl ?_)
      refine G_get (o := 4) (c := 6) (k := 4) (v := M 4 4) d_Ta_isFieldNear_4 fl_Ta_38 rfl (by decide) (by decide) rfl rfl (G_pc (pc' := 7) rfl ?_)
      rw [show M 4 4 = M 55 0 from hT.2.2.2.1.1]
      refine G_icmp_ge (tgt := 63) d_Ta_isFieldNear_7 (by decide) (fun h1201 => absurd h1201 (by omega)) (fun h1201 => G_pc (pc' := 10) rfl ?_)
      refine G_aload (i := 0) (n := 1) (len := 1) (Or.inl ⟨0, rfl, rfl, d_Ta_isFieldNear_10⟩) rfl (by decide) (G_pc (pc' := 11) rfl ?_)
      refine G_iload (i := 1) (n := 2) (len := 1) (Or.inl ⟨1, rfl, rfl, d_Ta_isFieldNear_11⟩) rfl (G_pc (pc' := 12) rfl ?_)
      refine G_iload (i := 3) (n := 0) (len := 1) (Or.inl ⟨3, rfl, rfl, d_Ta_isFieldNear_12⟩) rfl (G_pc (pc' := 13) rfl ?_)
      refine G_callV (K1 := KE) (d2 := 0) (o := 4) (cl := 6) (as := [vi type, vi c]) (rest := []) d_Ta_isFieldNear_13 mf_Ta_isA ml_Ta_79 rfl rfl (by decide) rfl rfl (Nat.le_of_ble_eq_true rfl) (by omega) ⟨Nat.le_refl _, Nat.le_refl _⟩ (g_Ta_isA (by omega) type c M hT hI0 (by omega) (by omega)) (fun r1202 M1203 kq1204 q1204 => ?_)
      clear kq1204; obtain ⟨q1204a, q1204b⟩ := q1204; subst r1202; subst M1203
      refine G_ps (pc' := 16) (st' := [vi (b2i (isAm M type c))]) rfl rfl ?_
      refine G_if_ne (tgt := 28) d_Ta_isFieldNear_16 (by decide) (fun h1205 => ?_) (fun h1205 => G_pc (pc' := 19) rfl ?_)
      · skip
        replace h1205 := b2i_nz.mp h1205
        refine G_iconst (n := 1) d_Ta_isFieldNear_28 (by decide) (G_pc (pc' := 29) rfl ?_)
        refine G_goto (tgt := 33) d_Ta_isFieldNear_29 (by decide) ?_
        refine G_istore (i := 4) (len := 2) (ls' := [(4, vi 1), (3, vi c), (0, vr 4), (1, vi type), (2, vi name)]) (Or.inr ⟨rfl, d_Ta_isFieldNear_33⟩) (by decide) rfl (G_pc (pc' := 35) rfl ?_)
        refine G_iload (i := 4) (n := 0) (len := 2) (Or.inr ⟨rfl, d_Ta_isFieldNear_35⟩) rfl (G_pc (pc' := 37) rfl ?_)
        refine G_if_eq (tgt := 57) d_Ta_isFieldNear_37 (by decide) (fun h1206 => absurd h1206 (by decide)) (fun h1206 => G_pc (pc' := 40) rfl ?_)
        have hd7 := hI7 (26 * c + name) (by omega) (by omega)
        refine G_aload (i := 0) (n := 2) (len := 1) (Or.inl ⟨0, rfl, rfl, d_Ta_isFieldNear_40⟩) rfl (by decide) (G_pc (pc' := 41) rfl ?_)
        refine G_get (o := 4) (c := 6) (k := 1) (v := 6) d_Ta_isFieldNear_41 fl_Ta_15 rfl (by decide) (by decide) rfl rfl (G_pc (pc' := 44) rfl ?_)
        refine G_iload (i := 3) (n := 1) (len := 1) (Or.inl ⟨3, rfl, rfl, d_Ta_isFieldNear_44⟩) rfl (G_pc (pc' := 45) rfl ?_)
        refine G_bipush (n := 26) d_Ta_isFieldNear_45 (by decide) (G_pc (pc' := 47) rfl ?_)
        refine G_imul d_Ta_isFieldNear_47 (by omega) (G_pc (pc' := 48) rfl ?_)
        refine G_iload (i := 2) (n := 4) (len := 1) (Or.inl ⟨2, rfl, rfl, d_Ta_isFieldNear_48⟩) rfl (G_pc (pc' := 49) rfl ?_)
        refine G_iadd d_Ta_isFieldNear_49 (by omega) (G_pc (pc' := 50) rfl ?_)
        refine G_iaload (o := 6) (n := 156) (i := (c * 26) + name) (v := M 6 ((c * 26) + name)) d_Ta_isFieldNear_50 rfl ⟨by decide, by decide⟩ (by omega) (rd_arr rfl) (fun t1207 => G_pc (pc' := 51) rfl ?_)
        have t1207 := tok_i t1207
        rw [show M 6 ((c * 26) + name) = M 57 (26 * c + name) from by rw [show (c * 26) + name = 26 * c + name by omega]; exact hT.2.1 _ (by omega) (by omega)]
        refine G_iconst (n := (-1)) d_Ta_isFieldNear_51 (by decide) (G_pc (pc' := 52) rfl ?_)
        refine G_icmp_eq (tgt := 57) d_Ta_isFieldNear_52 (by decide) (fun h1208 => ?_) (fun h1208 => G_pc (pc' := 55) rfl ?_)
        · skip
          refine G_iinc (i := 3) (n := 1) (z := 1) (ls' := [(3, vi (c + 1)), (4, vi 1), (0, vr 4), (1, vi type), (2, vi name)]) d_Ta_isFieldNear_57 rfl (by decide) (by omega) rfl (G_pc (pc' := 60) rfl ?_)
          refine G_goto (tgt := 2) d_Ta_isFieldNear_60 (by decide) ?_
          refine G_ls (ls' := [(3, vi (c + 1)), (0, vr 4), (1, vi type), (2, vi name)]) (by intro z hz; simp only [List.mem_cons] at hz ⊢; grind) ?_
          exact ih (c + 1) (by omega) (by omega) (ext_lt hno (by unfold nearM; intro h9; first | (have h8 := h9.2; omega) | (have h8 := h9.1; simp_all)))
        · skip
          refine G_iconst (n := 1) d_Ta_isFieldNear_55 (by decide) (G_pc (pc' := 56) rfl ?_)
          refine G_iret d_Ta_isFieldNear_56 rfl (tokZ (by decide)) rfl rfl ?_
          exact ⟨1, rfl, by omega, ⟨fun _ => ⟨c, by omega, by omega, by unfold nearM; refine ⟨by first | (left; assumption) | (right; assumption), by omega⟩⟩, fun _ => rfl⟩, rfl⟩
      · skip
        replace h1205 := b2i_0.mp h1205
        refine G_aload (i := 0) (n := 1) (len := 1) (Or.inl ⟨0, rfl, rfl, d_Ta_isFieldNear_19⟩) rfl (by decide) (G_pc (pc' := 20) rfl ?_)
        refine G_iload (i := 3) (n := 0) (len := 1) (Or.inl ⟨3, rfl, rfl, d_Ta_isFieldNear_20⟩) rfl (G_pc (pc' := 21) rfl ?_)
        refine G_iload (i := 1) (n := 2) (len := 1) (Or.inl ⟨1, rfl, rfl, d_Ta_isFieldNear_21⟩) rfl (G_pc (pc' := 22) rfl ?_)
        refine G_callV (K1 := KE) (d2 := 0) (o := 4) (cl := 6) (as := [vi c, vi type]) (rest := []) d_Ta_isFieldNear_22 mf_Ta_isA ml_Ta_79 rfl rfl (by decide) rfl rfl (Nat.le_of_ble_eq_true rfl) (by omega) ⟨Nat.le_refl _, Nat.le_refl _⟩ (g_Ta_isA (by omega) c type M hT hI0 (by omega) (by omega)) (fun r1209 M1210 kq1211 q1211 => ?_)
        clear kq1211; obtain ⟨q1211a, q1211b⟩ := q1211; subst r1209; subst M1210
        refine G_ps (pc' := 25) (st' := [vi (b2i (isAm M c type))]) rfl rfl ?_
        refine G_if_eq (tgt := 32) d_Ta_isFieldNear_25 (by decide) (fun h1212 => ?_) (fun h1212 => G_pc (pc' := 28) rfl ?_)
        · skip
          replace h1212 := b2i_0.mp h1212
          refine G_iconst (n := 0) d_Ta_isFieldNear_32 (by decide) (G_pc (pc' := 33) rfl ?_)
          refine G_istore (i := 4) (len := 2) (ls' := [(4, vi 0), (3, vi c), (0, vr 4), (1, vi type), (2, vi name)]) (Or.inr ⟨rfl, d_Ta_isFieldNear_33⟩) (by decide) rfl (G_pc (pc' := 35) rfl ?_)
          refine G_iload (i := 4) (n := 0) (len := 2) (Or.inr ⟨rfl, d_Ta_isFieldNear_35⟩) rfl (G_pc (pc' := 37) rfl ?_)
          refine G_if_eq (tgt := 57) d_Ta_isFieldNear_37 (by decide) (fun h1213 => ?_) (fun h1213 => absurd h1213 (by decide))
          refine G_iinc (i := 3) (n := 1) (z := 1) (ls' := [(3, vi (c + 1)), (4, vi 0), (0, vr 4), (1, vi type), (2, vi name)]) d_Ta_isFieldNear_57 rfl (by decide) (by omega) rfl (G_pc (pc' := 60) rfl ?_)
          refine G_goto (tgt := 2) d_Ta_isFieldNear_60 (by decide) ?_
          refine G_ls (ls' := [(3, vi (c + 1)), (0, vr 4), (1, vi type), (2, vi name)]) (by intro z hz; simp only [List.mem_cons] at hz ⊢; grind) ?_
          exact ih (c + 1) (by omega) (by omega) (ext_lt hno (by unfold nearM; intro h9; first | (have h8 := h9.2; omega) | (have h8 := h9.1; simp_all)))
        · skip
          replace h1212 := b2i_nz.mp h1212
          refine G_iconst (n := 1) d_Ta_isFieldNear_28 (by decide) (G_pc (pc' := 29) rfl ?_)
          refine G_goto (tgt := 33) d_Ta_isFieldNear_29 (by decide) ?_
          refine G_istore (i := 4) (len := 2) (ls' := [(4, vi 1), (3, vi c), (0, vr 4), (1, vi type), (2, vi name)]) (Or.inr ⟨rfl, d_Ta_isFieldNear_33⟩) (by decide) rfl (G_pc (pc' := 35) rfl ?_)
          refine G_iload (i := 4) (n := 0) (len := 2) (Or.inr ⟨rfl, d_Ta_isFieldNear_35⟩) rfl (G_pc (pc' := 37) rfl ?_)
          refine G_if_eq (tgt := 57) d_Ta_isFieldNear_37 (by decide) (fun h1214 => absurd h1214 (by decide)) (fun h1214 => G_pc (pc' := 40) rfl ?_)
          have hd7 := hI7 (26 * c + name) (by omega) (by omega)
          refine G_aload (i := 0) (n := 2) (len := 1) (Or.inl ⟨0, rfl, rfl, d_Ta_isFieldNear_40⟩) rfl (by decide) (G_pc (pc' := 41) rfl ?_)
          refine G_get (o := 4) (c := 6) (k := 1) (v := 6) d_Ta_isFieldNear_41 fl_Ta_15 rfl (by decide) (by decide) rfl rfl (G_pc (pc' := 44) rfl ?_)
          refine G_iload (i := 3) (n := 1) (len := 1) (Or.inl ⟨3, rfl, rfl, d_Ta_isFieldNear_44⟩) rfl (G_pc (pc' := 45) rfl ?_)
          refine G_bipush (n := 26) d_Ta_isFieldNear_45 (by decide) (G_pc (pc' := 47) rfl ?_)
          refine G_imul d_Ta_isFieldNear_47 (by omega) (G_pc (pc' := 48) rfl ?_)
          refine G_iload (i := 2) (n := 4) (len := 1) (Or.inl ⟨2, rfl, rfl, d_Ta_isFieldNear_48⟩) rfl (G_pc (pc' := 49) rfl ?_)
          refine G_iadd d_Ta_isFieldNear_49 (by omega) (G_pc (pc' := 50) rfl ?_)
          refine G_iaload (o := 6) (n := 156) (i := (c * 26) + name) (v := M 6 ((c * 26) + name)) d_Ta_isFieldNear_50 rfl ⟨by decide, by decide⟩ (by omega) (rd_arr rfl) (fun t1215 => G_pc (pc' := 51) rfl ?_)
          have t1215 := tok_i t1215
          rw [show M 6 ((c * 26) + name) = M 57 (26 * c + name) from by rw [show (c * 26) + name = 26 * c + name by omega]; exact hT.2.1 _ (by omega) (by omega)]
          refine G_iconst (n := (-1)) d_Ta_isFieldNear_51 (by decide) (G_pc (pc' := 52) rfl ?_)
          refine G_icmp_eq (tgt := 57) d_Ta_isFieldNear_52 (by decide) (fun h1216 => ?_) (fun h1216 => G_pc (pc' := 55) rfl ?_)
          · skip
            refine G_iinc (i := 3) (n := 1) (z := 1) (ls' := [(3, vi (c + 1)), (4, vi 1), (0, vr 4), (1, vi type), (2, vi name)]) d_Ta_isFieldNear_57 rfl (by decide) (by omega) rfl (G_pc (pc' := 60) rfl ?_)
            refine G_goto (tgt := 2) d_Ta_isFieldNear_60 (by decide) ?_
            refine G_ls (ls' := [(3, vi (c + 1)), (0, vr 4), (1, vi type), (2, vi name)]) (by intro z hz; simp only [List.mem_cons] at hz ⊢; grind) ?_
            exact ih (c + 1) (by omega) (by omega) (ext_lt hno (by unfold nearM; intro h9; first | (have h8 := h9.2; omega) | (have h8 := h9.1; simp_all)))
          · skip
            refine G_iconst (n := 1) d_Ta_isFieldNear_55 (by decide) (G_pc (pc' := 56) rfl ?_)
            refine G_iret d_Ta_isFieldNear_56 rfl (tokZ (by decide)) rfl rfl ?_
            exact ⟨1, rfl, by omega, ⟨fun _ => ⟨c, by omega, by omega, by unfold nearM; refine ⟨by first | (left; assumption) | (right; assumption), by omega⟩⟩, fun _ => rfl⟩, rfl⟩
  refine G_iconst (n := 0) d_Ta_isFieldNear_0 (by decide) (G_pc (pc' := 1) rfl ?_)
  refine G_istore (i := 3) (len := 1) (ls' := [(3, vi 0), (0, vr 4), (1, vi type), (2, vi name)]) (Or.inl ⟨3, rfl, rfl, d_Ta_isFieldNear_1⟩) (by decide) rfl (G_pc (pc' := 2) rfl ?_)
  exact loop (M 55 0).toNat 0 (by omega) (by omega) (fun q q1 q2 => absurd q2 (by omega))

theorem d_Ta_declareField_0 : decode b_Ta_declareField 0 = .ok (.aload_n 0, 1) := by decide +kernel
theorem d_Ta_declareField_1 : decode b_Ta_declareField 1 = .ok (.getfield 35, 3) := by decide +kernel
theorem d_Ta_declareField_4 : decode b_Ta_declareField 4 = .ok (.ifCond .ne 25, 3) := by decide +kernel
theorem d_Ta_declareField_7 : decode b_Ta_declareField 7 = .ok (.iload_n 1, 1) := by decide +kernel
theorem d_Ta_declareField_8 : decode b_Ta_declareField 8 = .ok (.ifCond .lt 21, 3) := by decide +kernel
theorem d_Ta_declareField_11 : decode b_Ta_declareField 11 = .ok (.iload_n 1, 1) := by decide +kernel
theorem d_Ta_declareField_12 : decode b_Ta_declareField 12 = .ok (.aload_n 0, 1) := by decide +kernel
theorem d_Ta_declareField_13 : decode b_Ta_declareField 13 = .ok (.getfield 38, 3) := by decide +kernel
theorem d_Ta_declareField_16 : decode b_Ta_declareField 16 = .ok (.if_icmp .ge 13, 3) := by decide +kernel
theorem d_Ta_declareField_19 : decode b_Ta_declareField 19 = .ok (.iload_n 2, 1) := by decide +kernel
theorem d_Ta_declareField_20 : decode b_Ta_declareField 20 = .ok (.ifCond .lt 9, 3) := by decide +kernel
theorem d_Ta_declareField_23 : decode b_Ta_declareField 23 = .ok (.iload_n 2, 1) := by decide +kernel
theorem d_Ta_declareField_24 : decode b_Ta_declareField 24 = .ok (.bipush 26, 2) := by decide +kernel
theorem d_Ta_declareField_26 : decode b_Ta_declareField 26 = .ok (.if_icmp .lt 5, 3) := by decide +kernel
theorem d_Ta_declareField_29 : decode b_Ta_declareField 29 = .ok (.iconst 0, 1) := by decide +kernel
theorem d_Ta_declareField_30 : decode b_Ta_declareField 30 = .ok (.ireturn, 1) := by decide +kernel
theorem d_Ta_declareField_31 : decode b_Ta_declareField 31 = .ok (.aload_n 0, 1) := by decide +kernel
theorem d_Ta_declareField_32 : decode b_Ta_declareField 32 = .ok (.iload_n 3, 1) := by decide +kernel
theorem d_Ta_declareField_33 : decode b_Ta_declareField 33 = .ok (.invokevirtual 42, 3) := by decide +kernel
theorem d_Ta_declareField_36 : decode b_Ta_declareField 36 = .ok (.ifCond .eq 12, 3) := by decide +kernel
theorem d_Ta_declareField_39 : decode b_Ta_declareField 39 = .ok (.aload_n 0, 1) := by decide +kernel
theorem d_Ta_declareField_40 : decode b_Ta_declareField 40 = .ok (.iload_n 1, 1) := by decide +kernel
theorem d_Ta_declareField_41 : decode b_Ta_declareField 41 = .ok (.iload_n 2, 1) := by decide +kernel
theorem d_Ta_declareField_42 : decode b_Ta_declareField 42 = .ok (.invokevirtual 46, 3) := by decide +kernel
theorem d_Ta_declareField_45 : decode b_Ta_declareField 45 = .ok (.ifCond .eq 5, 3) := by decide +kernel
theorem d_Ta_declareField_48 : decode b_Ta_declareField 48 = .ok (.iconst 0, 1) := by decide +kernel
theorem d_Ta_declareField_49 : decode b_Ta_declareField 49 = .ok (.ireturn, 1) := by decide +kernel
theorem d_Ta_declareField_50 : decode b_Ta_declareField 50 = .ok (.aload_n 0, 1) := by decide +kernel
theorem d_Ta_declareField_51 : decode b_Ta_declareField 51 = .ok (.getfield 15, 3) := by decide +kernel
theorem d_Ta_declareField_54 : decode b_Ta_declareField 54 = .ok (.iload_n 1, 1) := by decide +kernel
theorem d_Ta_declareField_55 : decode b_Ta_declareField 55 = .ok (.bipush 26, 2) := by decide +kernel
theorem d_Ta_declareField_57 : decode b_Ta_declareField 57 = .ok (.imul, 1) := by decide +kernel
theorem d_Ta_declareField_58 : decode b_Ta_declareField 58 = .ok (.iload_n 2, 1) := by decide +kernel
theorem d_Ta_declareField_59 : decode b_Ta_declareField 59 = .ok (.iadd, 1) := by decide +kernel
theorem d_Ta_declareField_60 : decode b_Ta_declareField 60 = .ok (.iload_n 3, 1) := by decide +kernel
theorem d_Ta_declareField_61 : decode b_Ta_declareField 61 = .ok (.iastore, 1) := by decide +kernel
theorem d_Ta_declareField_62 : decode b_Ta_declareField 62 = .ok (.iconst 1, 1) := by decide +kernel
theorem d_Ta_declareField_63 : decode b_Ta_declareField 63 = .ok (.ireturn, 1) := by decide +kernel
theorem g_Ta_declareField {X : WX} {d : Nat} (hd : 2 ≤ d) (type name kind : Int) (M : Mem) (hT : RT M) (hI : TI M) : MG X gt d KE KE y_Ta_declareField b_Ta_declareField 4 (some .boolean) [vr 4, vi type, vi name, vi kind] M (fun r M' => (addFieldOK M type name kind → r = some (vi 1) ∧ M' = mset M 6 (26 * type + name) kind) ∧ (¬ addFieldOK M type name kind → r = some (vi 0) ∧ M' = M)) := by
  refine MG_of_G (by decide) (Nat.le_of_ble_eq_true rfl) (Nat.le_refl _) (by decide) ?_
  show G X gt d KE KE y_Ta_declareField b_Ta_declareField 4 (some .boolean) _ 0 [(0, vr 4), (1, vi type), (2, vi name), (3, vi kind)] [] KE M
  have hI0 := hI
  obtain ⟨hI1, hI2, hI3, hI4, hI5, hI6, hI7, hI8, hI9, hI10, hI11, hI12, hI13, hI14⟩ := hI
  refine G_rngl (i := 1) rfl (fun hr1 => ?_)
  refine G_rngl (i := 2) rfl (fun hr2 => ?_)
  refine G_rngl (i := 3) rfl (fun hr3 => ?_)
  refine G_aload (i := 0) (n := 0) (len := 1) (Or.inl ⟨0, rfl, rfl, d_Ta_declareField_0⟩) rfl (by decide) (G_pc (pc' := 1) rfl ?_)
  refine G_get (o := 4) (c := 6) (k := 7) (v := M 4 7) d_Ta_declareField_1 fl_Ta_35 rfl (by decide) (by decide) rfl rfl (G_pc (pc' := 4) rfl ?_)
  rw [show M 4 7 = M 55 10 from hT.2.2.2.1.2.2.2]
  refine G_if_ne (tgt := 29) d_Ta_declareField_4 (by decide) (fun h1 => ?_) (fun h1 => G_pc (pc' := 7) rfl ?_)
  · skip
    refine G_iconst (n := 0) d_Ta_declareField_29 (by decide) (G_pc (pc' := 30) rfl ?_)
    refine G_iret d_Ta_declareField_30 rfl (tokZ (by decide)) rfl rfl ?_
    exact ⟨fun h => absurd h (by rintro ⟨g1, g2, g3, g4, g5⟩; first | omega | (have g9 := isKindB_t.mp g3; omega) | (have g9 := isKindB_t.mp g2; omega) | (have g9 := isKindB_t.mp g1; omega) | (have g9 := hI8 _ g1.1 g1.2; omega) | (simp_all; done)), fun _ => ⟨rfl, rfl⟩⟩
  · skip
    refine G_iload (i := 1) (n := 1) (len := 1) (Or.inl ⟨1, rfl, rfl, d_Ta_declareField_7⟩) rfl (G_pc (pc' := 8) rfl ?_)
    refine G_if_lt (tgt := 29) d_Ta_declareField_8 (by decide) (fun h2 => ?_) (fun h2 => G_pc (pc' := 11) rfl ?_)
    · skip
      refine G_iconst (n := 0) d_Ta_declareField_29 (by decide) (G_pc (pc' := 30) rfl ?_)
      refine G_iret d_Ta_declareField_30 rfl (tokZ (by decide)) rfl rfl ?_
      exact ⟨fun h => absurd h (by rintro ⟨g1, g2, g3, g4, g5⟩; first | omega | (have g9 := isKindB_t.mp g3; omega) | (have g9 := isKindB_t.mp g2; omega) | (have g9 := isKindB_t.mp g1; omega) | (have g9 := hI8 _ g1.1 g1.2; omega) | (simp_all; done)), fun _ => ⟨rfl, rfl⟩⟩
    · skip
      refine G_iload (i := 1) (n := 1) (len := 1) (Or.inl ⟨1, rfl, rfl, d_Ta_declareField_11⟩) rfl (G_pc (pc' := 12) rfl ?_)
      refine G_aload (i := 0) (n := 0) (len := 1) (Or.inl ⟨0, rfl, rfl, d_Ta_declareField_12⟩) rfl (by decide) (G_pc (pc' := 13) rfl ?_)
      refine G_get (o := 4) (c := 6) (k := 4) (v := M 4 4) d_Ta_declareField_13 fl_Ta_38 rfl (by decide) (by decide) rfl rfl (G_pc (pc' := 16) rfl ?_)
      rw [show M 4 4 = M 55 0 from hT.2.2.2.1.1]
      refine G_icmp_ge (tgt := 29) d_Ta_declareField_16 (by decide) (fun h3 => ?_) (fun h3 => G_pc (pc' := 19) rfl ?_)
      · skip
        refine G_iconst (n := 0) d_Ta_declareField_29 (by decide) (G_pc (pc' := 30) rfl ?_)
        refine G_iret d_Ta_declareField_30 rfl (tokZ (by decide)) rfl rfl ?_
        exact ⟨fun h => absurd h (by rintro ⟨g1, g2, g3, g4, g5⟩; first | omega | (have g9 := isKindB_t.mp g3; omega) | (have g9 := isKindB_t.mp g2; omega) | (have g9 := isKindB_t.mp g1; omega) | (have g9 := hI8 _ g1.1 g1.2; omega) | (simp_all; done)), fun _ => ⟨rfl, rfl⟩⟩
      · skip
        refine G_iload (i := 2) (n := 2) (len := 1) (Or.inl ⟨2, rfl, rfl, d_Ta_declareField_19⟩) rfl (G_pc (pc' := 20) rfl ?_)
        refine G_if_lt (tgt := 29) d_Ta_declareField_20 (by decide) (fun h4 => ?_) (fun h4 => G_pc (pc' := 23) rfl ?_)
        · skip
          refine G_iconst (n := 0) d_Ta_declareField_29 (by decide) (G_pc (pc' := 30) rfl ?_)
          refine G_iret d_Ta_declareField_30 rfl (tokZ (by decide)) rfl rfl ?_
          exact ⟨fun h => absurd h (by rintro ⟨g1, g2, g3, g4, g5⟩; first | omega | (have g9 := isKindB_t.mp g3; omega) | (have g9 := isKindB_t.mp g2; omega) | (have g9 := isKindB_t.mp g1; omega) | (have g9 := hI8 _ g1.1 g1.2; omega) | (simp_all; done)), fun _ => ⟨rfl, rfl⟩⟩
        · skip
          refine G_iload (i := 2) (n := 2) (len := 1) (Or.inl ⟨2, rfl, rfl, d_Ta_declareField_23⟩) rfl (G_pc (pc' := 24) rfl ?_)
          refine G_bipush (n := 26) d_Ta_declareField_24 (by decide) (G_pc (pc' := 26) rfl ?_)
          refine G_icmp_lt (tgt := 31) d_Ta_declareField_26 (by decide) (fun h5 => ?_) (fun h5 => G_pc (pc' := 29) rfl ?_)
          · skip
            refine G_aload (i := 0) (n := 0) (len := 1) (Or.inl ⟨0, rfl, rfl, d_Ta_declareField_31⟩) rfl (by decide) (G_pc (pc' := 32) rfl ?_)
            refine G_iload (i := 3) (n := 3) (len := 1) (Or.inl ⟨3, rfl, rfl, d_Ta_declareField_32⟩) rfl (G_pc (pc' := 33) rfl ?_)
            refine G_callV (K1 := KE) (d2 := 1) (o := 4) (cl := 6) (as := [vi kind]) (rest := []) d_Ta_declareField_33 mf_Ta_isThere ml_Ta_42 rfl rfl (by decide) rfl rfl (Nat.le_of_ble_eq_true rfl) (by omega) ⟨Nat.le_refl _, Nat.le_refl _⟩ (g_Ta_isThere (by omega) kind M hT hI0 ) (fun r6 M7 kq8 q8 => ?_)
            clear kq8; obtain ⟨q8a, q8b⟩ := q8; subst r6; subst M7
            refine G_ps (pc' := 36) (st' := [vi (b2i (isKindB (M 55 0) kind))]) rfl rfl ?_
            refine G_if_eq (tgt := 48) d_Ta_declareField_36 (by decide) (fun h9 => ?_) (fun h9 => G_pc (pc' := 39) rfl ?_)
            · skip
              replace h9 := b2i_0.mp h9
              replace h9 := isKindB_f.mp h9
              refine G_iconst (n := 0) d_Ta_declareField_48 (by decide) (G_pc (pc' := 49) rfl ?_)
              refine G_iret d_Ta_declareField_49 rfl (tokZ (by decide)) rfl rfl ?_
              exact ⟨fun h => absurd h (by rintro ⟨g1, g2, g3, g4, g5⟩; first | omega | (have g9 := isKindB_t.mp g3; omega) | (have g9 := isKindB_t.mp g2; omega) | (have g9 := isKindB_t.mp g1; omega) | (have g9 := hI8 _ g1.1 g1.2; omega) | (simp_all; done)), fun _ => ⟨rfl, rfl⟩⟩
            · skip
              replace h9 := b2i_nz.mp h9
              replace h9 := isKindB_t.mp h9
              refine G_aload (i := 0) (n := 0) (len := 1) (Or.inl ⟨0, rfl, rfl, d_Ta_declareField_39⟩) rfl (by decide) (G_pc (pc' := 40) rfl ?_)
              refine G_iload (i := 1) (n := 1) (len := 1) (Or.inl ⟨1, rfl, rfl, d_Ta_declareField_40⟩) rfl (G_pc (pc' := 41) rfl ?_)
              refine G_iload (i := 2) (n := 2) (len := 1) (Or.inl ⟨2, rfl, rfl, d_Ta_declareField_41⟩) rfl (G_pc (pc' := 42) rfl ?_)
              refine G_callV (K1 := KE) (d2 := 1) (o := 4) (cl := 6) (as := [vi type, vi name]) (rest := []) d_Ta_declareField_42 mf_Ta_isFieldNear ml_Ta_46 rfl rfl (by decide) rfl rfl (Nat.le_of_ble_eq_true rfl) (by omega) ⟨Nat.le_refl _, Nat.le_refl _⟩ (g_Ta_isFieldNear (by omega) type name M hT hI0 (by omega) (by omega)) (fun r10 M11 kq12 q12 => ?_)
              clear kq12; obtain ⟨z13, q12a, q12r, hnear, q12b⟩ := q12; subst r10; subst M11
              refine G_ps (pc' := 45) (st' := [vi z13]) rfl rfl ?_
              refine G_if_eq (tgt := 50) d_Ta_declareField_45 (by decide) (fun h14 => ?_) (fun h14 => G_pc (pc' := 48) rfl ?_)
              · skip
                refine G_aload (i := 0) (n := 0) (len := 1) (Or.inl ⟨0, rfl, rfl, d_Ta_declareField_50⟩) rfl (by decide) (G_pc (pc' := 51) rfl ?_)
                refine G_get (o := 4) (c := 6) (k := 1) (v := 6) d_Ta_declareField_51 fl_Ta_15 rfl (by decide) (by decide) rfl rfl (G_pc (pc' := 54) rfl ?_)
                refine G_iload (i := 1) (n := 1) (len := 1) (Or.inl ⟨1, rfl, rfl, d_Ta_declareField_54⟩) rfl (G_pc (pc' := 55) rfl ?_)
                refine G_bipush (n := 26) d_Ta_declareField_55 (by decide) (G_pc (pc' := 57) rfl ?_)
                refine G_imul d_Ta_declareField_57 (by omega) (G_pc (pc' := 58) rfl ?_)
                refine G_iload (i := 2) (n := 2) (len := 1) (Or.inl ⟨2, rfl, rfl, d_Ta_declareField_58⟩) rfl (G_pc (pc' := 59) rfl ?_)
                refine G_iadd d_Ta_declareField_59 (by omega) (G_pc (pc' := 60) rfl ?_)
                refine G_iload (i := 3) (n := 3) (len := 1) (Or.inl ⟨3, rfl, rfl, d_Ta_declareField_60⟩) rfl (G_pc (pc' := 61) rfl ?_)
                refine G_iastore (o := 6) (n := 156) (i := (type * 26) + name) (x := kind) d_Ta_declareField_61 rfl ⟨by decide, by decide⟩ (by decide) (gt_arr rfl _) (by omega) (tokI (by omega)) (G_pc (pc' := 62) rfl ?_)
                refine G_iconst (n := 1) d_Ta_declareField_62 (by decide) (G_pc (pc' := 63) rfl ?_)
                refine G_iret d_Ta_declareField_63 rfl (tokZ (by decide)) rfl rfl ?_
                exact ⟨fun _ => ⟨rfl, by rw [show type * 26 + name = 26 * type + name by omega]⟩, fun h => absurd ⟨by omega, by omega, by first | assumption | exact isKindB_t.mpr (by omega), by omega, fun c c1 c2 c3 => by have := hnear.mpr ⟨c, c1, c2, c3⟩; omega⟩ h⟩
              · skip
                refine G_iconst (n := 0) d_Ta_declareField_48 (by decide) (G_pc (pc' := 49) rfl ?_)
                refine G_iret d_Ta_declareField_49 rfl (tokZ (by decide)) rfl rfl ?_
                exact ⟨fun h => absurd h (by rintro ⟨g1, g2, g3, g4, g5⟩; obtain ⟨c, c1, c2, c3⟩ := hnear.mp (by omega); exact g5 c c1 c2 c3), fun _ => ⟨rfl, rfl⟩⟩
          · skip
            refine G_iconst (n := 0) d_Ta_declareField_29 (by decide) (G_pc (pc' := 30) rfl ?_)
            refine G_iret d_Ta_declareField_30 rfl (tokZ (by decide)) rfl rfl ?_
            exact ⟨fun h => absurd h (by rintro ⟨g1, g2, g3, g4, g5⟩; first | omega | (have g9 := isKindB_t.mp g3; omega) | (have g9 := isKindB_t.mp g2; omega) | (have g9 := isKindB_t.mp g1; omega) | (have g9 := hI8 _ g1.1 g1.2; omega) | (simp_all; done)), fun _ => ⟨rfl, rfl⟩⟩

theorem d_Ta_declareVariable_0 : decode b_Ta_declareVariable 0 = .ok (.aload_n 0, 1) := by decide +kernel
theorem d_Ta_declareVariable_1 : decode b_Ta_declareVariable 1 = .ok (.getfield 35, 3) := by decide +kernel
theorem d_Ta_declareVariable_4 : decode b_Ta_declareVariable 4 = .ok (.ifCond .ne 21, 3) := by decide +kernel
theorem d_Ta_declareVariable_7 : decode b_Ta_declareVariable 7 = .ok (.aload_n 0, 1) := by decide +kernel
theorem d_Ta_declareVariable_8 : decode b_Ta_declareVariable 8 = .ok (.iload_n 2, 1) := by decide +kernel
theorem d_Ta_declareVariable_9 : decode b_Ta_declareVariable 9 = .ok (.invokevirtual 42, 3) := by decide +kernel
theorem d_Ta_declareVariable_12 : decode b_Ta_declareVariable 12 = .ok (.ifCond .eq 13, 3) := by decide +kernel
theorem d_Ta_declareVariable_15 : decode b_Ta_declareVariable 15 = .ok (.iload_n 1, 1) := by decide +kernel
theorem d_Ta_declareVariable_16 : decode b_Ta_declareVariable 16 = .ok (.ifCond .lt 9, 3) := by decide +kernel
theorem d_Ta_declareVariable_19 : decode b_Ta_declareVariable 19 = .ok (.iload_n 1, 1) := by decide +kernel
theorem d_Ta_declareVariable_20 : decode b_Ta_declareVariable 20 = .ok (.bipush 26, 2) := by decide +kernel
theorem d_Ta_declareVariable_22 : decode b_Ta_declareVariable 22 = .ok (.if_icmp .le 5, 3) := by decide +kernel
theorem d_Ta_declareVariable_25 : decode b_Ta_declareVariable 25 = .ok (.iconst 0, 1) := by decide +kernel
theorem d_Ta_declareVariable_26 : decode b_Ta_declareVariable 26 = .ok (.ireturn, 1) := by decide +kernel
theorem d_Ta_declareVariable_27 : decode b_Ta_declareVariable 27 = .ok (.iload_n 1, 1) := by decide +kernel
theorem d_Ta_declareVariable_28 : decode b_Ta_declareVariable 28 = .ok (.bipush 26, 2) := by decide +kernel
theorem d_Ta_declareVariable_30 : decode b_Ta_declareVariable 30 = .ok (.if_icmp .ne 10, 3) := by decide +kernel
theorem d_Ta_declareVariable_33 : decode b_Ta_declareVariable 33 = .ok (.iload_n 2, 1) := by decide +kernel
theorem d_Ta_declareVariable_34 : decode b_Ta_declareVariable 34 = .ok (.invokestatic 50, 3) := by decide +kernel
theorem d_Ta_declareVariable_37 : decode b_Ta_declareVariable 37 = .ok (.ifCond .eq 13, 3) := by decide +kernel
theorem d_Ta_declareVariable_40 : decode b_Ta_declareVariable 40 = .ok (.aload_n 0, 1) := by decide +kernel
theorem d_Ta_declareVariable_41 : decode b_Ta_declareVariable 41 = .ok (.getfield 18, 3) := by decide +kernel
theorem d_Ta_declareVariable_44 : decode b_Ta_declareVariable 44 = .ok (.iload_n 1, 1) := by decide +kernel
theorem d_Ta_declareVariable_45 : decode b_Ta_declareVariable 45 = .ok (.iaload, 1) := by decide +kernel
theorem d_Ta_declareVariable_46 : decode b_Ta_declareVariable 46 = .ok (.iconst (-1), 1) := by decide +kernel
theorem d_Ta_declareVariable_47 : decode b_Ta_declareVariable 47 = .ok (.if_icmp .eq 5, 3) := by decide +kernel
theorem d_Ta_declareVariable_50 : decode b_Ta_declareVariable 50 = .ok (.iconst 0, 1) := by decide +kernel
theorem d_Ta_declareVariable_51 : decode b_Ta_declareVariable 51 = .ok (.ireturn, 1) := by decide +kernel
theorem d_Ta_declareVariable_52 : decode b_Ta_declareVariable 52 = .ok (.aload_n 0, 1) := by decide +kernel
theorem d_Ta_declareVariable_53 : decode b_Ta_declareVariable 53 = .ok (.getfield 18, 3) := by decide +kernel
theorem d_Ta_declareVariable_56 : decode b_Ta_declareVariable 56 = .ok (.iload_n 1, 1) := by decide +kernel
theorem d_Ta_declareVariable_57 : decode b_Ta_declareVariable 57 = .ok (.iload_n 2, 1) := by decide +kernel
theorem d_Ta_declareVariable_58 : decode b_Ta_declareVariable 58 = .ok (.iastore, 1) := by decide +kernel
theorem d_Ta_declareVariable_59 : decode b_Ta_declareVariable 59 = .ok (.iconst 1, 1) := by decide +kernel
theorem d_Ta_declareVariable_60 : decode b_Ta_declareVariable 60 = .ok (.ireturn, 1) := by decide +kernel
theorem g_Ta_declareVariable {X : WX} {d : Nat} (hd : 2 ≤ d) (name kind : Int) (M : Mem) (hT : RT M) (hI : TI M) : MG X gt d KE KE y_Ta_declareVariable b_Ta_declareVariable 3 (some .boolean) [vr 4, vi name, vi kind] M (fun r M' => (addVarOK M name kind → r = some (vi 1) ∧ M' = mset M 7 name kind) ∧ (¬ addVarOK M name kind → r = some (vi 0) ∧ M' = M)) := by
  refine MG_of_G (by decide) (Nat.le_of_ble_eq_true rfl) (Nat.le_refl _) (by decide) ?_
  show G X gt d KE KE y_Ta_declareVariable b_Ta_declareVariable 3 (some .boolean) _ 0 [(0, vr 4), (1, vi name), (2, vi kind)] [] KE M
  have hI0 := hI
  obtain ⟨hI1, hI2, hI3, hI4, hI5, hI6, hI7, hI8, hI9, hI10, hI11, hI12, hI13, hI14⟩ := hI
  refine G_rngl (i := 1) rfl (fun hr1 => ?_)
  refine G_rngl (i := 2) rfl (fun hr2 => ?_)
  refine G_aload (i := 0) (n := 0) (len := 1) (Or.inl ⟨0, rfl, rfl, d_Ta_declareVariable_0⟩) rfl (by decide) (G_pc (pc' := 1) rfl ?_)
  refine G_get (o := 4) (c := 6) (k := 7) (v := M 4 7) d_Ta_declareVariable_1 fl_Ta_35 rfl (by decide) (by decide) rfl rfl (G_pc (pc' := 4) rfl ?_)
  rw [show M 4 7 = M 55 10 from hT.2.2.2.1.2.2.2]
  refine G_if_ne (tgt := 25) d_Ta_declareVariable_4 (by decide) (fun h1 => ?_) (fun h1 => G_pc (pc' := 7) rfl ?_)
  · skip
    refine G_iconst (n := 0) d_Ta_declareVariable_25 (by decide) (G_pc (pc' := 26) rfl ?_)
    refine G_iret d_Ta_declareVariable_26 rfl (tokZ (by decide)) rfl rfl ?_
    exact ⟨fun h => absurd h (by rintro ⟨g1, g2, g3, g4, g5⟩; first | omega | (have g9 := isKindB_t.mp g3; omega) | (have g9 := isKindB_t.mp g2; omega) | (have g9 := isKindB_t.mp g1; omega) | (have g9 := hI8 _ g1.1 g1.2; omega) | (simp_all; done)), fun _ => ⟨rfl, rfl⟩⟩
  · skip
    refine G_aload (i := 0) (n := 0) (len := 1) (Or.inl ⟨0, rfl, rfl, d_Ta_declareVariable_7⟩) rfl (by decide) (G_pc (pc' := 8) rfl ?_)
    refine G_iload (i := 2) (n := 2) (len := 1) (Or.inl ⟨2, rfl, rfl, d_Ta_declareVariable_8⟩) rfl (G_pc (pc' := 9) rfl ?_)
    refine G_callV (K1 := KE) (d2 := 1) (o := 4) (cl := 6) (as := [vi kind]) (rest := []) d_Ta_declareVariable_9 mf_Ta_isThere ml_Ta_42 rfl rfl (by decide) rfl rfl (Nat.le_of_ble_eq_true rfl) (by omega) ⟨Nat.le_refl _, Nat.le_refl _⟩ (g_Ta_isThere (by omega) kind M hT hI0 ) (fun r2 M3 kq4 q4 => ?_)
    clear kq4; obtain ⟨q4a, q4b⟩ := q4; subst r2; subst M3
    refine G_ps (pc' := 12) (st' := [vi (b2i (isKindB (M 55 0) kind))]) rfl rfl ?_
    refine G_if_eq (tgt := 25) d_Ta_declareVariable_12 (by decide) (fun h5 => ?_) (fun h5 => G_pc (pc' := 15) rfl ?_)
    · skip
      replace h5 := b2i_0.mp h5
      replace h5 := isKindB_f.mp h5
      refine G_iconst (n := 0) d_Ta_declareVariable_25 (by decide) (G_pc (pc' := 26) rfl ?_)
      refine G_iret d_Ta_declareVariable_26 rfl (tokZ (by decide)) rfl rfl ?_
      exact ⟨fun h => absurd h (by rintro ⟨g1, g2, g3, g4, g5⟩; first | omega | (have g9 := isKindB_t.mp g3; omega) | (have g9 := isKindB_t.mp g2; omega) | (have g9 := isKindB_t.mp g1; omega) | (have g9 := hI8 _ g1.1 g1.2; omega) | (simp_all; done)), fun _ => ⟨rfl, rfl⟩⟩
    · skip
      replace h5 := b2i_nz.mp h5
      replace h5 := isKindB_t.mp h5
      refine G_iload (i := 1) (n := 1) (len := 1) (Or.inl ⟨1, rfl, rfl, d_Ta_declareVariable_15⟩) rfl (G_pc (pc' := 16) rfl ?_)
      refine G_if_lt (tgt := 25) d_Ta_declareVariable_16 (by decide) (fun h6 => ?_) (fun h6 => G_pc (pc' := 19) rfl ?_)
      · skip
        refine G_iconst (n := 0) d_Ta_declareVariable_25 (by decide) (G_pc (pc' := 26) rfl ?_)
        refine G_iret d_Ta_declareVariable_26 rfl (tokZ (by decide)) rfl rfl ?_
        exact ⟨fun h => absurd h (by rintro ⟨g1, g2, g3, g4, g5⟩; first | omega | (have g9 := isKindB_t.mp g3; omega) | (have g9 := isKindB_t.mp g2; omega) | (have g9 := isKindB_t.mp g1; omega) | (have g9 := hI8 _ g1.1 g1.2; omega) | (simp_all; done)), fun _ => ⟨rfl, rfl⟩⟩
      · skip
        refine G_iload (i := 1) (n := 1) (len := 1) (Or.inl ⟨1, rfl, rfl, d_Ta_declareVariable_19⟩) rfl (G_pc (pc' := 20) rfl ?_)
        refine G_bipush (n := 26) d_Ta_declareVariable_20 (by decide) (G_pc (pc' := 22) rfl ?_)
        refine G_icmp_le (tgt := 27) d_Ta_declareVariable_22 (by decide) (fun h7 => ?_) (fun h7 => G_pc (pc' := 25) rfl ?_)
        · skip
          refine G_iload (i := 1) (n := 1) (len := 1) (Or.inl ⟨1, rfl, rfl, d_Ta_declareVariable_27⟩) rfl (G_pc (pc' := 28) rfl ?_)
          refine G_bipush (n := 26) d_Ta_declareVariable_28 (by decide) (G_pc (pc' := 30) rfl ?_)
          refine G_icmp_ne (tgt := 40) d_Ta_declareVariable_30 (by decide) (fun h8 => ?_) (fun h8 => G_pc (pc' := 33) rfl ?_)
          · skip
            refine G_aload (i := 0) (n := 0) (len := 1) (Or.inl ⟨0, rfl, rfl, d_Ta_declareVariable_40⟩) rfl (by decide) (G_pc (pc' := 41) rfl ?_)
            refine G_get (o := 4) (c := 6) (k := 2) (v := 7) d_Ta_declareVariable_41 fl_Ta_18 rfl (by decide) (by decide) rfl rfl (G_pc (pc' := 44) rfl ?_)
            refine G_iload (i := 1) (n := 1) (len := 1) (Or.inl ⟨1, rfl, rfl, d_Ta_declareVariable_44⟩) rfl (G_pc (pc' := 45) rfl ?_)
            refine G_iaload (o := 7) (n := 27) (i := name) (v := M 7 name) d_Ta_declareVariable_45 rfl ⟨by decide, by decide⟩ (by omega) (rd_arr rfl) (fun t9 => G_pc (pc' := 46) rfl ?_)
            have t9 := tok_i t9
            rw [show M 7 name = M 58 name from hT.2.2.1 _ (by omega) (by omega)]
            refine G_iconst (n := (-1)) d_Ta_declareVariable_46 (by decide) (G_pc (pc' := 47) rfl ?_)
            refine G_icmp_eq (tgt := 52) d_Ta_declareVariable_47 (by decide) (fun h10 => ?_) (fun h10 => G_pc (pc' := 50) rfl ?_)
            · skip
              refine G_aload (i := 0) (n := 0) (len := 1) (Or.inl ⟨0, rfl, rfl, d_Ta_declareVariable_52⟩) rfl (by decide) (G_pc (pc' := 53) rfl ?_)
              refine G_get (o := 4) (c := 6) (k := 2) (v := 7) d_Ta_declareVariable_53 fl_Ta_18 rfl (by decide) (by decide) rfl rfl (G_pc (pc' := 56) rfl ?_)
              refine G_iload (i := 1) (n := 1) (len := 1) (Or.inl ⟨1, rfl, rfl, d_Ta_declareVariable_56⟩) rfl (G_pc (pc' := 57) rfl ?_)
              refine G_iload (i := 2) (n := 2) (len := 1) (Or.inl ⟨2, rfl, rfl, d_Ta_declareVariable_57⟩) rfl (G_pc (pc' := 58) rfl ?_)
              refine G_iastore (o := 7) (n := 27) (i := name) (x := kind) d_Ta_declareVariable_58 rfl ⟨by decide, by decide⟩ (by decide) (gt_arr rfl _) (by omega) (tokI (by omega)) (G_pc (pc' := 59) rfl ?_)
              refine G_iconst (n := 1) d_Ta_declareVariable_59 (by decide) (G_pc (pc' := 60) rfl ?_)
              refine G_iret d_Ta_declareVariable_60 rfl (tokZ (by decide)) rfl rfl ?_
              exact ⟨fun _ => ⟨rfl, rfl⟩, fun h => absurd ⟨by omega, by first | assumption | exact isKindB_t.mpr (by omega), by omega, by have := hI8 name (by omega) (by omega); omega, by omega⟩ h⟩
            · skip
              refine G_iconst (n := 0) d_Ta_declareVariable_50 (by decide) (G_pc (pc' := 51) rfl ?_)
              refine G_iret d_Ta_declareVariable_51 rfl (tokZ (by decide)) rfl rfl ?_
              exact ⟨fun h => absurd h (by rintro ⟨g1, g2, g3, g4, g5⟩; first | omega | (have g9 := isKindB_t.mp g3; omega) | (have g9 := isKindB_t.mp g2; omega) | (have g9 := isKindB_t.mp g1; omega) | (have g9 := hI8 _ g1.1 g1.2; omega) | (simp_all; done)), fun _ => ⟨rfl, rfl⟩⟩
          · skip
            refine G_iload (i := 2) (n := 2) (len := 1) (Or.inl ⟨2, rfl, rfl, d_Ta_declareVariable_33⟩) rfl (G_pc (pc' := 34) rfl ?_)
            refine G_callS (K1 := KE) (d2 := 0) (as := [vi kind]) (rest := []) d_Ta_declareVariable_34 mf_Ki_isClass ml_Ta_50 rfl rfl (Nat.le_of_ble_eq_true rfl) (by omega) ⟨Nat.le_refl _, Nat.le_refl _⟩ (g_Ki_isClass (by omega) kind _) (fun r11 M12 kq13 q13 => ?_)
            clear kq13; obtain ⟨q13a, q13b⟩ := q13; subst r11; subst M12
            refine G_ps (pc' := 37) (st' := [vi (b2i (clB kind))]) rfl rfl ?_
            refine G_if_eq (tgt := 50) d_Ta_declareVariable_37 (by decide) (fun h14 => ?_) (fun h14 => G_pc (pc' := 40) rfl ?_)
            · skip
              replace h14 := b2i_0.mp h14
              replace h14 := clB_f.mp h14
              refine G_iconst (n := 0) d_Ta_declareVariable_50 (by decide) (G_pc (pc' := 51) rfl ?_)
              refine G_iret d_Ta_declareVariable_51 rfl (tokZ (by decide)) rfl rfl ?_
              exact ⟨fun h => absurd h (by rintro ⟨g1, g2, g3, g4, g5⟩; first | omega | (have g9 := isKindB_t.mp g3; omega) | (have g9 := isKindB_t.mp g2; omega) | (have g9 := isKindB_t.mp g1; omega) | (have g9 := hI8 _ g1.1 g1.2; omega) | (simp_all; done)), fun _ => ⟨rfl, rfl⟩⟩
            · skip
              replace h14 := b2i_nz.mp h14
              replace h14 := clB_t.mp h14
              refine G_aload (i := 0) (n := 0) (len := 1) (Or.inl ⟨0, rfl, rfl, d_Ta_declareVariable_40⟩) rfl (by decide) (G_pc (pc' := 41) rfl ?_)
              refine G_get (o := 4) (c := 6) (k := 2) (v := 7) d_Ta_declareVariable_41 fl_Ta_18 rfl (by decide) (by decide) rfl rfl (G_pc (pc' := 44) rfl ?_)
              refine G_iload (i := 1) (n := 1) (len := 1) (Or.inl ⟨1, rfl, rfl, d_Ta_declareVariable_44⟩) rfl (G_pc (pc' := 45) rfl ?_)
              refine G_iaload (o := 7) (n := 27) (i := name) (v := M 7 name) d_Ta_declareVariable_45 rfl ⟨by decide, by decide⟩ (by omega) (rd_arr rfl) (fun t15 => G_pc (pc' := 46) rfl ?_)
              have t15 := tok_i t15
              rw [show M 7 name = M 58 name from hT.2.2.1 _ (by omega) (by omega)]
              refine G_iconst (n := (-1)) d_Ta_declareVariable_46 (by decide) (G_pc (pc' := 47) rfl ?_)
              refine G_icmp_eq (tgt := 52) d_Ta_declareVariable_47 (by decide) (fun h16 => ?_) (fun h16 => G_pc (pc' := 50) rfl ?_)
              · skip
                refine G_aload (i := 0) (n := 0) (len := 1) (Or.inl ⟨0, rfl, rfl, d_Ta_declareVariable_52⟩) rfl (by decide) (G_pc (pc' := 53) rfl ?_)
                refine G_get (o := 4) (c := 6) (k := 2) (v := 7) d_Ta_declareVariable_53 fl_Ta_18 rfl (by decide) (by decide) rfl rfl (G_pc (pc' := 56) rfl ?_)
                refine G_iload (i := 1) (n := 1) (len := 1) (Or.inl ⟨1, rfl, rfl, d_Ta_declareVariable_56⟩) rfl (G_pc (pc' := 57) rfl ?_)
                refine G_iload (i := 2) (n := 2) (len := 1) (Or.inl ⟨2, rfl, rfl, d_Ta_declareVariable_57⟩) rfl (G_pc (pc' := 58) rfl ?_)
                refine G_iastore (o := 7) (n := 27) (i := name) (x := kind) d_Ta_declareVariable_58 rfl ⟨by decide, by decide⟩ (by decide) (gt_arr rfl _) (by omega) (tokI (by omega)) (G_pc (pc' := 59) rfl ?_)
                refine G_iconst (n := 1) d_Ta_declareVariable_59 (by decide) (G_pc (pc' := 60) rfl ?_)
                refine G_iret d_Ta_declareVariable_60 rfl (tokZ (by decide)) rfl rfl ?_
                exact ⟨fun _ => ⟨rfl, rfl⟩, fun h => absurd ⟨by omega, by first | assumption | exact isKindB_t.mpr (by omega), by omega, by have := hI8 name (by omega) (by omega); omega, by omega⟩ h⟩
              · skip
                refine G_iconst (n := 0) d_Ta_declareVariable_50 (by decide) (G_pc (pc' := 51) rfl ?_)
                refine G_iret d_Ta_declareVariable_51 rfl (tokZ (by decide)) rfl rfl ?_
                exact ⟨fun h => absurd h (by rintro ⟨g1, g2, g3, g4, g5⟩; first | omega | (have g9 := isKindB_t.mp g3; omega) | (have g9 := isKindB_t.mp g2; omega) | (have g9 := isKindB_t.mp g1; omega) | (have g9 := hI8 _ g1.1 g1.2; omega) | (simp_all; done)), fun _ => ⟨rfl, rfl⟩⟩
        · skip
          refine G_iconst (n := 0) d_Ta_declareVariable_25 (by decide) (G_pc (pc' := 26) rfl ?_)
          refine G_iret d_Ta_declareVariable_26 rfl (tokZ (by decide)) rfl rfl ?_
          exact ⟨fun h => absurd h (by rintro ⟨g1, g2, g3, g4, g5⟩; first | omega | (have g9 := isKindB_t.mp g3; omega) | (have g9 := isKindB_t.mp g2; omega) | (have g9 := isKindB_t.mp g1; omega) | (have g9 := hI8 _ g1.1 g1.2; omega) | (simp_all; done)), fun _ => ⟨rfl, rfl⟩⟩

def makeD (M : Mem) (kind len : Int) : Mem := mset (mset (mset M 4 5 (M 55 5 + 1)) 8 (28 * (M 55 5 + 1) + 26) (if 10 ≤ kind then len else 0)) 8 (28 * (M 55 5 + 1) + 27) kind
theorem d_Ta_create_0 : decode b_Ta_create 0 = .ok (.iload_n 1, 1) := by decide +kernel
theorem d_Ta_create_1 : decode b_Ta_create 1 = .ok (.invokestatic 55, 3) := by decide +kernel
theorem d_Ta_create_4 : decode b_Ta_create 4 = .ok (.istore_n 3, 1) := by decide +kernel
theorem d_Ta_create_5 : decode b_Ta_create 5 = .ok (.aload_n 0, 1) := by decide +kernel
theorem d_Ta_create_6 : decode b_Ta_create 6 = .ok (.getfield 25, 3) := by decide +kernel
theorem d_Ta_create_9 : decode b_Ta_create 9 = .ok (.ifCond .eq 20, 3) := by decide +kernel
theorem d_Ta_create_12 : decode b_Ta_create 12 = .ok (.aload_n 0, 1) := by decide +kernel
theorem d_Ta_create_13 : decode b_Ta_create 13 = .ok (.getfield 58, 3) := by decide +kernel
theorem d_Ta_create_16 : decode b_Ta_create 16 = .ok (.bipush 12, 2) := by decide +kernel
theorem d_Ta_create_18 : decode b_Ta_create 18 = .ok (.if_icmp .eq 11, 3) := by decide +kernel
theorem d_Ta_create_21 : decode b_Ta_create 21 = .ok (.aload_n 0, 1) := by decide +kernel
theorem d_Ta_create_22 : decode b_Ta_create 22 = .ok (.iload_n 1, 1) := by decide +kernel
theorem d_Ta_create_23 : decode b_Ta_create 23 = .ok (.invokevirtual 42, 3) := by decide +kernel
theorem d_Ta_create_26 : decode b_Ta_create 26 = .ok (.ifCond .ne 5, 3) := by decide +kernel
theorem d_Ta_create_29 : decode b_Ta_create 29 = .ok (.iconst (-1), 1) := by decide +kernel
theorem d_Ta_create_30 : decode b_Ta_create 30 = .ok (.ireturn, 1) := by decide +kernel
theorem d_Ta_create_31 : decode b_Ta_create 31 = .ok (.iload_n 1, 1) := by decide +kernel
theorem d_Ta_create_32 : decode b_Ta_create 32 = .ok (.invokestatic 61, 3) := by decide +kernel
theorem d_Ta_create_35 : decode b_Ta_create 35 = .ok (.ifCond .eq 16, 3) := by decide +kernel
theorem d_Ta_create_38 : decode b_Ta_create 38 = .ok (.iload_n 3, 1) := by decide +kernel
theorem d_Ta_create_39 : decode b_Ta_create 39 = .ok (.ifCond .eq 14, 3) := by decide +kernel
theorem d_Ta_create_42 : decode b_Ta_create 42 = .ok (.iload_n 2, 1) := by decide +kernel
theorem d_Ta_create_43 : decode b_Ta_create 43 = .ok (.ifCond .lt 8, 3) := by decide +kernel
theorem d_Ta_create_46 : decode b_Ta_create 46 = .ok (.iload_n 2, 1) := by decide +kernel
theorem d_Ta_create_47 : decode b_Ta_create 47 = .ok (.iconst 5, 1) := by decide +kernel
theorem d_Ta_create_48 : decode b_Ta_create 48 = .ok (.if_icmp .le 5, 3) := by decide +kernel
theorem d_Ta_create_51 : decode b_Ta_create 51 = .ok (.iconst (-1), 1) := by decide +kernel
theorem d_Ta_create_52 : decode b_Ta_create 52 = .ok (.ireturn, 1) := by decide +kernel
theorem d_Ta_create_53 : decode b_Ta_create 53 = .ok (.aload_n 0, 1) := by decide +kernel
theorem d_Ta_create_54 : decode b_Ta_create 54 = .ok (.dup, 1) := by decide +kernel
theorem d_Ta_create_55 : decode b_Ta_create 55 = .ok (.getfield 58, 3) := by decide +kernel
theorem d_Ta_create_58 : decode b_Ta_create 58 = .ok (.iconst 1, 1) := by decide +kernel
theorem d_Ta_create_59 : decode b_Ta_create 59 = .ok (.iadd, 1) := by decide +kernel
theorem d_Ta_create_60 : decode b_Ta_create 60 = .ok (.putfield 58, 3) := by decide +kernel
theorem d_Ta_create_63 : decode b_Ta_create 63 = .ok (.aload_n 0, 1) := by decide +kernel
theorem d_Ta_create_64 : decode b_Ta_create 64 = .ok (.getfield 21, 3) := by decide +kernel
theorem d_Ta_create_67 : decode b_Ta_create 67 = .ok (.aload_n 0, 1) := by decide +kernel
theorem d_Ta_create_68 : decode b_Ta_create 68 = .ok (.getfield 58, 3) := by decide +kernel
theorem d_Ta_create_71 : decode b_Ta_create 71 = .ok (.bipush 26, 2) := by decide +kernel
theorem d_Ta_create_73 : decode b_Ta_create 73 = .ok (.invokestatic 64, 3) := by decide +kernel
theorem d_Ta_create_76 : decode b_Ta_create 76 = .ok (.iload_n 3, 1) := by decide +kernel
theorem d_Ta_create_77 : decode b_Ta_create 77 = .ok (.ifCond .eq 8, 3) := by decide +kernel
theorem d_Ta_create_80 : decode b_Ta_create 80 = .ok (.iload_n 2, 1) := by decide +kernel
theorem d_Ta_create_81 : decode b_Ta_create 81 = .ok (.i2l, 1) := by decide +kernel
theorem d_Ta_create_82 : decode b_Ta_create 82 = .ok (.goto 4, 3) := by decide +kernel
theorem d_Ta_create_85 : decode b_Ta_create 85 = .ok (.lconst 0, 1) := by decide +kernel
theorem d_Ta_create_86 : decode b_Ta_create 86 = .ok (.lastore, 1) := by decide +kernel
theorem d_Ta_create_87 : decode b_Ta_create 87 = .ok (.aload_n 0, 1) := by decide +kernel
theorem d_Ta_create_88 : decode b_Ta_create 88 = .ok (.getfield 21, 3) := by decide +kernel
theorem d_Ta_create_91 : decode b_Ta_create 91 = .ok (.aload_n 0, 1) := by decide +kernel
theorem d_Ta_create_92 : decode b_Ta_create 92 = .ok (.getfield 58, 3) := by decide +kernel
theorem d_Ta_create_95 : decode b_Ta_create 95 = .ok (.bipush 27, 2) := by decide +kernel
theorem d_Ta_create_97 : decode b_Ta_create 97 = .ok (.invokestatic 64, 3) := by decide +kernel
theorem d_Ta_create_100 : decode b_Ta_create 100 = .ok (.iload_n 1, 1) := by decide +kernel
theorem d_Ta_create_101 : decode b_Ta_create 101 = .ok (.i2l, 1) := by decide +kernel
theorem d_Ta_create_102 : decode b_Ta_create 102 = .ok (.lastore, 1) := by decide +kernel
theorem d_Ta_create_103 : decode b_Ta_create 103 = .ok (.aload_n 0, 1) := by decide +kernel
theorem d_Ta_create_104 : decode b_Ta_create 104 = .ok (.getfield 58, 3) := by decide +kernel
theorem d_Ta_create_107 : decode b_Ta_create 107 = .ok (.ireturn, 1) := by decide +kernel
set_option maxHeartbeats 1000000 in
theorem g_Ta_create {X : WX} {d : Nat} (hd : 2 ≤ d) (kind len : Int) (M : Mem) (hT : RT M) (hI : TI M) : MG X gt d KE KE y_Ta_create b_Ta_create 4 (some .int) [vr 4, vi kind, vi len] M (fun r M' => (makeOK M kind len → r = some (vi (M 55 5 + 1)) ∧ M' = makeD M kind len) ∧ (¬ makeOK M kind len → r = some (vi (-1)) ∧ M' = M)) := by
  refine MG_of_G (by decide) (Nat.le_of_ble_eq_true rfl) (Nat.le_refl _) (by decide) ?_
  show G X gt d KE KE y_Ta_create b_Ta_create 4 (some .int) _ 0 [(0, vr 4), (1, vi kind), (2, vi len)] [] KE M
  have hI0 := hI
  obtain ⟨hI1, hI2, hI3, hI4, hI5, hI6, hI7, hI8, hI9, hI10, hI11, hI12, hI13, hI14⟩ := hI
  have hik : isKindB (M 55 0) kind = true → ((0 ≤ kind ∧ kind < 4) ∨ (4 ≤ kind ∧ kind < 4 + M 55 0) ∨ kind = 10 ∨ (11 ≤ kind ∧ kind < 11 + M 55 0)) := isKindB_t.mp
  refine G_rngl (i := 1) rfl (fun hr1 => ?_)
  refine G_rngl (i := 2) rfl (fun hr2 => ?_)
  refine G_iload (i := 1) (n := 1) (len := 1) (Or.inl ⟨1, rfl, rfl, d_Ta_create_0⟩) rfl (G_pc (pc' := 1) rfl ?_)
  refine G_callS (K1 := KE) (d2 := 0) (as := [vi kind]) (rest := []) d_Ta_create_1 mf_Ki_isArray ml_Ta_55 rfl rfl (Nat.le_of_ble_eq_true rfl) (by omega) ⟨Nat.le_refl _, Nat.le_refl _⟩ (g_Ki_isArray (by omega) kind _) (fun r1 M2 kq3 q3 => ?_)
  clear kq3; obtain ⟨q3a, q3b⟩ := q3; subst r1; subst M2
  refine G_ps (pc' := 4) (st' := [vi (b2i (arB kind))]) rfl rfl ?_
  refine G_istore (i := 3) (len := 1) (ls' := [(3, vi (b2i (arB kind))), (0, vr 4), (1, vi kind), (2, vi len)]) (Or.inl ⟨3, rfl, rfl, d_Ta_create_4⟩) (by decide) rfl (G_pc (pc' := 5) rfl ?_)
  by_cases har : arB kind = true
  · skip
    rw [show b2i (arB kind) = 1 from b2i_t har]
    have har9 := arB_t.mp har
    refine G_aload (i := 0) (n := 1) (len := 1) (Or.inl ⟨0, rfl, rfl, d_Ta_create_5⟩) rfl (by decide) (G_pc (pc' := 6) rfl ?_)
    refine G_get (o := 4) (c := 6) (k := 6) (v := M 4 6) d_Ta_create_6 fl_Ta_25 rfl (by decide) (by decide) rfl rfl (G_pc (pc' := 9) rfl ?_)
    rw [show M 4 6 = 1 - M 55 9 from hT.2.2.2.1.2.2.1]
    refine G_if_eq (tgt := 29) d_Ta_create_9 (by decide) (fun h4 => ?_) (fun h4 => G_pc (pc' := 12) rfl ?_)
    · skip
      refine G_iconst (n := (-1)) d_Ta_create_29 (by decide) (G_pc (pc' := 30) rfl ?_)
      refine G_iret d_Ta_create_30 rfl (tokI (by decide)) rfl rfl ?_
      exact ⟨fun h => absurd h (by rintro ⟨g1, g2, g3, g4, g5⟩; first | omega | (have g9 := isKindB_t.mp g3; omega) | (have g9 := isKindB_t.mp g2; omega) | (have g9 := isKindB_t.mp g1; omega) | (have g9 := hI8 _ g1.1 g1.2; omega) | (simp_all; done)), fun _ => ⟨rfl, rfl⟩⟩
    · skip
      refine G_aload (i := 0) (n := 1) (len := 1) (Or.inl ⟨0, rfl, rfl, d_Ta_create_12⟩) rfl (by decide) (G_pc (pc' := 13) rfl ?_)
      refine G_get (o := 4) (c := 6) (k := 5) (v := M 4 5) d_Ta_create_13 fl_Ta_58 rfl (by decide) (by decide) rfl rfl (G_pc (pc' := 16) rfl ?_)
      rw [show M 4 5 = M 55 5 from hT.2.2.2.1.2.1]
      refine G_bipush (n := 12) d_Ta_create_16 (by decide) (G_pc (pc' := 18) rfl ?_)
      refine G_icmp_eq (tgt := 29) d_Ta_create_18 (by decide) (fun h5 => ?_) (fun h5 => G_pc (pc' := 21) rfl ?_)
      · skip
        refine G_iconst (n := (-1)) d_Ta_create_29 (by decide) (G_pc (pc' := 30) rfl ?_)
        refine G_iret d_Ta_create_30 rfl (tokI (by decide)) rfl rfl ?_
        exact ⟨fun h => absurd h (by rintro ⟨g1, g2, g3, g4, g5⟩; first | omega | (have g9 := isKindB_t.mp g3; omega) | (have g9 := isKindB_t.mp g2; omega) | (have g9 := isKindB_t.mp g1; omega) | (have g9 := hI8 _ g1.1 g1.2; omega) | (simp_all; done)), fun _ => ⟨rfl, rfl⟩⟩
      · skip
        refine G_aload (i := 0) (n := 1) (len := 1) (Or.inl ⟨0, rfl, rfl, d_Ta_create_21⟩) rfl (by decide) (G_pc (pc' := 22) rfl ?_)
        refine G_iload (i := 1) (n := 2) (len := 1) (Or.inl ⟨1, rfl, rfl, d_Ta_create_22⟩) rfl (G_pc (pc' := 23) rfl ?_)
        refine G_callV (K1 := KE) (d2 := 1) (o := 4) (cl := 6) (as := [vi kind]) (rest := []) d_Ta_create_23 mf_Ta_isThere ml_Ta_42 rfl rfl (by decide) rfl rfl (Nat.le_of_ble_eq_true rfl) (by omega) ⟨Nat.le_refl _, Nat.le_refl _⟩ (g_Ta_isThere (by omega) kind M hT hI0 ) (fun r6 M7 kq8 q8 => ?_)
        clear kq8; obtain ⟨q8a, q8b⟩ := q8; subst r6; subst M7
        refine G_ps (pc' := 26) (st' := [vi (b2i (isKindB (M 55 0) kind))]) rfl rfl ?_
        refine G_if_ne (tgt := 31) d_Ta_create_26 (by decide) (fun h9 => ?_) (fun h9 => G_pc (pc' := 29) rfl ?_)
        · skip
          replace h9 := b2i_nz.mp h9
          replace h9 := isKindB_t.mp h9
          refine G_iload (i := 1) (n := 2) (len := 1) (Or.inl ⟨1, rfl, rfl, d_Ta_create_31⟩) rfl (G_pc (pc' := 32) rfl ?_)
          refine G_callS (K1 := KE) (d2 := 0) (as := [vi kind]) (rest := []) d_Ta_create_32 mf_Ki_isReference ml_Ta_61 rfl rfl (Nat.le_of_ble_eq_true rfl) (by omega) ⟨Nat.le_refl _, Nat.le_refl _⟩ (g_Ki_isReference (by omega) kind _) (fun r10 M11 kq12 q12 => ?_)
          clear kq12; obtain ⟨q12a, q12b⟩ := q12; subst r10; subst M11
          refine G_ps (pc' := 35) (st' := [vi (b2i (reB kind))]) rfl rfl ?_
          refine G_if_eq (tgt := 51) d_Ta_create_35 (by decide) (fun h13 => ?_) (fun h13 => G_pc (pc' := 38) rfl ?_)
          · skip
            replace h13 := b2i_0.mp h13
            replace h13 := reB_f.mp h13
            refine G_iconst (n := (-1)) d_Ta_create_51 (by decide) (G_pc (pc' := 52) rfl ?_)
            refine G_iret d_Ta_create_52 rfl (tokI (by decide)) rfl rfl ?_
            exact ⟨fun h => absurd h (by rintro ⟨g1, g2, g3, g4, g5⟩; first | omega | (have g9 := isKindB_t.mp g3; omega) | (have g9 := isKindB_t.mp g2; omega) | (have g9 := isKindB_t.mp g1; omega) | (have g9 := hI8 _ g1.1 g1.2; omega) | (simp_all; done)), fun _ => ⟨rfl, rfl⟩⟩
          · skip
            replace h13 := b2i_nz.mp h13
            replace h13 := reB_t.mp h13
            refine G_iload (i := 3) (n := 0) (len := 1) (Or.inl ⟨3, rfl, rfl, d_Ta_create_38⟩) rfl (G_pc (pc' := 39) rfl ?_)
            refine G_if_eq (tgt := 53) d_Ta_create_39 (by decide) (fun h14 => absurd h14 (by decide)) (fun h14 => G_pc (pc' := 42) rfl ?_)
            refine G_iload (i := 2) (n := 3) (len := 1) (Or.inl ⟨2, rfl, rfl, d_Ta_create_42⟩) rfl (G_pc (pc' := 43) rfl ?_)
            refine G_if_lt (tgt := 51) d_Ta_create_43 (by decide) (fun h15 => ?_) (fun h15 => G_pc (pc' := 46) rfl ?_)
            · skip
              refine G_iconst (n := (-1)) d_Ta_create_51 (by decide) (G_pc (pc' := 52) rfl ?_)
              refine G_iret d_Ta_create_52 rfl (tokI (by decide)) rfl rfl ?_
              exact ⟨fun h => absurd h (by rintro ⟨g1, g2, g3, g4, g5⟩; first | omega | (have g9 := isKindB_t.mp g3; omega) | (have g9 := isKindB_t.mp g2; omega) | (have g9 := isKindB_t.mp g1; omega) | (have g9 := hI8 _ g1.1 g1.2; omega) | (simp_all; done)), fun _ => ⟨rfl, rfl⟩⟩
            · skip
              refine G_iload (i := 2) (n := 3) (len := 1) (Or.inl ⟨2, rfl, rfl, d_Ta_create_46⟩) rfl (G_pc (pc' := 47) rfl ?_)
              refine G_iconst (n := 5) d_Ta_create_47 (by decide) (G_pc (pc' := 48) rfl ?_)
              refine G_icmp_le (tgt := 53) d_Ta_create_48 (by decide) (fun h16 => ?_) (fun h16 => G_pc (pc' := 51) rfl ?_)
              · skip
                refine G_aload (i := 0) (n := 1) (len := 1) (Or.inl ⟨0, rfl, rfl, d_Ta_create_53⟩) rfl (by decide) (G_pc (pc' := 54) rfl ?_)
                refine G_dup d_Ta_create_54 (fun _ h => by cases h) (G_pc (pc' := 55) rfl ?_)
                refine G_get (o := 4) (c := 6) (k := 5) (v := M 4 5) d_Ta_create_55 fl_Ta_58 rfl (by decide) (by decide) rfl rfl (G_pc (pc' := 58) rfl ?_)
                rw [show M 4 5 = M 55 5 from hT.2.2.2.1.2.1]
                refine G_iconst (n := 1) d_Ta_create_58 (by decide) (G_pc (pc' := 59) rfl ?_)
                refine G_iadd d_Ta_create_59 (by omega) (G_pc (pc' := 60) rfl ?_)
                refine G_putL (o := 4) (c := 6) (k := 5) (ki := 5) (x := (M 55 5) + 1) d_Ta_create_60 fl_Ta_58 rfl rfl (by decide) (by decide) (by decide) rfl rfl (tokI (by omega)) rfl (G_pc (pc' := 63) rfl ?_)
                refine G_aload (i := 0) (n := 1) (len := 1) (Or.inl ⟨0, rfl, rfl, d_Ta_create_63⟩) rfl (by decide) (G_pc (pc' := 64) rfl ?_)
                refine G_get (o := 4) (c := 6) (k := 3) (v := 8) d_Ta_create_64 fl_Ta_21 rfl (by decide) (by decide) rfl rfl (G_pc (pc' := 67) rfl ?_)
                refine G_aload (i := 0) (n := 1) (len := 1) (Or.inl ⟨0, rfl, rfl, d_Ta_create_67⟩) rfl (by decide) (G_pc (pc' := 68) rfl ?_)
                refine G_get (o := 4) (c := 6) (k := 5) (v := (M 55 5) + 1) d_Ta_create_68 fl_Ta_58 rfl (by decide) (by decide) rfl rfl (G_pc (pc' := 71) rfl ?_)
                refine G_bipush (n := 26) d_Ta_create_71 (by decide) (G_pc (pc' := 73) rfl ?_)
                refine G_callN (K1 := KE) (d2 := 0) (as := [vi ((M 55 5) + 1), vi 26]) (rest := [vr 8]) d_Ta_create_73 mf_De_placeOf (by decide) rfl rfl (Nat.le_of_ble_eq_true rfl) (by omega) ⟨Nat.le_refl _, Nat.le_refl _⟩ (g_De_placeOf (by omega) ((M 55 5) + 1) 26 _ (by omega) (by omega)) (fun r17 M18 kq19 q19 => ?_)
                clear kq19; obtain ⟨q19a, q19b⟩ := q19; subst r17; subst M18
                refine G_ps (pc' := 76) (st' := [vi (28 * ((M 55 5) + 1) + 26), vr 8]) rfl rfl ?_
                refine G_iload (i := 3) (n := 0) (len := 1) (Or.inl ⟨3, rfl, rfl, d_Ta_create_76⟩) rfl (G_pc (pc' := 77) rfl ?_)
                refine G_if_eq (tgt := 85) d_Ta_create_77 (by decide) (fun h20 => absurd h20 (by decide)) (fun h20 => G_pc (pc' := 80) rfl ?_)
                refine G_iload (i := 2) (n := 3) (len := 1) (Or.inl ⟨2, rfl, rfl, d_Ta_create_80⟩) rfl (G_pc (pc' := 81) rfl ?_)
                refine G_i2l d_Ta_create_81 (G_pc (pc' := 82) rfl ?_)
                refine G_goto (tgt := 86) d_Ta_create_82 (by decide) ?_
                refine G_lastore (o := 8) (n := 364) (i := 28 * ((M 55 5) + 1) + 26) (x := len) d_Ta_create_86 rfl ⟨by decide, by decide⟩ (by decide) (gt_arr rfl _) (by omega) (tokJ (by omega)) (G_pc (pc' := 87) rfl ?_)
                refine G_aload (i := 0) (n := 1) (len := 1) (Or.inl ⟨0, rfl, rfl, d_Ta_create_87⟩) rfl (by decide) (G_pc (pc' := 88) rfl ?_)
                refine G_get (o := 4) (c := 6) (k := 3) (v := 8) d_Ta_create_88 fl_Ta_21 rfl (by decide) (by decide) rfl rfl (G_pc (pc' := 91) rfl ?_)
                refine G_aload (i := 0) (n := 1) (len := 1) (Or.inl ⟨0, rfl, rfl, d_Ta_create_91⟩) rfl (by decide) (G_pc (pc' := 92) rfl ?_)
                refine G_get (o := 4) (c := 6) (k := 5) (v := (M 55 5) + 1) d_Ta_create_92 fl_Ta_58 rfl (by decide) (by decide) rfl rfl (G_pc (pc' := 95) rfl ?_)
                refine G_bipush (n := 27) d_Ta_create_95 (by decide) (G_pc (pc' := 97) rfl ?_)
                refine G_callN (K1 := KE) (d2 := 0) (as := [vi ((M 55 5) + 1), vi 27]) (rest := [vr 8]) d_Ta_create_97 mf_De_placeOf (by decide) rfl rfl (Nat.le_of_ble_eq_true rfl) (by omega) ⟨Nat.le_refl _, Nat.le_refl _⟩ (g_De_placeOf (by omega) ((M 55 5) + 1) 27 _ (by omega) (by omega)) (fun r21 M22 kq23 q23 => ?_)
                clear kq23; obtain ⟨q23a, q23b⟩ := q23; subst r21; subst M22
                refine G_ps (pc' := 100) (st' := [vi (28 * ((M 55 5) + 1) + 27), vr 8]) rfl rfl ?_
                refine G_iload (i := 1) (n := 2) (len := 1) (Or.inl ⟨1, rfl, rfl, d_Ta_create_100⟩) rfl (G_pc (pc' := 101) rfl ?_)
                refine G_i2l d_Ta_create_101 (G_pc (pc' := 102) rfl ?_)
                refine G_lastore (o := 8) (n := 364) (i := 28 * ((M 55 5) + 1) + 27) (x := kind) d_Ta_create_102 rfl ⟨by decide, by decide⟩ (by decide) (gt_arr rfl _) (by omega) (tokJ (by omega)) (G_pc (pc' := 103) rfl ?_)
                refine G_aload (i := 0) (n := 1) (len := 1) (Or.inl ⟨0, rfl, rfl, d_Ta_create_103⟩) rfl (by decide) (G_pc (pc' := 104) rfl ?_)
                refine G_get (o := 4) (c := 6) (k := 5) (v := (M 55 5) + 1) d_Ta_create_104 fl_Ta_58 rfl (by decide) (by decide) rfl rfl (G_pc (pc' := 107) rfl ?_)
                refine G_iret d_Ta_create_107 rfl (tokI (by omega)) rfl rfl ?_
                exact ⟨fun _ => ⟨rfl, by unfold makeD; first | rw [if_pos (by omega)] | rw [if_neg (by omega)]⟩, fun h => absurd ⟨by first | assumption | exact isKindB_t.mpr (by omega), by omega, by omega, by omega, by omega⟩ h⟩
              · skip
                refine G_iconst (n := (-1)) d_Ta_create_51 (by decide) (G_pc (pc' := 52) rfl ?_)
                refine G_iret d_Ta_create_52 rfl (tokI (by decide)) rfl rfl ?_
                exact ⟨fun h => absurd h (by rintro ⟨g1, g2, g3, g4, g5⟩; first | omega | (have g9 := isKindB_t.mp g3; omega) | (have g9 := isKindB_t.mp g2; omega) | (have g9 := isKindB_t.mp g1; omega) | (have g9 := hI8 _ g1.1 g1.2; omega) | (simp_all; done)), fun _ => ⟨rfl, rfl⟩⟩
        · skip
          replace h9 := b2i_0.mp h9
          replace h9 := isKindB_f.mp h9
          refine G_iconst (n := (-1)) d_Ta_create_29 (by decide) (G_pc (pc' := 30) rfl ?_)
          refine G_iret d_Ta_create_30 rfl (tokI (by decide)) rfl rfl ?_
          exact ⟨fun h => absurd h (by rintro ⟨g1, g2, g3, g4, g5⟩; first | omega | (have g9 := isKindB_t.mp g3; omega) | (have g9 := isKindB_t.mp g2; omega) | (have g9 := isKindB_t.mp g1; omega) | (have g9 := hI8 _ g1.1 g1.2; omega) | (simp_all; done)), fun _ => ⟨rfl, rfl⟩⟩
  · skip
    rw [show b2i (arB kind) = 0 from b2i_f (by simpa using har)]
    have har9 := arB_f.mp (by simpa using har)
    refine G_aload (i := 0) (n := 1) (len := 1) (Or.inl ⟨0, rfl, rfl, d_Ta_create_5⟩) rfl (by decide) (G_pc (pc' := 6) rfl ?_)
    refine G_get (o := 4) (c := 6) (k := 6) (v := M 4 6) d_Ta_create_6 fl_Ta_25 rfl (by decide) (by decide) rfl rfl (G_pc (pc' := 9) rfl ?_)
    rw [show M 4 6 = 1 - M 55 9 from hT.2.2.2.1.2.2.1]
    refine G_if_eq (tgt := 29) d_Ta_create_9 (by decide) (fun h24 => ?_) (fun h24 => G_pc (pc' := 12) rfl ?_)
    · skip
      refine G_iconst (n := (-1)) d_Ta_create_29 (by decide) (G_pc (pc' := 30) rfl ?_)
      refine G_iret d_Ta_create_30 rfl (tokI (by decide)) rfl rfl ?_
      exact ⟨fun h => absurd h (by rintro ⟨g1, g2, g3, g4, g5⟩; first | omega | (have g9 := isKindB_t.mp g3; omega) | (have g9 := isKindB_t.mp g2; omega) | (have g9 := isKindB_t.mp g1; omega) | (have g9 := hI8 _ g1.1 g1.2; omega) | (simp_all; done)), fun _ => ⟨rfl, rfl⟩⟩
    · skip
      refine G_aload (i := 0) (n := 1) (len := 1) (Or.inl ⟨0, rfl, rfl, d_Ta_create_12⟩) rfl (by decide) (G_pc (pc' := 13) rfl ?_)
      refine G_get (o := 4) (c := 6) (k := 5) (v := M 4 5) d_Ta_create_13 fl_Ta_58 rfl (by decide) (by decide) rfl rfl (G_pc (pc' := 16) rfl ?_)
      rw [show M 4 5 = M 55 5 from hT.2.2.2.1.2.1]
      refine G_bipush (n := 12) d_Ta_create_16 (by decide) (G_pc (pc' := 18) rfl ?_)
      refine G_icmp_eq (tgt := 29) d_Ta_create_18 (by decide) (fun h25 => ?_) (fun h25 => G_pc (pc' := 21) rfl ?_)
      · skip
        refine G_iconst (n := (-1)) d_Ta_create_29 (by decide) (G_pc (pc' := 30) rfl ?_)
        refine G_iret d_Ta_create_30 rfl (tokI (by decide)) rfl rfl ?_
        exact ⟨fun h => absurd h (by rintro ⟨g1, g2, g3, g4, g5⟩; first | omega | (have g9 := isKindB_t.mp g3; omega) | (have g9 := isKindB_t.mp g2; omega) | (have g9 := isKindB_t.mp g1; omega) | (have g9 := hI8 _ g1.1 g1.2; omega) | (simp_all; done)), fun _ => ⟨rfl, rfl⟩⟩
      · skip
        refine G_aload (i := 0) (n := 1) (len := 1) (Or.inl ⟨0, rfl, rfl, d_Ta_create_21⟩) rfl (by decide) (G_pc (pc' := 22) rfl ?_)
        refine G_iload (i := 1) (n := 2) (len := 1) (Or.inl ⟨1, rfl, rfl, d_Ta_create_22⟩) rfl (G_pc (pc' := 23) rfl ?_)
        refine G_callV (K1 := KE) (d2 := 1) (o := 4) (cl := 6) (as := [vi kind]) (rest := []) d_Ta_create_23 mf_Ta_isThere ml_Ta_42 rfl rfl (by decide) rfl rfl (Nat.le_of_ble_eq_true rfl) (by omega) ⟨Nat.le_refl _, Nat.le_refl _⟩ (g_Ta_isThere (by omega) kind M hT hI0 ) (fun r26 M27 kq28 q28 => ?_)
        clear kq28; obtain ⟨q28a, q28b⟩ := q28; subst r26; subst M27
        refine G_ps (pc' := 26) (st' := [vi (b2i (isKindB (M 55 0) kind))]) rfl rfl ?_
        refine G_if_ne (tgt := 31) d_Ta_create_26 (by decide) (fun h29 => ?_) (fun h29 => G_pc (pc' := 29) rfl ?_)
        · skip
          replace h29 := b2i_nz.mp h29
          replace h29 := isKindB_t.mp h29
          refine G_iload (i := 1) (n := 2) (len := 1) (Or.inl ⟨1, rfl, rfl, d_Ta_create_31⟩) rfl (G_pc (pc' := 32) rfl ?_)
          refine G_callS (K1 := KE) (d2 := 0) (as := [vi kind]) (rest := []) d_Ta_create_32 mf_Ki_isReference ml_Ta_61 rfl rfl (Nat.le_of_ble_eq_true rfl) (by omega) ⟨Nat.le_refl _, Nat.le_refl _⟩ (g_Ki_isReference (by omega) kind _) (fun r30 M31 kq32 q32 => ?_)
          clear kq32; obtain ⟨q32a, q32b⟩ := q32; subst r30; subst M31
          refine G_ps (pc' := 35) (st' := [vi (b2i (reB kind))]) rfl rfl ?_
          refine G_if_eq (tgt := 51) d_Ta_create_35 (by decide) (fun h33 => ?_) (fun h33 => G_pc (pc' := 38) rfl ?_)
          · skip
            replace h33 := b2i_0.mp h33
            replace h33 := reB_f.mp h33
            refine G_iconst (n := (-1)) d_Ta_create_51 (by decide) (G_pc (pc' := 52) rfl ?_)
            refine G_iret d_Ta_create_52 rfl (tokI (by decide)) rfl rfl ?_
            exact ⟨fun h => absurd h (by rintro ⟨g1, g2, g3, g4, g5⟩; first | omega | (have g9 := isKindB_t.mp g3; omega) | (have g9 := isKindB_t.mp g2; omega) | (have g9 := isKindB_t.mp g1; omega) | (have g9 := hI8 _ g1.1 g1.2; omega) | (simp_all; done)), fun _ => ⟨rfl, rfl⟩⟩
          · skip
            replace h33 := b2i_nz.mp h33
            replace h33 := reB_t.mp h33
            refine G_iload (i := 3) (n := 0) (len := 1) (Or.inl ⟨3, rfl, rfl, d_Ta_create_38⟩) rfl (G_pc (pc' := 39) rfl ?_)
            refine G_if_eq (tgt := 53) d_Ta_create_39 (by decide) (fun h34 => ?_) (fun h34 => absurd h34 (by decide))
            refine G_aload (i := 0) (n := 1) (len := 1) (Or.inl ⟨0, rfl, rfl, d_Ta_create_53⟩) rfl (by decide) (G_pc (pc' := 54) rfl ?_)
            refine G_dup d_Ta_create_54 (fun _ h => by cases h) (G_pc (pc' := 55) rfl ?_)
            refine G_get (o := 4) (c := 6) (k := 5) (v := M 4 5) d_Ta_create_55 fl_Ta_58 rfl (by decide) (by decide) rfl rfl (G_pc (pc' := 58) rfl ?_)
            rw [show M 4 5 = M 55 5 from hT.2.2.2.1.2.1]
            refine G_iconst (n := 1) d_Ta_create_58 (by decide) (G_pc (pc' := 59) rfl ?_)
            refine G_iadd d_Ta_create_59 (by omega) (G_pc (pc' := 60) rfl ?_)
            refine G_putL (o := 4) (c := 6) (k := 5) (ki := 5) (x := (M 55 5) + 1) d_Ta_create_60 fl_Ta_58 rfl rfl (by decide) (by decide) (by decide) rfl rfl (tokI (by omega)) rfl (G_pc (pc' := 63) rfl ?_)
            refine G_aload (i := 0) (n := 1) (len := 1) (Or.inl ⟨0, rfl, rfl, d_Ta_create_63⟩) rfl (by decide) (G_pc (pc' := 64) rfl ?_)
            refine G_get (o := 4) (c := 6) (k := 3) (v := 8) d_Ta_create_64 fl_Ta_21 rfl (by decide) (by decide) rfl rfl (G_pc (pc' := 67) rfl ?_)
            refine G_aload (i := 0) (n := 1) (len := 1) (Or.inl ⟨0, rfl, rfl, d_Ta_create_67⟩) rfl (by decide) (G_pc (pc' := 68) rfl ?_)
            refine G_get (o := 4) (c := 6) (k := 5) (v := (M 55 5) + 1) d_Ta_create_68 fl_Ta_58 rfl (by decide) (by decide) rfl rfl (G_pc (pc' := 71) rfl ?_)
            refine G_bipush (n := 26) d_Ta_create_71 (by decide) (G_pc (pc' := 73) rfl ?_)
            refine G_callN (K1 := KE) (d2 := 0) (as := [vi ((M 55 5) + 1), vi 26]) (rest := [vr 8]) d_Ta_create_73 mf_De_placeOf (by decide) rfl rfl (Nat.le_of_ble_eq_true rfl) (by omega) ⟨Nat.le_refl _, Nat.le_refl _⟩ (g_De_placeOf (by omega) ((M 55 5) + 1) 26 _ (by omega) (by omega)) (fun r35 M36 kq37 q37 => ?_)
            clear kq37; obtain ⟨q37a, q37b⟩ := q37; subst r35; subst M36
            refine G_ps (pc' := 76) (st' := [vi (28 * ((M 55 5) + 1) + 26), vr 8]) rfl rfl ?_
            refine G_iload (i := 3) (n := 0) (len := 1) (Or.inl ⟨3, rfl, rfl, d_Ta_create_76⟩) rfl (G_pc (pc' := 77) rfl ?_)
            refine G_if_eq (tgt := 85) d_Ta_create_77 (by decide) (fun h38 => ?_) (fun h38 => absurd h38 (by decide))
            refine G_lconst0 d_Ta_create_85 (G_pc (pc' := 86) rfl ?_)
            refine G_lastore (o := 8) (n := 364) (i := 28 * ((M 55 5) + 1) + 26) (x := 0) d_Ta_create_86 rfl ⟨by decide, by decide⟩ (by decide) (gt_arr rfl _) (by omega) (tokJ (by decide)) (G_pc (pc' := 87) rfl ?_)
            refine G_aload (i := 0) (n := 1) (len := 1) (Or.inl ⟨0, rfl, rfl, d_Ta_create_87⟩) rfl (by decide) (G_pc (pc' := 88) rfl ?_)
            refine G_get (o := 4) (c := 6) (k := 3) (v := 8) d_Ta_create_88 fl_Ta_21 rfl (by decide) (by decide) rfl rfl (G_pc (pc' := 91) rfl ?_)
            refine G_aload (i := 0) (n := 1) (len := 1) (Or.inl ⟨0, rfl, rfl, d_Ta_create_91⟩) rfl (by decide) (G_pc (pc' := 92) rfl ?_)
            refine G_get (o := 4) (c := 6) (k := 5) (v := (M 55 5) + 1) d_Ta_create_92 fl_Ta_58 rfl (by decide) (by decide) rfl rfl (G_pc (pc' := 95) rfl ?_)
            refine G_bipush (n := 27) d_Ta_create_95 (by decide) (G_pc (pc' := 97) rfl ?_)
            refine G_callN (K1 := KE) (d2 := 0) (as := [vi ((M 55 5) + 1), vi 27]) (rest := [vr 8]) d_Ta_create_97 mf_De_placeOf (by decide) rfl rfl (Nat.le_of_ble_eq_true rfl) (by omega) ⟨Nat.le_refl _, Nat.le_refl _⟩ (g_De_placeOf (by omega) ((M 55 5) + 1) 27 _ (by omega) (by omega)) (fun r39 M40 kq41 q41 => ?_)
            clear kq41; obtain ⟨q41a, q41b⟩ := q41; subst r39; subst M40
            refine G_ps (pc' := 100) (st' := [vi (28 * ((M 55 5) + 1) + 27), vr 8]) rfl rfl ?_
            refine G_iload (i := 1) (n := 2) (len := 1) (Or.inl ⟨1, rfl, rfl, d_Ta_create_100⟩) rfl (G_pc (pc' := 101) rfl ?_)
            refine G_i2l d_Ta_create_101 (G_pc (pc' := 102) rfl ?_)
            refine G_lastore (o := 8) (n := 364) (i := 28 * ((M 55 5) + 1) + 27) (x := kind) d_Ta_create_102 rfl ⟨by decide, by decide⟩ (by decide) (gt_arr rfl _) (by omega) (tokJ (by omega)) (G_pc (pc' := 103) rfl ?_)
            refine G_aload (i := 0) (n := 1) (len := 1) (Or.inl ⟨0, rfl, rfl, d_Ta_create_103⟩) rfl (by decide) (G_pc (pc' := 104) rfl ?_)
            refine G_get (o := 4) (c := 6) (k := 5) (v := (M 55 5) + 1) d_Ta_create_104 fl_Ta_58 rfl (by decide) (by decide) rfl rfl (G_pc (pc' := 107) rfl ?_)
            refine G_iret d_Ta_create_107 rfl (tokI (by omega)) rfl rfl ?_
            exact ⟨fun _ => ⟨rfl, by unfold makeD; first | rw [if_pos (by omega)] | rw [if_neg (by omega)]⟩, fun h => absurd ⟨by first | assumption | exact isKindB_t.mpr (by omega), by omega, by omega, by omega, by omega⟩ h⟩
        · skip
          replace h29 := b2i_0.mp h29
          replace h29 := isKindB_f.mp h29
          refine G_iconst (n := (-1)) d_Ta_create_29 (by decide) (G_pc (pc' := 30) rfl ?_)
          refine G_iret d_Ta_create_30 rfl (tokI (by decide)) rfl rfl ?_
          exact ⟨fun h => absurd h (by rintro ⟨g1, g2, g3, g4, g5⟩; first | omega | (have g9 := isKindB_t.mp g3; omega) | (have g9 := isKindB_t.mp g2; omega) | (have g9 := isKindB_t.mp g1; omega) | (have g9 := hI8 _ g1.1 g1.2; omega) | (simp_all; done)), fun _ => ⟨rfl, rfl⟩⟩

theorem svx {M : Mem} (hI : TI M) {name v : Int} (h9 : M 55 9 = 0) : valD M (vkD M name) v = true ↔ setVarOK M name v := by
  unfold setVarOK valD vkD
  by_cases hn : 0 ≤ name ∧ name ≤ 26
  · have hr := hI.2.2.2.2.2.2.2.1 name (by omega) (by omega)
    rw [if_pos hn]
    by_cases h1 : M 58 name = -1
    · rw [if_pos h1]; simp; omega
    · rw [if_neg h1]; exact ⟨fun h => ⟨by omega, by omega, h9, h⟩, fun h => h.2.2.2⟩
  · rw [if_neg hn, if_pos rfl]; simp; omega
theorem fk_due {M : Mem} {o p : Int} (hk : M 60 o ≤ 9) (h4 : 4 ≤ M 60 o) (hp : 0 ≤ p ∧ p ≤ 25) : fkD M (M 60 o) p = dueM M o p := by
  unfold fkD dueM; rw [if_pos (by omega), if_pos (by omega)]
theorem spx {M : Mem} (hI : TI M) {o p v : Int} (h9 : M 55 9 = 0) : valD M (pkD M o p) v = true ↔ setPartOK M o p v := by
  unfold setPartOK
  by_cases ho : 1 ≤ o ∧ o ≤ M 55 5
  · have hk := hI.2.2.2.2.2.2.2.2.1 o ho.1 ho.2
    have hs := hI.2.2.2.2.2.2.2.2.2.2.1 o (by omega) (by have := hI.2.1; omega)
    have e : pkD M o p = if 0 ≤ p ∧ p ≤ 25 then dueM M o p else -1 := by
      unfold pkD
      rw [if_pos ho]
      by_cases hp : 0 ≤ p ∧ p ≤ 25
      · rw [if_pos hp]
        by_cases hc : M 60 o ≤ 9
        · rw [if_pos hc]; exact fk_due hc hk.1 hp
        · unfold dueM; rw [if_neg hc, if_neg (show ¬ M 60 o < 10 by omega)]
          by_cases hps : p < M 61 o
          · rw [if_pos (by omega), if_pos hps]
          · rw [if_neg (by omega), if_neg hps]
      · rw [if_neg hp]
        by_cases hc : M 60 o ≤ 9
        · rw [if_pos hc]; unfold fkD; rw [if_neg (by omega)]
        · rw [if_neg hc, if_neg (by omega)]
    rw [e]
    by_cases hp : 0 ≤ p ∧ p ≤ 25
    · rw [if_pos hp]
      have hr : -1 ≤ dueM M o p := by
        unfold dueM
        split
        · exact (fieldM_rng hI.2.2.2.2.1 hI.2.2.2.2.2.2.1 (by omega) (by omega)).1
        split
        · have := elemM_rng (a := M 60 o) (by omega); omega
        · omega
      unfold valD
      by_cases h1 : dueM M o p = -1
      · rw [if_pos h1]; simp; omega
      · rw [if_neg h1]; exact ⟨fun h => ⟨ho, hp, h9, by omega, h⟩, fun h => h.2.2.2.2⟩
    · rw [if_neg hp]; unfold valD; rw [if_pos rfl]; simp; omega
  · have e : pkD M o p = -1 := by unfold pkD; rw [if_neg ho]
    rw [e]; unfold valD; rw [if_pos rfl]; simp; omega
theorem kd_there {M : Mem} (hI : TI M) {n : Int} (h : ¬ vkD M n = -1) : isKindB (M 55 0) (vkD M n) = true := by
  unfold vkD at h ⊢
  split at h
  · rename_i hn; rw [if_pos hn]; exact hI.2.2.2.2.2.2.2.2.2.2.2.2.1 n (by omega) (by omega) h
  · omega
theorem foF_in {M : Mem} {n : Int} (hn : 0 ≤ n ∧ n < 26) (hP : okP M) (hF : ∀ j, 0 ≤ j → j < 156 → ¬ M 57 j = -1 → isKindB (M 55 0) (M 57 j) = true) : ∀ (g : Nat) (c : Int), c < 6 → ¬ foF (fun j => M 56 j) (fun j => M 57 j) n g c = -1 → isKindB (M 55 0) (foF (fun j => M 56 j) (fun j => M 57 j) n g c) = true := by
  intro g
  induction g with
  | zero => intro c _ h; exact absurd rfl h
  | succ g ih =>
    intro c hc h
    by_cases h0 : c < 0
    · rw [foF_neg h0] at h; exact absurd rfl h
    · by_cases h1 : 0 ≤ M 57 (26 * c + n)
      · rw [foF_hit h0 h1] at h ⊢; exact hF _ (by omega) (by omega) h
      · rw [foF_s h0 h1] at h ⊢; exact ih _ (hP c (by omega) hc).2 h
theorem fd_there {M : Mem} (hI : TI M) {k n : Int} (h : ¬ fkD M k n = -1) : isKindB (M 55 0) (fkD M k n) = true := by
  unfold fkD at h ⊢
  split at h
  · rename_i hn; rw [if_pos hn]
    exact foF_in hn.2 hI.2.2.2.2.1 hI.2.2.2.2.2.2.2.2.2.2.2.2.2 6 (k - 4) (by omega) h
  · omega
theorem el_there {n a : Int} (h : isKindB n a = true) (ha : 10 ≤ a) : isKindB n (elemM a) = true := by
  have h1 := isKindB_t.mp h
  apply isKindB_t.mpr
  unfold elemM; split <;> omega
theorem pk_there {M : Mem} (hI : TI M) {o p : Int} (h : ¬ pkD M o p = -1) : isKindB (M 55 0) (pkD M o p) = true := by
  unfold pkD at h ⊢
  split at h
  · rename_i ho; rw [if_pos ho]
    split at h
    · rename_i hc; rw [if_pos hc]; exact fd_there hI h
    · rename_i hc; rw [if_neg hc]
      split at h
      · rename_i hp; rw [if_pos hp]; exact el_there (hI.2.2.2.2.2.2.2.2.2.2.2.1 o ho.1 ho.2) (by omega)
      · omega
  · omega
theorem pk_rng {M : Mem} (hI : TI M) (o p : Int) : -1 ≤ pkD M o p := by
  unfold pkD
  split
  · split
    · exact (fkD_rng hI _ _).1
    split
    · rename_i ho _ _
      have := hI.2.2.2.2.2.2.2.2.1 o ho.1 ho.2
      have := elemM_rng (a := M 60 o) (by omega); omega
    · omega
  · omega
theorem vk_rng {M : Mem} (hI : TI M) (n : Int) : -1 ≤ vkD M n := by
  unfold vkD
  split
  · exact (hI.2.2.2.2.2.2.2.1 n (by omega) (by omega)).1
  · omega
theorem vk_nn {M : Mem} {name v : Int} (h : valD M (vkD M name) v = true) : 0 ≤ name ∧ name ≤ 26 := by
  unfold valD vkD at h
  by_cases hn : 0 ≤ name ∧ name ≤ 26
  · exact hn
  · rw [if_neg hn, if_pos rfl] at h; cases h
theorem pk_nn {M : Mem} (hI : TI M) {o p v : Int} (h : valD M (pkD M o p) v = true) : (1 ≤ o ∧ o ≤ 12) ∧ 0 ≤ p ∧ p ≤ 25 := by
  unfold valD at h
  by_cases h1 : pkD M o p = -1
  · rw [if_pos h1] at h; cases h
  · unfold pkD at h1
    split at h1
    · rename_i ho
      have := hI.2.1
      refine ⟨by omega, ?_⟩
      split at h1
      · unfold fkD at h1; split at h1 <;> omega
      · have hs := hI.2.2.2.2.2.2.2.2.2.2.1 o (by omega) (by omega)
        split at h1 <;> omega
    · omega
theorem d_Ta_storeVariable_0 : decode b_Ta_storeVariable 0 = .ok (.aload_n 0, 1) := by decide +kernel
theorem d_Ta_storeVariable_1 : decode b_Ta_storeVariable 1 = .ok (.getfield 25, 3) := by decide +kernel
theorem d_Ta_storeVariable_4 : decode b_Ta_storeVariable 4 = .ok (.ifCond .eq 16, 3) := by decide +kernel
theorem d_Ta_storeVariable_7 : decode b_Ta_storeVariable 7 = .ok (.aload_n 0, 1) := by decide +kernel
theorem d_Ta_storeVariable_8 : decode b_Ta_storeVariable 8 = .ok (.aload_n 0, 1) := by decide +kernel
theorem d_Ta_storeVariable_9 : decode b_Ta_storeVariable 9 = .ok (.iload_n 1, 1) := by decide +kernel
theorem d_Ta_storeVariable_10 : decode b_Ta_storeVariable 10 = .ok (.invokevirtual 68, 3) := by decide +kernel
theorem d_Ta_storeVariable_13 : decode b_Ta_storeVariable 13 = .ok (.lload_n 2, 1) := by decide +kernel
theorem d_Ta_storeVariable_14 : decode b_Ta_storeVariable 14 = .ok (.invokevirtual 72, 3) := by decide +kernel
theorem d_Ta_storeVariable_17 : decode b_Ta_storeVariable 17 = .ok (.ifCond .ne 5, 3) := by decide +kernel
theorem d_Ta_storeVariable_20 : decode b_Ta_storeVariable 20 = .ok (.iconst 0, 1) := by decide +kernel
theorem d_Ta_storeVariable_21 : decode b_Ta_storeVariable 21 = .ok (.ireturn, 1) := by decide +kernel
theorem d_Ta_storeVariable_22 : decode b_Ta_storeVariable 22 = .ok (.aload_n 0, 1) := by decide +kernel
theorem d_Ta_storeVariable_23 : decode b_Ta_storeVariable 23 = .ok (.getfield 21, 3) := by decide +kernel
theorem d_Ta_storeVariable_26 : decode b_Ta_storeVariable 26 = .ok (.iconst 0, 1) := by decide +kernel
theorem d_Ta_storeVariable_27 : decode b_Ta_storeVariable 27 = .ok (.iload_n 1, 1) := by decide +kernel
theorem d_Ta_storeVariable_28 : decode b_Ta_storeVariable 28 = .ok (.invokestatic 64, 3) := by decide +kernel
theorem d_Ta_storeVariable_31 : decode b_Ta_storeVariable 31 = .ok (.lload_n 2, 1) := by decide +kernel
theorem d_Ta_storeVariable_32 : decode b_Ta_storeVariable 32 = .ok (.lastore, 1) := by decide +kernel
theorem d_Ta_storeVariable_33 : decode b_Ta_storeVariable 33 = .ok (.iconst 1, 1) := by decide +kernel
theorem d_Ta_storeVariable_34 : decode b_Ta_storeVariable 34 = .ok (.ireturn, 1) := by decide +kernel
theorem g_Ta_storeVariable {X : WX} {d : Nat} (hd : 3 ≤ d) (name v : Int) (M : Mem) (hT : RT M) (hI : TI M) : MG X gt d KE KE y_Ta_storeVariable b_Ta_storeVariable 4 (some .boolean) [vr 4, vi name, vl v] M (fun r M' => (setVarOK M name v → r = some (vi 1) ∧ M' = mset M 8 name v) ∧ (¬ setVarOK M name v → r = some (vi 0) ∧ M' = M)) := by
  refine MG_of_G (by decide) (Nat.le_of_ble_eq_true rfl) (Nat.le_refl _) (by decide) ?_
  show G X gt d KE KE y_Ta_storeVariable b_Ta_storeVariable 4 (some .boolean) _ 0 [(0, vr 4), (1, vi name), (2, vl v)] [] KE M
  have hI0 := hI
  obtain ⟨hI1, hI2, hI3, hI4, hI5, hI6, hI7, hI8, hI9, hI10, hI11, hI12, hI13, hI14⟩ := hI
  refine G_rngl (i := 1) rfl (fun hr1 => ?_)
  refine G_rngL (i := 2) rfl (fun hr2 => ?_)
  refine G_aload (i := 0) (n := 0) (len := 1) (Or.inl ⟨0, rfl, rfl, d_Ta_storeVariable_0⟩) rfl (by decide) (G_pc (pc' := 1) rfl ?_)
  refine G_get (o := 4) (c := 6) (k := 6) (v := M 4 6) d_Ta_storeVariable_1 fl_Ta_25 rfl (by decide) (by decide) rfl rfl (G_pc (pc' := 4) rfl ?_)
  rw [show M 4 6 = 1 - M 55 9 from hT.2.2.2.1.2.2.1]
  refine G_if_eq (tgt := 20) d_Ta_storeVariable_4 (by decide) (fun h1 => ?_) (fun h1 => G_pc (pc' := 7) rfl ?_)
  · skip
    refine G_iconst (n := 0) d_Ta_storeVariable_20 (by decide) (G_pc (pc' := 21) rfl ?_)
    refine G_iret d_Ta_storeVariable_21 rfl (tokZ (by decide)) rfl rfl ?_
    exact ⟨fun h => absurd h (by intro h9; first | (have h8 := h9.2.2.1; omega) | (have h8 := (svx hI0 h9.2.2.1).mpr h9; simp_all)), fun _ => ⟨rfl, rfl⟩⟩
  · skip
    refine G_aload (i := 0) (n := 0) (len := 1) (Or.inl ⟨0, rfl, rfl, d_Ta_storeVariable_7⟩) rfl (by decide) (G_pc (pc' := 8) rfl ?_)
    refine G_aload (i := 0) (n := 0) (len := 1) (Or.inl ⟨0, rfl, rfl, d_Ta_storeVariable_8⟩) rfl (by decide) (G_pc (pc' := 9) rfl ?_)
    refine G_iload (i := 1) (n := 1) (len := 1) (Or.inl ⟨1, rfl, rfl, d_Ta_storeVariable_9⟩) rfl (G_pc (pc' := 10) rfl ?_)
    refine G_callV (K1 := KE) (d2 := 0) (o := 4) (cl := 6) (as := [vi name]) (rest := [vr 4]) d_Ta_storeVariable_10 mf_Ta_kindOfVariable ml_Ta_68 rfl rfl (by decide) rfl rfl (Nat.le_of_ble_eq_true rfl) (by omega) ⟨Nat.le_refl _, Nat.le_refl _⟩ (g_Ta_kindOfVariable (by omega) name M hT hI0 ) (fun r2 M3 kq4 q4 => ?_)
    clear kq4; obtain ⟨q4a, q4b⟩ := q4; subst r2; subst M3
    refine G_ps (pc' := 13) (st' := [vi (vkD M name), vr 4]) rfl rfl ?_
    refine G_lload (i := 2) (n := 2) (len := 1) (Or.inl ⟨2, rfl, rfl, d_Ta_storeVariable_13⟩) rfl (G_pc (pc' := 14) rfl ?_)
    refine G_callV (K1 := KE) (d2 := 2) (o := 4) (cl := 6) (as := [vi (vkD M name), vl v]) (rest := []) d_Ta_storeVariable_14 mf_Ta_isValue ml_Ta_72 rfl rfl (by decide) rfl rfl (Nat.le_of_ble_eq_true rfl) (by omega) ⟨Nat.le_refl _, Nat.le_refl _⟩ (g_Ta_isValue (by omega) (vkD M name) v M hT hI0 (vk_rng hI0 _) (fun h => kd_there hI0 h)) (fun r5 M6 kq7 q7 => ?_)
    clear kq7; obtain ⟨q7a, q7b⟩ := q7; subst r5; subst M6
    refine G_ps (pc' := 17) (st' := [vi (b2i (valD M (vkD M name) v))]) rfl rfl ?_
    refine G_if_ne (tgt := 22) d_Ta_storeVariable_17 (by decide) (fun h8 => ?_) (fun h8 => G_pc (pc' := 20) rfl ?_)
    · skip
      replace h8 := b2i_nz.mp h8
      have hvn := vk_nn (by assumption)
      refine G_aload (i := 0) (n := 0) (len := 1) (Or.inl ⟨0, rfl, rfl, d_Ta_storeVariable_22⟩) rfl (by decide) (G_pc (pc' := 23) rfl ?_)
      refine G_get (o := 4) (c := 6) (k := 3) (v := 8) d_Ta_storeVariable_23 fl_Ta_21 rfl (by decide) (by decide) rfl rfl (G_pc (pc' := 26) rfl ?_)
      refine G_iconst (n := 0) d_Ta_storeVariable_26 (by decide) (G_pc (pc' := 27) rfl ?_)
      refine G_iload (i := 1) (n := 1) (len := 1) (Or.inl ⟨1, rfl, rfl, d_Ta_storeVariable_27⟩) rfl (G_pc (pc' := 28) rfl ?_)
      refine G_callN (K1 := KE) (d2 := 0) (as := [vi 0, vi name]) (rest := [vr 8]) d_Ta_storeVariable_28 mf_De_placeOf (by decide) rfl rfl (Nat.le_of_ble_eq_true rfl) (by omega) ⟨Nat.le_refl _, Nat.le_refl _⟩ (g_De_placeOf (by omega) 0 name _ (by omega) (by omega)) (fun r9 M10 kq11 q11 => ?_)
      clear kq11; obtain ⟨q11a, q11b⟩ := q11; subst r9; subst M10
      refine G_ps (pc' := 31) (st' := [vi (28 * 0 + name), vr 8]) rfl rfl ?_
      refine G_lload (i := 2) (n := 2) (len := 1) (Or.inl ⟨2, rfl, rfl, d_Ta_storeVariable_31⟩) rfl (G_pc (pc' := 32) rfl ?_)
      refine G_lastore (o := 8) (n := 364) (i := 28 * 0 + name) (x := v) d_Ta_storeVariable_32 rfl ⟨by decide, by decide⟩ (by decide) (gt_arr rfl _) (by omega) (tokJ (by omega)) (G_pc (pc' := 33) rfl ?_)
      refine G_iconst (n := 1) d_Ta_storeVariable_33 (by decide) (G_pc (pc' := 34) rfl ?_)
      refine G_iret d_Ta_storeVariable_34 rfl (tokZ (by decide)) rfl rfl ?_
      exact ⟨fun _ => ⟨rfl, by rw [show 28 * 0 + name = name by omega]⟩, fun h => absurd ((svx hI0 (by omega)).mp (by assumption)) h⟩
    · skip
      replace h8 := b2i_0.mp h8
      refine G_iconst (n := 0) d_Ta_storeVariable_20 (by decide) (G_pc (pc' := 21) rfl ?_)
      refine G_iret d_Ta_storeVariable_21 rfl (tokZ (by decide)) rfl rfl ?_
      exact ⟨fun h => absurd h (by intro h9; first | (have h8 := h9.2.2.1; omega) | (have h8 := (svx hI0 h9.2.2.1).mpr h9; simp_all)), fun _ => ⟨rfl, rfl⟩⟩

theorem d_Ta_storePart_0 : decode b_Ta_storePart 0 = .ok (.aload_n 0, 1) := by decide +kernel
theorem d_Ta_storePart_1 : decode b_Ta_storePart 1 = .ok (.getfield 25, 3) := by decide +kernel
theorem d_Ta_storePart_4 : decode b_Ta_storePart 4 = .ok (.ifCond .eq 17, 3) := by decide +kernel
theorem d_Ta_storePart_7 : decode b_Ta_storePart 7 = .ok (.aload_n 0, 1) := by decide +kernel
theorem d_Ta_storePart_8 : decode b_Ta_storePart 8 = .ok (.aload_n 0, 1) := by decide +kernel
theorem d_Ta_storePart_9 : decode b_Ta_storePart 9 = .ok (.iload_n 1, 1) := by decide +kernel
theorem d_Ta_storePart_10 : decode b_Ta_storePart 10 = .ok (.iload_n 2, 1) := by decide +kernel
theorem d_Ta_storePart_11 : decode b_Ta_storePart 11 = .ok (.invokevirtual 76, 3) := by decide +kernel
theorem d_Ta_storePart_14 : decode b_Ta_storePart 14 = .ok (.lload_n 3, 1) := by decide +kernel
theorem d_Ta_storePart_15 : decode b_Ta_storePart 15 = .ok (.invokevirtual 72, 3) := by decide +kernel
theorem d_Ta_storePart_18 : decode b_Ta_storePart 18 = .ok (.ifCond .ne 5, 3) := by decide +kernel
theorem d_Ta_storePart_21 : decode b_Ta_storePart 21 = .ok (.iconst 0, 1) := by decide +kernel
theorem d_Ta_storePart_22 : decode b_Ta_storePart 22 = .ok (.ireturn, 1) := by decide +kernel
theorem d_Ta_storePart_23 : decode b_Ta_storePart 23 = .ok (.aload_n 0, 1) := by decide +kernel
theorem d_Ta_storePart_24 : decode b_Ta_storePart 24 = .ok (.getfield 21, 3) := by decide +kernel
theorem d_Ta_storePart_27 : decode b_Ta_storePart 27 = .ok (.iload_n 1, 1) := by decide +kernel
theorem d_Ta_storePart_28 : decode b_Ta_storePart 28 = .ok (.iload_n 2, 1) := by decide +kernel
theorem d_Ta_storePart_29 : decode b_Ta_storePart 29 = .ok (.invokestatic 64, 3) := by decide +kernel
theorem d_Ta_storePart_32 : decode b_Ta_storePart 32 = .ok (.lload_n 3, 1) := by decide +kernel
theorem d_Ta_storePart_33 : decode b_Ta_storePart 33 = .ok (.lastore, 1) := by decide +kernel
theorem d_Ta_storePart_34 : decode b_Ta_storePart 34 = .ok (.iconst 1, 1) := by decide +kernel
theorem d_Ta_storePart_35 : decode b_Ta_storePart 35 = .ok (.ireturn, 1) := by decide +kernel
theorem g_Ta_storePart {X : WX} {d : Nat} (hd : 3 ≤ d) (o p v : Int) (M : Mem) (hT : RT M) (hI : TI M) : MG X gt d KE KE y_Ta_storePart b_Ta_storePart 5 (some .boolean) [vr 4, vi o, vi p, vl v] M (fun r M' => (setPartOK M o p v → r = some (vi 1) ∧ M' = mset M 8 (28 * o + p) v) ∧ (¬ setPartOK M o p v → r = some (vi 0) ∧ M' = M)) := by
  refine MG_of_G (by decide) (Nat.le_of_ble_eq_true rfl) (Nat.le_refl _) (by decide) ?_
  show G X gt d KE KE y_Ta_storePart b_Ta_storePart 5 (some .boolean) _ 0 [(0, vr 4), (1, vi o), (2, vi p), (3, vl v)] [] KE M
  have hI0 := hI
  obtain ⟨hI1, hI2, hI3, hI4, hI5, hI6, hI7, hI8, hI9, hI10, hI11, hI12, hI13, hI14⟩ := hI
  refine G_rngl (i := 1) rfl (fun hr1 => ?_)
  refine G_rngl (i := 2) rfl (fun hr2 => ?_)
  refine G_rngL (i := 3) rfl (fun hr3 => ?_)
  refine G_aload (i := 0) (n := 0) (len := 1) (Or.inl ⟨0, rfl, rfl, d_Ta_storePart_0⟩) rfl (by decide) (G_pc (pc' := 1) rfl ?_)
  refine G_get (o := 4) (c := 6) (k := 6) (v := M 4 6) d_Ta_storePart_1 fl_Ta_25 rfl (by decide) (by decide) rfl rfl (G_pc (pc' := 4) rfl ?_)
  rw [show M 4 6 = 1 - M 55 9 from hT.2.2.2.1.2.2.1]
  refine G_if_eq (tgt := 21) d_Ta_storePart_4 (by decide) (fun h1 => ?_) (fun h1 => G_pc (pc' := 7) rfl ?_)
  · skip
    refine G_iconst (n := 0) d_Ta_storePart_21 (by decide) (G_pc (pc' := 22) rfl ?_)
    refine G_iret d_Ta_storePart_22 rfl (tokZ (by decide)) rfl rfl ?_
    exact ⟨fun h => absurd h (by intro h9; first | (have h8 := h9.2.2.1; omega) | (have h8 := (spx hI0 h9.2.2.1).mpr h9; simp_all)), fun _ => ⟨rfl, rfl⟩⟩
  · skip
    refine G_aload (i := 0) (n := 0) (len := 1) (Or.inl ⟨0, rfl, rfl, d_Ta_storePart_7⟩) rfl (by decide) (G_pc (pc' := 8) rfl ?_)
    refine G_aload (i := 0) (n := 0) (len := 1) (Or.inl ⟨0, rfl, rfl, d_Ta_storePart_8⟩) rfl (by decide) (G_pc (pc' := 9) rfl ?_)
    refine G_iload (i := 1) (n := 1) (len := 1) (Or.inl ⟨1, rfl, rfl, d_Ta_storePart_9⟩) rfl (G_pc (pc' := 10) rfl ?_)
    refine G_iload (i := 2) (n := 2) (len := 1) (Or.inl ⟨2, rfl, rfl, d_Ta_storePart_10⟩) rfl (G_pc (pc' := 11) rfl ?_)
    refine G_callV (K1 := KE) (d2 := 2) (o := 4) (cl := 6) (as := [vi o, vi p]) (rest := [vr 4]) d_Ta_storePart_11 mf_Ta_kindOfPart ml_Ta_76 rfl rfl (by decide) rfl rfl (Nat.le_of_ble_eq_true rfl) (by omega) ⟨Nat.le_refl _, Nat.le_refl _⟩ (g_Ta_kindOfPart (by omega) o p M hT hI0 ) (fun r2 M3 kq4 q4 => ?_)
    clear kq4; obtain ⟨q4a, q4b⟩ := q4; subst r2; subst M3
    refine G_ps (pc' := 14) (st' := [vi (pkD M o p), vr 4]) rfl rfl ?_
    refine G_lload (i := 3) (n := 3) (len := 1) (Or.inl ⟨3, rfl, rfl, d_Ta_storePart_14⟩) rfl (G_pc (pc' := 15) rfl ?_)
    refine G_callV (K1 := KE) (d2 := 2) (o := 4) (cl := 6) (as := [vi (pkD M o p), vl v]) (rest := []) d_Ta_storePart_15 mf_Ta_isValue ml_Ta_72 rfl rfl (by decide) rfl rfl (Nat.le_of_ble_eq_true rfl) (by omega) ⟨Nat.le_refl _, Nat.le_refl _⟩ (g_Ta_isValue (by omega) (pkD M o p) v M hT hI0 (pk_rng hI0 _ _) (fun h => pk_there hI0 h)) (fun r5 M6 kq7 q7 => ?_)
    clear kq7; obtain ⟨q7a, q7b⟩ := q7; subst r5; subst M6
    refine G_ps (pc' := 18) (st' := [vi (b2i (valD M (pkD M o p) v))]) rfl rfl ?_
    refine G_if_ne (tgt := 23) d_Ta_storePart_18 (by decide) (fun h8 => ?_) (fun h8 => G_pc (pc' := 21) rfl ?_)
    · skip
      replace h8 := b2i_nz.mp h8
      have hpn := pk_nn hI0 (by assumption)
      refine G_aload (i := 0) (n := 0) (len := 1) (Or.inl ⟨0, rfl, rfl, d_Ta_storePart_23⟩) rfl (by decide) (G_pc (pc' := 24) rfl ?_)
      refine G_get (o := 4) (c := 6) (k := 3) (v := 8) d_Ta_storePart_24 fl_Ta_21 rfl (by decide) (by decide) rfl rfl (G_pc (pc' := 27) rfl ?_)
      refine G_iload (i := 1) (n := 1) (len := 1) (Or.inl ⟨1, rfl, rfl, d_Ta_storePart_27⟩) rfl (G_pc (pc' := 28) rfl ?_)
      refine G_iload (i := 2) (n := 2) (len := 1) (Or.inl ⟨2, rfl, rfl, d_Ta_storePart_28⟩) rfl (G_pc (pc' := 29) rfl ?_)
      refine G_callN (K1 := KE) (d2 := 0) (as := [vi o, vi p]) (rest := [vr 8]) d_Ta_storePart_29 mf_De_placeOf (by decide) rfl rfl (Nat.le_of_ble_eq_true rfl) (by omega) ⟨Nat.le_refl _, Nat.le_refl _⟩ (g_De_placeOf (by omega) o p _ (by omega) (by omega)) (fun r9 M10 kq11 q11 => ?_)
      clear kq11; obtain ⟨q11a, q11b⟩ := q11; subst r9; subst M10
      refine G_ps (pc' := 32) (st' := [vi (28 * o + p), vr 8]) rfl rfl ?_
      refine G_lload (i := 3) (n := 3) (len := 1) (Or.inl ⟨3, rfl, rfl, d_Ta_storePart_32⟩) rfl (G_pc (pc' := 33) rfl ?_)
      refine G_lastore (o := 8) (n := 364) (i := 28 * o + p) (x := v) d_Ta_storePart_33 rfl ⟨by decide, by decide⟩ (by decide) (gt_arr rfl _) (by omega) (tokJ (by omega)) (G_pc (pc' := 34) rfl ?_)
      refine G_iconst (n := 1) d_Ta_storePart_34 (by decide) (G_pc (pc' := 35) rfl ?_)
      refine G_iret d_Ta_storePart_35 rfl (tokZ (by decide)) rfl rfl ?_
      exact ⟨fun _ => ⟨rfl, rfl⟩, fun h => absurd ((spx hI0 (by omega)).mp (by assumption)) h⟩
    · skip
      replace h8 := b2i_0.mp h8
      refine G_iconst (n := 0) d_Ta_storePart_21 (by decide) (G_pc (pc' := 22) rfl ?_)
      refine G_iret d_Ta_storePart_22 rfl (tokZ (by decide)) rfl rfl ?_
      exact ⟨fun h => absurd h (by intro h9; first | (have h8 := h9.2.2.1; omega) | (have h8 := (spx hI0 h9.2.2.1).mpr h9; simp_all)), fun _ => ⟨rfl, rfl⟩⟩

theorem d_Ta_switchTo_0 : decode b_Ta_switchTo 0 = .ok (.aload_n 0, 1) := by decide +kernel
theorem d_Ta_switchTo_1 : decode b_Ta_switchTo 1 = .ok (.getfield 25, 3) := by decide +kernel
theorem d_Ta_switchTo_4 : decode b_Ta_switchTo 4 = .ok (.iload_n 1, 1) := by decide +kernel
theorem d_Ta_switchTo_5 : decode b_Ta_switchTo 5 = .ok (.if_icmp .ne 5, 3) := by decide +kernel
theorem d_Ta_switchTo_8 : decode b_Ta_switchTo 8 = .ok (.iconst 0, 1) := by decide +kernel
theorem d_Ta_switchTo_9 : decode b_Ta_switchTo 9 = .ok (.ireturn, 1) := by decide +kernel
theorem d_Ta_switchTo_10 : decode b_Ta_switchTo 10 = .ok (.aload_n 0, 1) := by decide +kernel
theorem d_Ta_switchTo_11 : decode b_Ta_switchTo 11 = .ok (.iload_n 1, 1) := by decide +kernel
theorem d_Ta_switchTo_12 : decode b_Ta_switchTo 12 = .ok (.putfield 25, 3) := by decide +kernel
theorem d_Ta_switchTo_15 : decode b_Ta_switchTo 15 = .ok (.aload_n 0, 1) := by decide +kernel
theorem d_Ta_switchTo_16 : decode b_Ta_switchTo 16 = .ok (.iconst 1, 1) := by decide +kernel
theorem d_Ta_switchTo_17 : decode b_Ta_switchTo 17 = .ok (.putfield 35, 3) := by decide +kernel
theorem d_Ta_switchTo_20 : decode b_Ta_switchTo 20 = .ok (.iconst 1, 1) := by decide +kernel
theorem d_Ta_switchTo_21 : decode b_Ta_switchTo 21 = .ok (.ireturn, 1) := by decide +kernel
theorem g_Ta_switchTo {X : WX} {d : Nat} (hd : 0 ≤ d) (on : Int) (M : Mem) (hT : RT M) (hI : TI M) (hon : 0 ≤ on ∧ on ≤ 1) : MG X gt d KE KE y_Ta_switchTo b_Ta_switchTo 2 (some .boolean) [vr 4, vi on] M (fun r M' => (on = M 55 9 → r = some (vi 1) ∧ M' = mset (mset M 4 6 on) 4 7 1) ∧ (¬ on = M 55 9 → r = some (vi 0) ∧ M' = M)) := by
  refine MG_of_G (by decide) (Nat.le_of_ble_eq_true rfl) (Nat.le_refl _) (by decide) ?_
  show G X gt d KE KE y_Ta_switchTo b_Ta_switchTo 2 (some .boolean) _ 0 [(0, vr 4), (1, vi on)] [] KE M
  have hI0 := hI
  obtain ⟨hI1, hI2, hI3, hI4, hI5, hI6, hI7, hI8, hI9, hI10, hI11, hI12, hI13, hI14⟩ := hI
  refine G_rngl (i := 1) rfl (fun hr1 => ?_)
  refine G_aload (i := 0) (n := 0) (len := 1) (Or.inl ⟨0, rfl, rfl, d_Ta_switchTo_0⟩) rfl (by decide) (G_pc (pc' := 1) rfl ?_)
  refine G_get (o := 4) (c := 6) (k := 6) (v := M 4 6) d_Ta_switchTo_1 fl_Ta_25 rfl (by decide) (by decide) rfl rfl (G_pc (pc' := 4) rfl ?_)
  rw [show M 4 6 = 1 - M 55 9 from hT.2.2.2.1.2.2.1]
  refine G_iload (i := 1) (n := 1) (len := 1) (Or.inl ⟨1, rfl, rfl, d_Ta_switchTo_4⟩) rfl (G_pc (pc' := 5) rfl ?_)
  refine G_icmp_ne (tgt := 10) d_Ta_switchTo_5 (by decide) (fun h1 => ?_) (fun h1 => G_pc (pc' := 8) rfl ?_)
  · skip
    refine G_aload (i := 0) (n := 0) (len := 1) (Or.inl ⟨0, rfl, rfl, d_Ta_switchTo_10⟩) rfl (by decide) (G_pc (pc' := 11) rfl ?_)
    refine G_iload (i := 1) (n := 1) (len := 1) (Or.inl ⟨1, rfl, rfl, d_Ta_switchTo_11⟩) rfl (G_pc (pc' := 12) rfl ?_)
    refine G_putL (o := 4) (c := 6) (k := 6) (ki := 6) (x := on) d_Ta_switchTo_12 fl_Ta_25 rfl rfl (by decide) (by decide) (by decide) rfl rfl (tokZ (by omega)) rfl (G_pc (pc' := 15) rfl ?_)
    refine G_aload (i := 0) (n := 0) (len := 1) (Or.inl ⟨0, rfl, rfl, d_Ta_switchTo_15⟩) rfl (by decide) (G_pc (pc' := 16) rfl ?_)
    refine G_iconst (n := 1) d_Ta_switchTo_16 (by decide) (G_pc (pc' := 17) rfl ?_)
    refine G_putL (o := 4) (c := 6) (k := 7) (ki := 7) (x := 1) d_Ta_switchTo_17 fl_Ta_35 rfl rfl (by decide) (by decide) (by decide) rfl rfl (tokZ (by decide)) rfl (G_pc (pc' := 20) rfl ?_)
    refine G_iconst (n := 1) d_Ta_switchTo_20 (by decide) (G_pc (pc' := 21) rfl ?_)
    refine G_iret d_Ta_switchTo_21 rfl (tokZ (by decide)) rfl rfl ?_
    exact ⟨fun _ => ⟨rfl, rfl⟩, fun h => absurd (by omega) h⟩
  · skip
    refine G_iconst (n := 0) d_Ta_switchTo_8 (by decide) (G_pc (pc' := 9) rfl ?_)
    refine G_iret d_Ta_switchTo_9 rfl (tokZ (by decide)) rfl rfl ?_
    exact ⟨fun h => absurd h (by omega), fun _ => ⟨rfl, rfl⟩⟩

theorem d_De_addClass_0 : decode b_De_addClass 0 = .ok (.aload_n 0, 1) := by decide +kernel
theorem d_De_addClass_1 : decode b_De_addClass 1 = .ok (.getfield 36, 3) := by decide +kernel
theorem d_De_addClass_4 : decode b_De_addClass 4 = .ok (.iload_n 1, 1) := by decide +kernel
theorem d_De_addClass_5 : decode b_De_addClass 5 = .ok (.invokevirtual 44, 3) := by decide +kernel
theorem d_De_addClass_8 : decode b_De_addClass 8 = .ok (.ireturn, 1) := by decide +kernel
theorem g_De_addClass {X : WX} {d : Nat} (hd : 1 ≤ d) (a : Int) (M : Mem) (hT : RT M) (hI : TI M) : MG X gt d KE KE y_De_addClass b_De_addClass 2 (some .int) [vr 1, vi a] M (fun r M' => (addClassOK M a → r = some (vi (M 55 0)) ∧ M' = (mset (mset M 5 (M 55 0) a) 4 4 (M 55 0 + 1))) ∧ (¬ addClassOK M a → r = some (vi (-1)) ∧ M' = M)) := by
  refine MG_of_G (by decide) (Nat.le_of_ble_eq_true rfl) (Nat.le_refl _) (by decide) ?_
  show G X gt d KE KE y_De_addClass b_De_addClass 2 (some .int) _ 0 [(0, vr 1), (1, vi a)] [] KE M
  have hI0 := hI
  obtain ⟨hI1, hI2, hI3, hI4, hI5, hI6, hI7, hI8, hI9, hI10, hI11, hI12, hI13, hI14⟩ := hI
  refine G_rngl (i := 1) rfl (fun hr1 => ?_)
  refine G_aload (i := 0) (n := 0) (len := 1) (Or.inl ⟨0, rfl, rfl, d_De_addClass_0⟩) rfl (by decide) (G_pc (pc' := 1) rfl ?_)
  refine G_get (o := 1) (c := 8) (k := 0) (v := 4) d_De_addClass_1 fl_De_36 rfl (by decide) (by decide) rfl rfl (G_pc (pc' := 4) rfl ?_)
  refine G_iload (i := 1) (n := 1) (len := 1) (Or.inl ⟨1, rfl, rfl, d_De_addClass_4⟩) rfl (G_pc (pc' := 5) rfl ?_)
  refine G_callV (K1 := KE) (d2 := 0) (o := 4) (cl := 6) (as := [vi a]) (rest := []) d_De_addClass_5 mf_Ta_extendClass ml_De_44 rfl rfl (by decide) rfl rfl (Nat.le_of_ble_eq_true rfl) (by omega) ⟨Nat.le_refl _, Nat.le_refl _⟩ (g_Ta_extendClass (by omega) a M hT hI0 ) (fun r1 M2 kq3 q3 => ?_)
  clear kq3
  by_cases hk4 : addClassOK M a
  · skip
    obtain ⟨q3a, q3b⟩ := q3.1 hk4; subst r1; subst M2
    refine G_ps (pc' := 8) (st' := [vi (M 55 0)]) rfl rfl ?_
    refine G_iret d_De_addClass_8 rfl (tokI (by omega)) rfl rfl ?_
    exact ⟨fun _ => ⟨rfl, rfl⟩, fun h => absurd hk4 h⟩
  · skip
    obtain ⟨q3a, q3b⟩ := q3.2 hk4; subst r1; subst M2
    refine G_ps (pc' := 8) (st' := [vi (-1)]) rfl rfl ?_
    refine G_iret d_De_addClass_8 rfl (tokI (by decide)) rfl rfl ?_
    exact ⟨fun h => absurd h hk4, fun _ => ⟨rfl, rfl⟩⟩

theorem d_De_addField_0 : decode b_De_addField 0 = .ok (.aload_n 0, 1) := by decide +kernel
theorem d_De_addField_1 : decode b_De_addField 1 = .ok (.getfield 36, 3) := by decide +kernel
theorem d_De_addField_4 : decode b_De_addField 4 = .ok (.iload_n 1, 1) := by decide +kernel
theorem d_De_addField_5 : decode b_De_addField 5 = .ok (.iload_n 2, 1) := by decide +kernel
theorem d_De_addField_6 : decode b_De_addField 6 = .ok (.iload_n 3, 1) := by decide +kernel
theorem d_De_addField_7 : decode b_De_addField 7 = .ok (.invokevirtual 48, 3) := by decide +kernel
theorem d_De_addField_10 : decode b_De_addField 10 = .ok (.ireturn, 1) := by decide +kernel
theorem g_De_addField {X : WX} {d : Nat} (hd : 3 ≤ d) (t n k : Int) (M : Mem) (hT : RT M) (hI : TI M) : MG X gt d KE KE y_De_addField b_De_addField 4 (some .boolean) [vr 1, vi t, vi n, vi k] M (fun r M' => (addFieldOK M t n k → r = some (vi 1) ∧ M' = (mset M 6 (26 * t + n) k)) ∧ (¬ addFieldOK M t n k → r = some (vi 0) ∧ M' = M)) := by
  refine MG_of_G (by decide) (Nat.le_of_ble_eq_true rfl) (Nat.le_refl _) (by decide) ?_
  show G X gt d KE KE y_De_addField b_De_addField 4 (some .boolean) _ 0 [(0, vr 1), (1, vi t), (2, vi n), (3, vi k)] [] KE M
  have hI0 := hI
  obtain ⟨hI1, hI2, hI3, hI4, hI5, hI6, hI7, hI8, hI9, hI10, hI11, hI12, hI13, hI14⟩ := hI
  refine G_rngl (i := 1) rfl (fun hr1 => ?_)
  refine G_rngl (i := 2) rfl (fun hr2 => ?_)
  refine G_rngl (i := 3) rfl (fun hr3 => ?_)
  refine G_aload (i := 0) (n := 0) (len := 1) (Or.inl ⟨0, rfl, rfl, d_De_addField_0⟩) rfl (by decide) (G_pc (pc' := 1) rfl ?_)
  refine G_get (o := 1) (c := 8) (k := 0) (v := 4) d_De_addField_1 fl_De_36 rfl (by decide) (by decide) rfl rfl (G_pc (pc' := 4) rfl ?_)
  refine G_iload (i := 1) (n := 1) (len := 1) (Or.inl ⟨1, rfl, rfl, d_De_addField_4⟩) rfl (G_pc (pc' := 5) rfl ?_)
  refine G_iload (i := 2) (n := 2) (len := 1) (Or.inl ⟨2, rfl, rfl, d_De_addField_5⟩) rfl (G_pc (pc' := 6) rfl ?_)
  refine G_iload (i := 3) (n := 3) (len := 1) (Or.inl ⟨3, rfl, rfl, d_De_addField_6⟩) rfl (G_pc (pc' := 7) rfl ?_)
  refine G_callV (K1 := KE) (d2 := 2) (o := 4) (cl := 6) (as := [vi t, vi n, vi k]) (rest := []) d_De_addField_7 mf_Ta_declareField ml_De_48 rfl rfl (by decide) rfl rfl (Nat.le_of_ble_eq_true rfl) (by omega) ⟨Nat.le_refl _, Nat.le_refl _⟩ (g_Ta_declareField (by omega) t n k M hT hI0 ) (fun r1 M2 kq3 q3 => ?_)
  clear kq3
  by_cases hk4 : addFieldOK M t n k
  · skip
    obtain ⟨q3a, q3b⟩ := q3.1 hk4; subst r1; subst M2
    refine G_ps (pc' := 10) (st' := [vi 1]) rfl rfl ?_
    refine G_iret d_De_addField_10 rfl (tokZ (by decide)) rfl rfl ?_
    exact ⟨fun _ => ⟨rfl, rfl⟩, fun h => absurd hk4 h⟩
  · skip
    obtain ⟨q3a, q3b⟩ := q3.2 hk4; subst r1; subst M2
    refine G_ps (pc' := 10) (st' := [vi 0]) rfl rfl ?_
    refine G_iret d_De_addField_10 rfl (tokZ (by decide)) rfl rfl ?_
    exact ⟨fun h => absurd h hk4, fun _ => ⟨rfl, rfl⟩⟩

theorem d_De_addVariable_0 : decode b_De_addVariable 0 = .ok (.aload_n 0, 1) := by decide +kernel
theorem d_De_addVariable_1 : decode b_De_addVariable 1 = .ok (.getfield 36, 3) := by decide +kernel
theorem d_De_addVariable_4 : decode b_De_addVariable 4 = .ok (.iload_n 1, 1) := by decide +kernel
theorem d_De_addVariable_5 : decode b_De_addVariable 5 = .ok (.iload_n 2, 1) := by decide +kernel
theorem d_De_addVariable_6 : decode b_De_addVariable 6 = .ok (.invokevirtual 52, 3) := by decide +kernel
theorem d_De_addVariable_9 : decode b_De_addVariable 9 = .ok (.ireturn, 1) := by decide +kernel
theorem g_De_addVariable {X : WX} {d : Nat} (hd : 3 ≤ d) (n k : Int) (M : Mem) (hT : RT M) (hI : TI M) : MG X gt d KE KE y_De_addVariable b_De_addVariable 3 (some .boolean) [vr 1, vi n, vi k] M (fun r M' => (addVarOK M n k → r = some (vi 1) ∧ M' = (mset M 7 n k)) ∧ (¬ addVarOK M n k → r = some (vi 0) ∧ M' = M)) := by
  refine MG_of_G (by decide) (Nat.le_of_ble_eq_true rfl) (Nat.le_refl _) (by decide) ?_
  show G X gt d KE KE y_De_addVariable b_De_addVariable 3 (some .boolean) _ 0 [(0, vr 1), (1, vi n), (2, vi k)] [] KE M
  have hI0 := hI
  obtain ⟨hI1, hI2, hI3, hI4, hI5, hI6, hI7, hI8, hI9, hI10, hI11, hI12, hI13, hI14⟩ := hI
  refine G_rngl (i := 1) rfl (fun hr1 => ?_)
  refine G_rngl (i := 2) rfl (fun hr2 => ?_)
  refine G_aload (i := 0) (n := 0) (len := 1) (Or.inl ⟨0, rfl, rfl, d_De_addVariable_0⟩) rfl (by decide) (G_pc (pc' := 1) rfl ?_)
  refine G_get (o := 1) (c := 8) (k := 0) (v := 4) d_De_addVariable_1 fl_De_36 rfl (by decide) (by decide) rfl rfl (G_pc (pc' := 4) rfl ?_)
  refine G_iload (i := 1) (n := 1) (len := 1) (Or.inl ⟨1, rfl, rfl, d_De_addVariable_4⟩) rfl (G_pc (pc' := 5) rfl ?_)
  refine G_iload (i := 2) (n := 2) (len := 1) (Or.inl ⟨2, rfl, rfl, d_De_addVariable_5⟩) rfl (G_pc (pc' := 6) rfl ?_)
  refine G_callV (K1 := KE) (d2 := 2) (o := 4) (cl := 6) (as := [vi n, vi k]) (rest := []) d_De_addVariable_6 mf_Ta_declareVariable ml_De_52 rfl rfl (by decide) rfl rfl (Nat.le_of_ble_eq_true rfl) (by omega) ⟨Nat.le_refl _, Nat.le_refl _⟩ (g_Ta_declareVariable (by omega) n k M hT hI0 ) (fun r1 M2 kq3 q3 => ?_)
  clear kq3
  by_cases hk4 : addVarOK M n k
  · skip
    obtain ⟨q3a, q3b⟩ := q3.1 hk4; subst r1; subst M2
    refine G_ps (pc' := 9) (st' := [vi 1]) rfl rfl ?_
    refine G_iret d_De_addVariable_9 rfl (tokZ (by decide)) rfl rfl ?_
    exact ⟨fun _ => ⟨rfl, rfl⟩, fun h => absurd hk4 h⟩
  · skip
    obtain ⟨q3a, q3b⟩ := q3.2 hk4; subst r1; subst M2
    refine G_ps (pc' := 9) (st' := [vi 0]) rfl rfl ?_
    refine G_iret d_De_addVariable_9 rfl (tokZ (by decide)) rfl rfl ?_
    exact ⟨fun h => absurd h hk4, fun _ => ⟨rfl, rfl⟩⟩

theorem d_De_make_0 : decode b_De_make 0 = .ok (.aload_n 0, 1) := by decide +kernel
theorem d_De_make_1 : decode b_De_make 1 = .ok (.getfield 36, 3) := by decide +kernel
theorem d_De_make_4 : decode b_De_make 4 = .ok (.iload_n 1, 1) := by decide +kernel
theorem d_De_make_5 : decode b_De_make 5 = .ok (.iload_n 2, 1) := by decide +kernel
theorem d_De_make_6 : decode b_De_make 6 = .ok (.invokevirtual 56, 3) := by decide +kernel
theorem d_De_make_9 : decode b_De_make 9 = .ok (.ireturn, 1) := by decide +kernel
theorem g_De_make {X : WX} {d : Nat} (hd : 3 ≤ d) (k l : Int) (M : Mem) (hT : RT M) (hI : TI M) : MG X gt d KE KE y_De_make b_De_make 3 (some .int) [vr 1, vi k, vi l] M (fun r M' => (makeOK M k l → r = some (vi (M 55 5 + 1)) ∧ M' = (makeD M k l)) ∧ (¬ makeOK M k l → r = some (vi (-1)) ∧ M' = M)) := by
  refine MG_of_G (by decide) (Nat.le_of_ble_eq_true rfl) (Nat.le_refl _) (by decide) ?_
  show G X gt d KE KE y_De_make b_De_make 3 (some .int) _ 0 [(0, vr 1), (1, vi k), (2, vi l)] [] KE M
  have hI0 := hI
  obtain ⟨hI1, hI2, hI3, hI4, hI5, hI6, hI7, hI8, hI9, hI10, hI11, hI12, hI13, hI14⟩ := hI
  refine G_rngl (i := 1) rfl (fun hr1 => ?_)
  refine G_rngl (i := 2) rfl (fun hr2 => ?_)
  refine G_aload (i := 0) (n := 0) (len := 1) (Or.inl ⟨0, rfl, rfl, d_De_make_0⟩) rfl (by decide) (G_pc (pc' := 1) rfl ?_)
  refine G_get (o := 1) (c := 8) (k := 0) (v := 4) d_De_make_1 fl_De_36 rfl (by decide) (by decide) rfl rfl (G_pc (pc' := 4) rfl ?_)
  refine G_iload (i := 1) (n := 1) (len := 1) (Or.inl ⟨1, rfl, rfl, d_De_make_4⟩) rfl (G_pc (pc' := 5) rfl ?_)
  refine G_iload (i := 2) (n := 2) (len := 1) (Or.inl ⟨2, rfl, rfl, d_De_make_5⟩) rfl (G_pc (pc' := 6) rfl ?_)
  refine G_callV (K1 := KE) (d2 := 2) (o := 4) (cl := 6) (as := [vi k, vi l]) (rest := []) d_De_make_6 mf_Ta_create ml_De_56 rfl rfl (by decide) rfl rfl (Nat.le_of_ble_eq_true rfl) (by omega) ⟨Nat.le_refl _, Nat.le_refl _⟩ (g_Ta_create (by omega) k l M hT hI0 ) (fun r1 M2 kq3 q3 => ?_)
  clear kq3
  by_cases hk4 : makeOK M k l
  · skip
    obtain ⟨q3a, q3b⟩ := q3.1 hk4; subst r1; subst M2
    refine G_ps (pc' := 9) (st' := [vi (M 55 5 + 1)]) rfl rfl ?_
    refine G_iret d_De_make_9 rfl (tokI (by omega)) rfl rfl ?_
    exact ⟨fun _ => ⟨rfl, rfl⟩, fun h => absurd hk4 h⟩
  · skip
    obtain ⟨q3a, q3b⟩ := q3.2 hk4; subst r1; subst M2
    refine G_ps (pc' := 9) (st' := [vi (-1)]) rfl rfl ?_
    refine G_iret d_De_make_9 rfl (tokI (by decide)) rfl rfl ?_
    exact ⟨fun h => absurd h hk4, fun _ => ⟨rfl, rfl⟩⟩

theorem d_De_setVariable_0 : decode b_De_setVariable 0 = .ok (.aload_n 0, 1) := by decide +kernel
theorem d_De_setVariable_1 : decode b_De_setVariable 1 = .ok (.getfield 36, 3) := by decide +kernel
theorem d_De_setVariable_4 : decode b_De_setVariable 4 = .ok (.iload_n 1, 1) := by decide +kernel
theorem d_De_setVariable_5 : decode b_De_setVariable 5 = .ok (.lload_n 2, 1) := by decide +kernel
theorem d_De_setVariable_6 : decode b_De_setVariable 6 = .ok (.invokevirtual 60, 3) := by decide +kernel
theorem d_De_setVariable_9 : decode b_De_setVariable 9 = .ok (.ireturn, 1) := by decide +kernel
theorem g_De_setVariable {X : WX} {d : Nat} (hd : 4 ≤ d) (n v : Int) (M : Mem) (hT : RT M) (hI : TI M) : MG X gt d KE KE y_De_setVariable b_De_setVariable 4 (some .boolean) [vr 1, vi n, vl v] M (fun r M' => (setVarOK M n v → r = some (vi 1) ∧ M' = (mset M 8 n v)) ∧ (¬ setVarOK M n v → r = some (vi 0) ∧ M' = M)) := by
  refine MG_of_G (by decide) (Nat.le_of_ble_eq_true rfl) (Nat.le_refl _) (by decide) ?_
  show G X gt d KE KE y_De_setVariable b_De_setVariable 4 (some .boolean) _ 0 [(0, vr 1), (1, vi n), (2, vl v)] [] KE M
  have hI0 := hI
  obtain ⟨hI1, hI2, hI3, hI4, hI5, hI6, hI7, hI8, hI9, hI10, hI11, hI12, hI13, hI14⟩ := hI
  refine G_rngl (i := 1) rfl (fun hr1 => ?_)
  refine G_rngL (i := 2) rfl (fun hr2 => ?_)
  refine G_aload (i := 0) (n := 0) (len := 1) (Or.inl ⟨0, rfl, rfl, d_De_setVariable_0⟩) rfl (by decide) (G_pc (pc' := 1) rfl ?_)
  refine G_get (o := 1) (c := 8) (k := 0) (v := 4) d_De_setVariable_1 fl_De_36 rfl (by decide) (by decide) rfl rfl (G_pc (pc' := 4) rfl ?_)
  refine G_iload (i := 1) (n := 1) (len := 1) (Or.inl ⟨1, rfl, rfl, d_De_setVariable_4⟩) rfl (G_pc (pc' := 5) rfl ?_)
  refine G_lload (i := 2) (n := 2) (len := 1) (Or.inl ⟨2, rfl, rfl, d_De_setVariable_5⟩) rfl (G_pc (pc' := 6) rfl ?_)
  refine G_callV (K1 := KE) (d2 := 3) (o := 4) (cl := 6) (as := [vi n, vl v]) (rest := []) d_De_setVariable_6 mf_Ta_storeVariable ml_De_60 rfl rfl (by decide) rfl rfl (Nat.le_of_ble_eq_true rfl) (by omega) ⟨Nat.le_refl _, Nat.le_refl _⟩ (g_Ta_storeVariable (by omega) n v M hT hI0 ) (fun r1 M2 kq3 q3 => ?_)
  clear kq3
  by_cases hk4 : setVarOK M n v
  · skip
    obtain ⟨q3a, q3b⟩ := q3.1 hk4; subst r1; subst M2
    refine G_ps (pc' := 9) (st' := [vi 1]) rfl rfl ?_
    refine G_iret d_De_setVariable_9 rfl (tokZ (by decide)) rfl rfl ?_
    exact ⟨fun _ => ⟨rfl, rfl⟩, fun h => absurd hk4 h⟩
  · skip
    obtain ⟨q3a, q3b⟩ := q3.2 hk4; subst r1; subst M2
    refine G_ps (pc' := 9) (st' := [vi 0]) rfl rfl ?_
    refine G_iret d_De_setVariable_9 rfl (tokZ (by decide)) rfl rfl ?_
    exact ⟨fun h => absurd h hk4, fun _ => ⟨rfl, rfl⟩⟩

theorem d_De_setPart_0 : decode b_De_setPart 0 = .ok (.aload_n 0, 1) := by decide +kernel
theorem d_De_setPart_1 : decode b_De_setPart 1 = .ok (.getfield 36, 3) := by decide +kernel
theorem d_De_setPart_4 : decode b_De_setPart 4 = .ok (.iload_n 1, 1) := by decide +kernel
theorem d_De_setPart_5 : decode b_De_setPart 5 = .ok (.iload_n 2, 1) := by decide +kernel
theorem d_De_setPart_6 : decode b_De_setPart 6 = .ok (.lload_n 3, 1) := by decide +kernel
theorem d_De_setPart_7 : decode b_De_setPart 7 = .ok (.invokevirtual 64, 3) := by decide +kernel
theorem d_De_setPart_10 : decode b_De_setPart 10 = .ok (.ireturn, 1) := by decide +kernel
theorem g_De_setPart {X : WX} {d : Nat} (hd : 4 ≤ d) (o p v : Int) (M : Mem) (hT : RT M) (hI : TI M) : MG X gt d KE KE y_De_setPart b_De_setPart 5 (some .boolean) [vr 1, vi o, vi p, vl v] M (fun r M' => (setPartOK M o p v → r = some (vi 1) ∧ M' = (mset M 8 (28 * o + p) v)) ∧ (¬ setPartOK M o p v → r = some (vi 0) ∧ M' = M)) := by
  refine MG_of_G (by decide) (Nat.le_of_ble_eq_true rfl) (Nat.le_refl _) (by decide) ?_
  show G X gt d KE KE y_De_setPart b_De_setPart 5 (some .boolean) _ 0 [(0, vr 1), (1, vi o), (2, vi p), (3, vl v)] [] KE M
  have hI0 := hI
  obtain ⟨hI1, hI2, hI3, hI4, hI5, hI6, hI7, hI8, hI9, hI10, hI11, hI12, hI13, hI14⟩ := hI
  refine G_rngl (i := 1) rfl (fun hr1 => ?_)
  refine G_rngl (i := 2) rfl (fun hr2 => ?_)
  refine G_rngL (i := 3) rfl (fun hr3 => ?_)
  refine G_aload (i := 0) (n := 0) (len := 1) (Or.inl ⟨0, rfl, rfl, d_De_setPart_0⟩) rfl (by decide) (G_pc (pc' := 1) rfl ?_)
  refine G_get (o := 1) (c := 8) (k := 0) (v := 4) d_De_setPart_1 fl_De_36 rfl (by decide) (by decide) rfl rfl (G_pc (pc' := 4) rfl ?_)
  refine G_iload (i := 1) (n := 1) (len := 1) (Or.inl ⟨1, rfl, rfl, d_De_setPart_4⟩) rfl (G_pc (pc' := 5) rfl ?_)
  refine G_iload (i := 2) (n := 2) (len := 1) (Or.inl ⟨2, rfl, rfl, d_De_setPart_5⟩) rfl (G_pc (pc' := 6) rfl ?_)
  refine G_lload (i := 3) (n := 3) (len := 1) (Or.inl ⟨3, rfl, rfl, d_De_setPart_6⟩) rfl (G_pc (pc' := 7) rfl ?_)
  refine G_callV (K1 := KE) (d2 := 3) (o := 4) (cl := 6) (as := [vi o, vi p, vl v]) (rest := []) d_De_setPart_7 mf_Ta_storePart ml_De_64 rfl rfl (by decide) rfl rfl (Nat.le_of_ble_eq_true rfl) (by omega) ⟨Nat.le_refl _, Nat.le_refl _⟩ (g_Ta_storePart (by omega) o p v M hT hI0 ) (fun r1 M2 kq3 q3 => ?_)
  clear kq3
  by_cases hk4 : setPartOK M o p v
  · skip
    obtain ⟨q3a, q3b⟩ := q3.1 hk4; subst r1; subst M2
    refine G_ps (pc' := 10) (st' := [vi 1]) rfl rfl ?_
    refine G_iret d_De_setPart_10 rfl (tokZ (by decide)) rfl rfl ?_
    exact ⟨fun _ => ⟨rfl, rfl⟩, fun h => absurd hk4 h⟩
  · skip
    obtain ⟨q3a, q3b⟩ := q3.2 hk4; subst r1; subst M2
    refine G_ps (pc' := 10) (st' := [vi 0]) rfl rfl ?_
    refine G_iret d_De_setPart_10 rfl (tokZ (by decide)) rfl rfl ?_
    exact ⟨fun h => absurd h hk4, fun _ => ⟨rfl, rfl⟩⟩

