theorem rd_2 {M : Mem} {e : Nat} (he : e < 4) : rd gt M 2 (e : Int) = ((19 + 9 * e : Nat) : Int) := e4 (P := fun e => rd gt M 2 (e : Int) = ((19 + 9 * e : Nat) : Int)) rfl rfl rfl rfl he
theorem d_De_isEvaluation_0 : decode b_De_isEvaluation 0 = .ok (.iload_n 0, 1) := by decide +kernel
theorem d_De_isEvaluation_1 : decode b_De_isEvaluation 1 = .ok (.ifCond .lt 12, 3) := by decide +kernel
theorem d_De_isEvaluation_4 : decode b_De_isEvaluation 4 = .ok (.iload_n 0, 1) := by decide +kernel
theorem d_De_isEvaluation_5 : decode b_De_isEvaluation 5 = .ok (.iconst 4, 1) := by decide +kernel
theorem d_De_isEvaluation_6 : decode b_De_isEvaluation 6 = .ok (.if_icmp .ge 7, 3) := by decide +kernel
theorem d_De_isEvaluation_9 : decode b_De_isEvaluation 9 = .ok (.iconst 1, 1) := by decide +kernel
theorem d_De_isEvaluation_10 : decode b_De_isEvaluation 10 = .ok (.goto 4, 3) := by decide +kernel
theorem d_De_isEvaluation_13 : decode b_De_isEvaluation 13 = .ok (.iconst 0, 1) := by decide +kernel
theorem d_De_isEvaluation_14 : decode b_De_isEvaluation 14 = .ok (.ireturn, 1) := by decide +kernel
theorem g_De_isEvaluation {X : WX} {d : Nat} (hd : 0 ≤ d) (z : Int) (M : Mem)  : MG X gt d KE KE y_De_isEvaluation b_De_isEvaluation 1 (some .boolean) [vi z] M (fun r M' => r = some (vi (b2i (decide (0 ≤ z ∧ z < 4)))) ∧ M' = M) := by
  refine MG_of_G (by decide) (Nat.le_of_ble_eq_true rfl) (Nat.le_refl _) (by decide) ?_
  show G X gt d KE KE y_De_isEvaluation b_De_isEvaluation 1 (some .boolean) _ 0 [(0, vi z)] [] KE M
  refine G_rngl (i := 0) rfl (fun hr0 => ?_)
  refine G_iload (i := 0) (n := 0) (len := 1) (Or.inl ⟨0, rfl, rfl, d_De_isEvaluation_0⟩) rfl (G_pc (pc' := 1) rfl ?_)
  refine G_if_lt (tgt := 13) d_De_isEvaluation_1 (by decide) (fun h1 => ?_) (fun h1 => G_pc (pc' := 4) rfl ?_)
  · skip
    refine G_iconst (n := 0) d_De_isEvaluation_13 (by decide) (G_pc (pc' := 14) rfl ?_)
    refine G_iret d_De_isEvaluation_14 rfl (tokZ (by decide)) rfl rfl ?_
    exact ret_f (decide_eq_false (by omega)) rfl
  · skip
    refine G_iload (i := 0) (n := 0) (len := 1) (Or.inl ⟨0, rfl, rfl, d_De_isEvaluation_4⟩) rfl (G_pc (pc' := 5) rfl ?_)
    refine G_iconst (n := 4) d_De_isEvaluation_5 (by decide) (G_pc (pc' := 6) rfl ?_)
    refine G_icmp_ge (tgt := 13) d_De_isEvaluation_6 (by decide) (fun h2 => ?_) (fun h2 => G_pc (pc' := 9) rfl ?_)
    · skip
      refine G_iconst (n := 0) d_De_isEvaluation_13 (by decide) (G_pc (pc' := 14) rfl ?_)
      refine G_iret d_De_isEvaluation_14 rfl (tokZ (by decide)) rfl rfl ?_
      exact ret_f (decide_eq_false (by omega)) rfl
    · skip
      refine G_iconst (n := 1) d_De_isEvaluation_9 (by decide) (G_pc (pc' := 10) rfl ?_)
      refine G_goto (tgt := 14) d_De_isEvaluation_10 (by decide) ?_
      refine G_iret d_De_isEvaluation_14 rfl (tokZ (by decide)) rfl rfl ?_
      exact ret_t (decide_eq_true (by omega)) rfl

theorem d_De_look_0 : decode b_De_look 0 = .ok (.iload_n 1, 1) := by decide +kernel
theorem d_De_look_1 : decode b_De_look 1 = .ok (.invokestatic 81, 3) := by decide +kernel
theorem d_De_look_4 : decode b_De_look 4 = .ok (.ifCond .ne 5, 3) := by decide +kernel
theorem d_De_look_7 : decode b_De_look 7 = .ok (.iconst (-1), 1) := by decide +kernel
theorem d_De_look_8 : decode b_De_look 8 = .ok (.ireturn, 1) := by decide +kernel
theorem d_De_look_9 : decode b_De_look 9 = .ok (.iload_n 2, 1) := by decide +kernel
theorem d_De_look_10 : decode b_De_look 10 = .ok (.tableswitch 56 0 2 #[26, 36, 46], 26) := by decide +kernel
theorem d_De_look_36 : decode b_De_look 36 = .ok (.aload_n 0, 1) := by decide +kernel
theorem d_De_look_37 : decode b_De_look 37 = .ok (.getfield 11, 3) := by decide +kernel
theorem d_De_look_40 : decode b_De_look 40 = .ok (.iload_n 1, 1) := by decide +kernel
theorem d_De_look_41 : decode b_De_look 41 = .ok (.aaload, 1) := by decide +kernel
theorem d_De_look_42 : decode b_De_look 42 = .ok (.invokevirtual 97, 3) := by decide +kernel
theorem d_De_look_45 : decode b_De_look 45 = .ok (.ireturn, 1) := by decide +kernel
theorem d_De_look_46 : decode b_De_look 46 = .ok (.aload_n 0, 1) := by decide +kernel
theorem d_De_look_47 : decode b_De_look 47 = .ok (.getfield 11, 3) := by decide +kernel
theorem d_De_look_50 : decode b_De_look 50 = .ok (.iload_n 1, 1) := by decide +kernel
theorem d_De_look_51 : decode b_De_look 51 = .ok (.aaload, 1) := by decide +kernel
theorem d_De_look_52 : decode b_De_look 52 = .ok (.invokevirtual 127, 3) := by decide +kernel
theorem d_De_look_55 : decode b_De_look 55 = .ok (.ireturn, 1) := by decide +kernel
theorem d_De_look_56 : decode b_De_look 56 = .ok (.aload_n 0, 1) := by decide +kernel
theorem d_De_look_57 : decode b_De_look 57 = .ok (.getfield 11, 3) := by decide +kernel
theorem d_De_look_60 : decode b_De_look 60 = .ok (.iload_n 1, 1) := by decide +kernel
theorem d_De_look_61 : decode b_De_look 61 = .ok (.aaload, 1) := by decide +kernel
theorem d_De_look_62 : decode b_De_look 62 = .ok (.invokevirtual 130, 3) := by decide +kernel
theorem d_De_look_65 : decode b_De_look 65 = .ok (.ireturn, 1) := by decide +kernel
theorem d_De_look_66 : decode b_De_look 66 = .ok (.iconst (-1), 1) := by decide +kernel
theorem d_De_look_67 : decode b_De_look 67 = .ok (.ireturn, 1) := by decide +kernel
theorem g_De_look {X : WX} {d : Nat} (hd : 1 ≤ d) (e : Nat) (w : Int) (M : Mem) (he : e < 4) : MG X gt d KE KE y_De_look b_De_look 3 (some .int) [vr 1, vi (e : Int), vi w] M (fun r M' => r = some (vi (if w = 0 then M (19 + 9 * e) 7 else if w = 1 then M (19 + 9 * e) 8 else if w = 2 then M (19 + 9 * e) 9 else -1)) ∧ M' = M) := by
  refine MG_of_G (by decide) (Nat.le_of_ble_eq_true rfl) (Nat.le_refl _) (by decide) ?_
  show G X gt d KE KE y_De_look b_De_look 3 (some .int) _ 0 [(0, vr 1), (1, vi (e : Int)), (2, vi w)] [] KE M
  refine G_mem (fun hmo _ => ?_)
  have t7 := tok_i (Eq.mp (congrArg (tok .int) (show rd gt M (19 + 9 * e) ((7 : Nat) : Int) = M (19 + 9 * e) 7 from (rdw (gn_Ev he (by decide)) rfl))) (hmo (19 + 9 * e) (by omega) (by show 19 + 9 * e < 87; omega) 1 (kd_Ev he) 7 (by decide)))
  have t8 := tok_i (Eq.mp (congrArg (tok .int) (show rd gt M (19 + 9 * e) ((8 : Nat) : Int) = M (19 + 9 * e) 8 from (rdw (gn_Ev he (by decide)) rfl))) (hmo (19 + 9 * e) (by omega) (by show 19 + 9 * e < 87; omega) 1 (kd_Ev he) 8 (by decide)))
  have t9 := tok_i (Eq.mp (congrArg (tok .int) (show rd gt M (19 + 9 * e) ((9 : Nat) : Int) = M (19 + 9 * e) 9 from (rdw (gn_Ev he (by decide)) rfl))) (hmo (19 + 9 * e) (by omega) (by show 19 + 9 * e < 87; omega) 1 (kd_Ev he) 9 (by decide)))
  clear hmo
  refine G_rngl (i := 1) rfl (fun hr1 => ?_)
  refine G_rngl (i := 2) rfl (fun hr2 => ?_)
  refine G_iload (i := 1) (n := 1) (len := 1) (Or.inl ⟨1, rfl, rfl, d_De_look_0⟩) rfl (G_pc (pc' := 1) rfl ?_)
  refine G_callS (K1 := KE) (d2 := 0) (as := [vi (e : Int)]) (rest := []) d_De_look_1 mf_De_isEvaluation ml_De_81 rfl rfl (Nat.le_of_ble_eq_true rfl) (by omega) ⟨Nat.le_refl _, Nat.le_refl _⟩ (g_De_isEvaluation (by omega) (e : Int) _) (fun r1 M2 kq3 q3 => ?_)
  clear kq3; obtain ⟨q3a, q3b⟩ := q3; subst r1; subst M2
  refine G_ps (pc' := 4) (st' := [vi (b2i (decide (0 ≤ (e : Int) ∧ (e : Int) < 4)))]) rfl rfl ?_
  refine G_if_ne (tgt := 9) d_De_look_4 (by decide) (fun h4 => ?_) (fun h4 => G_pc (pc' := 7) rfl ?_)
  · skip
    replace h4 := b2i_nz.mp h4
    replace h4 := of_decide_eq_true h4
    refine G_iload (i := 2) (n := 2) (len := 1) (Or.inl ⟨2, rfl, rfl, d_De_look_9⟩) rfl (G_pc (pc' := 10) rfl ?_)
    by_cases h5 : w = 0
    · skip
      have e6o : (#[26, 36, 46] : Array Int)[(w - 0).toNat]? = some 26 := by rw [h5]; rfl
      refine G_tableIn (off := 26) (tgt := 36) d_De_look_10 (by omega) e6o (by decide) ?_
      refine G_aload (i := 0) (n := 0) (len := 1) (Or.inl ⟨0, rfl, rfl, d_De_look_36⟩) rfl (by decide) (G_pc (pc' := 37) rfl ?_)
      refine G_get (o := 1) (c := 8) (k := 2) (v := 2) d_De_look_37 fl_De_11 rfl (by decide) (by decide) rfl rfl (G_pc (pc' := 40) rfl ?_)
      refine G_iload (i := 1) (n := 1) (len := 1) (Or.inl ⟨1, rfl, rfl, d_De_look_40⟩) rfl (G_pc (pc' := 41) rfl ?_)
      refine G_aaload (o := 2) (n := 4) (i := (e : Int)) (v := ((19 + 9 * e : Nat) : Int)) d_De_look_41 rfl ⟨by decide, by decide⟩ (by omega) (rd_2 (by omega)) (G_pc (pc' := 42) rfl ?_)
      refine G_callV (K1 := KE) (d2 := 0) (o := (19 + 9 * e)) (cl := 1) (as := []) (rest := []) d_De_look_42 mf_Ev_state ml_De_97 (kd_Ev he) rfl (by show 19 + 9 * e < 87; omega) rfl rfl (Nat.le_of_ble_eq_true rfl) (by omega) ⟨Nat.le_refl _, Nat.le_refl _⟩ (g_Ev_state (by omega) e  _ he) (fun r7 M8 kq9 q9 => ?_)
      clear kq9; obtain ⟨q9a, q9b⟩ := q9; subst r7; subst M8
      refine G_ps (pc' := 45) (st' := [vi (M (19 + 9 * e) 7)]) rfl rfl ?_
      refine G_iret d_De_look_45 rfl (tokI (by omega)) rfl rfl ?_
      first | (exfalso; omega) | exact ret_e (by first | (rw [if_pos (by omega)]; done) | (rw [if_neg (by omega), if_pos (by omega)]; done) | (rw [if_neg (by omega), if_neg (by omega), if_pos (by omega)]; done) | (rw [if_neg (by omega), if_neg (by omega), if_neg (by omega)]; done)) rfl
    by_cases h5 : w = 1
    · skip
      have e10o : (#[26, 36, 46] : Array Int)[(w - 0).toNat]? = some 36 := by rw [h5]; rfl
      refine G_tableIn (off := 36) (tgt := 46) d_De_look_10 (by omega) e10o (by decide) ?_
      refine G_aload (i := 0) (n := 0) (len := 1) (Or.inl ⟨0, rfl, rfl, d_De_look_46⟩) rfl (by decide) (G_pc (pc' := 47) rfl ?_)
      refine G_get (o := 1) (c := 8) (k := 2) (v := 2) d_De_look_47 fl_De_11 rfl (by decide) (by decide) rfl rfl (G_pc (pc' := 50) rfl ?_)
      refine G_iload (i := 1) (n := 1) (len := 1) (Or.inl ⟨1, rfl, rfl, d_De_look_50⟩) rfl (G_pc (pc' := 51) rfl ?_)
      refine G_aaload (o := 2) (n := 4) (i := (e : Int)) (v := ((19 + 9 * e : Nat) : Int)) d_De_look_51 rfl ⟨by decide, by decide⟩ (by omega) (rd_2 (by omega)) (G_pc (pc' := 52) rfl ?_)
      refine G_callV (K1 := KE) (d2 := 0) (o := (19 + 9 * e)) (cl := 1) (as := []) (rest := []) d_De_look_52 mf_Ev_kind ml_De_127 (kd_Ev he) rfl (by show 19 + 9 * e < 87; omega) rfl rfl (Nat.le_of_ble_eq_true rfl) (by omega) ⟨Nat.le_refl _, Nat.le_refl _⟩ (g_Ev_kind (by omega) e  _ he) (fun r11 M12 kq13 q13 => ?_)
      clear kq13; obtain ⟨q13a, q13b⟩ := q13; subst r11; subst M12
      refine G_ps (pc' := 55) (st' := [vi (M (19 + 9 * e) 8)]) rfl rfl ?_
      refine G_iret d_De_look_55 rfl (tokI (by omega)) rfl rfl ?_
      first | (exfalso; omega) | exact ret_e (by first | (rw [if_pos (by omega)]; done) | (rw [if_neg (by omega), if_pos (by omega)]; done) | (rw [if_neg (by omega), if_neg (by omega), if_pos (by omega)]; done) | (rw [if_neg (by omega), if_neg (by omega), if_neg (by omega)]; done)) rfl
    by_cases h5 : w = 2
    · skip
      have e14o : (#[26, 36, 46] : Array Int)[(w - 0).toNat]? = some 46 := by rw [h5]; rfl
      refine G_tableIn (off := 46) (tgt := 56) d_De_look_10 (by omega) e14o (by decide) ?_
      refine G_aload (i := 0) (n := 0) (len := 1) (Or.inl ⟨0, rfl, rfl, d_De_look_56⟩) rfl (by decide) (G_pc (pc' := 57) rfl ?_)
      refine G_get (o := 1) (c := 8) (k := 2) (v := 2) d_De_look_57 fl_De_11 rfl (by decide) (by decide) rfl rfl (G_pc (pc' := 60) rfl ?_)
      refine G_iload (i := 1) (n := 1) (len := 1) (Or.inl ⟨1, rfl, rfl, d_De_look_60⟩) rfl (G_pc (pc' := 61) rfl ?_)
      refine G_aaload (o := 2) (n := 4) (i := (e : Int)) (v := ((19 + 9 * e : Nat) : Int)) d_De_look_61 rfl ⟨by decide, by decide⟩ (by omega) (rd_2 (by omega)) (G_pc (pc' := 62) rfl ?_)
      refine G_callV (K1 := KE) (d2 := 0) (o := (19 + 9 * e)) (cl := 1) (as := []) (rest := []) d_De_look_62 mf_Ev_exception ml_De_130 (kd_Ev he) rfl (by show 19 + 9 * e < 87; omega) rfl rfl (Nat.le_of_ble_eq_true rfl) (by omega) ⟨Nat.le_refl _, Nat.le_refl _⟩ (g_Ev_exception (by omega) e  _ he) (fun r15 M16 kq17 q17 => ?_)
      clear kq17; obtain ⟨q17a, q17b⟩ := q17; subst r15; subst M16
      refine G_ps (pc' := 65) (st' := [vi (M (19 + 9 * e) 9)]) rfl rfl ?_
      refine G_iret d_De_look_65 rfl (tokI (by omega)) rfl rfl ?_
      first | (exfalso; omega) | exact ret_e (by first | (rw [if_pos (by omega)]; done) | (rw [if_neg (by omega), if_pos (by omega)]; done) | (rw [if_neg (by omega), if_neg (by omega), if_pos (by omega)]; done) | (rw [if_neg (by omega), if_neg (by omega), if_neg (by omega)]; done)) rfl
    refine G_tableOut (tgt := 66) d_De_look_10 (by omega) (by decide) ?_
    refine G_iconst (n := (-1)) d_De_look_66 (by decide) (G_pc (pc' := 67) rfl ?_)
    refine G_iret d_De_look_67 rfl (tokI (by decide)) rfl rfl ?_
    first | (exfalso; omega) | exact ret_e (by first | (rw [if_pos (by omega)]; done) | (rw [if_neg (by omega), if_pos (by omega)]; done) | (rw [if_neg (by omega), if_neg (by omega), if_pos (by omega)]; done) | (rw [if_neg (by omega), if_neg (by omega), if_neg (by omega)]; done)) rfl
  · skip
    replace h4 := b2i_0.mp h4
    replace h4 := of_decide_eq_false h4
    refine G_iconst (n := (-1)) d_De_look_7 (by decide) (G_pc (pc' := 8) rfl ?_)
    refine G_iret d_De_look_8 rfl (tokI (by decide)) rfl rfl ?_
    first | (exfalso; omega) | exact ret_e (by first | (rw [if_pos (by omega)]; done) | (rw [if_neg (by omega), if_pos (by omega)]; done) | (rw [if_neg (by omega), if_neg (by omega), if_pos (by omega)]; done) | (rw [if_neg (by omega), if_neg (by omega), if_neg (by omega)]; done)) rfl

theorem d_De_value_0 : decode b_De_value 0 = .ok (.iload_n 1, 1) := by decide +kernel
theorem d_De_value_1 : decode b_De_value 1 = .ok (.invokestatic 81, 3) := by decide +kernel
theorem d_De_value_4 : decode b_De_value 4 = .ok (.ifCond .eq 15, 3) := by decide +kernel
theorem d_De_value_7 : decode b_De_value 7 = .ok (.aload_n 0, 1) := by decide +kernel
theorem d_De_value_8 : decode b_De_value 8 = .ok (.getfield 11, 3) := by decide +kernel
theorem d_De_value_11 : decode b_De_value 11 = .ok (.iload_n 1, 1) := by decide +kernel
theorem d_De_value_12 : decode b_De_value 12 = .ok (.aaload, 1) := by decide +kernel
theorem d_De_value_13 : decode b_De_value 13 = .ok (.invokevirtual 133, 3) := by decide +kernel
theorem d_De_value_16 : decode b_De_value 16 = .ok (.goto 4, 3) := by decide +kernel
theorem d_De_value_19 : decode b_De_value 19 = .ok (.lconst 0, 1) := by decide +kernel
theorem d_De_value_20 : decode b_De_value 20 = .ok (.lreturn, 1) := by decide +kernel
theorem g_De_value {X : WX} {d : Nat} (hd : 2 ≤ d) (e : Nat) (M : Mem) (he : e < 4) (hs : M (19 + 9 * e) 7 = 2 → 1 ≤ M (20 + 9 * e) 6 ∧ M (20 + 9 * e) 6 ≤ 48) : MG X gt d KE KE y_De_value b_De_value 2 (some .long) [vr 1, vi (e : Int)] M (fun r M' => r = some (vl (if M (19 + 9 * e) 7 = 2 then M (26 + 9 * e) (M (20 + 9 * e) 6 - 1) else 0)) ∧ M' = M) := by
  refine MG_of_G (by decide) (Nat.le_of_ble_eq_true rfl) (Nat.le_refl _) (by decide) ?_
  show G X gt d KE KE y_De_value b_De_value 2 (some .long) _ 0 [(0, vr 1), (1, vi (e : Int))] [] KE M
  refine G_rngl (i := 1) rfl (fun hr1 => ?_)
  refine G_iload (i := 1) (n := 1) (len := 1) (Or.inl ⟨1, rfl, rfl, d_De_value_0⟩) rfl (G_pc (pc' := 1) rfl ?_)
  refine G_callS (K1 := KE) (d2 := 0) (as := [vi (e : Int)]) (rest := []) d_De_value_1 mf_De_isEvaluation ml_De_81 rfl rfl (Nat.le_of_ble_eq_true rfl) (by omega) ⟨Nat.le_refl _, Nat.le_refl _⟩ (g_De_isEvaluation (by omega) (e : Int) _) (fun r1 M2 kq3 q3 => ?_)
  clear kq3; obtain ⟨q3a, q3b⟩ := q3; subst r1; subst M2
  refine G_ps (pc' := 4) (st' := [vi (b2i (decide (0 ≤ (e : Int) ∧ (e : Int) < 4)))]) rfl rfl ?_
  refine G_if_eq (tgt := 19) d_De_value_4 (by decide) (fun h4 => ?_) (fun h4 => G_pc (pc' := 7) rfl ?_)
  · skip
    replace h4 := b2i_0.mp h4
    replace h4 := of_decide_eq_false h4
    refine G_lconst0 d_De_value_19 (G_pc (pc' := 20) rfl ?_)
    refine G_lret d_De_value_20 rfl rfl ?_
    first | (exfalso; omega) | exact ret_l rfl rfl
  · skip
    replace h4 := b2i_nz.mp h4
    replace h4 := of_decide_eq_true h4
    refine G_aload (i := 0) (n := 0) (len := 1) (Or.inl ⟨0, rfl, rfl, d_De_value_7⟩) rfl (by decide) (G_pc (pc' := 8) rfl ?_)
    refine G_get (o := 1) (c := 8) (k := 2) (v := 2) d_De_value_8 fl_De_11 rfl (by decide) (by decide) rfl rfl (G_pc (pc' := 11) rfl ?_)
    refine G_iload (i := 1) (n := 1) (len := 1) (Or.inl ⟨1, rfl, rfl, d_De_value_11⟩) rfl (G_pc (pc' := 12) rfl ?_)
    refine G_aaload (o := 2) (n := 4) (i := (e : Int)) (v := ((19 + 9 * e : Nat) : Int)) d_De_value_12 rfl ⟨by decide, by decide⟩ (by omega) (rd_2 (by omega)) (G_pc (pc' := 13) rfl ?_)
    refine G_callV (K1 := KE) (d2 := 1) (o := (19 + 9 * e)) (cl := 1) (as := []) (rest := []) d_De_value_13 mf_Ev_result ml_De_133 (kd_Ev he) rfl (by show 19 + 9 * e < 87; omega) rfl rfl (Nat.le_of_ble_eq_true rfl) (by omega) ⟨Nat.le_refl _, Nat.le_refl _⟩ (g_Ev_result (by omega) e  _ he hs) (fun r5 M6 kq7 q7 => ?_)
    clear kq7; obtain ⟨q7a, q7b⟩ := q7; subst r5; subst M6
    refine G_ps (pc' := 16) (st' := [vl (if M (19 + 9 * e) 7 = 2 then M (26 + 9 * e) (M (20 + 9 * e) 6 - 1) else 0)]) rfl rfl ?_
    refine G_goto (tgt := 20) d_De_value_16 (by decide) ?_
    refine G_lret d_De_value_20 rfl rfl ?_
    first | (exfalso; omega) | exact ret_l rfl rfl

def putDOK (M : Mem) (c : Int) : Prop := 32 ≤ c ∧ c ≤ 126 ∧ ¬ M 1 4 = 40
theorem d_De_put_0 : decode b_De_put 0 = .ok (.iload_n 1, 1) := by decide +kernel
theorem d_De_put_1 : decode b_De_put 1 = .ok (.bipush 32, 2) := by decide +kernel
theorem d_De_put_3 : decode b_De_put 3 = .ok (.if_icmp .lt 18, 3) := by decide +kernel
theorem d_De_put_6 : decode b_De_put 6 = .ok (.iload_n 1, 1) := by decide +kernel
theorem d_De_put_7 : decode b_De_put 7 = .ok (.bipush 126, 2) := by decide +kernel
theorem d_De_put_9 : decode b_De_put 9 = .ok (.if_icmp .gt 12, 3) := by decide +kernel
theorem d_De_put_12 : decode b_De_put 12 = .ok (.aload_n 0, 1) := by decide +kernel
theorem d_De_put_13 : decode b_De_put 13 = .ok (.getfield 77, 3) := by decide +kernel
theorem d_De_put_16 : decode b_De_put 16 = .ok (.bipush 40, 2) := by decide +kernel
theorem d_De_put_18 : decode b_De_put 18 = .ok (.if_icmp .ne 5, 3) := by decide +kernel
theorem d_De_put_21 : decode b_De_put 21 = .ok (.iconst 0, 1) := by decide +kernel
theorem d_De_put_22 : decode b_De_put 22 = .ok (.ireturn, 1) := by decide +kernel
theorem d_De_put_23 : decode b_De_put 23 = .ok (.aload_n 0, 1) := by decide +kernel
theorem d_De_put_24 : decode b_De_put 24 = .ok (.getfield 15, 3) := by decide +kernel
theorem d_De_put_27 : decode b_De_put 27 = .ok (.aload_n 0, 1) := by decide +kernel
theorem d_De_put_28 : decode b_De_put 28 = .ok (.getfield 77, 3) := by decide +kernel
theorem d_De_put_31 : decode b_De_put 31 = .ok (.iload_n 1, 1) := by decide +kernel
theorem d_De_put_32 : decode b_De_put 32 = .ok (.castore, 1) := by decide +kernel
theorem d_De_put_33 : decode b_De_put 33 = .ok (.aload_n 0, 1) := by decide +kernel
theorem d_De_put_34 : decode b_De_put 34 = .ok (.dup, 1) := by decide +kernel
theorem d_De_put_35 : decode b_De_put 35 = .ok (.getfield 77, 3) := by decide +kernel
theorem d_De_put_38 : decode b_De_put 38 = .ok (.iconst 1, 1) := by decide +kernel
theorem d_De_put_39 : decode b_De_put 39 = .ok (.iadd, 1) := by decide +kernel
theorem d_De_put_40 : decode b_De_put 40 = .ok (.putfield 77, 3) := by decide +kernel
theorem d_De_put_43 : decode b_De_put 43 = .ok (.iconst 1, 1) := by decide +kernel
theorem d_De_put_44 : decode b_De_put 44 = .ok (.ireturn, 1) := by decide +kernel
theorem g_De_put {X : WX} {d : Nat} (hd : 0 ≤ d) (c : Int) (M : Mem) (hl : 0 ≤ M 1 4 ∧ M 1 4 ≤ 40) : MG X gt d KE KE y_De_put b_De_put 2 (some .boolean) [vr 1, vi c] M (fun r M' => (putDOK M c → r = some (vi 1) ∧ M' = mset (mset M 3 (M 1 4) c) 1 4 (M 1 4 + 1)) ∧ (¬ putDOK M c → r = some (vi 0) ∧ M' = M)) := by
  refine MG_of_G (by decide) (Nat.le_of_ble_eq_true rfl) (Nat.le_refl _) (by decide) ?_
  show G X gt d KE KE y_De_put b_De_put 2 (some .boolean) _ 0 [(0, vr 1), (1, vi c)] [] KE M
  refine G_rngl (i := 1) rfl (fun hr1 => ?_)
  refine G_iload (i := 1) (n := 1) (len := 1) (Or.inl ⟨1, rfl, rfl, d_De_put_0⟩) rfl (G_pc (pc' := 1) rfl ?_)
  refine G_bipush (n := 32) d_De_put_1 (by decide) (G_pc (pc' := 3) rfl ?_)
  refine G_icmp_lt (tgt := 21) d_De_put_3 (by decide) (fun h1 => ?_) (fun h1 => G_pc (pc' := 6) rfl ?_)
  · skip
    refine G_iconst (n := 0) d_De_put_21 (by decide) (G_pc (pc' := 22) rfl ?_)
    refine G_iret d_De_put_22 rfl (tokZ (by decide)) rfl rfl ?_
    exact ⟨fun h => absurd h (by rintro ⟨g1, g2, g3⟩; omega), fun _ => ⟨rfl, rfl⟩⟩
  · skip
    refine G_iload (i := 1) (n := 1) (len := 1) (Or.inl ⟨1, rfl, rfl, d_De_put_6⟩) rfl (G_pc (pc' := 7) rfl ?_)
    refine G_bipush (n := 126) d_De_put_7 (by decide) (G_pc (pc' := 9) rfl ?_)
    refine G_icmp_gt (tgt := 21) d_De_put_9 (by decide) (fun h2 => ?_) (fun h2 => G_pc (pc' := 12) rfl ?_)
    · skip
      refine G_iconst (n := 0) d_De_put_21 (by decide) (G_pc (pc' := 22) rfl ?_)
      refine G_iret d_De_put_22 rfl (tokZ (by decide)) rfl rfl ?_
      exact ⟨fun h => absurd h (by rintro ⟨g1, g2, g3⟩; omega), fun _ => ⟨rfl, rfl⟩⟩
    · skip
      refine G_aload (i := 0) (n := 0) (len := 1) (Or.inl ⟨0, rfl, rfl, d_De_put_12⟩) rfl (by decide) (G_pc (pc' := 13) rfl ?_)
      refine G_get (o := 1) (c := 8) (k := 4) (v := M 1 4) d_De_put_13 fl_De_77 rfl (by decide) (by decide) rfl rfl (G_pc (pc' := 16) rfl ?_)
      refine G_bipush (n := 40) d_De_put_16 (by decide) (G_pc (pc' := 18) rfl ?_)
      refine G_icmp_ne (tgt := 23) d_De_put_18 (by decide) (fun h3 => ?_) (fun h3 => G_pc (pc' := 21) rfl ?_)
      · skip
        refine G_aload (i := 0) (n := 0) (len := 1) (Or.inl ⟨0, rfl, rfl, d_De_put_23⟩) rfl (by decide) (G_pc (pc' := 24) rfl ?_)
        refine G_get (o := 1) (c := 8) (k := 3) (v := 3) d_De_put_24 fl_De_15 rfl (by decide) (by decide) rfl rfl (G_pc (pc' := 27) rfl ?_)
        refine G_aload (i := 0) (n := 0) (len := 1) (Or.inl ⟨0, rfl, rfl, d_De_put_27⟩) rfl (by decide) (G_pc (pc' := 28) rfl ?_)
        refine G_get (o := 1) (c := 8) (k := 4) (v := M 1 4) d_De_put_28 fl_De_77 rfl (by decide) (by decide) rfl rfl (G_pc (pc' := 31) rfl ?_)
        refine G_iload (i := 1) (n := 1) (len := 1) (Or.inl ⟨1, rfl, rfl, d_De_put_31⟩) rfl (G_pc (pc' := 32) rfl ?_)
        refine G_castore (o := 3) (n := 40) (i := M 1 4) (x := c) d_De_put_32 rfl ⟨by decide, by decide⟩ (by decide) (gt_arr rfl _) (by omega) (tokC (by omega)) (G_pc (pc' := 33) rfl ?_)
        refine G_aload (i := 0) (n := 0) (len := 1) (Or.inl ⟨0, rfl, rfl, d_De_put_33⟩) rfl (by decide) (G_pc (pc' := 34) rfl ?_)
        refine G_dup d_De_put_34 (fun _ h => by cases h) (G_pc (pc' := 35) rfl ?_)
        refine G_get (o := 1) (c := 8) (k := 4) (v := M 1 4) d_De_put_35 fl_De_77 rfl (by decide) (by decide) rfl rfl (G_pc (pc' := 38) rfl ?_)
        refine G_iconst (n := 1) d_De_put_38 (by decide) (G_pc (pc' := 39) rfl ?_)
        refine G_iadd d_De_put_39 (by omega) (G_pc (pc' := 40) rfl ?_)
        refine G_putL (o := 1) (c := 8) (k := 4) (ki := 4) (x := (M 1 4) + 1) d_De_put_40 fl_De_77 rfl rfl (by decide) (by decide) (by decide) rfl rfl (tokI (by omega)) rfl (G_pc (pc' := 43) rfl ?_)
        refine G_iconst (n := 1) d_De_put_43 (by decide) (G_pc (pc' := 44) rfl ?_)
        refine G_iret d_De_put_44 rfl (tokZ (by decide)) rfl rfl ?_
        exact ⟨fun _ => ⟨rfl, rfl⟩, fun h => absurd ⟨by omega, by omega, by omega⟩ h⟩
      · skip
        refine G_iconst (n := 0) d_De_put_21 (by decide) (G_pc (pc' := 22) rfl ?_)
        refine G_iret d_De_put_22 rfl (tokZ (by decide)) rfl rfl ?_
        exact ⟨fun h => absurd h (by rintro ⟨g1, g2, g3⟩; omega), fun _ => ⟨rfl, rfl⟩⟩

def endN (v : Int) : Nat → Nat → Mem → Mem
  | 0, _, W => W
  | n + 1, i, W => endN v n (i + 1) (if W (19 + 9 * i) 7 = 1 then mset W (19 + 9 * i) 7 v else W)
theorem endN_y {v : Int} {n i : Nat} {W : Mem} (h : W (19 + 9 * i) 7 = 1) : endN v (n + 1) i W = endN v n (i + 1) (mset W (19 + 9 * i) 7 v) := by show endN v n (i + 1) (if W (19 + 9 * i) 7 = 1 then mset W (19 + 9 * i) 7 v else W) = _; rw [if_pos h]
theorem endN_n {v : Int} {n i : Nat} {W : Mem} (h : ¬ W (19 + 9 * i) 7 = 1) : endN v (n + 1) i W = endN v n (i + 1) W := by show endN v n (i + 1) (if W (19 + 9 * i) 7 = 1 then mset W (19 + 9 * i) 7 v else W) = _; rw [if_neg h]
def endD (M : Mem) (v : Int) : Mem := endN v 4 0 (fillM (mset M 9 3 0) 10 13 0)
theorem d_De_endWaiting_0 : decode b_De_endWaiting 0 = .ok (.aload_n 0, 1) := by decide +kernel
theorem d_De_endWaiting_1 : decode b_De_endWaiting 1 = .ok (.getfield 40, 3) := by decide +kernel
theorem d_De_endWaiting_4 : decode b_De_endWaiting 4 = .ok (.invokevirtual 146, 3) := by decide +kernel
theorem d_De_endWaiting_7 : decode b_De_endWaiting 7 = .ok (.iconst 0, 1) := by decide +kernel
theorem d_De_endWaiting_8 : decode b_De_endWaiting 8 = .ok (.istore_n 2, 1) := by decide +kernel
theorem d_De_endWaiting_9 : decode b_De_endWaiting 9 = .ok (.iload_n 2, 1) := by decide +kernel
theorem d_De_endWaiting_10 : decode b_De_endWaiting 10 = .ok (.iconst 4, 1) := by decide +kernel
theorem d_De_endWaiting_11 : decode b_De_endWaiting 11 = .ok (.if_icmp .ge 32, 3) := by decide +kernel
theorem d_De_endWaiting_14 : decode b_De_endWaiting 14 = .ok (.aload_n 0, 1) := by decide +kernel
theorem d_De_endWaiting_15 : decode b_De_endWaiting 15 = .ok (.getfield 11, 3) := by decide +kernel
theorem d_De_endWaiting_18 : decode b_De_endWaiting 18 = .ok (.iload_n 2, 1) := by decide +kernel
theorem d_De_endWaiting_19 : decode b_De_endWaiting 19 = .ok (.aaload, 1) := by decide +kernel
theorem d_De_endWaiting_20 : decode b_De_endWaiting 20 = .ok (.invokevirtual 97, 3) := by decide +kernel
theorem d_De_endWaiting_23 : decode b_De_endWaiting 23 = .ok (.iconst 1, 1) := by decide +kernel
theorem d_De_endWaiting_24 : decode b_De_endWaiting 24 = .ok (.if_icmp .ne 13, 3) := by decide +kernel
theorem d_De_endWaiting_27 : decode b_De_endWaiting 27 = .ok (.aload_n 0, 1) := by decide +kernel
theorem d_De_endWaiting_28 : decode b_De_endWaiting 28 = .ok (.getfield 11, 3) := by decide +kernel
theorem d_De_endWaiting_31 : decode b_De_endWaiting 31 = .ok (.iload_n 2, 1) := by decide +kernel
theorem d_De_endWaiting_32 : decode b_De_endWaiting 32 = .ok (.aaload, 1) := by decide +kernel
theorem d_De_endWaiting_33 : decode b_De_endWaiting 33 = .ok (.iload_n 1, 1) := by decide +kernel
theorem d_De_endWaiting_34 : decode b_De_endWaiting 34 = .ok (.invokevirtual 124, 3) := by decide +kernel
theorem d_De_endWaiting_37 : decode b_De_endWaiting 37 = .ok (.iinc 2 1, 3) := by decide +kernel
theorem d_De_endWaiting_40 : decode b_De_endWaiting 40 = .ok (.goto (-31), 3) := by decide +kernel
theorem d_De_endWaiting_43 : decode b_De_endWaiting 43 = .ok (.return_, 1) := by decide +kernel
theorem g_De_endWaiting {X : WX} {d : Nat} (hd : 2 ≤ d) (v : Int) (M : Mem)  : MG X gt d KE KE y_De_endWaiting b_De_endWaiting 3 none [vr 1, vi v] M (fun r M' => r = none ∧ M' = endD M v) := by
  refine MG_of_G (by decide) (Nat.le_of_ble_eq_true rfl) (Nat.le_refl _) (by decide) ?_
  show G X gt d KE KE y_De_endWaiting b_De_endWaiting 3 none _ 0 [(0, vr 1), (1, vi v)] [] KE M
  refine G_rngl (i := 1) rfl (fun hr1 => ?_)
  have loop : ∀ (n : Nat) (i : Nat) (W : Mem), i + n = 4 → endN v n i W = endD M v → G X gt d KE KE y_De_endWaiting b_De_endWaiting 3 none (fun r M' => r = none ∧ M' = endD M v) 9 [(2, vi (i : Int)), (0, vr 1), (1, vi v)] [] KE W := by
    intro n
    induction n with
    | zero =>
      intro i W h1 hF
      refine G_iload (i := 2) (n := 0) (len := 1) (Or.inl ⟨2, rfl, rfl, d_De_endWaiting_9⟩) rfl (G_pc (pc' := 10) rfl ?_)
      refine G_iconst (n := 4) d_De_endWaiting_10 (by decide) (G_pc (pc' := 11) rfl ?_)
      refine G_icmp_ge (tgt := 43) d_De_endWaiting_11 (by decide) (fun h2301 => ?_) (fun h2301 => absurd h2301 (by omega))
      refine G_vret d_De_endWaiting_43 rfl rfl ?_
      exact ⟨rfl, hF⟩
    | succ n ih =>
      intro i W h1 hF
      refine G_iload (i := 2) (n := 0) (len := 1) (Or.inl ⟨2, rfl, rfl, d_De_endWaiting_9⟩) rfl (G_pc (pc' := 10) rfl ?_)
      refine G_iconst (n := 4) d_De_endWaiting_10 (by decide) (G_pc (pc' := 11) rfl ?_)
      refine G_icmp_ge (tgt := 43) d_De_endWaiting_11 (by decide) (fun h2401 => absurd h2401 (by omega)) (fun h2401 => G_pc (pc' := 14) rfl ?_)
      refine G_aload (i := 0) (n := 1) (len := 1) (Or.inl ⟨0, rfl, rfl, d_De_endWaiting_14⟩) rfl (by decide) (G_pc (pc' := 15) rfl ?_)
      refine G_get (o := 1) (c := 8) (k := 2) (v := 2) d_De_endWaiting_15 fl_De_11 rfl (by decide) (by decide) rfl rfl (G_pc (pc' := 18) rfl ?_)
      refine G_iload (i := 2) (n := 0) (len := 1) (Or.inl ⟨2, rfl, rfl, d_De_endWaiting_18⟩) rfl (G_pc (pc' := 19) rfl ?_)
      refine G_aaload (o := 2) (n := 4) (i := (i : Int)) (v := ((19 + 9 * i : Nat) : Int)) d_De_endWaiting_19 rfl ⟨by decide, by decide⟩ (by omega) (rd_2 (by omega)) (G_pc (pc' := 20) rfl ?_)
      refine G_callV (K1 := KE) (d2 := 0) (o := (19 + 9 * i)) (cl := 1) (as := []) (rest := []) d_De_endWaiting_20 mf_Ev_state ml_De_97 (kd_Ev (by omega)) rfl (by show 19 + 9 * i < 87; omega) rfl rfl (Nat.le_of_ble_eq_true rfl) (by omega) ⟨Nat.le_refl _, Nat.le_refl _⟩ (g_Ev_state (by omega) i  W (by omega)) (fun r2402 M2403 kq2404 q2404 => ?_)
      clear kq2404; obtain ⟨q2404a, q2404b⟩ := q2404; subst r2402; subst M2403
      refine G_ps (pc' := 23) (st' := [vi (W (19 + 9 * i) 7)]) rfl rfl ?_
      refine G_iconst (n := 1) d_De_endWaiting_23 (by decide) (G_pc (pc' := 24) rfl ?_)
      refine G_icmp_ne (tgt := 37) d_De_endWaiting_24 (by decide) (fun h2405 => ?_) (fun h2405 => G_pc (pc' := 27) rfl ?_)
      · skip
        refine G_iinc (i := 2) (n := 0) (z := 1) (ls' := [(2, vi ((i : Int) + 1)), (0, vr 1), (1, vi v)]) d_De_endWaiting_37 rfl (by decide) (by omega) rfl (G_pc (pc' := 40) rfl ?_)
        refine G_goto (tgt := 9) d_De_endWaiting_40 (by decide) ?_
        rw [show ((i : Int) + 1) = ((i + 1 : Nat) : Int) from rfl]
        exact ih (i + 1) _ (by omega) ((endN_n (by assumption)).symm.trans hF)
      · skip
        refine G_aload (i := 0) (n := 1) (len := 1) (Or.inl ⟨0, rfl, rfl, d_De_endWaiting_27⟩) rfl (by decide) (G_pc (pc' := 28) rfl ?_)
        refine G_get (o := 1) (c := 8) (k := 2) (v := 2) d_De_endWaiting_28 fl_De_11 rfl (by decide) (by decide) rfl rfl (G_pc (pc' := 31) rfl ?_)
        refine G_iload (i := 2) (n := 0) (len := 1) (Or.inl ⟨2, rfl, rfl, d_De_endWaiting_31⟩) rfl (G_pc (pc' := 32) rfl ?_)
        refine G_aaload (o := 2) (n := 4) (i := (i : Int)) (v := ((19 + 9 * i : Nat) : Int)) d_De_endWaiting_32 rfl ⟨by decide, by decide⟩ (by omega) (rd_2 (by omega)) (G_pc (pc' := 33) rfl ?_)
        refine G_iload (i := 1) (n := 2) (len := 1) (Or.inl ⟨1, rfl, rfl, d_De_endWaiting_33⟩) rfl (G_pc (pc' := 34) rfl ?_)
        refine G_callV (K1 := KE) (d2 := 0) (o := (19 + 9 * i)) (cl := 1) (as := [vi v]) (rest := []) d_De_endWaiting_34 mf_Ev_stopWaiting ml_De_124 (kd_Ev (by omega)) rfl (by show 19 + 9 * i < 87; omega) rfl rfl (Nat.le_of_ble_eq_true rfl) (by omega) ⟨Nat.le_refl _, Nat.le_refl _⟩ (g_Ev_stopWaiting (by omega) i v W (by omega)) (fun r2406 M2407 kq2408 q2408 => ?_)
        clear kq2408; obtain ⟨q2408a, q2408b⟩ := q2408; subst r2406; subst M2407
        refine G_ps (pc' := 37) (st' := []) rfl rfl ?_
        refine G_iinc (i := 2) (n := 0) (z := 1) (ls' := [(2, vi ((i : Int) + 1)), (0, vr 1), (1, vi v)]) d_De_endWaiting_37 rfl (by decide) (by omega) rfl (G_pc (pc' := 40) rfl ?_)
        refine G_goto (tgt := 9) d_De_endWaiting_40 (by decide) ?_
        rw [show ((i : Int) + 1) = ((i + 1 : Nat) : Int) from rfl]
        exact ih (i + 1) _ (by omega) ((endN_y (by assumption)).symm.trans hF)
  refine G_aload (i := 0) (n := 0) (len := 1) (Or.inl ⟨0, rfl, rfl, d_De_endWaiting_0⟩) rfl (by decide) (G_pc (pc' := 1) rfl ?_)
  refine G_get (o := 1) (c := 8) (k := 1) (v := 9) d_De_endWaiting_1 fl_De_40 rfl (by decide) (by decide) rfl rfl (G_pc (pc' := 4) rfl ?_)
  refine G_callV (K1 := KE) (d2 := 1) (o := 9) (cl := 3) (as := []) (rest := []) d_De_endWaiting_4 mf_Li_forget ml_De_146 rfl rfl (by decide) rfl rfl (Nat.le_of_ble_eq_true rfl) (by omega) ⟨Nat.le_refl _, Nat.le_refl _⟩ (g_Li_forget (by omega)  _) (fun r1 M2 kq3 q3 => ?_)
  clear kq3; obtain ⟨q3a, q3b⟩ := q3; subst r1; subst M2
  refine G_ps (pc' := 7) (st' := []) rfl rfl ?_
  refine G_iconst (n := 0) d_De_endWaiting_7 (by decide) (G_pc (pc' := 8) rfl ?_)
  refine G_istore (i := 2) (len := 1) (ls' := [(2, vi 0), (0, vr 1), (1, vi v)]) (Or.inl ⟨2, rfl, rfl, d_De_endWaiting_8⟩) (by decide) rfl (G_pc (pc' := 9) rfl ?_)
  exact loop 4 0 _ rfl rfl

def runD (M : Mem) (on : Int) : Mem := if on = 0 then mset (mset M 4 6 on) 4 7 1 else endD (mset (mset M 4 6 on) 4 7 1) 8
theorem d_De_run_0 : decode b_De_run 0 = .ok (.aload_n 0, 1) := by decide +kernel
theorem d_De_run_1 : decode b_De_run 1 = .ok (.getfield 36, 3) := by decide +kernel
theorem d_De_run_4 : decode b_De_run 4 = .ok (.iload_n 1, 1) := by decide +kernel
theorem d_De_run_5 : decode b_De_run 5 = .ok (.invokevirtual 68, 3) := by decide +kernel
theorem d_De_run_8 : decode b_De_run 8 = .ok (.ifCond .ne 5, 3) := by decide +kernel
theorem d_De_run_11 : decode b_De_run 11 = .ok (.iconst 0, 1) := by decide +kernel
theorem d_De_run_12 : decode b_De_run 12 = .ok (.ireturn, 1) := by decide +kernel
theorem d_De_run_13 : decode b_De_run 13 = .ok (.iload_n 1, 1) := by decide +kernel
theorem d_De_run_14 : decode b_De_run 14 = .ok (.ifCond .eq 9, 3) := by decide +kernel
theorem d_De_run_17 : decode b_De_run 17 = .ok (.aload_n 0, 1) := by decide +kernel
theorem d_De_run_18 : decode b_De_run 18 = .ok (.bipush 8, 2) := by decide +kernel
theorem d_De_run_20 : decode b_De_run 20 = .ok (.invokevirtual 72, 3) := by decide +kernel
theorem d_De_run_23 : decode b_De_run 23 = .ok (.iconst 1, 1) := by decide +kernel
theorem d_De_run_24 : decode b_De_run 24 = .ok (.ireturn, 1) := by decide +kernel
theorem g_De_run {X : WX} {d : Nat} (hd : 3 ≤ d) (on : Int) (M : Mem) (hT : RT M) (hI : TI M) (hon : 0 ≤ on ∧ on ≤ 1) : MG X gt d KE KE y_De_run b_De_run 2 (some .boolean) [vr 1, vi on] M (fun r M' => (on = M 55 9 → r = some (vi 1) ∧ M' = runD M on) ∧ (¬ on = M 55 9 → r = some (vi 0) ∧ M' = M)) := by
  refine MG_of_G (by decide) (Nat.le_of_ble_eq_true rfl) (Nat.le_refl _) (by decide) ?_
  show G X gt d KE KE y_De_run b_De_run 2 (some .boolean) _ 0 [(0, vr 1), (1, vi on)] [] KE M
  have hI0 := hI
  obtain ⟨hI1, hI2, hI3, hI4, hI5, hI6, hI7, hI8, hI9, hI10, hI11, hI12, hI13, hI14⟩ := hI
  refine G_rngl (i := 1) rfl (fun hr1 => ?_)
  refine G_aload (i := 0) (n := 0) (len := 1) (Or.inl ⟨0, rfl, rfl, d_De_run_0⟩) rfl (by decide) (G_pc (pc' := 1) rfl ?_)
  refine G_get (o := 1) (c := 8) (k := 0) (v := 4) d_De_run_1 fl_De_36 rfl (by decide) (by decide) rfl rfl (G_pc (pc' := 4) rfl ?_)
  refine G_iload (i := 1) (n := 1) (len := 1) (Or.inl ⟨1, rfl, rfl, d_De_run_4⟩) rfl (G_pc (pc' := 5) rfl ?_)
  refine G_callV (K1 := KE) (d2 := 0) (o := 4) (cl := 6) (as := [vi on]) (rest := []) d_De_run_5 mf_Ta_switchTo ml_De_68 rfl rfl (by decide) rfl rfl (Nat.le_of_ble_eq_true rfl) (by omega) ⟨Nat.le_refl _, Nat.le_refl _⟩ (g_Ta_switchTo (by omega) on M hT hI0 (by omega)) (fun r1 M2 kq3 q3 => ?_)
  clear kq3
  by_cases hk4 : on = M 55 9
  · skip
    obtain ⟨q3a, q3b⟩ := q3.1 hk4; subst r1; subst M2
    refine G_ps (pc' := 8) (st' := [vi 1]) rfl rfl ?_
    refine G_if_ne (tgt := 13) d_De_run_8 (by decide) (fun h5 => ?_) (fun h5 => absurd h5 (by decide))
    refine G_iload (i := 1) (n := 1) (len := 1) (Or.inl ⟨1, rfl, rfl, d_De_run_13⟩) rfl (G_pc (pc' := 14) rfl ?_)
    refine G_if_eq (tgt := 23) d_De_run_14 (by decide) (fun h6 => ?_) (fun h6 => G_pc (pc' := 17) rfl ?_)
    · skip
      refine G_iconst (n := 1) d_De_run_23 (by decide) (G_pc (pc' := 24) rfl ?_)
      refine G_iret d_De_run_24 rfl (tokZ (by decide)) rfl rfl ?_
      exact ⟨fun _ => ⟨rfl, by unfold runD; first | rw [if_pos (by assumption)] | rw [if_neg (by assumption)]⟩, fun h => absurd hk4 h⟩
    · skip
      refine G_aload (i := 0) (n := 0) (len := 1) (Or.inl ⟨0, rfl, rfl, d_De_run_17⟩) rfl (by decide) (G_pc (pc' := 18) rfl ?_)
      refine G_bipush (n := 8) d_De_run_18 (by decide) (G_pc (pc' := 20) rfl ?_)
      refine G_callV (K1 := KE) (d2 := 2) (o := 1) (cl := 8) (as := [vi 8]) (rest := []) d_De_run_20 mf_De_endWaiting ml_De_72 rfl rfl (by decide) rfl rfl (Nat.le_of_ble_eq_true rfl) (by omega) ⟨Nat.le_refl _, Nat.le_refl _⟩ (g_De_endWaiting (by omega) 8 _) (fun r7 M8 kq9 q9 => ?_)
      clear kq9; obtain ⟨q9a, q9b⟩ := q9; subst r7; subst M8
      refine G_ps (pc' := 23) (st' := []) rfl rfl ?_
      refine G_iconst (n := 1) d_De_run_23 (by decide) (G_pc (pc' := 24) rfl ?_)
      refine G_iret d_De_run_24 rfl (tokZ (by decide)) rfl rfl ?_
      exact ⟨fun _ => ⟨rfl, by unfold runD; first | rw [if_pos (by assumption)] | rw [if_neg (by assumption)]⟩, fun h => absurd hk4 h⟩
  · skip
    obtain ⟨q3a, q3b⟩ := q3.2 hk4; subst r1; subst M2
    refine G_ps (pc' := 8) (st' := [vi 0]) rfl rfl ?_
    refine G_if_ne (tgt := 13) d_De_run_8 (by decide) (fun h10 => absurd h10 (by decide)) (fun h10 => G_pc (pc' := 11) rfl ?_)
    refine G_iconst (n := 0) d_De_run_11 (by decide) (G_pc (pc' := 12) rfl ?_)
    refine G_iret d_De_run_12 rfl (tokZ (by decide)) rfl rfl ?_
    exact ⟨fun h => absurd h hk4, fun _ => ⟨rfl, rfl⟩⟩

def lineD (M : Mem) (on : Int) : Mem := if on = 0 then endD (mset M 9 5 (1 - on)) 7 else mset M 9 5 (1 - on)
theorem d_De_line_0 : decode b_De_line 0 = .ok (.aload_n 0, 1) := by decide +kernel
theorem d_De_line_1 : decode b_De_line 1 = .ok (.getfield 40, 3) := by decide +kernel
theorem d_De_line_4 : decode b_De_line 4 = .ok (.iload_n 1, 1) := by decide +kernel
theorem d_De_line_5 : decode b_De_line 5 = .ok (.invokevirtual 76, 3) := by decide +kernel
theorem d_De_line_8 : decode b_De_line 8 = .ok (.ifCond .ne 5, 3) := by decide +kernel
theorem d_De_line_11 : decode b_De_line 11 = .ok (.iconst 0, 1) := by decide +kernel
theorem d_De_line_12 : decode b_De_line 12 = .ok (.ireturn, 1) := by decide +kernel
theorem d_De_line_13 : decode b_De_line 13 = .ok (.iload_n 1, 1) := by decide +kernel
theorem d_De_line_14 : decode b_De_line 14 = .ok (.ifCond .ne 9, 3) := by decide +kernel
theorem d_De_line_17 : decode b_De_line 17 = .ok (.aload_n 0, 1) := by decide +kernel
theorem d_De_line_18 : decode b_De_line 18 = .ok (.bipush 7, 2) := by decide +kernel
theorem d_De_line_20 : decode b_De_line 20 = .ok (.invokevirtual 72, 3) := by decide +kernel
theorem d_De_line_23 : decode b_De_line 23 = .ok (.iconst 1, 1) := by decide +kernel
theorem d_De_line_24 : decode b_De_line 24 = .ok (.ireturn, 1) := by decide +kernel
theorem g_De_line {X : WX} {d : Nat} (hd : 3 ≤ d) (on : Int) (M : Mem) (hon : 0 ≤ on ∧ on ≤ 1) : MG X gt d KE KE y_De_line b_De_line 2 (some .boolean) [vr 1, vi on] M (fun r M' => (M 9 5 = on → r = some (vi 1) ∧ M' = lineD M on) ∧ (¬ M 9 5 = on → r = some (vi 0) ∧ M' = M)) := by
  refine MG_of_G (by decide) (Nat.le_of_ble_eq_true rfl) (Nat.le_refl _) (by decide) ?_
  show G X gt d KE KE y_De_line b_De_line 2 (some .boolean) _ 0 [(0, vr 1), (1, vi on)] [] KE M
  refine G_rngl (i := 1) rfl (fun hr1 => ?_)
  refine G_aload (i := 0) (n := 0) (len := 1) (Or.inl ⟨0, rfl, rfl, d_De_line_0⟩) rfl (by decide) (G_pc (pc' := 1) rfl ?_)
  refine G_get (o := 1) (c := 8) (k := 1) (v := 9) d_De_line_1 fl_De_40 rfl (by decide) (by decide) rfl rfl (G_pc (pc' := 4) rfl ?_)
  refine G_iload (i := 1) (n := 1) (len := 1) (Or.inl ⟨1, rfl, rfl, d_De_line_4⟩) rfl (G_pc (pc' := 5) rfl ?_)
  refine G_callV (K1 := KE) (d2 := 0) (o := 9) (cl := 3) (as := [vi on]) (rest := []) d_De_line_5 mf_Li_switchTo ml_De_76 rfl rfl (by decide) rfl rfl (Nat.le_of_ble_eq_true rfl) (by omega) ⟨Nat.le_refl _, Nat.le_refl _⟩ (g_Li_switchTo (by omega) on M (by omega)) (fun r1 M2 kq3 q3 => ?_)
  clear kq3
  by_cases hk4 : M 9 5 = on
  · skip
    obtain ⟨q3a, q3b⟩ := q3.1 hk4; subst r1; subst M2
    refine G_ps (pc' := 8) (st' := [vi 1]) rfl rfl ?_
    refine G_if_ne (tgt := 13) d_De_line_8 (by decide) (fun h5 => ?_) (fun h5 => absurd h5 (by decide))
    refine G_iload (i := 1) (n := 1) (len := 1) (Or.inl ⟨1, rfl, rfl, d_De_line_13⟩) rfl (G_pc (pc' := 14) rfl ?_)
    refine G_if_ne (tgt := 23) d_De_line_14 (by decide) (fun h6 => ?_) (fun h6 => G_pc (pc' := 17) rfl ?_)
    · skip
      refine G_iconst (n := 1) d_De_line_23 (by decide) (G_pc (pc' := 24) rfl ?_)
      refine G_iret d_De_line_24 rfl (tokZ (by decide)) rfl rfl ?_
      exact ⟨fun _ => ⟨rfl, by unfold lineD; first | rw [if_pos (by assumption)] | rw [if_neg (by assumption)]⟩, fun h => absurd hk4 h⟩
    · skip
      refine G_aload (i := 0) (n := 0) (len := 1) (Or.inl ⟨0, rfl, rfl, d_De_line_17⟩) rfl (by decide) (G_pc (pc' := 18) rfl ?_)
      refine G_bipush (n := 7) d_De_line_18 (by decide) (G_pc (pc' := 20) rfl ?_)
      refine G_callV (K1 := KE) (d2 := 2) (o := 1) (cl := 8) (as := [vi 7]) (rest := []) d_De_line_20 mf_De_endWaiting ml_De_72 rfl rfl (by decide) rfl rfl (Nat.le_of_ble_eq_true rfl) (by omega) ⟨Nat.le_refl _, Nat.le_refl _⟩ (g_De_endWaiting (by omega) 7 _) (fun r7 M8 kq9 q9 => ?_)
      clear kq9; obtain ⟨q9a, q9b⟩ := q9; subst r7; subst M8
      refine G_ps (pc' := 23) (st' := []) rfl rfl ?_
      refine G_iconst (n := 1) d_De_line_23 (by decide) (G_pc (pc' := 24) rfl ?_)
      refine G_iret d_De_line_24 rfl (tokZ (by decide)) rfl rfl ?_
      exact ⟨fun _ => ⟨rfl, by unfold lineD; first | rw [if_pos (by assumption)] | rw [if_neg (by assumption)]⟩, fun h => absurd hk4 h⟩
  · skip
    obtain ⟨q3a, q3b⟩ := q3.2 hk4; subst r1; subst M2
    refine G_ps (pc' := 8) (st' := [vi 0]) rfl rfl ?_
    refine G_if_ne (tgt := 13) d_De_line_8 (by decide) (fun h10 => absurd h10 (by decide)) (fun h10 => G_pc (pc' := 11) rfl ?_)
    refine G_iconst (n := 0) d_De_line_11 (by decide) (G_pc (pc' := 12) rfl ?_)
    refine G_iret d_De_line_12 rfl (tokZ (by decide)) rfl rfl ?_
    exact ⟨fun h => absurd h hk4, fun _ => ⟨rfl, rfl⟩⟩

