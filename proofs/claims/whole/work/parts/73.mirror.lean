noncomputable def ansN (p : Int) : Nat → Nat → Mem → Int → Int × Mem
  | 0, _, W, c => (c, W)
  | n + 1, i, W, c => if W (19 + 9 * i) 7 = 1 ∧ W (19 + 9 * i) 11 = p then ansN p n (i + 1) (goD i 48 (mset W (19 + 9 * i) 7 2)) (c + 1) else ansN p n (i + 1) W c
theorem ansN_y {p c : Int} {n i : Nat} {W : Mem} (h : W (19 + 9 * i) 7 = 1 ∧ W (19 + 9 * i) 11 = p) : ansN p (n + 1) i W c = ansN p n (i + 1) (goD i 48 (mset W (19 + 9 * i) 7 2)) (c + 1) := if_pos h
theorem ansN_n {p c : Int} {n i : Nat} {W : Mem} (h : ¬ (W (19 + 9 * i) 7 = 1 ∧ W (19 + 9 * i) 11 = p)) : ansN p (n + 1) i W c = ansN p n (i + 1) W c := if_neg h
noncomputable def ansD (M : Mem) (k : Int) : Int × Mem := ansN (M 11 k) 4 0 (learnD (dropD M k) (M 11 k)) 0
/-- what must be known for the waiting evaluations to go on one after another -/
def ansH (p : Int) (V : Nat → Mem → Prop) : Prop := ∀ (i : Nat) (W : Mem), i < 4 → V i W → ((W (19 + 9 * i) 7 = 1 ∧ W (19 + 9 * i) 11 = p) → (∃ J, goH i J ∧ J (mset W (19 + 9 * i) 7 2)) ∧ V (i + 1) (goD i 48 (mset W (19 + 9 * i) 7 2))) ∧ (¬ (W (19 + 9 * i) 7 = 1 ∧ W (19 + 9 * i) 11 = p) → V (i + 1) W)
theorem d_De_answer_0 : decode b_De_answer 0 = .ok (.aload_n 0, 1) := by decide +kernel
theorem d_De_answer_1 : decode b_De_answer 1 = .ok (.getfield 40, 3) := by decide +kernel
theorem d_De_answer_4 : decode b_De_answer 4 = .ok (.iload_n 1, 1) := by decide +kernel
theorem d_De_answer_5 : decode b_De_answer 5 = .ok (.invokevirtual 100, 3) := by decide +kernel
theorem d_De_answer_8 : decode b_De_answer 8 = .ok (.ifCond .ne 5, 3) := by decide +kernel
theorem d_De_answer_11 : decode b_De_answer 11 = .ok (.iconst (-1), 1) := by decide +kernel
theorem d_De_answer_12 : decode b_De_answer 12 = .ok (.ireturn, 1) := by decide +kernel
theorem d_De_answer_13 : decode b_De_answer 13 = .ok (.aload_n 0, 1) := by decide +kernel
theorem d_De_answer_14 : decode b_De_answer 14 = .ok (.getfield 40, 3) := by decide +kernel
theorem d_De_answer_17 : decode b_De_answer 17 = .ok (.iload_n 1, 1) := by decide +kernel
theorem d_De_answer_18 : decode b_De_answer 18 = .ok (.invokevirtual 103, 3) := by decide +kernel
theorem d_De_answer_21 : decode b_De_answer 21 = .ok (.istore_n 2, 1) := by decide +kernel
theorem d_De_answer_22 : decode b_De_answer 22 = .ok (.aload_n 0, 1) := by decide +kernel
theorem d_De_answer_23 : decode b_De_answer 23 = .ok (.getfield 40, 3) := by decide +kernel
theorem d_De_answer_26 : decode b_De_answer 26 = .ok (.iload_n 1, 1) := by decide +kernel
theorem d_De_answer_27 : decode b_De_answer 27 = .ok (.invokevirtual 112, 3) := by decide +kernel
theorem d_De_answer_30 : decode b_De_answer 30 = .ok (.aload_n 0, 1) := by decide +kernel
theorem d_De_answer_31 : decode b_De_answer 31 = .ok (.getfield 40, 3) := by decide +kernel
theorem d_De_answer_34 : decode b_De_answer 34 = .ok (.iload_n 2, 1) := by decide +kernel
theorem d_De_answer_35 : decode b_De_answer 35 = .ok (.invokevirtual 115, 3) := by decide +kernel
theorem d_De_answer_38 : decode b_De_answer 38 = .ok (.iconst 0, 1) := by decide +kernel
theorem d_De_answer_39 : decode b_De_answer 39 = .ok (.istore_n 3, 1) := by decide +kernel
theorem d_De_answer_40 : decode b_De_answer 40 = .ok (.iconst 0, 1) := by decide +kernel
theorem d_De_answer_41 : decode b_De_answer 41 = .ok (.istore 4, 2) := by decide +kernel
theorem d_De_answer_43 : decode b_De_answer 43 = .ok (.iload 4, 2) := by decide +kernel
theorem d_De_answer_45 : decode b_De_answer 45 = .ok (.iconst 4, 1) := by decide +kernel
theorem d_De_answer_46 : decode b_De_answer 46 = .ok (.if_icmp .ge 36, 3) := by decide +kernel
theorem d_De_answer_49 : decode b_De_answer 49 = .ok (.aload_n 0, 1) := by decide +kernel
theorem d_De_answer_50 : decode b_De_answer 50 = .ok (.getfield 11, 3) := by decide +kernel
theorem d_De_answer_53 : decode b_De_answer 53 = .ok (.iload 4, 2) := by decide +kernel
theorem d_De_answer_55 : decode b_De_answer 55 = .ok (.aaload, 1) := by decide +kernel
theorem d_De_answer_56 : decode b_De_answer 56 = .ok (.iload_n 2, 1) := by decide +kernel
theorem d_De_answer_57 : decode b_De_answer 57 = .ok (.invokevirtual 118, 3) := by decide +kernel
theorem d_De_answer_60 : decode b_De_answer 60 = .ok (.ifCond .eq 16, 3) := by decide +kernel
theorem d_De_answer_63 : decode b_De_answer 63 = .ok (.iinc 3 1, 3) := by decide +kernel
theorem d_De_answer_66 : decode b_De_answer 66 = .ok (.aload_n 0, 1) := by decide +kernel
theorem d_De_answer_67 : decode b_De_answer 67 = .ok (.getfield 11, 3) := by decide +kernel
theorem d_De_answer_70 : decode b_De_answer 70 = .ok (.iload 4, 2) := by decide +kernel
theorem d_De_answer_72 : decode b_De_answer 72 = .ok (.aaload, 1) := by decide +kernel
theorem d_De_answer_73 : decode b_De_answer 73 = .ok (.invokevirtual 121, 3) := by decide +kernel
theorem d_De_answer_76 : decode b_De_answer 76 = .ok (.iinc 4 1, 3) := by decide +kernel
theorem d_De_answer_79 : decode b_De_answer 79 = .ok (.goto (-36), 3) := by decide +kernel
theorem d_De_answer_82 : decode b_De_answer 82 = .ok (.iload_n 3, 1) := by decide +kernel
theorem d_De_answer_83 : decode b_De_answer 83 = .ok (.ireturn, 1) := by decide +kernel
theorem g_De_answer {X : WX} {d : Nat} (hd : 6 ≤ d) (k : Int) (V : Nat → Mem → Prop) (M : Mem)  (hw : 0 ≤ M 9 3 ∧ M 9 3 ≤ 300) (hq : ∀ j, 0 ≤ j → j < M 9 3 → (0 ≤ M 11 j ∧ M 11 j < 364) ∧ 0 ≤ M 12 j ∧ M 12 j < 100000) (hin0 : (0 ≤ k ∧ k < M 9 3) → ansH (M 11 k) V) (hV0 : (0 ≤ k ∧ k < M 9 3) → V 0 (learnD (dropD M k) (M 11 k))) : MG X gt d KE KE y_De_answer b_De_answer 5 (some .int) [vr 1, vi k] M (fun r M' => ((0 ≤ k ∧ k < M 9 3) → r = some (vi (ansD M k).1) ∧ M' = (ansD M k).2) ∧ (¬ (0 ≤ k ∧ k < M 9 3) → r = some (vi (-1)) ∧ M' = M)) := by
  refine MG_of_G (by decide) (Nat.le_of_ble_eq_true rfl) (Nat.le_refl _) (by decide) ?_
  show G X gt d KE KE y_De_answer b_De_answer 5 (some .int) _ 0 [(0, vr 1), (1, vi k)] [] KE M
  refine G_rngl (i := 1) rfl (fun hr1 => ?_)
  have loop : ∀ (p : Int), ansH p V → ∀ (n : Nat) (i : Nat) (c : Int) (W : Mem), i + n = 4 → (0 ≤ c ∧ c ≤ i) → (0 ≤ k ∧ k < M 9 3) → V i W → ansN p n i W c = ansD M k → G X gt d KE KE y_De_answer b_De_answer 5 (some .int) (fun r M' => ((0 ≤ k ∧ k < M 9 3) → r = some (vi (ansD M k).1) ∧ M' = (ansD M k).2) ∧ (¬ (0 ≤ k ∧ k < M 9 3) → r = some (vi (-1)) ∧ M' = M)) 43 [(4, vi (i : Int)), (3, vi c), (2, vi p), (0, vr 1), (1, vi k)] [] KE W := by
    intro p hin n
    induction n with
    | zero =>
      intro i c W h1 hc hk0 hV hF
      refine G_iload (i := 4) (n := 0) (len := 2) (Or.inr ⟨rfl, d_De_answer_43⟩) rfl (G_pc (pc' := 45) rfl ?_)
      refine G_iconst (n := 4) d_De_answer_45 (by decide) (G_pc (pc' := 46) rfl ?_)
      refine G_icmp_ge (tgt := 82) d_De_answer_46 (by decide) (fun h2701 => ?_) (fun h2701 => absurd h2701 (by omega))
      refine G_iload (i := 3) (n := 1) (len := 1) (Or.inl ⟨3, rfl, rfl, d_De_answer_82⟩) rfl (G_pc (pc' := 83) rfl ?_)
      refine G_iret d_De_answer_83 rfl (tokI (by omega)) rfl rfl ?_
      exact ⟨fun _ => ⟨by rw [← hF]; rfl, by rw [← hF]; rfl⟩, fun h => absurd hk0 h⟩
    | succ n ih =>
      intro i c W h1 hc hk0 hV hF
      refine G_iload (i := 4) (n := 0) (len := 2) (Or.inr ⟨rfl, d_De_answer_43⟩) rfl (G_pc (pc' := 45) rfl ?_)
      refine G_iconst (n := 4) d_De_answer_45 (by decide) (G_pc (pc' := 46) rfl ?_)
      refine G_icmp_ge (tgt := 82) d_De_answer_46 (by decide) (fun h2801 => absurd h2801 (by omega)) (fun h2801 => G_pc (pc' := 49) rfl ?_)
      refine G_aload (i := 0) (n := 3) (len := 1) (Or.inl ⟨0, rfl, rfl, d_De_answer_49⟩) rfl (by decide) (G_pc (pc' := 50) rfl ?_)
      refine G_get (o := 1) (c := 8) (k := 2) (v := 2) d_De_answer_50 fl_De_11 rfl (by decide) (by decide) rfl rfl (G_pc (pc' := 53) rfl ?_)
      refine G_iload (i := 4) (n := 0) (len := 2) (Or.inr ⟨rfl, d_De_answer_53⟩) rfl (G_pc (pc' := 55) rfl ?_)
      refine G_aaload (o := 2) (n := 4) (i := (i : Int)) (v := ((19 + 9 * i : Nat) : Int)) d_De_answer_55 rfl ⟨by decide, by decide⟩ (by omega) (rd_2 (by omega)) (G_pc (pc' := 56) rfl ?_)
      refine G_iload (i := 2) (n := 2) (len := 1) (Or.inl ⟨2, rfl, rfl, d_De_answer_56⟩) rfl (G_pc (pc' := 57) rfl ?_)
      refine G_callV (K1 := KE) (d2 := 0) (o := (19 + 9 * i)) (cl := 1) (as := [vi p]) (rest := []) d_De_answer_57 mf_Ev_waitsFor ml_De_118 (kd_Ev (by omega)) rfl (by show 19 + 9 * i < 87; omega) rfl rfl (Nat.le_of_ble_eq_true rfl) (by omega) ⟨Nat.le_refl _, Nat.le_refl _⟩ (g_Ev_waitsFor (by omega) i p W (by omega)) (fun r2802 M2803 kq2804 q2804 => ?_)
      clear kq2804; obtain ⟨q2804a, q2804b⟩ := q2804; subst r2802; subst M2803
      refine G_ps (pc' := 60) (st' := [vi (b2i (decide (W (19 + 9 * i) 7 = 1 ∧ W (19 + 9 * i) 11 = p)))]) rfl rfl ?_
      refine G_if_eq (tgt := 76) d_De_answer_60 (by decide) (fun h2805 => ?_) (fun h2805 => G_pc (pc' := 63) rfl ?_)
      · skip
        replace h2805 := b2i_0.mp h2805
        replace h2805 := of_decide_eq_false h2805
        refine G_iinc (i := 4) (n := 0) (z := 1) (ls' := [(4, vi ((i : Int) + 1)), (3, vi c), (2, vi p), (0, vr 1), (1, vi k)]) d_De_answer_76 rfl (by decide) (by omega) rfl (G_pc (pc' := 79) rfl ?_)
        refine G_goto (tgt := 43) d_De_answer_79 (by decide) ?_
        rw [show ((i : Int) + 1) = ((i + 1 : Nat) : Int) from rfl]
        exact ih (i + 1) _ _ (by omega) (by omega) hk0 ((hin i W (by omega) hV).2 (by assumption)) ((ansN_n (by assumption)).symm.trans hF)
      · skip
        replace h2805 := b2i_nz.mp h2805
        replace h2805 := of_decide_eq_true h2805
        obtain ⟨⟨J, hJ, hJ0⟩, hnx⟩ := (hin i W (by omega) hV).1 (by assumption)
        refine G_iinc (i := 3) (n := 1) (z := 1) (ls' := [(3, vi (c + 1)), (4, vi (i : Int)), (2, vi p), (0, vr 1), (1, vi k)]) d_De_answer_63 rfl (by decide) (by omega) rfl (G_pc (pc' := 66) rfl ?_)
        refine G_aload (i := 0) (n := 3) (len := 1) (Or.inl ⟨0, rfl, rfl, d_De_answer_66⟩) rfl (by decide) (G_pc (pc' := 67) rfl ?_)
        refine G_get (o := 1) (c := 8) (k := 2) (v := 2) d_De_answer_67 fl_De_11 rfl (by decide) (by decide) rfl rfl (G_pc (pc' := 70) rfl ?_)
        refine G_iload (i := 4) (n := 1) (len := 2) (Or.inr ⟨rfl, d_De_answer_70⟩) rfl (G_pc (pc' := 72) rfl ?_)
        refine G_aaload (o := 2) (n := 4) (i := (i : Int)) (v := ((19 + 9 * i : Nat) : Int)) d_De_answer_72 rfl ⟨by decide, by decide⟩ (by omega) (rd_2 (by omega)) (G_pc (pc' := 73) rfl ?_)
        refine G_callV (K1 := KE) (d2 := 5) (o := (19 + 9 * i)) (cl := 1) (as := []) (rest := []) d_De_answer_73 mf_Ev_goOn ml_De_121 (kd_Ev (by omega)) rfl (by show 19 + 9 * i < 87; omega) rfl rfl (Nat.le_of_ble_eq_true rfl) (by omega) ⟨Nat.le_refl _, Nat.le_refl _⟩ (g_Ev_goOn (by omega) i J W (by omega) hJ hJ0) (fun r2806 M2807 kq2808 q2808 => ?_)
        clear kq2808; obtain ⟨q2808a, q2808b⟩ := q2808; subst r2806; subst M2807
        refine G_ps (pc' := 76) (st' := []) rfl rfl ?_
        refine G_iinc (i := 4) (n := 1) (z := 1) (ls' := [(4, vi ((i : Int) + 1)), (3, vi (c + 1)), (2, vi p), (0, vr 1), (1, vi k)]) d_De_answer_76 rfl (by decide) (by omega) rfl (G_pc (pc' := 79) rfl ?_)
        refine G_goto (tgt := 43) d_De_answer_79 (by decide) ?_
        rw [show ((i : Int) + 1) = ((i + 1 : Nat) : Int) from rfl]
        exact ih (i + 1) _ _ (by omega) (by omega) hk0 hnx ((ansN_y (by assumption)).symm.trans hF)
  refine G_aload (i := 0) (n := 0) (len := 1) (Or.inl ⟨0, rfl, rfl, d_De_answer_0⟩) rfl (by decide) (G_pc (pc' := 1) rfl ?_)
  refine G_get (o := 1) (c := 8) (k := 1) (v := 9) d_De_answer_1 fl_De_40 rfl (by decide) (by decide) rfl rfl (G_pc (pc' := 4) rfl ?_)
  refine G_iload (i := 1) (n := 1) (len := 1) (Or.inl ⟨1, rfl, rfl, d_De_answer_4⟩) rfl (G_pc (pc' := 5) rfl ?_)
  refine G_callV (K1 := KE) (d2 := 0) (o := 9) (cl := 3) (as := [vi k]) (rest := []) d_De_answer_5 mf_Li_hasRequest ml_De_100 rfl rfl (by decide) rfl rfl (Nat.le_of_ble_eq_true rfl) (by omega) ⟨Nat.le_refl _, Nat.le_refl _⟩ (g_Li_hasRequest (by omega) k _) (fun r1 M2 kq3 q3 => ?_)
  clear kq3; obtain ⟨q3a, q3b⟩ := q3; subst r1; subst M2
  refine G_ps (pc' := 8) (st' := [vi (b2i (inB k (M 9 3)))]) rfl rfl ?_
  refine G_if_ne (tgt := 13) d_De_answer_8 (by decide) (fun h4 => ?_) (fun h4 => G_pc (pc' := 11) rfl ?_)
  · skip
    replace h4 := b2i_nz.mp h4
    replace h4 := inB_t.mp h4
    obtain ⟨hq1, hq2⟩ := hq k (by omega) (by omega)
    refine G_aload (i := 0) (n := 0) (len := 1) (Or.inl ⟨0, rfl, rfl, d_De_answer_13⟩) rfl (by decide) (G_pc (pc' := 14) rfl ?_)
    refine G_get (o := 1) (c := 8) (k := 1) (v := 9) d_De_answer_14 fl_De_40 rfl (by decide) (by decide) rfl rfl (G_pc (pc' := 17) rfl ?_)
    refine G_iload (i := 1) (n := 1) (len := 1) (Or.inl ⟨1, rfl, rfl, d_De_answer_17⟩) rfl (G_pc (pc' := 18) rfl ?_)
    refine G_callV (K1 := KE) (d2 := 0) (o := 9) (cl := 3) (as := [vi k]) (rest := []) d_De_answer_18 mf_Li_placeAsked ml_De_103 rfl rfl (by decide) rfl rfl (Nat.le_of_ble_eq_true rfl) (by omega) ⟨Nat.le_refl _, Nat.le_refl _⟩ (g_Li_placeAsked (by omega) k _ (by omega)) (fun r5 M6 kq7 q7 => ?_)
    clear kq7; obtain ⟨q7a, q7b⟩ := q7; subst r5; subst M6
    refine G_ps (pc' := 21) (st' := [vi (M 11 k)]) rfl rfl ?_
    refine G_istore (i := 2) (len := 1) (ls' := [(2, vi (M 11 k)), (0, vr 1), (1, vi k)]) (Or.inl ⟨2, rfl, rfl, d_De_answer_21⟩) (by decide) rfl (G_pc (pc' := 22) rfl ?_)
    refine G_aload (i := 0) (n := 1) (len := 1) (Or.inl ⟨0, rfl, rfl, d_De_answer_22⟩) rfl (by decide) (G_pc (pc' := 23) rfl ?_)
    refine G_get (o := 1) (c := 8) (k := 1) (v := 9) d_De_answer_23 fl_De_40 rfl (by decide) (by decide) rfl rfl (G_pc (pc' := 26) rfl ?_)
    refine G_iload (i := 1) (n := 2) (len := 1) (Or.inl ⟨1, rfl, rfl, d_De_answer_26⟩) rfl (G_pc (pc' := 27) rfl ?_)
    refine G_callV (K1 := KE) (d2 := 0) (o := 9) (cl := 3) (as := [vi k]) (rest := []) d_De_answer_27 mf_Li_drop ml_De_112 rfl rfl (by decide) rfl rfl (Nat.le_of_ble_eq_true rfl) (by omega) ⟨Nat.le_refl _, Nat.le_refl _⟩ (g_Li_drop (by omega) k _ (by omega) (by omega)) (fun r8 M9 kq10 q10 => ?_)
    clear kq10; obtain ⟨q10a, q10b⟩ := q10; subst r8; subst M9
    refine G_ps (pc' := 30) (st' := []) rfl rfl ?_
    refine G_aload (i := 0) (n := 1) (len := 1) (Or.inl ⟨0, rfl, rfl, d_De_answer_30⟩) rfl (by decide) (G_pc (pc' := 31) rfl ?_)
    refine G_get (o := 1) (c := 8) (k := 1) (v := 9) d_De_answer_31 fl_De_40 rfl (by decide) (by decide) rfl rfl (G_pc (pc' := 34) rfl ?_)
    refine G_iload (i := 2) (n := 0) (len := 1) (Or.inl ⟨2, rfl, rfl, d_De_answer_34⟩) rfl (G_pc (pc' := 35) rfl ?_)
    refine G_callV (K1 := KE) (d2 := 0) (o := 9) (cl := 3) (as := [vi (M 11 k)]) (rest := []) d_De_answer_35 mf_Li_learn ml_De_115 rfl rfl (by decide) rfl rfl (Nat.le_of_ble_eq_true rfl) (by omega) ⟨Nat.le_refl _, Nat.le_refl _⟩ (g_Li_learn (by omega) (M 11 k) _ (by omega)) (fun r11 M12 kq13 q13 => ?_)
    clear kq13; obtain ⟨q13a, q13b⟩ := q13; subst r11; subst M12
    refine G_ps (pc' := 38) (st' := []) rfl rfl ?_
    refine G_iconst (n := 0) d_De_answer_38 (by decide) (G_pc (pc' := 39) rfl ?_)
    refine G_istore (i := 3) (len := 1) (ls' := [(3, vi 0), (2, vi (M 11 k)), (0, vr 1), (1, vi k)]) (Or.inl ⟨3, rfl, rfl, d_De_answer_39⟩) (by decide) rfl (G_pc (pc' := 40) rfl ?_)
    refine G_iconst (n := 0) d_De_answer_40 (by decide) (G_pc (pc' := 41) rfl ?_)
    refine G_istore (i := 4) (len := 2) (ls' := [(4, vi 0), (3, vi 0), (2, vi (M 11 k)), (0, vr 1), (1, vi k)]) (Or.inr ⟨rfl, d_De_answer_41⟩) (by decide) rfl (G_pc (pc' := 43) rfl ?_)
    exact loop (M 11 k) (hin0 (by omega)) 4 0 0 _ rfl (by omega) (by omega) (hV0 (by omega)) rfl
  · skip
    replace h4 := b2i_0.mp h4
    replace h4 := inB_f.mp h4
    refine G_iconst (n := (-1)) d_De_answer_11 (by decide) (G_pc (pc' := 12) rfl ?_)
    refine G_iret d_De_answer_12 rfl (tokI (by decide)) rfl rfl ?_
    exact ⟨fun h => absurd h (by assumption), fun _ => ⟨rfl, rfl⟩⟩

