def evM (M : Mem) (e : Nat) : Mem := mset (mset (cpD M 3 (27 + 9 * e) (M 1 4)) (19 + 9 * e) 6 (M 1 4)) 1 4 0
theorem agT_cp {M : Mem} {a b : Nat} {n : Int} (h : ¬ ((4 ≤ b ∧ b ≤ 8) ∨ 55 ≤ b)) : agT M (cpD M a b n) := fun c hc => funext fun i => if_neg (fun (e : c = b ∧ 0 ≤ i ∧ i < n) => h (e.1 ▸ hc))
theorem evM_T {M : Mem} {e : Nat} (he : e < 4) : agT M (evM M e) := agT_tr (agT_cp (by omega)) (agT_tr (agT_set (by omega)) (agT_set (by omega)))
theorem evM_6 {M : Mem} {e : Nat} : evM M e (19 + 9 * e) 6 = M 1 4 := (mset_ne (by omega)).trans (mset_eq rfl)
theorem evM_c {M : Mem} {e : Nat} {k : Int} (h : 0 ≤ k) (h2 : k < M 1 4) : evM M e (27 + 9 * e) k = M 3 k := (mset_ne (by omega)).trans ((mset_ne (by omega)).trans (if_pos ⟨rfl, h, h2⟩))
theorem beQ_r {e : Nat} {M M' : Mem} {D : Option (List ND × List SD)} {r : Option PV} (h : beQ e M D r M') : ∃ z, r = some (vi z) := by
  cases hD : D with
  | none => exact ⟨4, (h.1 hD).1⟩
  | some x =>
    obtain ⟨N, S⟩ := x
    obtain ⟨M2, -, -, h1, h2⟩ := h.2 N S hD
    cases hw : (wtD M2 e).2 with
    | false => exact ⟨5, (h1 hw).1⟩
    | true => exact ⟨_, (h2 hw).1⟩
theorem d_De_eval_0 : decode b_De_eval 0 = .ok (.iload_n 1, 1) := by decide +kernel
theorem d_De_eval_1 : decode b_De_eval 1 = .ok (.invokestatic 81, 3) := by decide +kernel
theorem d_De_eval_4 : decode b_De_eval 4 = .ok (.ifCond .eq 13, 3) := by decide +kernel
theorem d_De_eval_7 : decode b_De_eval 7 = .ok (.aload_n 0, 1) := by decide +kernel
theorem d_De_eval_8 : decode b_De_eval 8 = .ok (.getfield 36, 3) := by decide +kernel
theorem d_De_eval_11 : decode b_De_eval 11 = .ok (.invokevirtual 85, 3) := by decide +kernel
theorem d_De_eval_14 : decode b_De_eval 14 = .ok (.ifCond .eq 5, 3) := by decide +kernel
theorem d_De_eval_17 : decode b_De_eval 17 = .ok (.iconst (-1), 1) := by decide +kernel
theorem d_De_eval_18 : decode b_De_eval 18 = .ok (.ireturn, 1) := by decide +kernel
theorem d_De_eval_19 : decode b_De_eval 19 = .ok (.aload_n 0, 1) := by decide +kernel
theorem d_De_eval_20 : decode b_De_eval 20 = .ok (.getfield 11, 3) := by decide +kernel
theorem d_De_eval_23 : decode b_De_eval 23 = .ok (.iload_n 1, 1) := by decide +kernel
theorem d_De_eval_24 : decode b_De_eval 24 = .ok (.aaload, 1) := by decide +kernel
theorem d_De_eval_25 : decode b_De_eval 25 = .ok (.aload_n 0, 1) := by decide +kernel
theorem d_De_eval_26 : decode b_De_eval 26 = .ok (.getfield 15, 3) := by decide +kernel
theorem d_De_eval_29 : decode b_De_eval 29 = .ok (.aload_n 0, 1) := by decide +kernel
theorem d_De_eval_30 : decode b_De_eval 30 = .ok (.getfield 77, 3) := by decide +kernel
theorem d_De_eval_33 : decode b_De_eval 33 = .ok (.invokevirtual 89, 3) := by decide +kernel
theorem d_De_eval_36 : decode b_De_eval 36 = .ok (.aload_n 0, 1) := by decide +kernel
theorem d_De_eval_37 : decode b_De_eval 37 = .ok (.iconst 0, 1) := by decide +kernel
theorem d_De_eval_38 : decode b_De_eval 38 = .ok (.putfield 77, 3) := by decide +kernel
theorem d_De_eval_41 : decode b_De_eval 41 = .ok (.aload_n 0, 1) := by decide +kernel
theorem d_De_eval_42 : decode b_De_eval 42 = .ok (.getfield 11, 3) := by decide +kernel
theorem d_De_eval_45 : decode b_De_eval 45 = .ok (.iload_n 1, 1) := by decide +kernel
theorem d_De_eval_46 : decode b_De_eval 46 = .ok (.aaload, 1) := by decide +kernel
theorem d_De_eval_47 : decode b_De_eval 47 = .ok (.invokevirtual 93, 3) := by decide +kernel
theorem d_De_eval_50 : decode b_De_eval 50 = .ok (.ireturn, 1) := by decide +kernel
theorem g_De_eval {X : WX} {d : Nat} (hd : 408 ≤ d) (e : Nat) (J : Mem → Prop) (f : Int → Int) (len : Int)  (M : Mem) (hT : RT M) (hI : TI M) (he : e < 4) (hlen4 : M 1 4 = len) (hlen : 0 ≤ len ∧ len ≤ 40) (hch : ∀ k, 0 ≤ k → k < len → M 3 k = f k ∧ 32 ≤ f k ∧ f k ≤ 126) (hz : ∀ k, len ≤ k → f k = 0) (hbe : beH e (evM M e) (dfF (lexL f len 41 0 [])) J) : MG X gt d KE KE y_De_eval b_De_eval 2 (some .int) [vr 1, vi (e : Int)] M (fun r M' => (M 55 9 = 0 → r = some (vi (-1)) ∧ M' = M) ∧ (M 55 9 = 1 → beQ e (evM M e) (dfF (lexL f len 41 0 [])) r M')) := by
  refine MG_of_G (by decide) (Nat.le_of_ble_eq_true rfl) (Nat.le_refl _) (by decide) ?_
  show G X gt d KE KE y_De_eval b_De_eval 2 (some .int) _ 0 [(0, vr 1), (1, vi (e : Int))] [] KE M
  have hI0 := hI
  have hI3 := hI.2.2.1
  refine G_rngl (i := 1) rfl (fun hr1 => ?_)
  refine G_iload (i := 1) (n := 1) (len := 1) (Or.inl ⟨1, rfl, rfl, d_De_eval_0⟩) rfl (G_pc (pc' := 1) rfl ?_)
  refine G_callS (K1 := KE) (d2 := 0) (as := [vi (e : Int)]) (rest := []) d_De_eval_1 mf_De_isEvaluation ml_De_81 rfl rfl (Nat.le_of_ble_eq_true rfl) (by omega) ⟨Nat.le_refl _, Nat.le_refl _⟩ (g_De_isEvaluation (by omega) (e : Int) _) (fun r1 M2 kq3 q3 => ?_)
  clear kq3; obtain ⟨q3a, q3b⟩ := q3; subst r1; subst M2
  refine G_ps (pc' := 4) (st' := [vi (b2i (decide (0 ≤ (e : Int) ∧ (e : Int) < 4)))]) rfl rfl ?_
  refine G_if_eq (tgt := 17) d_De_eval_4 (by decide) (fun h4 => ?_) (fun h4 => G_pc (pc' := 7) rfl ?_)
  · skip
    replace h4 := b2i_0.mp h4
    replace h4 := of_decide_eq_false h4
    refine G_iconst (n := (-1)) d_De_eval_17 (by decide) (G_pc (pc' := 18) rfl ?_)
    refine G_iret d_De_eval_18 rfl (tokI (by decide)) rfl rfl ?_
    first | (exfalso; omega) | exact ⟨fun _ => ⟨rfl, rfl⟩, fun h => by omega⟩
  · skip
    replace h4 := b2i_nz.mp h4
    replace h4 := of_decide_eq_true h4
    refine G_aload (i := 0) (n := 0) (len := 1) (Or.inl ⟨0, rfl, rfl, d_De_eval_7⟩) rfl (by decide) (G_pc (pc' := 8) rfl ?_)
    refine G_get (o := 1) (c := 8) (k := 0) (v := 4) d_De_eval_8 fl_De_36 rfl (by decide) (by decide) rfl rfl (G_pc (pc' := 11) rfl ?_)
    refine G_callV (K1 := KE) (d2 := 0) (o := 4) (cl := 6) (as := []) (rest := []) d_De_eval_11 mf_Ta_runs ml_De_85 rfl rfl (by decide) rfl rfl (Nat.le_of_ble_eq_true rfl) (by omega) ⟨Nat.le_refl _, Nat.le_refl _⟩ (g_Ta_runs (by omega)  M hT hI0 ) (fun r5 M6 kq7 q7 => ?_)
    clear kq7; obtain ⟨q7a, q7b⟩ := q7; subst r5; subst M6
    refine G_ps (pc' := 14) (st' := [vi (1 - M 55 9)]) rfl rfl ?_
    refine G_if_eq (tgt := 19) d_De_eval_14 (by decide) (fun h8 => ?_) (fun h8 => G_pc (pc' := 17) rfl ?_)
    · skip
      refine G_aload (i := 0) (n := 0) (len := 1) (Or.inl ⟨0, rfl, rfl, d_De_eval_19⟩) rfl (by decide) (G_pc (pc' := 20) rfl ?_)
      refine G_get (o := 1) (c := 8) (k := 2) (v := 2) d_De_eval_20 fl_De_11 rfl (by decide) (by decide) rfl rfl (G_pc (pc' := 23) rfl ?_)
      refine G_iload (i := 1) (n := 1) (len := 1) (Or.inl ⟨1, rfl, rfl, d_De_eval_23⟩) rfl (G_pc (pc' := 24) rfl ?_)
      refine G_aaload (o := 2) (n := 4) (i := (e : Int)) (v := ((19 + 9 * e : Nat) : Int)) d_De_eval_24 rfl ⟨by decide, by decide⟩ (by omega) (rd_2 (by omega)) (G_pc (pc' := 25) rfl ?_)
      refine G_aload (i := 0) (n := 0) (len := 1) (Or.inl ⟨0, rfl, rfl, d_De_eval_25⟩) rfl (by decide) (G_pc (pc' := 26) rfl ?_)
      refine G_get (o := 1) (c := 8) (k := 3) (v := 3) d_De_eval_26 fl_De_15 rfl (by decide) (by decide) rfl rfl (G_pc (pc' := 29) rfl ?_)
      refine G_aload (i := 0) (n := 0) (len := 1) (Or.inl ⟨0, rfl, rfl, d_De_eval_29⟩) rfl (by decide) (G_pc (pc' := 30) rfl ?_)
      refine G_get (o := 1) (c := 8) (k := 4) (v := M 1 4) d_De_eval_30 fl_De_77 rfl (by decide) (by decide) rfl rfl (G_pc (pc' := 33) rfl ?_)
      refine G_callV (K1 := KE) (d2 := 1) (o := (19 + 9 * e)) (cl := 1) (as := [vr 3, vi (M 1 4)]) (rest := []) d_De_eval_33 mf_Ev_takeText ml_De_89 (kd_Ev he) rfl (by show 19 + 9 * e < 87; omega) rfl rfl (Nat.le_of_ble_eq_true rfl) (by omega) ⟨Nat.le_refl _, Nat.le_refl _⟩ (g_Ev_takeText (by omega) e (M 1 4) _ he (by omega)) (fun r9 M10 kq11 q11 => ?_)
      clear kq11; obtain ⟨q11a, q11b⟩ := q11; subst r9; subst M10
      refine G_ps (pc' := 36) (st' := []) rfl rfl ?_
      refine G_aload (i := 0) (n := 0) (len := 1) (Or.inl ⟨0, rfl, rfl, d_De_eval_36⟩) rfl (by decide) (G_pc (pc' := 37) rfl ?_)
      refine G_iconst (n := 0) d_De_eval_37 (by decide) (G_pc (pc' := 38) rfl ?_)
      refine G_putL (o := 1) (c := 8) (k := 4) (ki := 4) (x := 0) d_De_eval_38 fl_De_77 rfl rfl (by decide) (by decide) (by decide) rfl rfl (tokI (by decide)) rfl (G_pc (pc' := 41) rfl ?_)
      refine G_aload (i := 0) (n := 0) (len := 1) (Or.inl ⟨0, rfl, rfl, d_De_eval_41⟩) rfl (by decide) (G_pc (pc' := 42) rfl ?_)
      refine G_get (o := 1) (c := 8) (k := 2) (v := 2) d_De_eval_42 fl_De_11 rfl (by decide) (by decide) rfl rfl (G_pc (pc' := 45) rfl ?_)
      refine G_iload (i := 1) (n := 1) (len := 1) (Or.inl ⟨1, rfl, rfl, d_De_eval_45⟩) rfl (G_pc (pc' := 46) rfl ?_)
      refine G_aaload (o := 2) (n := 4) (i := (e : Int)) (v := ((19 + 9 * e : Nat) : Int)) d_De_eval_46 rfl ⟨by decide, by decide⟩ (by omega) (rd_2 (by omega)) (G_pc (pc' := 47) rfl ?_)
      refine G_callV (K1 := KE) (d2 := 407) (o := (19 + 9 * e)) (cl := 1) (as := []) (rest := []) d_De_eval_47 mf_Ev_begin ml_De_93 (kd_Ev he) rfl (by show 19 + 9 * e < 87; omega) rfl rfl (Nat.le_of_ble_eq_true rfl) (by omega) ⟨Nat.le_refl _, Nat.le_refl _⟩ (g_Ev_begin (by omega) e J f len (mset (mset (cpD M 3 (27 + 9 * e) (M 1 4)) (19 + 9 * e) 6 (M 1 4)) 1 4 0) (RT_t (evM_T he) hT) (TI_t (evM_T he) hI0) he (evM_6.trans hlen4) hlen (fun k h0 h1 => (have h9 := hch k h0 h1; ⟨(evM_c (e := e) h0 (by omega)).trans h9.1, h9.2⟩)) hz hbe) (fun r12 M13 kq14 q14 => ?_)
      obtain ⟨zb, hzb⟩ := beQ_r q14; subst hzb
      have hzr : -2147483648 ≤ zb ∧ zb < 2147483648 := kq14 _ rfl
      refine G_ps (pc' := 50) (st' := [vi zb]) rfl rfl ?_
      refine G_iret d_De_eval_50 rfl (tokI (by omega)) rfl rfl ?_
      exact ⟨fun h => by omega, fun _ => q14⟩
    · skip
      refine G_iconst (n := (-1)) d_De_eval_17 (by decide) (G_pc (pc' := 18) rfl ?_)
      refine G_iret d_De_eval_18 rfl (tokI (by decide)) rfl rfl ?_
      first | (exfalso; omega) | exact ⟨fun _ => ⟨rfl, rfl⟩, fun h => by omega⟩

theorem gx_De_eval {X : WX} {d : Nat} (hd : 1 ≤ d) (z : Int) (M : Mem) (hx : ¬ (0 ≤ z ∧ z < 4)) : MG X gt d KE KE y_De_eval b_De_eval 2 (some .int) [vr 1, vi z] M (fun r M' => r = some (vi (-1)) ∧ M' = M) := by
  refine MG_of_G (by decide) (Nat.le_of_ble_eq_true rfl) (Nat.le_refl _) (by decide) ?_
  show G X gt d KE KE y_De_eval b_De_eval 2 (some .int) _ 0 [(0, vr 1), (1, vi z)] [] KE M
  refine G_rngl (i := 1) rfl (fun hr1 => ?_)
  refine G_iload (i := 1) (n := 1) (len := 1) (Or.inl ⟨1, rfl, rfl, d_De_eval_0⟩) rfl (G_pc (pc' := 1) rfl ?_)
  refine G_callS (K1 := KE) (d2 := 0) (as := [vi z]) (rest := []) d_De_eval_1 mf_De_isEvaluation ml_De_81 rfl rfl (Nat.le_of_ble_eq_true rfl) (by omega) ⟨Nat.le_refl _, Nat.le_refl _⟩ (g_De_isEvaluation (by omega) z _) (fun r1 M2 kq3 q3 => ?_)
  clear kq3; obtain ⟨q3a, q3b⟩ := q3; subst r1; subst M2
  refine G_ps (pc' := 4) (st' := [vi (b2i (decide (0 ≤ z ∧ z < 4)))]) rfl rfl ?_
  refine G_if_eq (tgt := 17) d_De_eval_4 (by decide) (fun h4 => ?_) (fun h4 => absurd h4 (not_not_intro (b2i_f (decide_eq_false hx))))
  replace h4 := b2i_0.mp h4
  replace h4 := of_decide_eq_false h4
  refine G_iconst (n := (-1)) d_De_eval_17 (by decide) (G_pc (pc' := 18) rfl ?_)
  refine G_iret d_De_eval_18 rfl (tokI (by decide)) rfl rfl ?_
  first | (exfalso; omega) | exact ret_e rfl rfl

theorem d_De_again_0 : decode b_De_again 0 = .ok (.iload_n 1, 1) := by decide +kernel
theorem d_De_again_1 : decode b_De_again 1 = .ok (.invokestatic 81, 3) := by decide +kernel
theorem d_De_again_4 : decode b_De_again 4 = .ok (.ifCond .eq 25, 3) := by decide +kernel
theorem d_De_again_7 : decode b_De_again 7 = .ok (.aload_n 0, 1) := by decide +kernel
theorem d_De_again_8 : decode b_De_again 8 = .ok (.getfield 36, 3) := by decide +kernel
theorem d_De_again_11 : decode b_De_again 11 = .ok (.invokevirtual 85, 3) := by decide +kernel
theorem d_De_again_14 : decode b_De_again 14 = .ok (.ifCond .ne 15, 3) := by decide +kernel
theorem d_De_again_17 : decode b_De_again 17 = .ok (.aload_n 0, 1) := by decide +kernel
theorem d_De_again_18 : decode b_De_again 18 = .ok (.getfield 11, 3) := by decide +kernel
theorem d_De_again_21 : decode b_De_again 21 = .ok (.iload_n 1, 1) := by decide +kernel
theorem d_De_again_22 : decode b_De_again 22 = .ok (.aaload, 1) := by decide +kernel
theorem d_De_again_23 : decode b_De_again 23 = .ok (.invokevirtual 97, 3) := by decide +kernel
theorem d_De_again_26 : decode b_De_again 26 = .ok (.ifCond .ne 5, 3) := by decide +kernel
theorem d_De_again_29 : decode b_De_again 29 = .ok (.iconst (-1), 1) := by decide +kernel
theorem d_De_again_30 : decode b_De_again 30 = .ok (.ireturn, 1) := by decide +kernel
theorem d_De_again_31 : decode b_De_again 31 = .ok (.aload_n 0, 1) := by decide +kernel
theorem d_De_again_32 : decode b_De_again 32 = .ok (.getfield 11, 3) := by decide +kernel
theorem d_De_again_35 : decode b_De_again 35 = .ok (.iload_n 1, 1) := by decide +kernel
theorem d_De_again_36 : decode b_De_again 36 = .ok (.aaload, 1) := by decide +kernel
theorem d_De_again_37 : decode b_De_again 37 = .ok (.invokevirtual 93, 3) := by decide +kernel
theorem d_De_again_40 : decode b_De_again 40 = .ok (.ireturn, 1) := by decide +kernel
theorem g_De_again {X : WX} {d : Nat} (hd : 408 ≤ d) (e : Nat) (J : Mem → Prop) (f : Int → Int) (len : Int)  (M : Mem) (hT : RT M) (hI : TI M) (he : e < 4) (hlen6 : M (19 + 9 * e) 6 = len) (hlen : 0 ≤ len ∧ len ≤ 40) (hch : ∀ k, 0 ≤ k → k < len → M (27 + 9 * e) k = f k ∧ 32 ≤ f k ∧ f k ≤ 126) (hz : ∀ k, len ≤ k → f k = 0) (hbe : beH e M (dfF (lexL f len 41 0 [])) J) : MG X gt d KE KE y_De_again b_De_again 2 (some .int) [vr 1, vi (e : Int)] M (fun r M' => (M 55 9 = 0 ∨ M (19 + 9 * e) 7 = 0 → r = some (vi (-1)) ∧ M' = M) ∧ (¬ (M 55 9 = 0 ∨ M (19 + 9 * e) 7 = 0) → beQ e M (dfF (lexL f len 41 0 [])) r M')) := by
  refine MG_of_G (by decide) (Nat.le_of_ble_eq_true rfl) (Nat.le_refl _) (by decide) ?_
  show G X gt d KE KE y_De_again b_De_again 2 (some .int) _ 0 [(0, vr 1), (1, vi (e : Int))] [] KE M
  have hI0 := hI
  have hI3 := hI.2.2.1
  refine G_rngl (i := 1) rfl (fun hr1 => ?_)
  refine G_iload (i := 1) (n := 1) (len := 1) (Or.inl ⟨1, rfl, rfl, d_De_again_0⟩) rfl (G_pc (pc' := 1) rfl ?_)
  refine G_callS (K1 := KE) (d2 := 0) (as := [vi (e : Int)]) (rest := []) d_De_again_1 mf_De_isEvaluation ml_De_81 rfl rfl (Nat.le_of_ble_eq_true rfl) (by omega) ⟨Nat.le_refl _, Nat.le_refl _⟩ (g_De_isEvaluation (by omega) (e : Int) _) (fun r1 M2 kq3 q3 => ?_)
  clear kq3; obtain ⟨q3a, q3b⟩ := q3; subst r1; subst M2
  refine G_ps (pc' := 4) (st' := [vi (b2i (decide (0 ≤ (e : Int) ∧ (e : Int) < 4)))]) rfl rfl ?_
  refine G_if_eq (tgt := 29) d_De_again_4 (by decide) (fun h4 => ?_) (fun h4 => G_pc (pc' := 7) rfl ?_)
  · skip
    replace h4 := b2i_0.mp h4
    replace h4 := of_decide_eq_false h4
    refine G_iconst (n := (-1)) d_De_again_29 (by decide) (G_pc (pc' := 30) rfl ?_)
    refine G_iret d_De_again_30 rfl (tokI (by decide)) rfl rfl ?_
    first | (exfalso; omega) | exact ⟨fun _ => ⟨rfl, rfl⟩, fun h => by omega⟩
  · skip
    replace h4 := b2i_nz.mp h4
    replace h4 := of_decide_eq_true h4
    refine G_aload (i := 0) (n := 0) (len := 1) (Or.inl ⟨0, rfl, rfl, d_De_again_7⟩) rfl (by decide) (G_pc (pc' := 8) rfl ?_)
    refine G_get (o := 1) (c := 8) (k := 0) (v := 4) d_De_again_8 fl_De_36 rfl (by decide) (by decide) rfl rfl (G_pc (pc' := 11) rfl ?_)
    refine G_callV (K1 := KE) (d2 := 0) (o := 4) (cl := 6) (as := []) (rest := []) d_De_again_11 mf_Ta_runs ml_De_85 rfl rfl (by decide) rfl rfl (Nat.le_of_ble_eq_true rfl) (by omega) ⟨Nat.le_refl _, Nat.le_refl _⟩ (g_Ta_runs (by omega)  M hT hI0 ) (fun r5 M6 kq7 q7 => ?_)
    clear kq7; obtain ⟨q7a, q7b⟩ := q7; subst r5; subst M6
    refine G_ps (pc' := 14) (st' := [vi (1 - M 55 9)]) rfl rfl ?_
    refine G_if_ne (tgt := 29) d_De_again_14 (by decide) (fun h8 => ?_) (fun h8 => G_pc (pc' := 17) rfl ?_)
    · skip
      refine G_iconst (n := (-1)) d_De_again_29 (by decide) (G_pc (pc' := 30) rfl ?_)
      refine G_iret d_De_again_30 rfl (tokI (by decide)) rfl rfl ?_
      first | (exfalso; omega) | exact ⟨fun _ => ⟨rfl, rfl⟩, fun h => by omega⟩
    · skip
      refine G_aload (i := 0) (n := 0) (len := 1) (Or.inl ⟨0, rfl, rfl, d_De_again_17⟩) rfl (by decide) (G_pc (pc' := 18) rfl ?_)
      refine G_get (o := 1) (c := 8) (k := 2) (v := 2) d_De_again_18 fl_De_11 rfl (by decide) (by decide) rfl rfl (G_pc (pc' := 21) rfl ?_)
      refine G_iload (i := 1) (n := 1) (len := 1) (Or.inl ⟨1, rfl, rfl, d_De_again_21⟩) rfl (G_pc (pc' := 22) rfl ?_)
      refine G_aaload (o := 2) (n := 4) (i := (e : Int)) (v := ((19 + 9 * e : Nat) : Int)) d_De_again_22 rfl ⟨by decide, by decide⟩ (by omega) (rd_2 (by omega)) (G_pc (pc' := 23) rfl ?_)
      refine G_callV (K1 := KE) (d2 := 0) (o := (19 + 9 * e)) (cl := 1) (as := []) (rest := []) d_De_again_23 mf_Ev_state ml_De_97 (kd_Ev he) rfl (by show 19 + 9 * e < 87; omega) rfl rfl (Nat.le_of_ble_eq_true rfl) (by omega) ⟨Nat.le_refl _, Nat.le_refl _⟩ (g_Ev_state (by omega) e  _ he) (fun r9 M10 kq11 q11 => ?_)
      clear kq11; obtain ⟨q11a, q11b⟩ := q11; subst r9; subst M10
      refine G_ps (pc' := 26) (st' := [vi (M (19 + 9 * e) 7)]) rfl rfl ?_
      refine G_if_ne (tgt := 31) d_De_again_26 (by decide) (fun h12 => ?_) (fun h12 => G_pc (pc' := 29) rfl ?_)
      · skip
        refine G_aload (i := 0) (n := 0) (len := 1) (Or.inl ⟨0, rfl, rfl, d_De_again_31⟩) rfl (by decide) (G_pc (pc' := 32) rfl ?_)
        refine G_get (o := 1) (c := 8) (k := 2) (v := 2) d_De_again_32 fl_De_11 rfl (by decide) (by decide) rfl rfl (G_pc (pc' := 35) rfl ?_)
        refine G_iload (i := 1) (n := 1) (len := 1) (Or.inl ⟨1, rfl, rfl, d_De_again_35⟩) rfl (G_pc (pc' := 36) rfl ?_)
        refine G_aaload (o := 2) (n := 4) (i := (e : Int)) (v := ((19 + 9 * e : Nat) : Int)) d_De_again_36 rfl ⟨by decide, by decide⟩ (by omega) (rd_2 (by omega)) (G_pc (pc' := 37) rfl ?_)
        refine G_callV (K1 := KE) (d2 := 407) (o := (19 + 9 * e)) (cl := 1) (as := []) (rest := []) d_De_again_37 mf_Ev_begin ml_De_93 (kd_Ev he) rfl (by show 19 + 9 * e < 87; omega) rfl rfl (Nat.le_of_ble_eq_true rfl) (by omega) ⟨Nat.le_refl _, Nat.le_refl _⟩ (g_Ev_begin (by omega) e J f len M hT hI0 he hlen6 hlen hch hz hbe) (fun r13 M14 kq15 q15 => ?_)
        obtain ⟨zb, hzb⟩ := beQ_r q15; subst hzb
        have hzr : -2147483648 ≤ zb ∧ zb < 2147483648 := kq15 _ rfl
        refine G_ps (pc' := 40) (st' := [vi zb]) rfl rfl ?_
        refine G_iret d_De_again_40 rfl (tokI (by omega)) rfl rfl ?_
        exact ⟨fun h => by omega, fun _ => q15⟩
      · skip
        refine G_iconst (n := (-1)) d_De_again_29 (by decide) (G_pc (pc' := 30) rfl ?_)
        refine G_iret d_De_again_30 rfl (tokI (by decide)) rfl rfl ?_
        first | (exfalso; omega) | exact ⟨fun _ => ⟨rfl, rfl⟩, fun h => by omega⟩

theorem gx_De_again {X : WX} {d : Nat} (hd : 1 ≤ d) (z : Int) (M : Mem) (hx : ¬ (0 ≤ z ∧ z < 4)) : MG X gt d KE KE y_De_again b_De_again 2 (some .int) [vr 1, vi z] M (fun r M' => r = some (vi (-1)) ∧ M' = M) := by
  refine MG_of_G (by decide) (Nat.le_of_ble_eq_true rfl) (Nat.le_refl _) (by decide) ?_
  show G X gt d KE KE y_De_again b_De_again 2 (some .int) _ 0 [(0, vr 1), (1, vi z)] [] KE M
  refine G_rngl (i := 1) rfl (fun hr1 => ?_)
  refine G_iload (i := 1) (n := 1) (len := 1) (Or.inl ⟨1, rfl, rfl, d_De_again_0⟩) rfl (G_pc (pc' := 1) rfl ?_)
  refine G_callS (K1 := KE) (d2 := 0) (as := [vi z]) (rest := []) d_De_again_1 mf_De_isEvaluation ml_De_81 rfl rfl (Nat.le_of_ble_eq_true rfl) (by omega) ⟨Nat.le_refl _, Nat.le_refl _⟩ (g_De_isEvaluation (by omega) z _) (fun r1 M2 kq3 q3 => ?_)
  clear kq3; obtain ⟨q3a, q3b⟩ := q3; subst r1; subst M2
  refine G_ps (pc' := 4) (st' := [vi (b2i (decide (0 ≤ z ∧ z < 4)))]) rfl rfl ?_
  refine G_if_eq (tgt := 29) d_De_again_4 (by decide) (fun h4 => ?_) (fun h4 => absurd h4 (not_not_intro (b2i_f (decide_eq_false hx))))
  replace h4 := b2i_0.mp h4
  replace h4 := of_decide_eq_false h4
  refine G_iconst (n := (-1)) d_De_again_29 (by decide) (G_pc (pc' := 30) rfl ?_)
  refine G_iret d_De_again_30 rfl (tokI (by decide)) rfl rfl ?_
  first | (exfalso; omega) | exact ret_e rfl rfl

