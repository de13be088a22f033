/-- W holds in the desk's target, and in the model, what M holds -/
def agT (M W : Mem) : Prop := ∀ c : Nat, (4 ≤ c ∧ c ≤ 8) ∨ 55 ≤ c → W c = M c
theorem RT_t {M W : Mem} (h : agT M W) (hT : RT M) : RT W := by
  have e4 := h 4 (by omega); have e5 := h 5 (by omega); have e6 := h 6 (by omega); have e7 := h 7 (by omega); have e8 := h 8 (by omega)
  have f5 := h 55 (by omega); have f6 := h 56 (by omega); have f7 := h 57 (by omega); have f8 := h 58 (by omega); have f9 := h 59 (by omega); have g0 := h 60 (by omega); have g1 := h 61 (by omega); have g2 := h 62 (by omega)
  unfold RT at hT ⊢
  simp only [e4, e5, e6, e7, e8, f5, f6, f7, f8, f9, g0, g1, g2]
  exact hT
theorem TI_t {M W : Mem} (h : agT M W) (hI : TI M) : TI W := by
  have f5 := h 55 (by omega); have f6 := h 56 (by omega); have f7 := h 57 (by omega); have f8 := h 58 (by omega); have g0 := h 60 (by omega); have g1 := h 61 (by omega)
  unfold TI okP okF okK at hI ⊢
  simp only [f5, f6, f7, f8, g0, g1]
  exact hI
theorem agT_tr {M W V : Mem} (h : agT M W) (h2 : agT W V) : agT M V := fun c hc => (h2 c hc).trans (h c hc)
theorem agT_set {M : Mem} {c : Nat} {i v : Int} (h : ¬ ((4 ≤ c ∧ c ≤ 8) ∨ 55 ≤ c)) : agT M (mset M c i v) := fun c' hc => funext fun i' => mset_ne (fun e => h (e ▸ hc))
theorem agT_fx {e : Nat} (he : e < 4) {M W : Mem} (h : frX e M W) : agT M W := fun c hc => funext fun i => h c i (by unfold rcell; omega)
theorem agT_K {e : Nat} (he : e < 4) {M : Mem} {K : Int → Int} : agT M (setK M e K) := fun c hc => setK_o (by omega) (by omega)
theorem chkK_vK {M : Mem} {e : Nat} (hI : TI M) (hwt : wtH M e) : ∀ (n : Nat) (i : Int) (K : Int → Int), i + n = M (20 + 9 * e) 6 → 0 ≤ i → (∀ j, 0 ≤ j → j < i → vK M (K j)) → (∀ j, i ≤ j → K j = M (25 + 9 * e) j) → (chkK (kstK M e) n i K).2 = true → ∀ j, 0 ≤ j → j < M (20 + 9 * e) 6 → vK M ((chkK (kstK M e) n i K).1 j) := by
  intro n
  induction n with
  | zero => intro i K h1 h2 hA hB _ j h3 h4; exact hA j h3 (by omega)
  | succ n ih =>
    intro i K h1 h2 hA hB hc
    by_cases h : kstK M e K i = -1
    · rw [chkK_no h] at hc; cases hc
    · rw [chkK_yes h] at hc ⊢
      exact ih (i + 1) _ (by omega) (by omega) (kup_vK hA ((kst_vK hI (hwt.2 i K h2 (by omega) hA hB)).resolve_left h)) (kup_o hB) hc
theorem wt_vK {M : Mem} {e : Nat} (hI : TI M) (hwt : wtH M e) (h : (wtD M e).2 = true) : ∀ j, 0 ≤ j → j < M (20 + 9 * e) 6 → vK M ((wtD M e).1 j) := by
  have hs := hwt.1
  exact chkK_vK hI hwt _ 0 _ (by omega) (by omega) (fun j h7 h8 => absurd h8 (by omega)) (fun j _ => rfl) h
def be1 (M : Mem) (e : Nat) : Mem := mset (mset (mset M (19 + 9 * e) 8 (-1)) (19 + 9 * e) 9 0) (19 + 9 * e) 10 0
def be2 (M2 : Mem) (e : Nat) : Mem := mset (setK M2 e (wtD M2 e).1) (19 + 9 * e) 8 ((setK M2 e (wtD M2 e).1) (25 + 9 * e) (M2 (20 + 9 * e) 6 - 1))
noncomputable def be3 (M2 : Mem) (e : Nat) : Mem := goD e 48 (mset (be2 M2 e) (19 + 9 * e) 7 2)
def beQ (e : Nat) (M : Mem) (D : Option (List ND × List SD)) (r : Option PV) (M' : Mem) : Prop := (D = none → r = some (vi 4) ∧ ∃ M2, frX e (be1 M e) M2 ∧ M' = mset M2 (19 + 9 * e) 7 4)
  ∧ ∀ N S, D = some (N, S) → ∃ M2, stp e M2 S ∧ frX e (be1 M e) M2 ∧ ((wtD M2 e).2 = false → r = some (vi 5) ∧ M' = mset (setK M2 e (wtD M2 e).1) (19 + 9 * e) 7 5) ∧ ((wtD M2 e).2 = true → r = some (vi (M' (19 + 9 * e) 7)) ∧ M' = be3 M2 e)
/-- what the steps that were read must keep -/
def beH (e : Nat) (M : Mem) (D : Option (List ND × List SD)) (J : Mem → Prop) : Prop := ∀ N S M2, D = some (N, S) → stp e M2 S → frX e (be1 M e) M2 → wtH M2 e ∧ 1 ≤ M2 (20 + 9 * e) 6 ∧ ((wtD M2 e).2 = true → goH e J ∧ J (mset (be2 M2 e) (19 + 9 * e) 7 2))
theorem d_Ev_state_0 : decode b_Ev_state 0 = .ok (.aload_n 0, 1) := by decide +kernel
theorem d_Ev_state_1 : decode b_Ev_state 1 = .ok (.getfield 22, 3) := by decide +kernel
theorem d_Ev_state_4 : decode b_Ev_state 4 = .ok (.ireturn, 1) := by decide +kernel
theorem g_Ev_state {X : WX} {d : Nat} (hd : 0 ≤ d) (e : Nat) (M : Mem) (he : e < 4) : MG X gt d KE KE y_Ev_state b_Ev_state 1 (some .int) [vr ((19 + 9 * e : Nat) : Int)] M (fun r M' => r = some (vi (M (19 + 9 * e) 7)) ∧ M' = M) := by
  refine MG_of_G (by decide) (Nat.le_of_ble_eq_true rfl) (Nat.le_refl _) (by decide) ?_
  show G X gt d KE KE y_Ev_state b_Ev_state 1 (some .int) _ 0 [(0, vr ((19 + 9 * e : Nat) : Int))] [] KE M
  refine G_aload (i := 0) (n := 0) (len := 1) (Or.inl ⟨0, rfl, rfl, d_Ev_state_0⟩) rfl (by omega) (G_pc (pc' := 1) rfl ?_)
  refine G_get (o := (19 + 9 * e)) (c := 1) (k := 7) (v := M (19 + 9 * e) 7) d_Ev_state_1 fl_Ev_22 (kd_Ev he) (by decide) (by show 19 + 9 * e < 87; omega) (rdw (gn_Ev he (by decide)) (by first | rfl | (repeat (first | rfl | exact mset_eq (by omega) | refine (mset_ne (by omega)).trans ?_ | refine (mset_ni (by omega)).trans ?_)))) rfl (G_pc (pc' := 4) rfl ?_)
  refine G_mem (fun hmo _ => ?_)
  have t1 := tok_i (Eq.mp (congrArg (tok .int) (show rd gt M (19 + 9 * e) ((7 : Nat) : Int) = M (19 + 9 * e) 7 from (rdw (gn_Ev he (by decide)) (by first | rfl | (repeat (first | rfl | exact mset_eq (by omega) | refine (mset_ne (by omega)).trans ?_ | refine (mset_ni (by omega)).trans ?_)))))) (hmo (19 + 9 * e) (by omega) (by show 19 + 9 * e < 87; omega) 1 (kd_Ev he) 7 (by decide)))
  clear hmo
  refine G_iret d_Ev_state_4 rfl (tokI (by omega)) rfl rfl ?_
  exact ret_e rfl rfl

theorem d_Ev_kind_0 : decode b_Ev_kind 0 = .ok (.aload_n 0, 1) := by decide +kernel
theorem d_Ev_kind_1 : decode b_Ev_kind 1 = .ok (.getfield 26, 3) := by decide +kernel
theorem d_Ev_kind_4 : decode b_Ev_kind 4 = .ok (.ireturn, 1) := by decide +kernel
theorem g_Ev_kind {X : WX} {d : Nat} (hd : 0 ≤ d) (e : Nat) (M : Mem) (he : e < 4) : MG X gt d KE KE y_Ev_kind b_Ev_kind 1 (some .int) [vr ((19 + 9 * e : Nat) : Int)] M (fun r M' => r = some (vi (M (19 + 9 * e) 8)) ∧ M' = M) := by
  refine MG_of_G (by decide) (Nat.le_of_ble_eq_true rfl) (Nat.le_refl _) (by decide) ?_
  show G X gt d KE KE y_Ev_kind b_Ev_kind 1 (some .int) _ 0 [(0, vr ((19 + 9 * e : Nat) : Int))] [] KE M
  refine G_aload (i := 0) (n := 0) (len := 1) (Or.inl ⟨0, rfl, rfl, d_Ev_kind_0⟩) rfl (by omega) (G_pc (pc' := 1) rfl ?_)
  refine G_get (o := (19 + 9 * e)) (c := 1) (k := 8) (v := M (19 + 9 * e) 8) d_Ev_kind_1 fl_Ev_26 (kd_Ev he) (by decide) (by show 19 + 9 * e < 87; omega) (rdw (gn_Ev he (by decide)) (by first | rfl | (repeat (first | rfl | exact mset_eq (by omega) | refine (mset_ne (by omega)).trans ?_ | refine (mset_ni (by omega)).trans ?_)))) rfl (G_pc (pc' := 4) rfl ?_)
  refine G_mem (fun hmo _ => ?_)
  have t1 := tok_i (Eq.mp (congrArg (tok .int) (show rd gt M (19 + 9 * e) ((8 : Nat) : Int) = M (19 + 9 * e) 8 from (rdw (gn_Ev he (by decide)) (by first | rfl | (repeat (first | rfl | exact mset_eq (by omega) | refine (mset_ne (by omega)).trans ?_ | refine (mset_ni (by omega)).trans ?_)))))) (hmo (19 + 9 * e) (by omega) (by show 19 + 9 * e < 87; omega) 1 (kd_Ev he) 8 (by decide)))
  clear hmo
  refine G_iret d_Ev_kind_4 rfl (tokI (by omega)) rfl rfl ?_
  exact ret_e rfl rfl

theorem d_Ev_exception_0 : decode b_Ev_exception 0 = .ok (.aload_n 0, 1) := by decide +kernel
theorem d_Ev_exception_1 : decode b_Ev_exception 1 = .ok (.getfield 45, 3) := by decide +kernel
theorem d_Ev_exception_4 : decode b_Ev_exception 4 = .ok (.ireturn, 1) := by decide +kernel
theorem g_Ev_exception {X : WX} {d : Nat} (hd : 0 ≤ d) (e : Nat) (M : Mem) (he : e < 4) : MG X gt d KE KE y_Ev_exception b_Ev_exception 1 (some .int) [vr ((19 + 9 * e : Nat) : Int)] M (fun r M' => r = some (vi (M (19 + 9 * e) 9)) ∧ M' = M) := by
  refine MG_of_G (by decide) (Nat.le_of_ble_eq_true rfl) (Nat.le_refl _) (by decide) ?_
  show G X gt d KE KE y_Ev_exception b_Ev_exception 1 (some .int) _ 0 [(0, vr ((19 + 9 * e : Nat) : Int))] [] KE M
  refine G_aload (i := 0) (n := 0) (len := 1) (Or.inl ⟨0, rfl, rfl, d_Ev_exception_0⟩) rfl (by omega) (G_pc (pc' := 1) rfl ?_)
  refine G_get (o := (19 + 9 * e)) (c := 1) (k := 9) (v := M (19 + 9 * e) 9) d_Ev_exception_1 fl_Ev_45 (kd_Ev he) (by decide) (by show 19 + 9 * e < 87; omega) (rdw (gn_Ev he (by decide)) (by first | rfl | (repeat (first | rfl | exact mset_eq (by omega) | refine (mset_ne (by omega)).trans ?_ | refine (mset_ni (by omega)).trans ?_)))) rfl (G_pc (pc' := 4) rfl ?_)
  refine G_mem (fun hmo _ => ?_)
  have t1 := tok_i (Eq.mp (congrArg (tok .int) (show rd gt M (19 + 9 * e) ((9 : Nat) : Int) = M (19 + 9 * e) 9 from (rdw (gn_Ev he (by decide)) (by first | rfl | (repeat (first | rfl | exact mset_eq (by omega) | refine (mset_ne (by omega)).trans ?_ | refine (mset_ni (by omega)).trans ?_)))))) (hmo (19 + 9 * e) (by omega) (by show 19 + 9 * e < 87; omega) 1 (kd_Ev he) 9 (by decide)))
  clear hmo
  refine G_iret d_Ev_exception_4 rfl (tokI (by omega)) rfl rfl ?_
  exact ret_e rfl rfl

theorem d_Ev_result_0 : decode b_Ev_result 0 = .ok (.aload_n 0, 1) := by decide +kernel
theorem d_Ev_result_1 : decode b_Ev_result 1 = .ok (.getfield 22, 3) := by decide +kernel
theorem d_Ev_result_4 : decode b_Ev_result 4 = .ok (.iconst 2, 1) := by decide +kernel
theorem d_Ev_result_5 : decode b_Ev_result 5 = .ok (.if_icmp .ne 22, 3) := by decide +kernel
theorem d_Ev_result_8 : decode b_Ev_result 8 = .ok (.aload_n 0, 1) := by decide +kernel
theorem d_Ev_result_9 : decode b_Ev_result 9 = .ok (.getfield 12, 3) := by decide +kernel
theorem d_Ev_result_12 : decode b_Ev_result 12 = .ok (.aload_n 0, 1) := by decide +kernel
theorem d_Ev_result_13 : decode b_Ev_result 13 = .ok (.getfield 12, 3) := by decide +kernel
theorem d_Ev_result_16 : decode b_Ev_result 16 = .ok (.invokevirtual 48, 3) := by decide +kernel
theorem d_Ev_result_19 : decode b_Ev_result 19 = .ok (.iconst 1, 1) := by decide +kernel
theorem d_Ev_result_20 : decode b_Ev_result 20 = .ok (.isub, 1) := by decide +kernel
theorem d_Ev_result_21 : decode b_Ev_result 21 = .ok (.invokevirtual 52, 3) := by decide +kernel
theorem d_Ev_result_24 : decode b_Ev_result 24 = .ok (.goto 4, 3) := by decide +kernel
theorem d_Ev_result_27 : decode b_Ev_result 27 = .ok (.lconst 0, 1) := by decide +kernel
theorem d_Ev_result_28 : decode b_Ev_result 28 = .ok (.lreturn, 1) := by decide +kernel
theorem g_Ev_result {X : WX} {d : Nat} (hd : 1 ≤ d) (e : Nat) (M : Mem) (he : e < 4) (hs : M (19 + 9 * e) 7 = 2 → 1 ≤ M (20 + 9 * e) 6 ∧ M (20 + 9 * e) 6 ≤ 48) : MG X gt d KE KE y_Ev_result b_Ev_result 1 (some .long) [vr ((19 + 9 * e : Nat) : Int)] M (fun r M' => r = some (vl (if M (19 + 9 * e) 7 = 2 then M (26 + 9 * e) (M (20 + 9 * e) 6 - 1) else 0)) ∧ M' = M) := by
  refine MG_of_G (by decide) (Nat.le_of_ble_eq_true rfl) (Nat.le_refl _) (by decide) ?_
  show G X gt d KE KE y_Ev_result b_Ev_result 1 (some .long) _ 0 [(0, vr ((19 + 9 * e : Nat) : Int))] [] KE M
  refine G_aload (i := 0) (n := 0) (len := 1) (Or.inl ⟨0, rfl, rfl, d_Ev_result_0⟩) rfl (by omega) (G_pc (pc' := 1) rfl ?_)
  refine G_get (o := (19 + 9 * e)) (c := 1) (k := 7) (v := M (19 + 9 * e) 7) d_Ev_result_1 fl_Ev_22 (kd_Ev he) (by decide) (by show 19 + 9 * e < 87; omega) (rdw (gn_Ev he (by decide)) (by first | rfl | (repeat (first | rfl | exact mset_eq (by omega) | refine (mset_ne (by omega)).trans ?_ | refine (mset_ni (by omega)).trans ?_)))) rfl (G_pc (pc' := 4) rfl ?_)
  refine G_iconst (n := 2) d_Ev_result_4 (by decide) (G_pc (pc' := 5) rfl ?_)
  refine G_icmp_ne (tgt := 27) d_Ev_result_5 (by decide) (fun h1 => ?_) (fun h1 => G_pc (pc' := 8) rfl ?_)
  · skip
    refine G_lconst0 d_Ev_result_27 (G_pc (pc' := 28) rfl ?_)
    refine G_lret d_Ev_result_28 rfl rfl ?_
    exact ret_l (by first | rw [if_pos (by omega)] | rw [if_neg (by omega)]) rfl
  · skip
    have hs9 := hs (by omega)
    refine G_aload (i := 0) (n := 0) (len := 1) (Or.inl ⟨0, rfl, rfl, d_Ev_result_8⟩) rfl (by omega) (G_pc (pc' := 9) rfl ?_)
    refine G_get (o := (19 + 9 * e)) (c := 1) (k := 4) (v := ((20 + 9 * e : Nat) : Int)) d_Ev_result_9 fl_Ev_12 (kd_Ev he) (by decide) (by show 19 + 9 * e < 87; omega) (gf_Ev4 he) rfl (G_pc (pc' := 12) rfl ?_)
    refine G_aload (i := 0) (n := 0) (len := 1) (Or.inl ⟨0, rfl, rfl, d_Ev_result_12⟩) rfl (by omega) (G_pc (pc' := 13) rfl ?_)
    refine G_get (o := (19 + 9 * e)) (c := 1) (k := 4) (v := ((20 + 9 * e : Nat) : Int)) d_Ev_result_13 fl_Ev_12 (kd_Ev he) (by decide) (by show 19 + 9 * e < 87; omega) (gf_Ev4 he) rfl (G_pc (pc' := 16) rfl ?_)
    refine G_callV (K1 := KE) (d2 := 0) (o := (20 + 9 * e)) (cl := 5) (as := []) (rest := [vr ((20 + 9 * e : Nat) : Int)]) d_Ev_result_16 mf_St_size ml_Ev_48 (kd_St he) rfl (by show 20 + 9 * e < 87; omega) rfl rfl (Nat.le_of_ble_eq_true rfl) (by omega) ⟨Nat.le_refl _, Nat.le_refl _⟩ (g_St_size (by omega) e  _ he) (fun r2 M3 kq4 q4 => ?_)
    clear kq4; obtain ⟨q4a, q4b⟩ := q4; subst r2; subst M3
    refine G_ps (pc' := 19) (st' := [vi (M (20 + 9 * e) 6), vr ((20 + 9 * e : Nat) : Int)]) rfl rfl ?_
    refine G_iconst (n := 1) d_Ev_result_19 (by decide) (G_pc (pc' := 20) rfl ?_)
    refine G_isub d_Ev_result_20 (by omega) (G_pc (pc' := 21) rfl ?_)
    refine G_callV (K1 := KE) (d2 := 0) (o := (20 + 9 * e)) (cl := 5) (as := [vi ((M (20 + 9 * e) 6) - 1)]) (rest := []) d_Ev_result_21 mf_St_valueAt ml_Ev_52 (kd_St he) rfl (by show 20 + 9 * e < 87; omega) rfl rfl (Nat.le_of_ble_eq_true rfl) (by omega) ⟨Nat.le_refl _, Nat.le_refl _⟩ (g_St_valueAt (by omega) e ((M (20 + 9 * e) 6) - 1) _ he (by omega)) (fun r5 M6 kq7 q7 => ?_)
    clear kq7; obtain ⟨q7a, q7b⟩ := q7; subst r5; subst M6
    refine G_ps (pc' := 24) (st' := [vl (M (26 + 9 * e) ((M (20 + 9 * e) 6) - 1))]) rfl rfl ?_
    refine G_goto (tgt := 28) d_Ev_result_24 (by decide) ?_
    refine G_lret d_Ev_result_28 rfl rfl ?_
    exact ret_l (by first | rw [if_pos (by omega)] | rw [if_neg (by omega)]) rfl

theorem d_Ev_waitsFor_0 : decode b_Ev_waitsFor 0 = .ok (.aload_n 0, 1) := by decide +kernel
theorem d_Ev_waitsFor_1 : decode b_Ev_waitsFor 1 = .ok (.getfield 22, 3) := by decide +kernel
theorem d_Ev_waitsFor_4 : decode b_Ev_waitsFor 4 = .ok (.iconst 1, 1) := by decide +kernel
theorem d_Ev_waitsFor_5 : decode b_Ev_waitsFor 5 = .ok (.if_icmp .ne 15, 3) := by decide +kernel
theorem d_Ev_waitsFor_8 : decode b_Ev_waitsFor 8 = .ok (.aload_n 0, 1) := by decide +kernel
theorem d_Ev_waitsFor_9 : decode b_Ev_waitsFor 9 = .ok (.getfield 91, 3) := by decide +kernel
theorem d_Ev_waitsFor_12 : decode b_Ev_waitsFor 12 = .ok (.iload_n 1, 1) := by decide +kernel
theorem d_Ev_waitsFor_13 : decode b_Ev_waitsFor 13 = .ok (.if_icmp .ne 7, 3) := by decide +kernel
theorem d_Ev_waitsFor_16 : decode b_Ev_waitsFor 16 = .ok (.iconst 1, 1) := by decide +kernel
theorem d_Ev_waitsFor_17 : decode b_Ev_waitsFor 17 = .ok (.goto 4, 3) := by decide +kernel
theorem d_Ev_waitsFor_20 : decode b_Ev_waitsFor 20 = .ok (.iconst 0, 1) := by decide +kernel
theorem d_Ev_waitsFor_21 : decode b_Ev_waitsFor 21 = .ok (.ireturn, 1) := by decide +kernel
theorem g_Ev_waitsFor {X : WX} {d : Nat} (hd : 0 ≤ d) (e : Nat) (p : Int) (M : Mem) (he : e < 4) : MG X gt d KE KE y_Ev_waitsFor b_Ev_waitsFor 2 (some .boolean) [vr ((19 + 9 * e : Nat) : Int), vi p] M (fun r M' => r = some (vi (b2i (decide (M (19 + 9 * e) 7 = 1 ∧ M (19 + 9 * e) 11 = p)))) ∧ M' = M) := by
  refine MG_of_G (by decide) (Nat.le_of_ble_eq_true rfl) (Nat.le_refl _) (by decide) ?_
  show G X gt d KE KE y_Ev_waitsFor b_Ev_waitsFor 2 (some .boolean) _ 0 [(0, vr ((19 + 9 * e : Nat) : Int)), (1, vi p)] [] KE M
  refine G_rngl (i := 1) rfl (fun hr1 => ?_)
  refine G_aload (i := 0) (n := 0) (len := 1) (Or.inl ⟨0, rfl, rfl, d_Ev_waitsFor_0⟩) rfl (by omega) (G_pc (pc' := 1) rfl ?_)
  refine G_get (o := (19 + 9 * e)) (c := 1) (k := 7) (v := M (19 + 9 * e) 7) d_Ev_waitsFor_1 fl_Ev_22 (kd_Ev he) (by decide) (by show 19 + 9 * e < 87; omega) (rdw (gn_Ev he (by decide)) (by first | rfl | (repeat (first | rfl | exact mset_eq (by omega) | refine (mset_ne (by omega)).trans ?_ | refine (mset_ni (by omega)).trans ?_)))) rfl (G_pc (pc' := 4) rfl ?_)
  refine G_iconst (n := 1) d_Ev_waitsFor_4 (by decide) (G_pc (pc' := 5) rfl ?_)
  refine G_icmp_ne (tgt := 20) d_Ev_waitsFor_5 (by decide) (fun h1 => ?_) (fun h1 => G_pc (pc' := 8) rfl ?_)
  · skip
    refine G_iconst (n := 0) d_Ev_waitsFor_20 (by decide) (G_pc (pc' := 21) rfl ?_)
    refine G_iret d_Ev_waitsFor_21 rfl (tokZ (by decide)) rfl rfl ?_
    exact ret_f (decide_eq_false (by omega)) rfl
  · skip
    refine G_aload (i := 0) (n := 0) (len := 1) (Or.inl ⟨0, rfl, rfl, d_Ev_waitsFor_8⟩) rfl (by omega) (G_pc (pc' := 9) rfl ?_)
    refine G_get (o := (19 + 9 * e)) (c := 1) (k := 11) (v := M (19 + 9 * e) 11) d_Ev_waitsFor_9 fl_Ev_91 (kd_Ev he) (by decide) (by show 19 + 9 * e < 87; omega) (rdw (gn_Ev he (by decide)) (by first | rfl | (repeat (first | rfl | exact mset_eq (by omega) | refine (mset_ne (by omega)).trans ?_ | refine (mset_ni (by omega)).trans ?_)))) rfl (G_pc (pc' := 12) rfl ?_)
    refine G_iload (i := 1) (n := 1) (len := 1) (Or.inl ⟨1, rfl, rfl, d_Ev_waitsFor_12⟩) rfl (G_pc (pc' := 13) rfl ?_)
    refine G_icmp_ne (tgt := 20) d_Ev_waitsFor_13 (by decide) (fun h2 => ?_) (fun h2 => G_pc (pc' := 16) rfl ?_)
    · skip
      refine G_iconst (n := 0) d_Ev_waitsFor_20 (by decide) (G_pc (pc' := 21) rfl ?_)
      refine G_iret d_Ev_waitsFor_21 rfl (tokZ (by decide)) rfl rfl ?_
      exact ret_f (decide_eq_false (by omega)) rfl
    · skip
      refine G_iconst (n := 1) d_Ev_waitsFor_16 (by decide) (G_pc (pc' := 17) rfl ?_)
      refine G_goto (tgt := 21) d_Ev_waitsFor_17 (by decide) ?_
      refine G_iret d_Ev_waitsFor_21 rfl (tokZ (by decide)) rfl rfl ?_
      exact ret_t (decide_eq_true (by omega)) rfl

theorem d_Ev_stopWaiting_0 : decode b_Ev_stopWaiting 0 = .ok (.aload_n 0, 1) := by decide +kernel
theorem d_Ev_stopWaiting_1 : decode b_Ev_stopWaiting 1 = .ok (.iload_n 1, 1) := by decide +kernel
theorem d_Ev_stopWaiting_2 : decode b_Ev_stopWaiting 2 = .ok (.putfield 22, 3) := by decide +kernel
theorem d_Ev_stopWaiting_5 : decode b_Ev_stopWaiting 5 = .ok (.return_, 1) := by decide +kernel
theorem g_Ev_stopWaiting {X : WX} {d : Nat} (hd : 0 ≤ d) (e : Nat) (v : Int) (M : Mem) (he : e < 4) : MG X gt d KE KE y_Ev_stopWaiting b_Ev_stopWaiting 2 none [vr ((19 + 9 * e : Nat) : Int), vi v] M (fun r M' => r = none ∧ M' = mset M (19 + 9 * e) 7 v) := by
  refine MG_of_G (by decide) (Nat.le_of_ble_eq_true rfl) (Nat.le_refl _) (by decide) ?_
  show G X gt d KE KE y_Ev_stopWaiting b_Ev_stopWaiting 2 none _ 0 [(0, vr ((19 + 9 * e : Nat) : Int)), (1, vi v)] [] KE M
  refine G_rngl (i := 1) rfl (fun hr1 => ?_)
  refine G_aload (i := 0) (n := 0) (len := 1) (Or.inl ⟨0, rfl, rfl, d_Ev_stopWaiting_0⟩) rfl (by omega) (G_pc (pc' := 1) rfl ?_)
  refine G_iload (i := 1) (n := 1) (len := 1) (Or.inl ⟨1, rfl, rfl, d_Ev_stopWaiting_1⟩) rfl (G_pc (pc' := 2) rfl ?_)
  refine G_putL (o := (19 + 9 * e)) (c := 1) (k := 7) (ki := 7) (x := v) d_Ev_stopWaiting_2 fl_Ev_22 rfl (kd_Ev he) (by decide) (by show 19 + 9 * e < 87; omega) (by decide) rfl (gn_Ev he (by decide)) (tokI (by omega)) rfl (G_pc (pc' := 5) rfl ?_)
  refine G_vret d_Ev_stopWaiting_5 rfl rfl ?_
  exact ⟨rfl, rfl⟩

theorem d_Ev_begin_0 : decode b_Ev_begin 0 = .ok (.aload_n 0, 1) := by decide +kernel
theorem d_Ev_begin_1 : decode b_Ev_begin 1 = .ok (.iconst (-1), 1) := by decide +kernel
theorem d_Ev_begin_2 : decode b_Ev_begin 2 = .ok (.putfield 26, 3) := by decide +kernel
theorem d_Ev_begin_5 : decode b_Ev_begin 5 = .ok (.aload_n 0, 1) := by decide +kernel
theorem d_Ev_begin_6 : decode b_Ev_begin 6 = .ok (.iconst 0, 1) := by decide +kernel
theorem d_Ev_begin_7 : decode b_Ev_begin 7 = .ok (.putfield 45, 3) := by decide +kernel
theorem d_Ev_begin_10 : decode b_Ev_begin 10 = .ok (.aload_n 0, 1) := by decide +kernel
theorem d_Ev_begin_11 : decode b_Ev_begin 11 = .ok (.iconst 0, 1) := by decide +kernel
theorem d_Ev_begin_12 : decode b_Ev_begin 12 = .ok (.putfield 65, 3) := by decide +kernel
theorem d_Ev_begin_15 : decode b_Ev_begin 15 = .ok (.aload_n 0, 1) := by decide +kernel
theorem d_Ev_begin_16 : decode b_Ev_begin 16 = .ok (.getfield 37, 3) := by decide +kernel
theorem d_Ev_begin_19 : decode b_Ev_begin 19 = .ok (.aload_n 0, 1) := by decide +kernel
theorem d_Ev_begin_20 : decode b_Ev_begin 20 = .ok (.getfield 18, 3) := by decide +kernel
theorem d_Ev_begin_23 : decode b_Ev_begin 23 = .ok (.aload_n 0, 1) := by decide +kernel
theorem d_Ev_begin_24 : decode b_Ev_begin 24 = .ok (.getfield 62, 3) := by decide +kernel
theorem d_Ev_begin_27 : decode b_Ev_begin 27 = .ok (.aload_n 0, 1) := by decide +kernel
theorem d_Ev_begin_28 : decode b_Ev_begin 28 = .ok (.getfield 12, 3) := by decide +kernel
theorem d_Ev_begin_31 : decode b_Ev_begin 31 = .ok (.invokevirtual 68, 3) := by decide +kernel
theorem d_Ev_begin_34 : decode b_Ev_begin 34 = .ok (.ifCond .ne 11, 3) := by decide +kernel
theorem d_Ev_begin_37 : decode b_Ev_begin 37 = .ok (.aload_n 0, 1) := by decide +kernel
theorem d_Ev_begin_38 : decode b_Ev_begin 38 = .ok (.iconst 4, 1) := by decide +kernel
theorem d_Ev_begin_39 : decode b_Ev_begin 39 = .ok (.putfield 22, 3) := by decide +kernel
theorem d_Ev_begin_42 : decode b_Ev_begin 42 = .ok (.goto 49, 3) := by decide +kernel
theorem d_Ev_begin_45 : decode b_Ev_begin 45 = .ok (.aload_n 0, 1) := by decide +kernel
theorem d_Ev_begin_46 : decode b_Ev_begin 46 = .ok (.getfield 41, 3) := by decide +kernel
theorem d_Ev_begin_49 : decode b_Ev_begin 49 = .ok (.aload_n 0, 1) := by decide +kernel
theorem d_Ev_begin_50 : decode b_Ev_begin 50 = .ok (.getfield 12, 3) := by decide +kernel
theorem d_Ev_begin_53 : decode b_Ev_begin 53 = .ok (.invokevirtual 74, 3) := by decide +kernel
theorem d_Ev_begin_56 : decode b_Ev_begin 56 = .ok (.ifCond .ne 11, 3) := by decide +kernel
theorem d_Ev_begin_59 : decode b_Ev_begin 59 = .ok (.aload_n 0, 1) := by decide +kernel
theorem d_Ev_begin_60 : decode b_Ev_begin 60 = .ok (.iconst 5, 1) := by decide +kernel
theorem d_Ev_begin_61 : decode b_Ev_begin 61 = .ok (.putfield 22, 3) := by decide +kernel
theorem d_Ev_begin_64 : decode b_Ev_begin 64 = .ok (.goto 27, 3) := by decide +kernel
theorem d_Ev_begin_67 : decode b_Ev_begin 67 = .ok (.aload_n 0, 1) := by decide +kernel
theorem d_Ev_begin_68 : decode b_Ev_begin 68 = .ok (.aload_n 0, 1) := by decide +kernel
theorem d_Ev_begin_69 : decode b_Ev_begin 69 = .ok (.getfield 12, 3) := by decide +kernel
theorem d_Ev_begin_72 : decode b_Ev_begin 72 = .ok (.aload_n 0, 1) := by decide +kernel
theorem d_Ev_begin_73 : decode b_Ev_begin 73 = .ok (.getfield 12, 3) := by decide +kernel
theorem d_Ev_begin_76 : decode b_Ev_begin 76 = .ok (.invokevirtual 48, 3) := by decide +kernel
theorem d_Ev_begin_79 : decode b_Ev_begin 79 = .ok (.iconst 1, 1) := by decide +kernel
theorem d_Ev_begin_80 : decode b_Ev_begin 80 = .ok (.isub, 1) := by decide +kernel
theorem d_Ev_begin_81 : decode b_Ev_begin 81 = .ok (.invokevirtual 80, 3) := by decide +kernel
theorem d_Ev_begin_84 : decode b_Ev_begin 84 = .ok (.putfield 26, 3) := by decide +kernel
theorem d_Ev_begin_87 : decode b_Ev_begin 87 = .ok (.aload_n 0, 1) := by decide +kernel
theorem d_Ev_begin_88 : decode b_Ev_begin 88 = .ok (.invokevirtual 84, 3) := by decide +kernel
theorem d_Ev_begin_91 : decode b_Ev_begin 91 = .ok (.aload_n 0, 1) := by decide +kernel
theorem d_Ev_begin_92 : decode b_Ev_begin 92 = .ok (.getfield 22, 3) := by decide +kernel
theorem d_Ev_begin_95 : decode b_Ev_begin 95 = .ok (.ireturn, 1) := by decide +kernel
theorem g_Ev_begin {X : WX} {d : Nat} (hd : 407 ≤ d) (e : Nat) (J : Mem → Prop) (f : Int → Int) (len : Int)  (M : Mem) (hT : RT M) (hI : TI M) (he : e < 4) (hlen6 : M (19 + 9 * e) 6 = len) (hlen : 0 ≤ len ∧ len ≤ 40) (hch : ∀ k, 0 ≤ k → k < len → M (27 + 9 * e) k = f k ∧ 32 ≤ f k ∧ f k ≤ 126) (hz : ∀ k, len ≤ k → f k = 0) (hbe : beH e M (dfF (lexL f len 41 0 [])) J) : MG X gt d KE KE y_Ev_begin b_Ev_begin 1 (some .int) [vr ((19 + 9 * e : Nat) : Int)] M (beQ e M (dfF (lexL f len 41 0 []))) := by
  refine MG_of_G (by decide) (Nat.le_of_ble_eq_true rfl) (Nat.le_refl _) (by decide) ?_
  show G X gt d KE KE y_Ev_begin b_Ev_begin 1 (some .int) _ 0 [(0, vr ((19 + 9 * e : Nat) : Int))] [] KE M
  refine G_aload (i := 0) (n := 0) (len := 1) (Or.inl ⟨0, rfl, rfl, d_Ev_begin_0⟩) rfl (by omega) (G_pc (pc' := 1) rfl ?_)
  refine G_iconst (n := (-1)) d_Ev_begin_1 (by decide) (G_pc (pc' := 2) rfl ?_)
  refine G_putL (o := (19 + 9 * e)) (c := 1) (k := 8) (ki := 8) (x := (-1)) d_Ev_begin_2 fl_Ev_26 rfl (kd_Ev he) (by decide) (by show 19 + 9 * e < 87; omega) (by decide) rfl (gn_Ev he (by decide)) (tokI (by decide)) rfl (G_pc (pc' := 5) rfl ?_)
  refine G_aload (i := 0) (n := 0) (len := 1) (Or.inl ⟨0, rfl, rfl, d_Ev_begin_5⟩) rfl (by omega) (G_pc (pc' := 6) rfl ?_)
  refine G_iconst (n := 0) d_Ev_begin_6 (by decide) (G_pc (pc' := 7) rfl ?_)
  refine G_putL (o := (19 + 9 * e)) (c := 1) (k := 9) (ki := 9) (x := 0) d_Ev_begin_7 fl_Ev_45 rfl (kd_Ev he) (by decide) (by show 19 + 9 * e < 87; omega) (by decide) rfl (gn_Ev he (by decide)) (tokI (by decide)) rfl (G_pc (pc' := 10) rfl ?_)
  refine G_aload (i := 0) (n := 0) (len := 1) (Or.inl ⟨0, rfl, rfl, d_Ev_begin_10⟩) rfl (by omega) (G_pc (pc' := 11) rfl ?_)
  refine G_iconst (n := 0) d_Ev_begin_11 (by decide) (G_pc (pc' := 12) rfl ?_)
  refine G_putL (o := (19 + 9 * e)) (c := 1) (k := 10) (ki := 10) (x := 0) d_Ev_begin_12 fl_Ev_65 rfl (kd_Ev he) (by decide) (by show 19 + 9 * e < 87; omega) (by decide) rfl (gn_Ev he (by decide)) (tokI (by decide)) rfl (G_pc (pc' := 15) rfl ?_)
  refine G_aload (i := 0) (n := 0) (len := 1) (Or.inl ⟨0, rfl, rfl, d_Ev_begin_15⟩) rfl (by omega) (G_pc (pc' := 16) rfl ?_)
  refine G_get (o := (19 + 9 * e)) (c := 1) (k := 2) (v := 13) d_Ev_begin_16 fl_Ev_37 (kd_Ev he) (by decide) (by show 19 + 9 * e < 87; omega) (gf_Ev2 he) rfl (G_pc (pc' := 19) rfl ?_)
  refine G_aload (i := 0) (n := 0) (len := 1) (Or.inl ⟨0, rfl, rfl, d_Ev_begin_19⟩) rfl (by omega) (G_pc (pc' := 20) rfl ?_)
  refine G_get (o := (19 + 9 * e)) (c := 1) (k := 5) (v := ((27 + 9 * e : Nat) : Int)) d_Ev_begin_20 fl_Ev_18 (kd_Ev he) (by decide) (by show 19 + 9 * e < 87; omega) (gf_Ev5 he) rfl (G_pc (pc' := 23) rfl ?_)
  refine G_aload (i := 0) (n := 0) (len := 1) (Or.inl ⟨0, rfl, rfl, d_Ev_begin_23⟩) rfl (by omega) (G_pc (pc' := 24) rfl ?_)
  refine G_get (o := (19 + 9 * e)) (c := 1) (k := 6) (v := M (19 + 9 * e) 6) d_Ev_begin_24 fl_Ev_62 (kd_Ev he) (by decide) (by show 19 + 9 * e < 87; omega) (rdw (gn_Ev he (by decide)) (by first | rfl | (repeat (first | rfl | exact mset_eq (by omega) | refine (mset_ne (by omega)).trans ?_ | refine (mset_ni (by omega)).trans ?_)))) rfl (G_pc (pc' := 27) rfl ?_)
  refine G_mem (fun hmo _ => ?_)
  have t1 := tok_i (Eq.mp (congrArg (tok .int) (show rd gt (mset (mset (mset M (19 + 9 * e) 8 (-1)) (19 + 9 * e) 9 0) (19 + 9 * e) 10 0) (19 + 9 * e) ((6 : Nat) : Int) = M (19 + 9 * e) 6 from (rdw (gn_Ev he (by decide)) (by first | rfl | (repeat (first | rfl | exact mset_eq (by omega) | refine (mset_ne (by omega)).trans ?_ | refine (mset_ni (by omega)).trans ?_)))))) (hmo (19 + 9 * e) (by omega) (by show 19 + 9 * e < 87; omega) 1 (kd_Ev he) 6 (by decide)))
  clear hmo
  rw [show M (19 + 9 * e) 6 = len from hlen6]
  refine G_aload (i := 0) (n := 0) (len := 1) (Or.inl ⟨0, rfl, rfl, d_Ev_begin_27⟩) rfl (by omega) (G_pc (pc' := 28) rfl ?_)
  refine G_get (o := (19 + 9 * e)) (c := 1) (k := 4) (v := ((20 + 9 * e : Nat) : Int)) d_Ev_begin_28 fl_Ev_12 (kd_Ev he) (by decide) (by show 19 + 9 * e < 87; omega) (gf_Ev4 he) rfl (G_pc (pc' := 31) rfl ?_)
  refine G_callV (K1 := KE) (d2 := 406) (o := 13) (cl := 4) (as := [vr ((27 + 9 * e : Nat) : Int), vi len, vr ((20 + 9 * e : Nat) : Int)]) (rest := []) d_Ev_begin_31 mf_Re_reads ml_Ev_68 rfl rfl (by decide) rfl rfl (Nat.le_of_ble_eq_true rfl) (by omega) ⟨Nat.le_refl _, Nat.le_refl _⟩ (g_Re_reads (by omega) e f len (lexL f len 41 0 []) (mset (mset (mset M (19 + 9 * e) 8 (-1)) (19 + 9 * e) 9 0) (19 + 9 * e) 10 0) he hlen (fun k h0 h1 => by rw [show (mset (mset (mset M (19 + 9 * e) 8 (-1)) (19 + 9 * e) 9 0) (19 + 9 * e) 10 0) (27 + 9 * e) k = M (27 + 9 * e) k from by first | rfl | (repeat (first | rfl | exact mset_eq (by omega) | refine (mset_ne (by omega)).trans ?_ | refine (mset_ni (by omega)).trans ?_))]; exact hch k h0 h1) hz rfl) (fun r2 M3 kq4 q4 => ?_)
  clear kq4; replace q4 : rdQ e (be1 M e) (dfF (lexL f len 41 0 [])) r2 M3 := q4
  rcases hD : dfF (lexL f len 41 0 []) with _ | ⟨N, S⟩
  · skip
    obtain ⟨hr9, hfx⟩ := q4.1 hD; subst hr9
    refine G_ps (pc' := 34) (st' := [vi 0]) rfl rfl ?_
    refine G_if_ne (tgt := 45) d_Ev_begin_34 (by decide) (fun h5 => absurd h5 (by decide)) (fun h5 => G_pc (pc' := 37) rfl ?_)
    refine G_aload (i := 0) (n := 0) (len := 1) (Or.inl ⟨0, rfl, rfl, d_Ev_begin_37⟩) rfl (by omega) (G_pc (pc' := 38) rfl ?_)
    refine G_iconst (n := 4) d_Ev_begin_38 (by decide) (G_pc (pc' := 39) rfl ?_)
    refine G_putL (o := (19 + 9 * e)) (c := 1) (k := 7) (ki := 7) (x := 4) d_Ev_begin_39 fl_Ev_22 rfl (kd_Ev he) (by decide) (by show 19 + 9 * e < 87; omega) (by decide) rfl (gn_Ev he (by decide)) (tokI (by decide)) rfl (G_pc (pc' := 42) rfl ?_)
    refine G_goto (tgt := 91) d_Ev_begin_42 (by decide) ?_
    refine G_aload (i := 0) (n := 0) (len := 1) (Or.inl ⟨0, rfl, rfl, d_Ev_begin_91⟩) rfl (by omega) (G_pc (pc' := 92) rfl ?_)
    refine G_get (o := (19 + 9 * e)) (c := 1) (k := 7) (v := 4) d_Ev_begin_92 fl_Ev_22 (kd_Ev he) (by decide) (by show 19 + 9 * e < 87; omega) (rdw (gn_Ev he (by decide)) (by first | rfl | (repeat (first | rfl | exact mset_eq (by omega) | refine (mset_ne (by omega)).trans ?_ | refine (mset_ni (by omega)).trans ?_)))) rfl (G_pc (pc' := 95) rfl ?_)
    refine G_iret d_Ev_begin_95 rfl (tokI (by decide)) rfl rfl ?_
    exact ⟨fun _ => ⟨rfl, M3, hfx, rfl⟩, fun N S h9 => (by cases h9)⟩
  · skip
    obtain ⟨hr9, hsp, hfx⟩ := q4.2 N S hD; subst hr9
    obtain ⟨hwt, hs1, hgo⟩ := hbe N S M3 hD hsp hfx
    have hag : agT M M3 := agT_tr (agT_tr (agT_set (by omega)) (agT_tr (agT_set (by omega)) (agT_set (by omega)))) (agT_fx he hfx)
    have hT2 := RT_t hag hT; have hI2 := TI_t hag hI; have hsz := hwt.1
    refine G_ps (pc' := 34) (st' := [vi 1]) rfl rfl ?_
    refine G_if_ne (tgt := 45) d_Ev_begin_34 (by decide) (fun h6 => ?_) (fun h6 => absurd h6 (by decide))
    refine G_aload (i := 0) (n := 0) (len := 1) (Or.inl ⟨0, rfl, rfl, d_Ev_begin_45⟩) rfl (by omega) (G_pc (pc' := 46) rfl ?_)
    refine G_get (o := (19 + 9 * e)) (c := 1) (k := 3) (v := 18) d_Ev_begin_46 fl_Ev_41 (kd_Ev he) (by decide) (by show 19 + 9 * e < 87; omega) (gf_Ev3 he) rfl (G_pc (pc' := 49) rfl ?_)
    refine G_aload (i := 0) (n := 0) (len := 1) (Or.inl ⟨0, rfl, rfl, d_Ev_begin_49⟩) rfl (by omega) (G_pc (pc' := 50) rfl ?_)
    refine G_get (o := (19 + 9 * e)) (c := 1) (k := 4) (v := ((20 + 9 * e : Nat) : Int)) d_Ev_begin_50 fl_Ev_12 (kd_Ev he) (by decide) (by show 19 + 9 * e < 87; omega) (gf_Ev4 he) rfl (G_pc (pc' := 53) rfl ?_)
    refine G_callV (K1 := KE) (d2 := 5) (o := 18) (cl := 0) (as := [vr ((20 + 9 * e : Nat) : Int)]) (rest := []) d_Ev_begin_53 mf_Ck_isWellTyped ml_Ev_74 rfl rfl (by decide) rfl rfl (Nat.le_of_ble_eq_true rfl) (by omega) ⟨Nat.le_refl _, Nat.le_refl _⟩ (g_Ck_isWellTyped (by omega) e M3 hT2 hI2 he hwt) (fun r7 M8 kq9 q9 => ?_)
    clear kq9; obtain ⟨q9a, q9b⟩ := q9; subst r7; subst M8
    refine G_ps (pc' := 56) (st' := [vi (b2i (wtD M3 e).2)]) rfl rfl ?_
    refine G_if_ne (tgt := 67) d_Ev_begin_56 (by decide) (fun h10 => ?_) (fun h10 => G_pc (pc' := 59) rfl ?_)
    · skip
      replace h10 := b2i_nz.mp h10
      refine G_aload (i := 0) (n := 0) (len := 1) (Or.inl ⟨0, rfl, rfl, d_Ev_begin_67⟩) rfl (by omega) (G_pc (pc' := 68) rfl ?_)
      refine G_aload (i := 0) (n := 0) (len := 1) (Or.inl ⟨0, rfl, rfl, d_Ev_begin_68⟩) rfl (by omega) (G_pc (pc' := 69) rfl ?_)
      refine G_get (o := (19 + 9 * e)) (c := 1) (k := 4) (v := ((20 + 9 * e : Nat) : Int)) d_Ev_begin_69 fl_Ev_12 (kd_Ev he) (by decide) (by show 19 + 9 * e < 87; omega) (gf_Ev4 he) rfl (G_pc (pc' := 72) rfl ?_)
      refine G_aload (i := 0) (n := 0) (len := 1) (Or.inl ⟨0, rfl, rfl, d_Ev_begin_72⟩) rfl (by omega) (G_pc (pc' := 73) rfl ?_)
      refine G_get (o := (19 + 9 * e)) (c := 1) (k := 4) (v := ((20 + 9 * e : Nat) : Int)) d_Ev_begin_73 fl_Ev_12 (kd_Ev he) (by decide) (by show 19 + 9 * e < 87; omega) (gf_Ev4 he) rfl (G_pc (pc' := 76) rfl ?_)
      refine G_callV (K1 := KE) (d2 := 0) (o := (20 + 9 * e)) (cl := 5) (as := []) (rest := [vr ((20 + 9 * e : Nat) : Int), vr ((19 + 9 * e : Nat) : Int)]) d_Ev_begin_76 mf_St_size ml_Ev_48 (kd_St he) rfl (by show 20 + 9 * e < 87; omega) rfl rfl (Nat.le_of_ble_eq_true rfl) (by omega) ⟨Nat.le_refl _, Nat.le_refl _⟩ (g_St_size (by omega) e  _ he) (fun r11 M12 kq13 q13 => ?_)
      clear kq13; obtain ⟨q13a, q13b⟩ := q13; subst r11; subst M12
      refine G_ps (pc' := 79) (st' := [vi ((setK M3 e (wtD M3 e).1) (20 + 9 * e) 6), vr ((20 + 9 * e : Nat) : Int), vr ((19 + 9 * e : Nat) : Int)]) rfl rfl ?_
      rw [show (setK M3 e (wtD M3 e).1) (20 + 9 * e) 6 = M3 (20 + 9 * e) 6 from by rw [setK_o (by omega) (by omega)]]
      refine G_iconst (n := 1) d_Ev_begin_79 (by decide) (G_pc (pc' := 80) rfl ?_)
      refine G_isub d_Ev_begin_80 (by omega) (G_pc (pc' := 81) rfl ?_)
      refine G_callV (K1 := KE) (d2 := 0) (o := (20 + 9 * e)) (cl := 5) (as := [vi ((M3 (20 + 9 * e) 6) - 1)]) (rest := [vr ((19 + 9 * e : Nat) : Int)]) d_Ev_begin_81 mf_St_kindAt ml_Ev_80 (kd_St he) rfl (by show 20 + 9 * e < 87; omega) rfl rfl (Nat.le_of_ble_eq_true rfl) (by omega) ⟨Nat.le_refl _, Nat.le_refl _⟩ (g_St_kindAt (by omega) e ((M3 (20 + 9 * e) 6) - 1) _ he (by omega)) (fun r14 M15 kq16 q16 => ?_)
      clear kq16; obtain ⟨q16a, q16b⟩ := q16; subst r14; subst M15
      refine G_ps (pc' := 84) (st' := [vi ((setK M3 e (wtD M3 e).1) (25 + 9 * e) ((M3 (20 + 9 * e) 6) - 1)), vr ((19 + 9 * e : Nat) : Int)]) rfl rfl ?_
      have hkr : 0 ≤ (setK M3 e (wtD M3 e).1) (25 + 9 * e) ((M3 (20 + 9 * e) 6) - 1) ∧ (setK M3 e (wtD M3 e).1) (25 + 9 * e) ((M3 (20 + 9 * e) 6) - 1) < 18 := by rw [setK_k]; exact vK_rng hI2 (wt_vK hI2 hwt (by assumption) _ (by omega) (by omega))
      refine G_putL (o := (19 + 9 * e)) (c := 1) (k := 8) (ki := 8) (x := (setK M3 e (wtD M3 e).1) (25 + 9 * e) ((M3 (20 + 9 * e) 6) - 1)) d_Ev_begin_84 fl_Ev_26 rfl (kd_Ev he) (by decide) (by show 19 + 9 * e < 87; omega) (by decide) rfl (gn_Ev he (by decide)) (tokI (by omega)) rfl (G_pc (pc' := 87) rfl ?_)
      refine G_aload (i := 0) (n := 0) (len := 1) (Or.inl ⟨0, rfl, rfl, d_Ev_begin_87⟩) rfl (by omega) (G_pc (pc' := 88) rfl ?_)
      refine G_callV (K1 := KE) (d2 := 5) (o := (19 + 9 * e)) (cl := 1) (as := []) (rest := []) d_Ev_begin_88 mf_Ev_goOn ml_Ev_84 (kd_Ev he) rfl (by show 19 + 9 * e < 87; omega) rfl rfl (Nat.le_of_ble_eq_true rfl) (by omega) ⟨Nat.le_refl _, Nat.le_refl _⟩ (g_Ev_goOn (by omega) e J (mset (setK M3 e (wtD M3 e).1) (19 + 9 * e) 8 ((setK M3 e (wtD M3 e).1) (25 + 9 * e) ((M3 (20 + 9 * e) 6) - 1))) he (hgo (by assumption)).1 (hgo (by assumption)).2) (fun r17 M18 kq19 q19 => ?_)
      clear kq19; obtain ⟨q19a, q19b⟩ := q19; replace q19b : M18 = be3 M3 e := q19b; subst r17; subst M18
      refine G_ps (pc' := 91) (st' := []) rfl rfl ?_
      refine G_aload (i := 0) (n := 0) (len := 1) (Or.inl ⟨0, rfl, rfl, d_Ev_begin_91⟩) rfl (by omega) (G_pc (pc' := 92) rfl ?_)
      refine G_get (o := (19 + 9 * e)) (c := 1) (k := 7) (v := (be3 M3 e) (19 + 9 * e) 7) d_Ev_begin_92 fl_Ev_22 (kd_Ev he) (by decide) (by show 19 + 9 * e < 87; omega) (rdw (gn_Ev he (by decide)) (by first | rfl | (repeat (first | rfl | exact mset_eq (by omega) | refine (mset_ne (by omega)).trans ?_ | refine (mset_ni (by omega)).trans ?_)))) rfl (G_pc (pc' := 95) rfl ?_)
      refine G_mem (fun hmo _ => ?_)
      have t20 := tok_i (Eq.mp (congrArg (tok .int) (show rd gt (be3 M3 e) (19 + 9 * e) ((7 : Nat) : Int) = (be3 M3 e) (19 + 9 * e) 7 from (rdw (gn_Ev he (by decide)) (by first | rfl | (repeat (first | rfl | exact mset_eq (by omega) | refine (mset_ne (by omega)).trans ?_ | refine (mset_ni (by omega)).trans ?_)))))) (hmo (19 + 9 * e) (by omega) (by show 19 + 9 * e < 87; omega) 1 (kd_Ev he) 7 (by decide)))
      clear hmo
      refine G_iret d_Ev_begin_95 rfl (tokI (by omega)) rfl rfl ?_
      exact ⟨fun h9 => (by cases h9), fun N2 S2 h9 => (by cases h9; exact ⟨M3, hsp, hfx, fun h8 => (by simp_all), fun _ => ⟨rfl, rfl⟩⟩)⟩
    · skip
      replace h10 := b2i_0.mp h10
      refine G_aload (i := 0) (n := 0) (len := 1) (Or.inl ⟨0, rfl, rfl, d_Ev_begin_59⟩) rfl (by omega) (G_pc (pc' := 60) rfl ?_)
      refine G_iconst (n := 5) d_Ev_begin_60 (by decide) (G_pc (pc' := 61) rfl ?_)
      refine G_putL (o := (19 + 9 * e)) (c := 1) (k := 7) (ki := 7) (x := 5) d_Ev_begin_61 fl_Ev_22 rfl (kd_Ev he) (by decide) (by show 19 + 9 * e < 87; omega) (by decide) rfl (gn_Ev he (by decide)) (tokI (by decide)) rfl (G_pc (pc' := 64) rfl ?_)
      refine G_goto (tgt := 91) d_Ev_begin_64 (by decide) ?_
      refine G_aload (i := 0) (n := 0) (len := 1) (Or.inl ⟨0, rfl, rfl, d_Ev_begin_91⟩) rfl (by omega) (G_pc (pc' := 92) rfl ?_)
      refine G_get (o := (19 + 9 * e)) (c := 1) (k := 7) (v := 5) d_Ev_begin_92 fl_Ev_22 (kd_Ev he) (by decide) (by show 19 + 9 * e < 87; omega) (rdw (gn_Ev he (by decide)) (by first | rfl | (repeat (first | rfl | exact mset_eq (by omega) | refine (mset_ne (by omega)).trans ?_ | refine (mset_ni (by omega)).trans ?_)))) rfl (G_pc (pc' := 95) rfl ?_)
      refine G_iret d_Ev_begin_95 rfl (tokI (by decide)) rfl rfl ?_
      exact ⟨fun h9 => (by cases h9), fun N2 S2 h9 => (by cases h9; exact ⟨M3, hsp, hfx, fun _ => ⟨rfl, rfl⟩, fun h8 => (by simp_all)⟩)⟩

