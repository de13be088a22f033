noncomputable def askW (M : Mem) (p : Int) : Mem := @ite _ (hasA M p) (Classical.propDecidable _) M (askD M p)
theorem askW_e {M M' : Mem} {p : Int} (h : hasA M p → M' = M) (h2 : ¬ hasA M p → M' = askD M p) : M' = askW M p := by
  unfold askW
  by_cases h9 : hasA M p
  · rw [if_pos h9]; exact h h9
  · rw [if_neg h9]; exact h2 h9
def setlD (M : Mem) (e : Nat) (i v : Int) : Mem := mset (mset M (26 + 9 * e) i v) (19 + 9 * e) 10 (i + 1)
def failD (M : Mem) (e : Nat) (t : Int) : Mem := mset (mset M (19 + 9 * e) 7 3) (19 + 9 * e) 9 t
noncomputable def waitD (M : Mem) (e : Nat) (p : Int) : Mem := if M 9 5 = 1 then mset M (19 + 9 * e) 7 7 else mset (mset (askW M p) (19 + 9 * e) 7 1) (19 + 9 * e) 11 p
noncomputable def effD (M : Mem) (e : Nat) (i : Int) (R : Int × Int) : Mem := if R.1 = 0 then setlD M e i R.2 else if R.1 = 1 then waitD M e R.2 else if R.1 = 2 then failD M e R.2 else mset M (19 + 9 * e) 10 R.2
theorem eff_s {M : Mem} {e : Nat} {i v : Int} {R : Int × Int} (h : R = (0, v)) : setlD M e i v = effD M e i R := by subst h; rfl
theorem eff_w {M : Mem} {e : Nat} {i v : Int} {R : Int × Int} (h : R = (1, v)) : waitD M e v = effD M e i R := by subst h; rfl
theorem eff_f {M : Mem} {e : Nat} {i v : Int} {R : Int × Int} (h : R = (2, v)) : failD M e v = effD M e i R := by subst h; rfl
theorem eff_j {M : Mem} {e : Nat} {i v : Int} {R : Int × Int} (h : R = (3, v)) : mset M (19 + 9 * e) 10 v = effD M e i R := by subst h; rfl
def ndR (M : Mem) (p : Int) : Int × Int := if kbD M p = 1 then (0, M 8 p) else (1, p)
theorem ndR_t {M : Mem} {p : Int} (h : kbD M p = 1) : ndR M p = (0, M 8 p) := if_pos h
theorem ndR_f {M : Mem} {p : Int} (h : ¬ kbD M p = 1) : ndR M p = (1, p) := if_neg h
theorem d_Ev_settle_0 : decode b_Ev_settle 0 = .ok (.aload_n 0, 1) := by decide +kernel
theorem d_Ev_settle_1 : decode b_Ev_settle 1 = .ok (.getfield 12, 3) := by decide +kernel
theorem d_Ev_settle_4 : decode b_Ev_settle 4 = .ok (.iload_n 1, 1) := by decide +kernel
theorem d_Ev_settle_5 : decode b_Ev_settle 5 = .ok (.lload_n 2, 1) := by decide +kernel
theorem d_Ev_settle_6 : decode b_Ev_settle 6 = .ok (.invokevirtual 94, 3) := by decide +kernel
theorem d_Ev_settle_9 : decode b_Ev_settle 9 = .ok (.aload_n 0, 1) := by decide +kernel
theorem d_Ev_settle_10 : decode b_Ev_settle 10 = .ok (.iload_n 1, 1) := by decide +kernel
theorem d_Ev_settle_11 : decode b_Ev_settle 11 = .ok (.iconst 1, 1) := by decide +kernel
theorem d_Ev_settle_12 : decode b_Ev_settle 12 = .ok (.iadd, 1) := by decide +kernel
theorem d_Ev_settle_13 : decode b_Ev_settle 13 = .ok (.putfield 65, 3) := by decide +kernel
theorem d_Ev_settle_16 : decode b_Ev_settle 16 = .ok (.return_, 1) := by decide +kernel
theorem g_Ev_settle {X : WX} {d : Nat} (hd : 1 ≤ d) (e : Nat) (i v : Int) (M : Mem) (he : e < 4) (hi : 0 ≤ i ∧ i < 48) : MG X gt d KE KE y_Ev_settle b_Ev_settle 4 none [vr ((19 + 9 * e : Nat) : Int), vi i, vl v] M (fun r M' => r = none ∧ M' = setlD M e i v) := by
  refine MG_of_G (by decide) (Nat.le_of_ble_eq_true rfl) (Nat.le_refl _) (by decide) ?_
  show G X gt d KE KE y_Ev_settle b_Ev_settle 4 none _ 0 [(0, vr ((19 + 9 * e : Nat) : Int)), (1, vi i), (2, vl v)] [] KE M
  refine G_rngl (i := 1) rfl (fun hr1 => ?_)
  refine G_rngL (i := 2) rfl (fun hr2 => ?_)
  refine G_aload (i := 0) (n := 0) (len := 1) (Or.inl ⟨0, rfl, rfl, d_Ev_settle_0⟩) rfl (by omega) (G_pc (pc' := 1) rfl ?_)
  refine G_get (o := (19 + 9 * e)) (c := 1) (k := 4) (v := ((20 + 9 * e : Nat) : Int)) d_Ev_settle_1 fl_Ev_12 (kd_Ev he) (by decide) (by show 19 + 9 * e < 87; omega) (gf_Ev4 he) rfl (G_pc (pc' := 4) rfl ?_)
  refine G_iload (i := 1) (n := 1) (len := 1) (Or.inl ⟨1, rfl, rfl, d_Ev_settle_4⟩) rfl (G_pc (pc' := 5) rfl ?_)
  refine G_lload (i := 2) (n := 2) (len := 1) (Or.inl ⟨2, rfl, rfl, d_Ev_settle_5⟩) rfl (G_pc (pc' := 6) rfl ?_)
  refine G_callV (K1 := KE) (d2 := 0) (o := (20 + 9 * e)) (cl := 5) (as := [vi i, vl v]) (rest := []) d_Ev_settle_6 mf_St_setValue ml_Ev_94 (kd_St he) rfl (by show 20 + 9 * e < 87; omega) rfl rfl (Nat.le_of_ble_eq_true rfl) (by omega) ⟨Nat.le_refl _, Nat.le_refl _⟩ (g_St_setValue (by omega) e i v _ he (by omega)) (fun r1 M2 kq3 q3 => ?_)
  clear kq3; obtain ⟨q3a, q3b⟩ := q3; subst r1; subst M2
  refine G_ps (pc' := 9) (st' := []) rfl rfl ?_
  refine G_aload (i := 0) (n := 0) (len := 1) (Or.inl ⟨0, rfl, rfl, d_Ev_settle_9⟩) rfl (by omega) (G_pc (pc' := 10) rfl ?_)
  refine G_iload (i := 1) (n := 1) (len := 1) (Or.inl ⟨1, rfl, rfl, d_Ev_settle_10⟩) rfl (G_pc (pc' := 11) rfl ?_)
  refine G_iconst (n := 1) d_Ev_settle_11 (by decide) (G_pc (pc' := 12) rfl ?_)
  refine G_iadd d_Ev_settle_12 (by omega) (G_pc (pc' := 13) rfl ?_)
  refine G_putL (o := (19 + 9 * e)) (c := 1) (k := 10) (ki := 10) (x := i + 1) d_Ev_settle_13 fl_Ev_65 rfl (kd_Ev he) (by decide) (by show 19 + 9 * e < 87; omega) (by decide) rfl (gn_Ev he (by decide)) (tokI (by omega)) rfl (G_pc (pc' := 16) rfl ?_)
  refine G_vret d_Ev_settle_16 rfl rfl ?_
  exact ⟨rfl, rfl⟩

theorem d_Ev_fail_0 : decode b_Ev_fail 0 = .ok (.aload_n 0, 1) := by decide +kernel
theorem d_Ev_fail_1 : decode b_Ev_fail 1 = .ok (.iconst 3, 1) := by decide +kernel
theorem d_Ev_fail_2 : decode b_Ev_fail 2 = .ok (.putfield 22, 3) := by decide +kernel
theorem d_Ev_fail_5 : decode b_Ev_fail 5 = .ok (.aload_n 0, 1) := by decide +kernel
theorem d_Ev_fail_6 : decode b_Ev_fail 6 = .ok (.iload_n 1, 1) := by decide +kernel
theorem d_Ev_fail_7 : decode b_Ev_fail 7 = .ok (.putfield 45, 3) := by decide +kernel
theorem d_Ev_fail_10 : decode b_Ev_fail 10 = .ok (.return_, 1) := by decide +kernel
theorem g_Ev_fail {X : WX} {d : Nat} (hd : 0 ≤ d) (e : Nat) (t : Int) (M : Mem) (he : e < 4) : MG X gt d KE KE y_Ev_fail b_Ev_fail 2 none [vr ((19 + 9 * e : Nat) : Int), vi t] M (fun r M' => r = none ∧ M' = failD M e t) := by
  refine MG_of_G (by decide) (Nat.le_of_ble_eq_true rfl) (Nat.le_refl _) (by decide) ?_
  show G X gt d KE KE y_Ev_fail b_Ev_fail 2 none _ 0 [(0, vr ((19 + 9 * e : Nat) : Int)), (1, vi t)] [] KE M
  refine G_rngl (i := 1) rfl (fun hr1 => ?_)
  refine G_aload (i := 0) (n := 0) (len := 1) (Or.inl ⟨0, rfl, rfl, d_Ev_fail_0⟩) rfl (by omega) (G_pc (pc' := 1) rfl ?_)
  refine G_iconst (n := 3) d_Ev_fail_1 (by decide) (G_pc (pc' := 2) rfl ?_)
  refine G_putL (o := (19 + 9 * e)) (c := 1) (k := 7) (ki := 7) (x := 3) d_Ev_fail_2 fl_Ev_22 rfl (kd_Ev he) (by decide) (by show 19 + 9 * e < 87; omega) (by decide) rfl (gn_Ev he (by decide)) (tokI (by decide)) rfl (G_pc (pc' := 5) rfl ?_)
  refine G_aload (i := 0) (n := 0) (len := 1) (Or.inl ⟨0, rfl, rfl, d_Ev_fail_5⟩) rfl (by omega) (G_pc (pc' := 6) rfl ?_)
  refine G_iload (i := 1) (n := 1) (len := 1) (Or.inl ⟨1, rfl, rfl, d_Ev_fail_6⟩) rfl (G_pc (pc' := 7) rfl ?_)
  refine G_putL (o := (19 + 9 * e)) (c := 1) (k := 9) (ki := 9) (x := t) d_Ev_fail_7 fl_Ev_45 rfl (kd_Ev he) (by decide) (by show 19 + 9 * e < 87; omega) (by decide) rfl (gn_Ev he (by decide)) (tokI (by omega)) rfl (G_pc (pc' := 10) rfl ?_)
  refine G_vret d_Ev_fail_10 rfl rfl ?_
  exact ⟨rfl, rfl⟩

theorem d_Ev_has_0 : decode b_Ev_has 0 = .ok (.aload_n 0, 1) := by decide +kernel
theorem d_Ev_has_1 : decode b_Ev_has 1 = .ok (.getfield 33, 3) := by decide +kernel
theorem d_Ev_has_4 : decode b_Ev_has 4 = .ok (.iload_n 1, 1) := by decide +kernel
theorem d_Ev_has_5 : decode b_Ev_has 5 = .ok (.invokevirtual 98, 3) := by decide +kernel
theorem d_Ev_has_8 : decode b_Ev_has 8 = .ok (.ifCond .eq 5, 3) := by decide +kernel
theorem d_Ev_has_11 : decode b_Ev_has 11 = .ok (.iconst 1, 1) := by decide +kernel
theorem d_Ev_has_12 : decode b_Ev_has 12 = .ok (.ireturn, 1) := by decide +kernel
theorem d_Ev_has_13 : decode b_Ev_has 13 = .ok (.aload_n 0, 1) := by decide +kernel
theorem d_Ev_has_14 : decode b_Ev_has 14 = .ok (.getfield 33, 3) := by decide +kernel
theorem d_Ev_has_17 : decode b_Ev_has 17 = .ok (.iload_n 1, 1) := by decide +kernel
theorem d_Ev_has_18 : decode b_Ev_has 18 = .ok (.invokevirtual 104, 3) := by decide +kernel
theorem d_Ev_has_21 : decode b_Ev_has 21 = .ok (.ifCond .eq 16, 3) := by decide +kernel
theorem d_Ev_has_24 : decode b_Ev_has 24 = .ok (.aload_n 0, 1) := by decide +kernel
theorem d_Ev_has_25 : decode b_Ev_has 25 = .ok (.iconst 1, 1) := by decide +kernel
theorem d_Ev_has_26 : decode b_Ev_has 26 = .ok (.putfield 22, 3) := by decide +kernel
theorem d_Ev_has_29 : decode b_Ev_has 29 = .ok (.aload_n 0, 1) := by decide +kernel
theorem d_Ev_has_30 : decode b_Ev_has 30 = .ok (.iload_n 1, 1) := by decide +kernel
theorem d_Ev_has_31 : decode b_Ev_has 31 = .ok (.putfield 91, 3) := by decide +kernel
theorem d_Ev_has_34 : decode b_Ev_has 34 = .ok (.goto 9, 3) := by decide +kernel
theorem d_Ev_has_37 : decode b_Ev_has 37 = .ok (.aload_n 0, 1) := by decide +kernel
theorem d_Ev_has_38 : decode b_Ev_has 38 = .ok (.bipush 7, 2) := by decide +kernel
theorem d_Ev_has_40 : decode b_Ev_has 40 = .ok (.putfield 22, 3) := by decide +kernel
theorem d_Ev_has_43 : decode b_Ev_has 43 = .ok (.iconst 0, 1) := by decide +kernel
theorem d_Ev_has_44 : decode b_Ev_has 44 = .ok (.ireturn, 1) := by decide +kernel
theorem g_Ev_has {X : WX} {d : Nat} (hd : 1 ≤ d) (e : Nat) (p : Int) (M : Mem) (he : e < 4) (hp : 0 ≤ p ∧ p < 364) (hl3 : 0 ≤ M 9 3 ∧ M 9 3 ≤ 300) (hl4 : 0 ≤ M 9 4 ∧ M 9 4 ≤ 300) (hl5 : 0 ≤ M 9 5 ∧ M 9 5 ≤ 1) : MG X gt d KE KE y_Ev_has b_Ev_has 2 (some .boolean) [vr ((19 + 9 * e : Nat) : Int), vi p] M (fun r M' => (kbD M p = 1 → r = some (vi 1) ∧ M' = M) ∧ (¬ kbD M p = 1 → r = some (vi 0) ∧ M' = waitD M e p)) := by
  refine MG_of_G (by decide) (Nat.le_of_ble_eq_true rfl) (Nat.le_refl _) (by decide) ?_
  show G X gt d KE KE y_Ev_has b_Ev_has 2 (some .boolean) _ 0 [(0, vr ((19 + 9 * e : Nat) : Int)), (1, vi p)] [] KE M
  refine G_rngl (i := 1) rfl (fun hr1 => ?_)
  refine G_aload (i := 0) (n := 0) (len := 1) (Or.inl ⟨0, rfl, rfl, d_Ev_has_0⟩) rfl (by omega) (G_pc (pc' := 1) rfl ?_)
  refine G_get (o := (19 + 9 * e)) (c := 1) (k := 1) (v := 9) d_Ev_has_1 fl_Ev_33 (kd_Ev he) (by decide) (by show 19 + 9 * e < 87; omega) (gf_Ev1 he) rfl (G_pc (pc' := 4) rfl ?_)
  refine G_iload (i := 1) (n := 1) (len := 1) (Or.inl ⟨1, rfl, rfl, d_Ev_has_4⟩) rfl (G_pc (pc' := 5) rfl ?_)
  refine G_callV (K1 := KE) (d2 := 0) (o := 9) (cl := 3) (as := [vi p]) (rest := []) d_Ev_has_5 mf_Li_knows ml_Ev_98 rfl rfl (by decide) rfl rfl (Nat.le_of_ble_eq_true rfl) (by omega) ⟨Nat.le_refl _, Nat.le_refl _⟩ (g_Li_knows (by omega) p _ (by omega)) (fun r1 M2 kq3 q3 => ?_)
  clear kq3; obtain ⟨q3a, q3b⟩ := q3; subst r1; subst M2
  refine G_ps (pc' := 8) (st' := [vi (b2i (decide (kbD M p = 1)))]) rfl rfl ?_
  refine G_if_eq (tgt := 13) d_Ev_has_8 (by decide) (fun h4 => ?_) (fun h4 => G_pc (pc' := 11) rfl ?_)
  · skip
    replace h4 := b2i_0.mp h4
    replace h4 := of_decide_eq_false h4
    refine G_aload (i := 0) (n := 0) (len := 1) (Or.inl ⟨0, rfl, rfl, d_Ev_has_13⟩) rfl (by omega) (G_pc (pc' := 14) rfl ?_)
    refine G_get (o := (19 + 9 * e)) (c := 1) (k := 1) (v := 9) d_Ev_has_14 fl_Ev_33 (kd_Ev he) (by decide) (by show 19 + 9 * e < 87; omega) (gf_Ev1 he) rfl (G_pc (pc' := 17) rfl ?_)
    refine G_iload (i := 1) (n := 1) (len := 1) (Or.inl ⟨1, rfl, rfl, d_Ev_has_17⟩) rfl (G_pc (pc' := 18) rfl ?_)
    refine G_callV (K1 := KE) (d2 := 0) (o := 9) (cl := 3) (as := [vi p]) (rest := []) d_Ev_has_18 mf_Li_ask ml_Ev_104 rfl rfl (by decide) rfl rfl (Nat.le_of_ble_eq_true rfl) (by omega) ⟨Nat.le_refl _, Nat.le_refl _⟩ (g_Li_ask (by omega) p M (by omega) (by omega) (by omega)) (fun r5 M6 kq7 q7 => ?_)
    clear kq7
    rcases (show M 9 5 = 1 ∨ M 9 5 = 0 by omega) with hbr | hbr
    · skip
      obtain ⟨rfl, rfl⟩ := q7.1 hbr
      refine G_ps (pc' := 21) (st' := [vi 0]) rfl rfl ?_
      refine G_if_eq (tgt := 37) d_Ev_has_21 (by decide) (fun h8 => ?_) (fun h8 => absurd h8 (by decide))
      refine G_aload (i := 0) (n := 0) (len := 1) (Or.inl ⟨0, rfl, rfl, d_Ev_has_37⟩) rfl (by omega) (G_pc (pc' := 38) rfl ?_)
      refine G_bipush (n := 7) d_Ev_has_38 (by decide) (G_pc (pc' := 40) rfl ?_)
      refine G_putL (o := (19 + 9 * e)) (c := 1) (k := 7) (ki := 7) (x := 7) d_Ev_has_40 fl_Ev_22 rfl (kd_Ev he) (by decide) (by show 19 + 9 * e < 87; omega) (by decide) rfl (gn_Ev he (by decide)) (tokI (by decide)) rfl (G_pc (pc' := 43) rfl ?_)
      refine G_iconst (n := 0) d_Ev_has_43 (by decide) (G_pc (pc' := 44) rfl ?_)
      refine G_iret d_Ev_has_44 rfl (tokZ (by decide)) rfl rfl ?_
      exact ⟨fun h9 => absurd h9 (by assumption), fun _ => ⟨rfl, by unfold waitD; rw [if_pos (by omega)]⟩⟩
    · skip
      obtain ⟨rfl, hask1, hask2⟩ := q7.2 hbr
      refine G_ps (pc' := 21) (st' := [vi 1]) rfl rfl ?_
      refine G_if_eq (tgt := 37) d_Ev_has_21 (by decide) (fun h9 => absurd h9 (by decide)) (fun h9 => G_pc (pc' := 24) rfl ?_)
      refine G_aload (i := 0) (n := 0) (len := 1) (Or.inl ⟨0, rfl, rfl, d_Ev_has_24⟩) rfl (by omega) (G_pc (pc' := 25) rfl ?_)
      refine G_iconst (n := 1) d_Ev_has_25 (by decide) (G_pc (pc' := 26) rfl ?_)
      refine G_putL (o := (19 + 9 * e)) (c := 1) (k := 7) (ki := 7) (x := 1) d_Ev_has_26 fl_Ev_22 rfl (kd_Ev he) (by decide) (by show 19 + 9 * e < 87; omega) (by decide) rfl (gn_Ev he (by decide)) (tokI (by decide)) rfl (G_pc (pc' := 29) rfl ?_)
      refine G_aload (i := 0) (n := 0) (len := 1) (Or.inl ⟨0, rfl, rfl, d_Ev_has_29⟩) rfl (by omega) (G_pc (pc' := 30) rfl ?_)
      refine G_iload (i := 1) (n := 1) (len := 1) (Or.inl ⟨1, rfl, rfl, d_Ev_has_30⟩) rfl (G_pc (pc' := 31) rfl ?_)
      refine G_putL (o := (19 + 9 * e)) (c := 1) (k := 11) (ki := 11) (x := p) d_Ev_has_31 fl_Ev_91 rfl (kd_Ev he) (by decide) (by show 19 + 9 * e < 87; omega) (by decide) rfl (gn_Ev he (by decide)) (tokI (by omega)) rfl (G_pc (pc' := 34) rfl ?_)
      refine G_goto (tgt := 43) d_Ev_has_34 (by decide) ?_
      refine G_iconst (n := 0) d_Ev_has_43 (by decide) (G_pc (pc' := 44) rfl ?_)
      refine G_iret d_Ev_has_44 rfl (tokZ (by decide)) rfl rfl ?_
      have e9 := askW_e hask1 hask2
      exact ⟨fun h9 => absurd h9 (by assumption), fun _ => ⟨rfl, by unfold waitD; rw [if_neg (by omega), ← e9]⟩⟩
  · skip
    replace h4 := b2i_nz.mp h4
    replace h4 := of_decide_eq_true h4
    refine G_iconst (n := 1) d_Ev_has_11 (by decide) (G_pc (pc' := 12) rfl ?_)
    refine G_iret d_Ev_has_12 rfl (tokZ (by decide)) rfl rfl ?_
    exact ⟨fun _ => ⟨rfl, rfl⟩, fun h9 => absurd (by assumption) h9⟩

theorem d_Ev_fetch_0 : decode b_Ev_fetch 0 = .ok (.aload_n 0, 1) := by decide +kernel
theorem d_Ev_fetch_1 : decode b_Ev_fetch 1 = .ok (.iload_n 2, 1) := by decide +kernel
theorem d_Ev_fetch_2 : decode b_Ev_fetch 2 = .ok (.invokevirtual 107, 3) := by decide +kernel
theorem d_Ev_fetch_5 : decode b_Ev_fetch 5 = .ok (.ifCond .eq 16, 3) := by decide +kernel
theorem d_Ev_fetch_8 : decode b_Ev_fetch 8 = .ok (.aload_n 0, 1) := by decide +kernel
theorem d_Ev_fetch_9 : decode b_Ev_fetch 9 = .ok (.iload_n 1, 1) := by decide +kernel
theorem d_Ev_fetch_10 : decode b_Ev_fetch 10 = .ok (.aload_n 0, 1) := by decide +kernel
theorem d_Ev_fetch_11 : decode b_Ev_fetch 11 = .ok (.getfield 29, 3) := by decide +kernel
theorem d_Ev_fetch_14 : decode b_Ev_fetch 14 = .ok (.iload_n 2, 1) := by decide +kernel
theorem d_Ev_fetch_15 : decode b_Ev_fetch 15 = .ok (.invokevirtual 110, 3) := by decide +kernel
theorem d_Ev_fetch_18 : decode b_Ev_fetch 18 = .ok (.invokevirtual 115, 3) := by decide +kernel
theorem d_Ev_fetch_21 : decode b_Ev_fetch 21 = .ok (.return_, 1) := by decide +kernel
theorem g_Ev_fetch {X : WX} {d : Nat} (hd : 2 ≤ d) (e : Nat) (i p : Int) (M : Mem) (he : e < 4) (hi : 0 ≤ i ∧ i < 48) (hp : 0 ≤ p ∧ p < 364) (hl3 : 0 ≤ M 9 3 ∧ M 9 3 ≤ 300) (hl4 : 0 ≤ M 9 4 ∧ M 9 4 ≤ 300) (hl5 : 0 ≤ M 9 5 ∧ M 9 5 ≤ 1) : MG X gt d KE KE y_Ev_fetch b_Ev_fetch 3 none [vr ((19 + 9 * e : Nat) : Int), vi i, vi p] M (fun r M' => r = none ∧ M' = effD M e i (ndR M p)) := by
  refine MG_of_G (by decide) (Nat.le_of_ble_eq_true rfl) (Nat.le_refl _) (by decide) ?_
  show G X gt d KE KE y_Ev_fetch b_Ev_fetch 3 none _ 0 [(0, vr ((19 + 9 * e : Nat) : Int)), (1, vi i), (2, vi p)] [] KE M
  refine G_rngl (i := 1) rfl (fun hr1 => ?_)
  refine G_rngl (i := 2) rfl (fun hr2 => ?_)
  refine G_aload (i := 0) (n := 0) (len := 1) (Or.inl ⟨0, rfl, rfl, d_Ev_fetch_0⟩) rfl (by omega) (G_pc (pc' := 1) rfl ?_)
  refine G_iload (i := 2) (n := 2) (len := 1) (Or.inl ⟨2, rfl, rfl, d_Ev_fetch_1⟩) rfl (G_pc (pc' := 2) rfl ?_)
  refine G_callV (K1 := KE) (d2 := 1) (o := (19 + 9 * e)) (cl := 1) (as := [vi p]) (rest := []) d_Ev_fetch_2 mf_Ev_has ml_Ev_107 (kd_Ev he) rfl (by show 19 + 9 * e < 87; omega) rfl rfl (Nat.le_of_ble_eq_true rfl) (by omega) ⟨Nat.le_refl _, Nat.le_refl _⟩ (g_Ev_has (by omega) e p M he (by omega) (by omega) (by omega) (by omega)) (fun r1 M2 kq3 q3 => ?_)
  clear kq3
  rcases Classical.em (kbD M p = 1) with hkb | hkb
  · skip
    obtain ⟨q3a, q3b⟩ := q3.1 hkb; subst r1; subst M2
    refine G_ps (pc' := 5) (st' := [vi 1]) rfl rfl ?_
    refine G_if_eq (tgt := 21) d_Ev_fetch_5 (by decide) (fun h4 => absurd h4 (by decide)) (fun h4 => G_pc (pc' := 8) rfl ?_)
    refine G_aload (i := 0) (n := 0) (len := 1) (Or.inl ⟨0, rfl, rfl, d_Ev_fetch_8⟩) rfl (by omega) (G_pc (pc' := 9) rfl ?_)
    refine G_iload (i := 1) (n := 1) (len := 1) (Or.inl ⟨1, rfl, rfl, d_Ev_fetch_9⟩) rfl (G_pc (pc' := 10) rfl ?_)
    refine G_aload (i := 0) (n := 0) (len := 1) (Or.inl ⟨0, rfl, rfl, d_Ev_fetch_10⟩) rfl (by omega) (G_pc (pc' := 11) rfl ?_)
    refine G_get (o := (19 + 9 * e)) (c := 1) (k := 0) (v := 4) d_Ev_fetch_11 fl_Ev_29 (kd_Ev he) (by decide) (by show 19 + 9 * e < 87; omega) (gf_Ev0 he) rfl (G_pc (pc' := 14) rfl ?_)
    refine G_iload (i := 2) (n := 2) (len := 1) (Or.inl ⟨2, rfl, rfl, d_Ev_fetch_14⟩) rfl (G_pc (pc' := 15) rfl ?_)
    refine G_callV (K1 := KE) (d2 := 0) (o := 4) (cl := 6) (as := [vi p]) (rest := [vi i, vr ((19 + 9 * e : Nat) : Int)]) d_Ev_fetch_15 mf_Ta_contentsOf ml_Ev_110 rfl rfl (by decide) rfl rfl (Nat.le_of_ble_eq_true rfl) (by omega) ⟨Nat.le_refl _, Nat.le_refl _⟩ (g_Ta_contentsOf (by omega) p _ (by omega)) (fun r5 M6 kq7 q7 => ?_)
    clear kq7; obtain ⟨q7a, q7b⟩ := q7; subst r5; subst M6
    refine G_ps (pc' := 18) (st' := [vl (M 8 p), vi i, vr ((19 + 9 * e : Nat) : Int)]) rfl rfl ?_
    refine G_callV (K1 := KE) (d2 := 1) (o := (19 + 9 * e)) (cl := 1) (as := [vi i, vl (M 8 p)]) (rest := []) d_Ev_fetch_18 mf_Ev_settle ml_Ev_115 (kd_Ev he) rfl (by show 19 + 9 * e < 87; omega) rfl rfl (Nat.le_of_ble_eq_true rfl) (by omega) ⟨Nat.le_refl _, Nat.le_refl _⟩ (g_Ev_settle (by omega) e i (M 8 p) _ he (by omega)) (fun r8 M9 kq10 q10 => ?_)
    clear kq10; obtain ⟨q10a, q10b⟩ := q10; subst r8; subst M9
    refine G_ps (pc' := 21) (st' := []) rfl rfl ?_
    refine G_vret d_Ev_fetch_21 rfl rfl ?_
    exact ⟨rfl, eff_s (by exact ndR_t hkb)⟩
  · skip
    obtain ⟨q3a, q3b⟩ := q3.2 hkb; subst r1; subst M2
    refine G_ps (pc' := 5) (st' := [vi 0]) rfl rfl ?_
    refine G_if_eq (tgt := 21) d_Ev_fetch_5 (by decide) (fun h11 => ?_) (fun h11 => absurd h11 (by decide))
    refine G_vret d_Ev_fetch_21 rfl rfl ?_
    exact ⟨rfl, eff_w (by exact ndR_f hkb)⟩

def partR (M : Mem) (o p : Int) : Int × Int := if o = 0 then (2, 2) else ndR M (28 * o + p)
theorem d_Ev_workOutPart_0 : decode b_Ev_workOutPart 0 = .ok (.iload_n 2, 1) := by decide +kernel
theorem d_Ev_workOutPart_1 : decode b_Ev_workOutPart 1 = .ok (.ifCond .ne 11, 3) := by decide +kernel
theorem d_Ev_workOutPart_4 : decode b_Ev_workOutPart 4 = .ok (.aload_n 0, 1) := by decide +kernel
theorem d_Ev_workOutPart_5 : decode b_Ev_workOutPart 5 = .ok (.iconst 2, 1) := by decide +kernel
theorem d_Ev_workOutPart_6 : decode b_Ev_workOutPart 6 = .ok (.invokevirtual 157, 3) := by decide +kernel
theorem d_Ev_workOutPart_9 : decode b_Ev_workOutPart 9 = .ok (.goto 13, 3) := by decide +kernel
theorem d_Ev_workOutPart_12 : decode b_Ev_workOutPart 12 = .ok (.aload_n 0, 1) := by decide +kernel
theorem d_Ev_workOutPart_13 : decode b_Ev_workOutPart 13 = .ok (.iload_n 1, 1) := by decide +kernel
theorem d_Ev_workOutPart_14 : decode b_Ev_workOutPart 14 = .ok (.iload_n 2, 1) := by decide +kernel
theorem d_Ev_workOutPart_15 : decode b_Ev_workOutPart 15 = .ok (.iload_n 3, 1) := by decide +kernel
theorem d_Ev_workOutPart_16 : decode b_Ev_workOutPart 16 = .ok (.invokestatic 127, 3) := by decide +kernel
theorem d_Ev_workOutPart_19 : decode b_Ev_workOutPart 19 = .ok (.invokevirtual 131, 3) := by decide +kernel
theorem d_Ev_workOutPart_22 : decode b_Ev_workOutPart 22 = .ok (.return_, 1) := by decide +kernel
theorem g_Ev_workOutPart {X : WX} {d : Nat} (hd : 3 ≤ d) (e : Nat) (i o p : Int) (M : Mem) (he : e < 4) (hi : 0 ≤ i ∧ i < 48) (ho : 0 ≤ o ∧ o ≤ 12) (hp : 0 ≤ p ∧ p < 28) (hl3 : 0 ≤ M 9 3 ∧ M 9 3 ≤ 300) (hl4 : 0 ≤ M 9 4 ∧ M 9 4 ≤ 300) (hl5 : 0 ≤ M 9 5 ∧ M 9 5 ≤ 1) : MG X gt d KE KE y_Ev_workOutPart b_Ev_workOutPart 4 none [vr ((19 + 9 * e : Nat) : Int), vi i, vi o, vi p] M (fun r M' => r = none ∧ M' = effD M e i (partR M o p)) := by
  refine MG_of_G (by decide) (Nat.le_of_ble_eq_true rfl) (Nat.le_refl _) (by decide) ?_
  show G X gt d KE KE y_Ev_workOutPart b_Ev_workOutPart 4 none _ 0 [(0, vr ((19 + 9 * e : Nat) : Int)), (1, vi i), (2, vi o), (3, vi p)] [] KE M
  refine G_rngl (i := 1) rfl (fun hr1 => ?_)
  refine G_rngl (i := 2) rfl (fun hr2 => ?_)
  refine G_rngl (i := 3) rfl (fun hr3 => ?_)
  refine G_iload (i := 2) (n := 2) (len := 1) (Or.inl ⟨2, rfl, rfl, d_Ev_workOutPart_0⟩) rfl (G_pc (pc' := 1) rfl ?_)
  refine G_if_ne (tgt := 12) d_Ev_workOutPart_1 (by decide) (fun h1 => ?_) (fun h1 => G_pc (pc' := 4) rfl ?_)
  · skip
    refine G_aload (i := 0) (n := 0) (len := 1) (Or.inl ⟨0, rfl, rfl, d_Ev_workOutPart_12⟩) rfl (by omega) (G_pc (pc' := 13) rfl ?_)
    refine G_iload (i := 1) (n := 1) (len := 1) (Or.inl ⟨1, rfl, rfl, d_Ev_workOutPart_13⟩) rfl (G_pc (pc' := 14) rfl ?_)
    refine G_iload (i := 2) (n := 2) (len := 1) (Or.inl ⟨2, rfl, rfl, d_Ev_workOutPart_14⟩) rfl (G_pc (pc' := 15) rfl ?_)
    refine G_iload (i := 3) (n := 3) (len := 1) (Or.inl ⟨3, rfl, rfl, d_Ev_workOutPart_15⟩) rfl (G_pc (pc' := 16) rfl ?_)
    refine G_callN (K1 := KE) (d2 := 0) (as := [vi o, vi p]) (rest := [vi i, vr ((19 + 9 * e : Nat) : Int)]) d_Ev_workOutPart_16 mf_De_placeOf (by decide) rfl rfl (Nat.le_of_ble_eq_true rfl) (by omega) ⟨Nat.le_refl _, Nat.le_refl _⟩ (g_De_placeOf (by omega) o p _ (by omega) (by omega)) (fun r2 M3 kq4 q4 => ?_)
    clear kq4; obtain ⟨q4a, q4b⟩ := q4; subst r2; subst M3
    refine G_ps (pc' := 19) (st' := [vi (28 * o + p), vi i, vr ((19 + 9 * e : Nat) : Int)]) rfl rfl ?_
    refine G_callV (K1 := KE) (d2 := 2) (o := (19 + 9 * e)) (cl := 1) (as := [vi i, vi (28 * o + p)]) (rest := []) d_Ev_workOutPart_19 mf_Ev_fetch ml_Ev_131 (kd_Ev he) rfl (by show 19 + 9 * e < 87; omega) rfl rfl (Nat.le_of_ble_eq_true rfl) (by omega) ⟨Nat.le_refl _, Nat.le_refl _⟩ (g_Ev_fetch (by omega) e i (28 * o + p) M he (by omega) (by omega) (by omega) (by omega) (by omega)) (fun r5 M6 kq7 q7 => ?_)
    clear kq7; obtain ⟨q7a, q7b⟩ := q7; subst r5; subst M6
    refine G_ps (pc' := 22) (st' := []) rfl rfl ?_
    refine G_vret d_Ev_workOutPart_22 rfl rfl ?_
    exact ⟨rfl, congrArg (effD M e i) (by unfold partR; rw [if_neg (by assumption)])⟩
  · skip
    refine G_aload (i := 0) (n := 0) (len := 1) (Or.inl ⟨0, rfl, rfl, d_Ev_workOutPart_4⟩) rfl (by omega) (G_pc (pc' := 5) rfl ?_)
    refine G_iconst (n := 2) d_Ev_workOutPart_5 (by decide) (G_pc (pc' := 6) rfl ?_)
    refine G_callV (K1 := KE) (d2 := 0) (o := (19 + 9 * e)) (cl := 1) (as := [vi 2]) (rest := []) d_Ev_workOutPart_6 mf_Ev_fail ml_Ev_157 (kd_Ev he) rfl (by show 19 + 9 * e < 87; omega) rfl rfl (Nat.le_of_ble_eq_true rfl) (by omega) ⟨Nat.le_refl _, Nat.le_refl _⟩ (g_Ev_fail (by omega) e 2 _ he) (fun r8 M9 kq10 q10 => ?_)
    clear kq10; obtain ⟨q10a, q10b⟩ := q10; subst r8; subst M9
    refine G_ps (pc' := 9) (st' := []) rfl rfl ?_
    refine G_goto (tgt := 22) d_Ev_workOutPart_9 (by decide) ?_
    refine G_vret d_Ev_workOutPart_22 rfl rfl ?_
    exact ⟨rfl, eff_f (by unfold partR; first | (simp [*]; done) | (rw [ndR_t hkb]; simp [*]; done) | grind)⟩

def elmR (M : Mem) (a x : Int) : Int × Int := if a = 0 then (2, 2) else if kbD M (28 * a + 26) = 1 then (if x < 0 ∨ M 8 (28 * a + 26) ≤ x then (2, 3) else ndR M (28 * a + w32 x)) else (1, 28 * a + 26)
theorem d_Ev_workOutElement_0 : decode b_Ev_workOutElement 0 = .ok (.iload_n 2, 1) := by decide +kernel
theorem d_Ev_workOutElement_1 : decode b_Ev_workOutElement 1 = .ok (.ifCond .ne 9, 3) := by decide +kernel
theorem d_Ev_workOutElement_4 : decode b_Ev_workOutElement 4 = .ok (.aload_n 0, 1) := by decide +kernel
theorem d_Ev_workOutElement_5 : decode b_Ev_workOutElement 5 = .ok (.iconst 2, 1) := by decide +kernel
theorem d_Ev_workOutElement_6 : decode b_Ev_workOutElement 6 = .ok (.invokevirtual 157, 3) := by decide +kernel
theorem d_Ev_workOutElement_9 : decode b_Ev_workOutElement 9 = .ok (.return_, 1) := by decide +kernel
theorem d_Ev_workOutElement_10 : decode b_Ev_workOutElement 10 = .ok (.iload_n 2, 1) := by decide +kernel
theorem d_Ev_workOutElement_11 : decode b_Ev_workOutElement 11 = .ok (.bipush 26, 2) := by decide +kernel
theorem d_Ev_workOutElement_13 : decode b_Ev_workOutElement 13 = .ok (.invokestatic 127, 3) := by decide +kernel
theorem d_Ev_workOutElement_16 : decode b_Ev_workOutElement 16 = .ok (.istore 5, 2) := by decide +kernel
theorem d_Ev_workOutElement_18 : decode b_Ev_workOutElement 18 = .ok (.aload_n 0, 1) := by decide +kernel
theorem d_Ev_workOutElement_19 : decode b_Ev_workOutElement 19 = .ok (.iload 5, 2) := by decide +kernel
theorem d_Ev_workOutElement_21 : decode b_Ev_workOutElement 21 = .ok (.invokevirtual 107, 3) := by decide +kernel
theorem d_Ev_workOutElement_24 : decode b_Ev_workOutElement 24 = .ok (.ifCond .ne 4, 3) := by decide +kernel
theorem d_Ev_workOutElement_27 : decode b_Ev_workOutElement 27 = .ok (.return_, 1) := by decide +kernel
theorem d_Ev_workOutElement_28 : decode b_Ev_workOutElement 28 = .ok (.lload_n 3, 1) := by decide +kernel
theorem d_Ev_workOutElement_29 : decode b_Ev_workOutElement 29 = .ok (.lconst 0, 1) := by decide +kernel
theorem d_Ev_workOutElement_30 : decode b_Ev_workOutElement 30 = .ok (.lcmp, 1) := by decide +kernel
theorem d_Ev_workOutElement_31 : decode b_Ev_workOutElement 31 = .ok (.ifCond .lt 17, 3) := by decide +kernel
theorem d_Ev_workOutElement_34 : decode b_Ev_workOutElement 34 = .ok (.lload_n 3, 1) := by decide +kernel
theorem d_Ev_workOutElement_35 : decode b_Ev_workOutElement 35 = .ok (.aload_n 0, 1) := by decide +kernel
theorem d_Ev_workOutElement_36 : decode b_Ev_workOutElement 36 = .ok (.getfield 29, 3) := by decide +kernel
theorem d_Ev_workOutElement_39 : decode b_Ev_workOutElement 39 = .ok (.iload 5, 2) := by decide +kernel
theorem d_Ev_workOutElement_41 : decode b_Ev_workOutElement 41 = .ok (.invokevirtual 110, 3) := by decide +kernel
theorem d_Ev_workOutElement_44 : decode b_Ev_workOutElement 44 = .ok (.lcmp, 1) := by decide +kernel
theorem d_Ev_workOutElement_45 : decode b_Ev_workOutElement 45 = .ok (.ifCond .lt 11, 3) := by decide +kernel
theorem d_Ev_workOutElement_48 : decode b_Ev_workOutElement 48 = .ok (.aload_n 0, 1) := by decide +kernel
theorem d_Ev_workOutElement_49 : decode b_Ev_workOutElement 49 = .ok (.iconst 3, 1) := by decide +kernel
theorem d_Ev_workOutElement_50 : decode b_Ev_workOutElement 50 = .ok (.invokevirtual 157, 3) := by decide +kernel
theorem d_Ev_workOutElement_53 : decode b_Ev_workOutElement 53 = .ok (.goto 14, 3) := by decide +kernel
theorem d_Ev_workOutElement_56 : decode b_Ev_workOutElement 56 = .ok (.aload_n 0, 1) := by decide +kernel
theorem d_Ev_workOutElement_57 : decode b_Ev_workOutElement 57 = .ok (.iload_n 1, 1) := by decide +kernel
theorem d_Ev_workOutElement_58 : decode b_Ev_workOutElement 58 = .ok (.iload_n 2, 1) := by decide +kernel
theorem d_Ev_workOutElement_59 : decode b_Ev_workOutElement 59 = .ok (.lload_n 3, 1) := by decide +kernel
theorem d_Ev_workOutElement_60 : decode b_Ev_workOutElement 60 = .ok (.l2i, 1) := by decide +kernel
theorem d_Ev_workOutElement_61 : decode b_Ev_workOutElement 61 = .ok (.invokestatic 127, 3) := by decide +kernel
theorem d_Ev_workOutElement_64 : decode b_Ev_workOutElement 64 = .ok (.invokevirtual 131, 3) := by decide +kernel
theorem d_Ev_workOutElement_67 : decode b_Ev_workOutElement 67 = .ok (.return_, 1) := by decide +kernel
theorem g_Ev_workOutElement {X : WX} {d : Nat} (hd : 3 ≤ d) (e : Nat) (i a x : Int) (M : Mem) (hT : RT M) (hI : TI M) (he : e < 4) (hi : 0 ≤ i ∧ i < 48) (ho : 0 ≤ a ∧ a ≤ 12) (hl3 : 0 ≤ M 9 3 ∧ M 9 3 ≤ 300) (hl4 : 0 ≤ M 9 4 ∧ M 9 4 ≤ 300) (hl5 : 0 ≤ M 9 5 ∧ M 9 5 ≤ 1) : MG X gt d KE KE y_Ev_workOutElement b_Ev_workOutElement 6 none [vr ((19 + 9 * e : Nat) : Int), vi i, vi a, vl x] M (fun r M' => r = none ∧ M' = effD M e i (elmR M a x)) := by
  refine MG_of_G (by decide) (Nat.le_of_ble_eq_true rfl) (Nat.le_refl _) (by decide) ?_
  show G X gt d KE KE y_Ev_workOutElement b_Ev_workOutElement 6 none _ 0 [(0, vr ((19 + 9 * e : Nat) : Int)), (1, vi i), (2, vi a), (3, vl x)] [] KE M
  have hI0 := hI
  obtain ⟨hI1, hI2, hI3, hI4, hI5, hI6, hI7, hI8, hI9, hI10, hI11, hI12, hI13, hI14⟩ := hI
  refine G_rngl (i := 1) rfl (fun hr1 => ?_)
  refine G_rngl (i := 2) rfl (fun hr2 => ?_)
  refine G_rngL (i := 3) rfl (fun hr3 => ?_)
  refine G_iload (i := 2) (n := 2) (len := 1) (Or.inl ⟨2, rfl, rfl, d_Ev_workOutElement_0⟩) rfl (G_pc (pc' := 1) rfl ?_)
  refine G_if_ne (tgt := 10) d_Ev_workOutElement_1 (by decide) (fun h1 => ?_) (fun h1 => G_pc (pc' := 4) rfl ?_)
  · skip
    refine G_iload (i := 2) (n := 2) (len := 1) (Or.inl ⟨2, rfl, rfl, d_Ev_workOutElement_10⟩) rfl (G_pc (pc' := 11) rfl ?_)
    refine G_bipush (n := 26) d_Ev_workOutElement_11 (by decide) (G_pc (pc' := 13) rfl ?_)
    refine G_callN (K1 := KE) (d2 := 0) (as := [vi a, vi 26]) (rest := []) d_Ev_workOutElement_13 mf_De_placeOf (by decide) rfl rfl (Nat.le_of_ble_eq_true rfl) (by omega) ⟨Nat.le_refl _, Nat.le_refl _⟩ (g_De_placeOf (by omega) a 26 _ (by omega) (by omega)) (fun r2 M3 kq4 q4 => ?_)
    clear kq4; obtain ⟨q4a, q4b⟩ := q4; subst r2; subst M3
    refine G_ps (pc' := 16) (st' := [vi (28 * a + 26)]) rfl rfl ?_
    refine G_istore (i := 5) (len := 2) (ls' := [(5, vi (28 * a + 26)), (0, vr ((19 + 9 * e : Nat) : Int)), (1, vi i), (2, vi a), (3, vl x)]) (Or.inr ⟨rfl, d_Ev_workOutElement_16⟩) (by decide) rfl (G_pc (pc' := 18) rfl ?_)
    refine G_aload (i := 0) (n := 1) (len := 1) (Or.inl ⟨0, rfl, rfl, d_Ev_workOutElement_18⟩) rfl (by omega) (G_pc (pc' := 19) rfl ?_)
    refine G_iload (i := 5) (n := 0) (len := 2) (Or.inr ⟨rfl, d_Ev_workOutElement_19⟩) rfl (G_pc (pc' := 21) rfl ?_)
    refine G_callV (K1 := KE) (d2 := 1) (o := (19 + 9 * e)) (cl := 1) (as := [vi (28 * a + 26)]) (rest := []) d_Ev_workOutElement_21 mf_Ev_has ml_Ev_107 (kd_Ev he) rfl (by show 19 + 9 * e < 87; omega) rfl rfl (Nat.le_of_ble_eq_true rfl) (by omega) ⟨Nat.le_refl _, Nat.le_refl _⟩ (g_Ev_has (by omega) e (28 * a + 26) M he (by omega) (by omega) (by omega) (by omega)) (fun r5 M6 kq7 q7 => ?_)
    clear kq7
    rcases Classical.em (kbD M (28 * a + 26) = 1) with hkb | hkb
    · skip
      obtain ⟨q7a, q7b⟩ := q7.1 hkb; subst r5; subst M6
      refine G_ps (pc' := 24) (st' := [vi 1]) rfl rfl ?_
      refine G_if_ne (tgt := 28) d_Ev_workOutElement_24 (by decide) (fun h8 => ?_) (fun h8 => absurd h8 (by decide))
      refine G_lload (i := 3) (n := 4) (len := 1) (Or.inl ⟨3, rfl, rfl, d_Ev_workOutElement_28⟩) rfl (G_pc (pc' := 29) rfl ?_)
      refine G_lconst0 d_Ev_workOutElement_29 (G_pc (pc' := 30) rfl ?_)
      refine G_lcmp_lt (tgt := 48) d_Ev_workOutElement_30 d_Ev_workOutElement_31 (by decide) (fun h9 => ?_) (fun h9 => G_pc (pc' := 34) rfl ?_)
      · skip
        refine G_aload (i := 0) (n := 1) (len := 1) (Or.inl ⟨0, rfl, rfl, d_Ev_workOutElement_48⟩) rfl (by omega) (G_pc (pc' := 49) rfl ?_)
        refine G_iconst (n := 3) d_Ev_workOutElement_49 (by decide) (G_pc (pc' := 50) rfl ?_)
        refine G_callV (K1 := KE) (d2 := 0) (o := (19 + 9 * e)) (cl := 1) (as := [vi 3]) (rest := []) d_Ev_workOutElement_50 mf_Ev_fail ml_Ev_157 (kd_Ev he) rfl (by show 19 + 9 * e < 87; omega) rfl rfl (Nat.le_of_ble_eq_true rfl) (by omega) ⟨Nat.le_refl _, Nat.le_refl _⟩ (g_Ev_fail (by omega) e 3 _ he) (fun r10 M11 kq12 q12 => ?_)
        clear kq12; obtain ⟨q12a, q12b⟩ := q12; subst r10; subst M11
        refine G_ps (pc' := 53) (st' := []) rfl rfl ?_
        refine G_goto (tgt := 67) d_Ev_workOutElement_53 (by decide) ?_
        refine G_vret d_Ev_workOutElement_67 rfl rfl ?_
        exact ⟨rfl, eff_f (by unfold elmR; first | (simp [*]; done) | (rw [ndR_t hkb]; simp [*]; done) | grind)⟩
      · skip
        refine G_lload (i := 3) (n := 4) (len := 1) (Or.inl ⟨3, rfl, rfl, d_Ev_workOutElement_34⟩) rfl (G_pc (pc' := 35) rfl ?_)
        refine G_aload (i := 0) (n := 1) (len := 1) (Or.inl ⟨0, rfl, rfl, d_Ev_workOutElement_35⟩) rfl (by omega) (G_pc (pc' := 36) rfl ?_)
        refine G_get (o := (19 + 9 * e)) (c := 1) (k := 0) (v := 4) d_Ev_workOutElement_36 fl_Ev_29 (kd_Ev he) (by decide) (by show 19 + 9 * e < 87; omega) (gf_Ev0 he) rfl (G_pc (pc' := 39) rfl ?_)
        refine G_iload (i := 5) (n := 0) (len := 2) (Or.inr ⟨rfl, d_Ev_workOutElement_39⟩) rfl (G_pc (pc' := 41) rfl ?_)
        refine G_callV (K1 := KE) (d2 := 0) (o := 4) (cl := 6) (as := [vi (28 * a + 26)]) (rest := [vl x]) d_Ev_workOutElement_41 mf_Ta_contentsOf ml_Ev_110 rfl rfl (by decide) rfl rfl (Nat.le_of_ble_eq_true rfl) (by omega) ⟨Nat.le_refl _, Nat.le_refl _⟩ (g_Ta_contentsOf (by omega) (28 * a + 26) _ (by omega)) (fun r13 M14 kq15 q15 => ?_)
        clear kq15; obtain ⟨q15a, q15b⟩ := q15; subst r13; subst M14
        refine G_ps (pc' := 44) (st' := [vl (M 8 (28 * a + 26)), vl x]) rfl rfl ?_
        refine G_lcmp_lt (tgt := 56) d_Ev_workOutElement_44 d_Ev_workOutElement_45 (by decide) (fun h16 => ?_) (fun h16 => G_pc (pc' := 48) rfl ?_)
        · skip
          refine G_aload (i := 0) (n := 1) (len := 1) (Or.inl ⟨0, rfl, rfl, d_Ev_workOutElement_56⟩) rfl (by omega) (G_pc (pc' := 57) rfl ?_)
          refine G_iload (i := 1) (n := 2) (len := 1) (Or.inl ⟨1, rfl, rfl, d_Ev_workOutElement_57⟩) rfl (G_pc (pc' := 58) rfl ?_)
          refine G_iload (i := 2) (n := 3) (len := 1) (Or.inl ⟨2, rfl, rfl, d_Ev_workOutElement_58⟩) rfl (G_pc (pc' := 59) rfl ?_)
          refine G_lload (i := 3) (n := 4) (len := 1) (Or.inl ⟨3, rfl, rfl, d_Ev_workOutElement_59⟩) rfl (G_pc (pc' := 60) rfl ?_)
          have hlz : M 8 (28 * a + 26) ≤ 5 := by rw [(hT.2.2.2.2.2.2 a (by omega) (by omega)).1]; exact (hI11 a (by omega) (by omega)).2
          have hwx : w32 x = x := w32_id (by omega)
          refine G_l2i d_Ev_workOutElement_60 (G_pc (pc' := 61) rfl ?_)
          refine G_callN (K1 := KE) (d2 := 0) (as := [vi a, vi (w32 x)]) (rest := [vi i, vr ((19 + 9 * e : Nat) : Int)]) d_Ev_workOutElement_61 mf_De_placeOf (by decide) rfl rfl (Nat.le_of_ble_eq_true rfl) (by omega) ⟨Nat.le_refl _, Nat.le_refl _⟩ (g_De_placeOf (by omega) a (w32 x) _ (by omega) (by omega)) (fun r17 M18 kq19 q19 => ?_)
          clear kq19; obtain ⟨q19a, q19b⟩ := q19; subst r17; subst M18
          refine G_ps (pc' := 64) (st' := [vi (28 * a + (w32 x)), vi i, vr ((19 + 9 * e : Nat) : Int)]) rfl rfl ?_
          refine G_callV (K1 := KE) (d2 := 2) (o := (19 + 9 * e)) (cl := 1) (as := [vi i, vi (28 * a + (w32 x))]) (rest := []) d_Ev_workOutElement_64 mf_Ev_fetch ml_Ev_131 (kd_Ev he) rfl (by show 19 + 9 * e < 87; omega) rfl rfl (Nat.le_of_ble_eq_true rfl) (by omega) ⟨Nat.le_refl _, Nat.le_refl _⟩ (g_Ev_fetch (by omega) e i (28 * a + (w32 x)) M he (by omega) (by omega) (by omega) (by omega) (by omega)) (fun r20 M21 kq22 q22 => ?_)
          clear kq22; obtain ⟨q22a, q22b⟩ := q22; subst r20; subst M21
          refine G_ps (pc' := 67) (st' := []) rfl rfl ?_
          refine G_vret d_Ev_workOutElement_67 rfl rfl ?_
          exact ⟨rfl, congrArg (effD M e i) (by unfold elmR; rw [if_neg (by assumption), if_pos hkb, if_neg (by omega)])⟩
        · skip
          refine G_aload (i := 0) (n := 1) (len := 1) (Or.inl ⟨0, rfl, rfl, d_Ev_workOutElement_48⟩) rfl (by omega) (G_pc (pc' := 49) rfl ?_)
          refine G_iconst (n := 3) d_Ev_workOutElement_49 (by decide) (G_pc (pc' := 50) rfl ?_)
          refine G_callV (K1 := KE) (d2 := 0) (o := (19 + 9 * e)) (cl := 1) (as := [vi 3]) (rest := []) d_Ev_workOutElement_50 mf_Ev_fail ml_Ev_157 (kd_Ev he) rfl (by show 19 + 9 * e < 87; omega) rfl rfl (Nat.le_of_ble_eq_true rfl) (by omega) ⟨Nat.le_refl _, Nat.le_refl _⟩ (g_Ev_fail (by omega) e 3 _ he) (fun r23 M24 kq25 q25 => ?_)
          clear kq25; obtain ⟨q25a, q25b⟩ := q25; subst r23; subst M24
          refine G_ps (pc' := 53) (st' := []) rfl rfl ?_
          refine G_goto (tgt := 67) d_Ev_workOutElement_53 (by decide) ?_
          refine G_vret d_Ev_workOutElement_67 rfl rfl ?_
          exact ⟨rfl, eff_f (by unfold elmR; first | (simp [*]; done) | (rw [ndR_t hkb]; simp [*]; done) | grind)⟩
    · skip
      obtain ⟨q7a, q7b⟩ := q7.2 hkb; subst r5; subst M6
      refine G_ps (pc' := 24) (st' := [vi 0]) rfl rfl ?_
      refine G_if_ne (tgt := 28) d_Ev_workOutElement_24 (by decide) (fun h26 => absurd h26 (by decide)) (fun h26 => G_pc (pc' := 27) rfl ?_)
      refine G_vret d_Ev_workOutElement_27 rfl rfl ?_
      exact ⟨rfl, eff_w (by unfold elmR; first | (simp [*]; done) | (rw [ndR_t hkb]; simp [*]; done) | grind)⟩
  · skip
    refine G_aload (i := 0) (n := 0) (len := 1) (Or.inl ⟨0, rfl, rfl, d_Ev_workOutElement_4⟩) rfl (by omega) (G_pc (pc' := 5) rfl ?_)
    refine G_iconst (n := 2) d_Ev_workOutElement_5 (by decide) (G_pc (pc' := 6) rfl ?_)
    refine G_callV (K1 := KE) (d2 := 0) (o := (19 + 9 * e)) (cl := 1) (as := [vi 2]) (rest := []) d_Ev_workOutElement_6 mf_Ev_fail ml_Ev_157 (kd_Ev he) rfl (by show 19 + 9 * e < 87; omega) rfl rfl (Nat.le_of_ble_eq_true rfl) (by omega) ⟨Nat.le_refl _, Nat.le_refl _⟩ (g_Ev_fail (by omega) e 2 _ he) (fun r27 M28 kq29 q29 => ?_)
    clear kq29; obtain ⟨q29a, q29b⟩ := q29; subst r27; subst M28
    refine G_ps (pc' := 9) (st' := []) rfl rfl ?_
    refine G_vret d_Ev_workOutElement_9 rfl rfl ?_
    exact ⟨rfl, eff_f (by unfold elmR; first | (simp [*]; done) | (rw [ndR_t hkb]; simp [*]; done) | grind)⟩

