theorem d_Ev_isObjectOf_0 : decode b_Ev_isObjectOf 0 = .ok (.aload_n 0, 1) := by decide +kernel
theorem d_Ev_isObjectOf_1 : decode b_Ev_isObjectOf 1 = .ok (.getfield 29, 3) := by decide +kernel
theorem d_Ev_isObjectOf_4 : decode b_Ev_isObjectOf 4 = .ok (.aload_n 0, 1) := by decide +kernel
theorem d_Ev_isObjectOf_5 : decode b_Ev_isObjectOf 5 = .ok (.getfield 29, 3) := by decide +kernel
theorem d_Ev_isObjectOf_8 : decode b_Ev_isObjectOf 8 = .ok (.iload_n 1, 1) := by decide +kernel
theorem d_Ev_isObjectOf_9 : decode b_Ev_isObjectOf 9 = .ok (.bipush 27, 2) := by decide +kernel
theorem d_Ev_isObjectOf_11 : decode b_Ev_isObjectOf 11 = .ok (.invokestatic 127, 3) := by decide +kernel
theorem d_Ev_isObjectOf_14 : decode b_Ev_isObjectOf 14 = .ok (.invokevirtual 110, 3) := by decide +kernel
theorem d_Ev_isObjectOf_17 : decode b_Ev_isObjectOf 17 = .ok (.l2i, 1) := by decide +kernel
theorem d_Ev_isObjectOf_18 : decode b_Ev_isObjectOf 18 = .ok (.iload_n 2, 1) := by decide +kernel
theorem d_Ev_isObjectOf_19 : decode b_Ev_isObjectOf 19 = .ok (.invokevirtual 176, 3) := by decide +kernel
theorem d_Ev_isObjectOf_22 : decode b_Ev_isObjectOf 22 = .ok (.ireturn, 1) := by decide +kernel
theorem g_Ev_isObjectOf {X : WX} {d : Nat} (hd : 2 ≤ d) (e : Nat) (o k : Int) (M : Mem) (hT : RT M) (hI : TI M) (he : e < 4) (ho : 1 ≤ o ∧ o ≤ M 55 5) (hk : vK M k) : MG X gt d KE KE y_Ev_isObjectOf b_Ev_isObjectOf 3 (some .boolean) [vr ((19 + 9 * e : Nat) : Int), vi o, vi k] M (fun r M' => r = some (vi (b2i (suitsB M (M 60 o) k))) ∧ M' = M) := by
  refine MG_of_G (by decide) (Nat.le_of_ble_eq_true rfl) (Nat.le_refl _) (by decide) ?_
  show G X gt d KE KE y_Ev_isObjectOf b_Ev_isObjectOf 3 (some .boolean) _ 0 [(0, vr ((19 + 9 * e : Nat) : Int)), (1, vi o), (2, vi k)] [] KE M
  have hI0 := hI
  obtain ⟨hI1, hI2, hI3, hI4, hI5, hI6, hI7, hI8, hI9, hI10, hI11, hI12, hI13, hI14⟩ := hI
  have hko9 := hI10 o (by omega) (by omega)
  refine G_rngl (i := 1) rfl (fun hr1 => ?_)
  refine G_rngl (i := 2) rfl (fun hr2 => ?_)
  refine G_aload (i := 0) (n := 0) (len := 1) (Or.inl ⟨0, rfl, rfl, d_Ev_isObjectOf_0⟩) rfl (by omega) (G_pc (pc' := 1) rfl ?_)
  refine G_get (o := (19 + 9 * e)) (c := 1) (k := 0) (v := 4) d_Ev_isObjectOf_1 fl_Ev_29 (kd_Ev he) (by decide) (by show 19 + 9 * e < 87; omega) (gf_Ev0 he) rfl (G_pc (pc' := 4) rfl ?_)
  refine G_aload (i := 0) (n := 0) (len := 1) (Or.inl ⟨0, rfl, rfl, d_Ev_isObjectOf_4⟩) rfl (by omega) (G_pc (pc' := 5) rfl ?_)
  refine G_get (o := (19 + 9 * e)) (c := 1) (k := 0) (v := 4) d_Ev_isObjectOf_5 fl_Ev_29 (kd_Ev he) (by decide) (by show 19 + 9 * e < 87; omega) (gf_Ev0 he) rfl (G_pc (pc' := 8) rfl ?_)
  refine G_iload (i := 1) (n := 1) (len := 1) (Or.inl ⟨1, rfl, rfl, d_Ev_isObjectOf_8⟩) rfl (G_pc (pc' := 9) rfl ?_)
  refine G_bipush (n := 27) d_Ev_isObjectOf_9 (by decide) (G_pc (pc' := 11) rfl ?_)
  refine G_callN (K1 := KE) (d2 := 0) (as := [vi o, vi 27]) (rest := [vr 4, vr 4]) d_Ev_isObjectOf_11 mf_De_placeOf (by decide) rfl rfl (Nat.le_of_ble_eq_true rfl) (by omega) ⟨Nat.le_refl _, Nat.le_refl _⟩ (g_De_placeOf (by omega) o 27 _ (by omega) (by omega)) (fun r1 M2 kq3 q3 => ?_)
  clear kq3; obtain ⟨q3a, q3b⟩ := q3; subst r1; subst M2
  refine G_ps (pc' := 14) (st' := [vi (28 * o + 27), vr 4, vr 4]) rfl rfl ?_
  refine G_callV (K1 := KE) (d2 := 0) (o := 4) (cl := 6) (as := [vi (28 * o + 27)]) (rest := [vr 4]) d_Ev_isObjectOf_14 mf_Ta_contentsOf ml_Ev_110 rfl rfl (by decide) rfl rfl (Nat.le_of_ble_eq_true rfl) (by omega) ⟨Nat.le_refl _, Nat.le_refl _⟩ (g_Ta_contentsOf (by omega) (28 * o + 27) _ (by omega)) (fun r4 M5 kq6 q6 => ?_)
  clear kq6; obtain ⟨q6a, q6b⟩ := q6; subst r4; subst M5
  refine G_ps (pc' := 17) (st' := [vl (M 8 (28 * o + 27)), vr 4]) rfl rfl ?_
  rw [show M 8 (28 * o + 27) = M 60 o from (hT.2.2.2.2.2.2 o (by omega) (by omega)).2]
  refine G_l2i d_Ev_isObjectOf_17 (G_pc (pc' := 18) rfl ?_)
  rw [show w32 (M 60 o) = M 60 o from w32_id (by omega)]
  refine G_iload (i := 2) (n := 2) (len := 1) (Or.inl ⟨2, rfl, rfl, d_Ev_isObjectOf_18⟩) rfl (G_pc (pc' := 19) rfl ?_)
  refine G_callV (K1 := KE) (d2 := 1) (o := 4) (cl := 6) (as := [vi (M 60 o), vi k]) (rest := []) d_Ev_isObjectOf_19 mf_Ta_fits ml_Ev_176 rfl rfl (by decide) rfl rfl (Nat.le_of_ble_eq_true rfl) (by omega) ⟨Nat.le_refl _, Nat.le_refl _⟩ (g_Ta_fits (by omega) (M 60 o) k M hT hI0 (Or.inl (hI12 o (by omega) (by omega))) hk) (fun r7 M8 kq9 q9 => ?_)
  clear kq9; obtain ⟨q9a, q9b⟩ := q9; subst r7; subst M8
  refine G_ps (pc' := 22) (st' := [vi (b2i (suitsB M (M 60 o) k))]) rfl rfl ?_
  refine G_iret d_Ev_isObjectOf_22 rfl (tokZ (by have := b2i_in (suitsB M (M 60 o) k); omega)) rfl rfl ?_
  exact ret_e rfl rfl

theorem d_Ev_fitsAnyway_0 : decode b_Ev_fitsAnyway 0 = .ok (.aload_n 0, 1) := by decide +kernel
theorem d_Ev_fitsAnyway_1 : decode b_Ev_fitsAnyway 1 = .ok (.getfield 29, 3) := by decide +kernel
theorem d_Ev_fitsAnyway_4 : decode b_Ev_fitsAnyway 4 = .ok (.aload_n 0, 1) := by decide +kernel
theorem d_Ev_fitsAnyway_5 : decode b_Ev_fitsAnyway 5 = .ok (.getfield 12, 3) := by decide +kernel
theorem d_Ev_fitsAnyway_8 : decode b_Ev_fitsAnyway 8 = .ok (.aload_n 0, 1) := by decide +kernel
theorem d_Ev_fitsAnyway_9 : decode b_Ev_fitsAnyway 9 = .ok (.getfield 12, 3) := by decide +kernel
theorem d_Ev_fitsAnyway_12 : decode b_Ev_fitsAnyway 12 = .ok (.iload_n 1, 1) := by decide +kernel
theorem d_Ev_fitsAnyway_13 : decode b_Ev_fitsAnyway 13 = .ok (.invokevirtual 118, 3) := by decide +kernel
theorem d_Ev_fitsAnyway_16 : decode b_Ev_fitsAnyway 16 = .ok (.invokevirtual 80, 3) := by decide +kernel
theorem d_Ev_fitsAnyway_19 : decode b_Ev_fitsAnyway 19 = .ok (.iload_n 2, 1) := by decide +kernel
theorem d_Ev_fitsAnyway_20 : decode b_Ev_fitsAnyway 20 = .ok (.invokevirtual 176, 3) := by decide +kernel
theorem d_Ev_fitsAnyway_23 : decode b_Ev_fitsAnyway 23 = .ok (.ireturn, 1) := by decide +kernel
theorem g_Ev_fitsAnyway {X : WX} {d : Nat} (hd : 2 ≤ d) (e : Nat) (i k : Int) (M : Mem) (hT : RT M) (hI : TI M) (he : e < 4) (hi : 0 ≤ i ∧ i < 48) (hf : 0 ≤ M (22 + 9 * e) i ∧ M (22 + 9 * e) i < 48) (hkf : vK M (M (25 + 9 * e) (M (22 + 9 * e) i))) (hk : vK M k) : MG X gt d KE KE y_Ev_fitsAnyway b_Ev_fitsAnyway 3 (some .boolean) [vr ((19 + 9 * e : Nat) : Int), vi i, vi k] M (fun r M' => r = some (vi (b2i (suitsB M (M (25 + 9 * e) (M (22 + 9 * e) i)) k))) ∧ M' = M) := by
  refine MG_of_G (by decide) (Nat.le_of_ble_eq_true rfl) (Nat.le_refl _) (by decide) ?_
  show G X gt d KE KE y_Ev_fitsAnyway b_Ev_fitsAnyway 3 (some .boolean) _ 0 [(0, vr ((19 + 9 * e : Nat) : Int)), (1, vi i), (2, vi k)] [] KE M
  have hI0 := hI
  obtain ⟨hI1, hI2, hI3, hI4, hI5, hI6, hI7, hI8, hI9, hI10, hI11, hI12, hI13, hI14⟩ := hI
  refine G_rngl (i := 1) rfl (fun hr1 => ?_)
  refine G_rngl (i := 2) rfl (fun hr2 => ?_)
  refine G_aload (i := 0) (n := 0) (len := 1) (Or.inl ⟨0, rfl, rfl, d_Ev_fitsAnyway_0⟩) rfl (by omega) (G_pc (pc' := 1) rfl ?_)
  refine G_get (o := (19 + 9 * e)) (c := 1) (k := 0) (v := 4) d_Ev_fitsAnyway_1 fl_Ev_29 (kd_Ev he) (by decide) (by show 19 + 9 * e < 87; omega) (gf_Ev0 he) rfl (G_pc (pc' := 4) rfl ?_)
  refine G_aload (i := 0) (n := 0) (len := 1) (Or.inl ⟨0, rfl, rfl, d_Ev_fitsAnyway_4⟩) rfl (by omega) (G_pc (pc' := 5) rfl ?_)
  refine G_get (o := (19 + 9 * e)) (c := 1) (k := 4) (v := ((20 + 9 * e : Nat) : Int)) d_Ev_fitsAnyway_5 fl_Ev_12 (kd_Ev he) (by decide) (by show 19 + 9 * e < 87; omega) (gf_Ev4 he) rfl (G_pc (pc' := 8) rfl ?_)
  refine G_aload (i := 0) (n := 0) (len := 1) (Or.inl ⟨0, rfl, rfl, d_Ev_fitsAnyway_8⟩) rfl (by omega) (G_pc (pc' := 9) rfl ?_)
  refine G_get (o := (19 + 9 * e)) (c := 1) (k := 4) (v := ((20 + 9 * e : Nat) : Int)) d_Ev_fitsAnyway_9 fl_Ev_12 (kd_Ev he) (by decide) (by show 19 + 9 * e < 87; omega) (gf_Ev4 he) rfl (G_pc (pc' := 12) rfl ?_)
  refine G_iload (i := 1) (n := 1) (len := 1) (Or.inl ⟨1, rfl, rfl, d_Ev_fitsAnyway_12⟩) rfl (G_pc (pc' := 13) rfl ?_)
  refine G_callV (K1 := KE) (d2 := 0) (o := (20 + 9 * e)) (cl := 5) (as := [vi i]) (rest := [vr ((20 + 9 * e : Nat) : Int), vr 4]) d_Ev_fitsAnyway_13 mf_St_firstOf ml_Ev_118 (kd_St he) rfl (by show 20 + 9 * e < 87; omega) rfl rfl (Nat.le_of_ble_eq_true rfl) (by omega) ⟨Nat.le_refl _, Nat.le_refl _⟩ (g_St_firstOf (by omega) e i _ he (by omega)) (fun r1 M2 kq3 q3 => ?_)
  clear kq3; obtain ⟨q3a, q3b⟩ := q3; subst r1; subst M2
  refine G_ps (pc' := 16) (st' := [vi (M (22 + 9 * e) i), vr ((20 + 9 * e : Nat) : Int), vr 4]) rfl rfl ?_
  refine G_callV (K1 := KE) (d2 := 0) (o := (20 + 9 * e)) (cl := 5) (as := [vi (M (22 + 9 * e) i)]) (rest := [vr 4]) d_Ev_fitsAnyway_16 mf_St_kindAt ml_Ev_80 (kd_St he) rfl (by show 20 + 9 * e < 87; omega) rfl rfl (Nat.le_of_ble_eq_true rfl) (by omega) ⟨Nat.le_refl _, Nat.le_refl _⟩ (g_St_kindAt (by omega) e (M (22 + 9 * e) i) _ he (by omega)) (fun r4 M5 kq6 q6 => ?_)
  clear kq6; obtain ⟨q6a, q6b⟩ := q6; subst r4; subst M5
  refine G_ps (pc' := 19) (st' := [vi (M (25 + 9 * e) (M (22 + 9 * e) i)), vr 4]) rfl rfl ?_
  refine G_iload (i := 2) (n := 2) (len := 1) (Or.inl ⟨2, rfl, rfl, d_Ev_fitsAnyway_19⟩) rfl (G_pc (pc' := 20) rfl ?_)
  refine G_callV (K1 := KE) (d2 := 1) (o := 4) (cl := 6) (as := [vi (M (25 + 9 * e) (M (22 + 9 * e) i)), vi k]) (rest := []) d_Ev_fitsAnyway_20 mf_Ta_fits ml_Ev_176 rfl rfl (by decide) rfl rfl (Nat.le_of_ble_eq_true rfl) (by omega) ⟨Nat.le_refl _, Nat.le_refl _⟩ (g_Ta_fits (by omega) (M (25 + 9 * e) (M (22 + 9 * e) i)) k M hT hI0 hkf hk) (fun r7 M8 kq9 q9 => ?_)
  clear kq9; obtain ⟨q9a, q9b⟩ := q9; subst r7; subst M8
  refine G_ps (pc' := 23) (st' := [vi (b2i (suitsB M (M (25 + 9 * e) (M (22 + 9 * e) i)) k))]) rfl rfl ?_
  refine G_iret d_Ev_fitsAnyway_23 rfl (tokZ (by have := b2i_in (suitsB M (M (25 + 9 * e) (M (22 + 9 * e) i)) k); omega)) rfl rfl ?_
  exact ret_e rfl rfl

def insR (M : Mem) (e : Nat) (i o k : Int) : Int × Int := if o = 0 then (0, 0) else if suitsB M (M (25 + 9 * e) (M (22 + 9 * e) i)) k = true then (0, 1) else if kbD M (28 * o + 27) = 1 then (0, b2i (suitsB M (M 60 o) k)) else (1, 28 * o + 27)
def cstR (M : Mem) (e : Nat) (i x k : Int) : Int × Int := if reB k = false then (0, naD k x) else if x = 0 ∨ suitsB M (M (25 + 9 * e) (M (22 + 9 * e) i)) k = true then (0, x) else if kbD M (28 * w32 x + 27) = 1 then (if suitsB M (M 60 (w32 x)) k = true then (0, x) else (2, 4)) else (1, 28 * w32 x + 27)
theorem d_Ev_workOutInstanceof_0 : decode b_Ev_workOutInstanceof 0 = .ok (.iload_n 2, 1) := by decide +kernel
theorem d_Ev_workOutInstanceof_1 : decode b_Ev_workOutInstanceof 1 = .ok (.ifCond .eq 12, 3) := by decide +kernel
theorem d_Ev_workOutInstanceof_4 : decode b_Ev_workOutInstanceof 4 = .ok (.aload_n 0, 1) := by decide +kernel
theorem d_Ev_workOutInstanceof_5 : decode b_Ev_workOutInstanceof 5 = .ok (.iload_n 1, 1) := by decide +kernel
theorem d_Ev_workOutInstanceof_6 : decode b_Ev_workOutInstanceof 6 = .ok (.iload_n 3, 1) := by decide +kernel
theorem d_Ev_workOutInstanceof_7 : decode b_Ev_workOutInstanceof 7 = .ok (.invokevirtual 160, 3) := by decide +kernel
theorem d_Ev_workOutInstanceof_10 : decode b_Ev_workOutInstanceof 10 = .ok (.ifCond .eq 20, 3) := by decide +kernel
theorem d_Ev_workOutInstanceof_13 : decode b_Ev_workOutInstanceof 13 = .ok (.aload_n 0, 1) := by decide +kernel
theorem d_Ev_workOutInstanceof_14 : decode b_Ev_workOutInstanceof 14 = .ok (.iload_n 1, 1) := by decide +kernel
theorem d_Ev_workOutInstanceof_15 : decode b_Ev_workOutInstanceof 15 = .ok (.iload_n 2, 1) := by decide +kernel
theorem d_Ev_workOutInstanceof_16 : decode b_Ev_workOutInstanceof 16 = .ok (.ifCond .ne 7, 3) := by decide +kernel
theorem d_Ev_workOutInstanceof_19 : decode b_Ev_workOutInstanceof 19 = .ok (.lconst 0, 1) := by decide +kernel
theorem d_Ev_workOutInstanceof_20 : decode b_Ev_workOutInstanceof 20 = .ok (.goto 4, 3) := by decide +kernel
theorem d_Ev_workOutInstanceof_23 : decode b_Ev_workOutInstanceof 23 = .ok (.lconst 1, 1) := by decide +kernel
theorem d_Ev_workOutInstanceof_24 : decode b_Ev_workOutInstanceof 24 = .ok (.invokevirtual 115, 3) := by decide +kernel
theorem d_Ev_workOutInstanceof_27 : decode b_Ev_workOutInstanceof 27 = .ok (.goto 35, 3) := by decide +kernel
theorem d_Ev_workOutInstanceof_30 : decode b_Ev_workOutInstanceof 30 = .ok (.aload_n 0, 1) := by decide +kernel
theorem d_Ev_workOutInstanceof_31 : decode b_Ev_workOutInstanceof 31 = .ok (.iload_n 2, 1) := by decide +kernel
theorem d_Ev_workOutInstanceof_32 : decode b_Ev_workOutInstanceof 32 = .ok (.bipush 27, 2) := by decide +kernel
theorem d_Ev_workOutInstanceof_34 : decode b_Ev_workOutInstanceof 34 = .ok (.invokestatic 127, 3) := by decide +kernel
theorem d_Ev_workOutInstanceof_37 : decode b_Ev_workOutInstanceof 37 = .ok (.invokevirtual 107, 3) := by decide +kernel
theorem d_Ev_workOutInstanceof_40 : decode b_Ev_workOutInstanceof 40 = .ok (.ifCond .eq 22, 3) := by decide +kernel
theorem d_Ev_workOutInstanceof_43 : decode b_Ev_workOutInstanceof 43 = .ok (.aload_n 0, 1) := by decide +kernel
theorem d_Ev_workOutInstanceof_44 : decode b_Ev_workOutInstanceof 44 = .ok (.iload_n 1, 1) := by decide +kernel
theorem d_Ev_workOutInstanceof_45 : decode b_Ev_workOutInstanceof 45 = .ok (.aload_n 0, 1) := by decide +kernel
theorem d_Ev_workOutInstanceof_46 : decode b_Ev_workOutInstanceof 46 = .ok (.iload_n 2, 1) := by decide +kernel
theorem d_Ev_workOutInstanceof_47 : decode b_Ev_workOutInstanceof 47 = .ok (.iload_n 3, 1) := by decide +kernel
theorem d_Ev_workOutInstanceof_48 : decode b_Ev_workOutInstanceof 48 = .ok (.invokevirtual 164, 3) := by decide +kernel
theorem d_Ev_workOutInstanceof_51 : decode b_Ev_workOutInstanceof 51 = .ok (.ifCond .eq 7, 3) := by decide +kernel
theorem d_Ev_workOutInstanceof_54 : decode b_Ev_workOutInstanceof 54 = .ok (.lconst 1, 1) := by decide +kernel
theorem d_Ev_workOutInstanceof_55 : decode b_Ev_workOutInstanceof 55 = .ok (.goto 4, 3) := by decide +kernel
theorem d_Ev_workOutInstanceof_58 : decode b_Ev_workOutInstanceof 58 = .ok (.lconst 0, 1) := by decide +kernel
theorem d_Ev_workOutInstanceof_59 : decode b_Ev_workOutInstanceof 59 = .ok (.invokevirtual 115, 3) := by decide +kernel
theorem d_Ev_workOutInstanceof_62 : decode b_Ev_workOutInstanceof 62 = .ok (.return_, 1) := by decide +kernel
theorem g_Ev_workOutInstanceof {X : WX} {d : Nat} (hd : 3 ≤ d) (e : Nat) (i o k : Int) (M : Mem) (hT : RT M) (hI : TI M) (he : e < 4) (hi : 0 ≤ i ∧ i < 48) (hf : 0 ≤ M (22 + 9 * e) i ∧ M (22 + 9 * e) i < 48) (hkf : vK M (M (25 + 9 * e) (M (22 + 9 * e) i))) (hk : vK M k) (ho : 0 ≤ o ∧ o ≤ M 55 5) (hl3 : 0 ≤ M 9 3 ∧ M 9 3 ≤ 300) (hl4 : 0 ≤ M 9 4 ∧ M 9 4 ≤ 300) (hl5 : 0 ≤ M 9 5 ∧ M 9 5 ≤ 1) : MG X gt d KE KE y_Ev_workOutInstanceof b_Ev_workOutInstanceof 4 none [vr ((19 + 9 * e : Nat) : Int), vi i, vi o, vi k] M (fun r M' => r = none ∧ M' = effD M e i (insR M e i o k)) := by
  refine MG_of_G (by decide) (Nat.le_of_ble_eq_true rfl) (Nat.le_refl _) (by decide) ?_
  show G X gt d KE KE y_Ev_workOutInstanceof b_Ev_workOutInstanceof 4 none _ 0 [(0, vr ((19 + 9 * e : Nat) : Int)), (1, vi i), (2, vi o), (3, vi k)] [] KE M
  have hI0 := hI
  obtain ⟨hI1, hI2, hI3, hI4, hI5, hI6, hI7, hI8, hI9, hI10, hI11, hI12, hI13, hI14⟩ := hI
  refine G_rngl (i := 1) rfl (fun hr1 => ?_)
  refine G_rngl (i := 2) rfl (fun hr2 => ?_)
  refine G_rngl (i := 3) rfl (fun hr3 => ?_)
  refine G_iload (i := 2) (n := 2) (len := 1) (Or.inl ⟨2, rfl, rfl, d_Ev_workOutInstanceof_0⟩) rfl (G_pc (pc' := 1) rfl ?_)
  refine G_if_eq (tgt := 13) d_Ev_workOutInstanceof_1 (by decide) (fun h1 => ?_) (fun h1 => G_pc (pc' := 4) rfl ?_)
  · skip
    refine G_aload (i := 0) (n := 0) (len := 1) (Or.inl ⟨0, rfl, rfl, d_Ev_workOutInstanceof_13⟩) rfl (by omega) (G_pc (pc' := 14) rfl ?_)
    refine G_iload (i := 1) (n := 1) (len := 1) (Or.inl ⟨1, rfl, rfl, d_Ev_workOutInstanceof_14⟩) rfl (G_pc (pc' := 15) rfl ?_)
    refine G_iload (i := 2) (n := 2) (len := 1) (Or.inl ⟨2, rfl, rfl, d_Ev_workOutInstanceof_15⟩) rfl (G_pc (pc' := 16) rfl ?_)
    refine G_if_ne (tgt := 23) d_Ev_workOutInstanceof_16 (by decide) (fun h2 => ?_) (fun h2 => G_pc (pc' := 19) rfl ?_)
    · skip
      refine G_lconst1 d_Ev_workOutInstanceof_23 (G_pc (pc' := 24) rfl ?_)
      refine G_callV (K1 := KE) (d2 := 1) (o := (19 + 9 * e)) (cl := 1) (as := [vi i, vl 1]) (rest := []) d_Ev_workOutInstanceof_24 mf_Ev_settle ml_Ev_115 (kd_Ev he) rfl (by show 19 + 9 * e < 87; omega) rfl rfl (Nat.le_of_ble_eq_true rfl) (by omega) ⟨Nat.le_refl _, Nat.le_refl _⟩ (g_Ev_settle (by omega) e i 1 _ he (by omega)) (fun r3 M4 kq5 q5 => ?_)
      clear kq5; obtain ⟨q5a, q5b⟩ := q5; subst r3; subst M4
      refine G_ps (pc' := 27) (st' := []) rfl rfl ?_
      refine G_goto (tgt := 62) d_Ev_workOutInstanceof_27 (by decide) ?_
      refine G_vret d_Ev_workOutInstanceof_62 rfl rfl ?_
      first | (exfalso; omega) | exact ⟨rfl, eff_s (by clear hI0 hI1 hI2 hI3 hI4 hI5 hI6 hI7 hI8 hI9 hI10 hI11 hI12 hI13 hI14 hT; unfold insR; simp [*, b2i])⟩
    · skip
      refine G_lconst0 d_Ev_workOutInstanceof_19 (G_pc (pc' := 20) rfl ?_)
      refine G_goto (tgt := 24) d_Ev_workOutInstanceof_20 (by decide) ?_
      refine G_callV (K1 := KE) (d2 := 1) (o := (19 + 9 * e)) (cl := 1) (as := [vi i, vl 0]) (rest := []) d_Ev_workOutInstanceof_24 mf_Ev_settle ml_Ev_115 (kd_Ev he) rfl (by show 19 + 9 * e < 87; omega) rfl rfl (Nat.le_of_ble_eq_true rfl) (by omega) ⟨Nat.le_refl _, Nat.le_refl _⟩ (g_Ev_settle (by omega) e i 0 _ he (by omega)) (fun r6 M7 kq8 q8 => ?_)
      clear kq8; obtain ⟨q8a, q8b⟩ := q8; subst r6; subst M7
      refine G_ps (pc' := 27) (st' := []) rfl rfl ?_
      refine G_goto (tgt := 62) d_Ev_workOutInstanceof_27 (by decide) ?_
      refine G_vret d_Ev_workOutInstanceof_62 rfl rfl ?_
      first | (exfalso; omega) | exact ⟨rfl, eff_s (by clear hI0 hI1 hI2 hI3 hI4 hI5 hI6 hI7 hI8 hI9 hI10 hI11 hI12 hI13 hI14 hT; unfold insR; simp [*, b2i])⟩
  · skip
    refine G_aload (i := 0) (n := 0) (len := 1) (Or.inl ⟨0, rfl, rfl, d_Ev_workOutInstanceof_4⟩) rfl (by omega) (G_pc (pc' := 5) rfl ?_)
    refine G_iload (i := 1) (n := 1) (len := 1) (Or.inl ⟨1, rfl, rfl, d_Ev_workOutInstanceof_5⟩) rfl (G_pc (pc' := 6) rfl ?_)
    refine G_iload (i := 3) (n := 3) (len := 1) (Or.inl ⟨3, rfl, rfl, d_Ev_workOutInstanceof_6⟩) rfl (G_pc (pc' := 7) rfl ?_)
    refine G_callV (K1 := KE) (d2 := 2) (o := (19 + 9 * e)) (cl := 1) (as := [vi i, vi k]) (rest := []) d_Ev_workOutInstanceof_7 mf_Ev_fitsAnyway ml_Ev_160 (kd_Ev he) rfl (by show 19 + 9 * e < 87; omega) rfl rfl (Nat.le_of_ble_eq_true rfl) (by omega) ⟨Nat.le_refl _, Nat.le_refl _⟩ (g_Ev_fitsAnyway (by omega) e i k M hT hI0 he (by omega) hf hkf hk) (fun r9 M10 kq11 q11 => ?_)
    clear kq11; obtain ⟨q11a, q11b⟩ := q11; subst r9; subst M10
    refine G_ps (pc' := 10) (st' := [vi (b2i (suitsB M (M (25 + 9 * e) (M (22 + 9 * e) i)) k))]) rfl rfl ?_
    refine G_if_eq (tgt := 30) d_Ev_workOutInstanceof_10 (by decide) (fun h12 => ?_) (fun h12 => G_pc (pc' := 13) rfl ?_)
    · skip
      replace h12 := b2i_0.mp h12
      refine G_aload (i := 0) (n := 0) (len := 1) (Or.inl ⟨0, rfl, rfl, d_Ev_workOutInstanceof_30⟩) rfl (by omega) (G_pc (pc' := 31) rfl ?_)
      refine G_iload (i := 2) (n := 2) (len := 1) (Or.inl ⟨2, rfl, rfl, d_Ev_workOutInstanceof_31⟩) rfl (G_pc (pc' := 32) rfl ?_)
      refine G_bipush (n := 27) d_Ev_workOutInstanceof_32 (by decide) (G_pc (pc' := 34) rfl ?_)
      refine G_callN (K1 := KE) (d2 := 0) (as := [vi o, vi 27]) (rest := [vr ((19 + 9 * e : Nat) : Int)]) d_Ev_workOutInstanceof_34 mf_De_placeOf (by decide) rfl rfl (Nat.le_of_ble_eq_true rfl) (by omega) ⟨Nat.le_refl _, Nat.le_refl _⟩ (g_De_placeOf (by omega) o 27 _ (by omega) (by omega)) (fun r13 M14 kq15 q15 => ?_)
      clear kq15; obtain ⟨q15a, q15b⟩ := q15; subst r13; subst M14
      refine G_ps (pc' := 37) (st' := [vi (28 * o + 27), vr ((19 + 9 * e : Nat) : Int)]) rfl rfl ?_
      refine G_callV (K1 := KE) (d2 := 1) (o := (19 + 9 * e)) (cl := 1) (as := [vi (28 * o + 27)]) (rest := []) d_Ev_workOutInstanceof_37 mf_Ev_has ml_Ev_107 (kd_Ev he) rfl (by show 19 + 9 * e < 87; omega) rfl rfl (Nat.le_of_ble_eq_true rfl) (by omega) ⟨Nat.le_refl _, Nat.le_refl _⟩ (g_Ev_has (by omega) e (28 * o + 27) M he (by omega) (by omega) (by omega) (by omega)) (fun r16 M17 kq18 q18 => ?_)
      clear kq18
      rcases Classical.em (kbD M (28 * o + 27) = 1) with hkb | hkb
      · skip
        obtain ⟨q18a, q18b⟩ := q18.1 hkb; subst r16; subst M17
        refine G_ps (pc' := 40) (st' := [vi 1]) rfl rfl ?_
        refine G_if_eq (tgt := 62) d_Ev_workOutInstanceof_40 (by decide) (fun h19 => absurd h19 (by decide)) (fun h19 => G_pc (pc' := 43) rfl ?_)
        refine G_aload (i := 0) (n := 0) (len := 1) (Or.inl ⟨0, rfl, rfl, d_Ev_workOutInstanceof_43⟩) rfl (by omega) (G_pc (pc' := 44) rfl ?_)
        refine G_iload (i := 1) (n := 1) (len := 1) (Or.inl ⟨1, rfl, rfl, d_Ev_workOutInstanceof_44⟩) rfl (G_pc (pc' := 45) rfl ?_)
        refine G_aload (i := 0) (n := 0) (len := 1) (Or.inl ⟨0, rfl, rfl, d_Ev_workOutInstanceof_45⟩) rfl (by omega) (G_pc (pc' := 46) rfl ?_)
        refine G_iload (i := 2) (n := 2) (len := 1) (Or.inl ⟨2, rfl, rfl, d_Ev_workOutInstanceof_46⟩) rfl (G_pc (pc' := 47) rfl ?_)
        refine G_iload (i := 3) (n := 3) (len := 1) (Or.inl ⟨3, rfl, rfl, d_Ev_workOutInstanceof_47⟩) rfl (G_pc (pc' := 48) rfl ?_)
        refine G_callV (K1 := KE) (d2 := 2) (o := (19 + 9 * e)) (cl := 1) (as := [vi o, vi k]) (rest := [vi i, vr ((19 + 9 * e : Nat) : Int)]) d_Ev_workOutInstanceof_48 mf_Ev_isObjectOf ml_Ev_164 (kd_Ev he) rfl (by show 19 + 9 * e < 87; omega) rfl rfl (Nat.le_of_ble_eq_true rfl) (by omega) ⟨Nat.le_refl _, Nat.le_refl _⟩ (g_Ev_isObjectOf (by omega) e o k M hT hI0 he (by omega) hk) (fun r20 M21 kq22 q22 => ?_)
        clear kq22; obtain ⟨q22a, q22b⟩ := q22; subst r20; subst M21
        refine G_ps (pc' := 51) (st' := [vi (b2i (suitsB M (M 60 o) k)), vi i, vr ((19 + 9 * e : Nat) : Int)]) rfl rfl ?_
        refine G_if_eq (tgt := 58) d_Ev_workOutInstanceof_51 (by decide) (fun h23 => ?_) (fun h23 => G_pc (pc' := 54) rfl ?_)
        · skip
          replace h23 := b2i_0.mp h23
          refine G_lconst0 d_Ev_workOutInstanceof_58 (G_pc (pc' := 59) rfl ?_)
          refine G_callV (K1 := KE) (d2 := 1) (o := (19 + 9 * e)) (cl := 1) (as := [vi i, vl 0]) (rest := []) d_Ev_workOutInstanceof_59 mf_Ev_settle ml_Ev_115 (kd_Ev he) rfl (by show 19 + 9 * e < 87; omega) rfl rfl (Nat.le_of_ble_eq_true rfl) (by omega) ⟨Nat.le_refl _, Nat.le_refl _⟩ (g_Ev_settle (by omega) e i 0 _ he (by omega)) (fun r24 M25 kq26 q26 => ?_)
          clear kq26; obtain ⟨q26a, q26b⟩ := q26; subst r24; subst M25
          refine G_ps (pc' := 62) (st' := []) rfl rfl ?_
          refine G_vret d_Ev_workOutInstanceof_62 rfl rfl ?_
          first | (exfalso; omega) | exact ⟨rfl, eff_s (by clear hI0 hI1 hI2 hI3 hI4 hI5 hI6 hI7 hI8 hI9 hI10 hI11 hI12 hI13 hI14 hT; unfold insR; simp [*, b2i])⟩
        · skip
          replace h23 := b2i_nz.mp h23
          refine G_lconst1 d_Ev_workOutInstanceof_54 (G_pc (pc' := 55) rfl ?_)
          refine G_goto (tgt := 59) d_Ev_workOutInstanceof_55 (by decide) ?_
          refine G_callV (K1 := KE) (d2 := 1) (o := (19 + 9 * e)) (cl := 1) (as := [vi i, vl 1]) (rest := []) d_Ev_workOutInstanceof_59 mf_Ev_settle ml_Ev_115 (kd_Ev he) rfl (by show 19 + 9 * e < 87; omega) rfl rfl (Nat.le_of_ble_eq_true rfl) (by omega) ⟨Nat.le_refl _, Nat.le_refl _⟩ (g_Ev_settle (by omega) e i 1 _ he (by omega)) (fun r27 M28 kq29 q29 => ?_)
          clear kq29; obtain ⟨q29a, q29b⟩ := q29; subst r27; subst M28
          refine G_ps (pc' := 62) (st' := []) rfl rfl ?_
          refine G_vret d_Ev_workOutInstanceof_62 rfl rfl ?_
          first | (exfalso; omega) | exact ⟨rfl, eff_s (by clear hI0 hI1 hI2 hI3 hI4 hI5 hI6 hI7 hI8 hI9 hI10 hI11 hI12 hI13 hI14 hT; unfold insR; simp [*, b2i])⟩
      · skip
        obtain ⟨q18a, q18b⟩ := q18.2 hkb; subst r16; subst M17
        refine G_ps (pc' := 40) (st' := [vi 0]) rfl rfl ?_
        refine G_if_eq (tgt := 62) d_Ev_workOutInstanceof_40 (by decide) (fun h30 => ?_) (fun h30 => absurd h30 (by decide))
        refine G_vret d_Ev_workOutInstanceof_62 rfl rfl ?_
        first | (exfalso; omega) | exact ⟨rfl, eff_w (by clear hI0 hI1 hI2 hI3 hI4 hI5 hI6 hI7 hI8 hI9 hI10 hI11 hI12 hI13 hI14 hT; unfold insR; simp [*, b2i])⟩
    · skip
      replace h12 := b2i_nz.mp h12
      refine G_aload (i := 0) (n := 0) (len := 1) (Or.inl ⟨0, rfl, rfl, d_Ev_workOutInstanceof_13⟩) rfl (by omega) (G_pc (pc' := 14) rfl ?_)
      refine G_iload (i := 1) (n := 1) (len := 1) (Or.inl ⟨1, rfl, rfl, d_Ev_workOutInstanceof_14⟩) rfl (G_pc (pc' := 15) rfl ?_)
      refine G_iload (i := 2) (n := 2) (len := 1) (Or.inl ⟨2, rfl, rfl, d_Ev_workOutInstanceof_15⟩) rfl (G_pc (pc' := 16) rfl ?_)
      refine G_if_ne (tgt := 23) d_Ev_workOutInstanceof_16 (by decide) (fun h31 => ?_) (fun h31 => G_pc (pc' := 19) rfl ?_)
      · skip
        refine G_lconst1 d_Ev_workOutInstanceof_23 (G_pc (pc' := 24) rfl ?_)
        refine G_callV (K1 := KE) (d2 := 1) (o := (19 + 9 * e)) (cl := 1) (as := [vi i, vl 1]) (rest := []) d_Ev_workOutInstanceof_24 mf_Ev_settle ml_Ev_115 (kd_Ev he) rfl (by show 19 + 9 * e < 87; omega) rfl rfl (Nat.le_of_ble_eq_true rfl) (by omega) ⟨Nat.le_refl _, Nat.le_refl _⟩ (g_Ev_settle (by omega) e i 1 _ he (by omega)) (fun r32 M33 kq34 q34 => ?_)
        clear kq34; obtain ⟨q34a, q34b⟩ := q34; subst r32; subst M33
        refine G_ps (pc' := 27) (st' := []) rfl rfl ?_
        refine G_goto (tgt := 62) d_Ev_workOutInstanceof_27 (by decide) ?_
        refine G_vret d_Ev_workOutInstanceof_62 rfl rfl ?_
        first | (exfalso; omega) | exact ⟨rfl, eff_s (by clear hI0 hI1 hI2 hI3 hI4 hI5 hI6 hI7 hI8 hI9 hI10 hI11 hI12 hI13 hI14 hT; unfold insR; simp [*, b2i])⟩
      · skip
        refine G_lconst0 d_Ev_workOutInstanceof_19 (G_pc (pc' := 20) rfl ?_)
        refine G_goto (tgt := 24) d_Ev_workOutInstanceof_20 (by decide) ?_
        refine G_callV (K1 := KE) (d2 := 1) (o := (19 + 9 * e)) (cl := 1) (as := [vi i, vl 0]) (rest := []) d_Ev_workOutInstanceof_24 mf_Ev_settle ml_Ev_115 (kd_Ev he) rfl (by show 19 + 9 * e < 87; omega) rfl rfl (Nat.le_of_ble_eq_true rfl) (by omega) ⟨Nat.le_refl _, Nat.le_refl _⟩ (g_Ev_settle (by omega) e i 0 _ he (by omega)) (fun r35 M36 kq37 q37 => ?_)
        clear kq37; obtain ⟨q37a, q37b⟩ := q37; subst r35; subst M36
        refine G_ps (pc' := 27) (st' := []) rfl rfl ?_
        refine G_goto (tgt := 62) d_Ev_workOutInstanceof_27 (by decide) ?_
        refine G_vret d_Ev_workOutInstanceof_62 rfl rfl ?_
        first | (exfalso; omega) | exact ⟨rfl, eff_s (by clear hI0 hI1 hI2 hI3 hI4 hI5 hI6 hI7 hI8 hI9 hI10 hI11 hI12 hI13 hI14 hT; unfold insR; simp [*, b2i])⟩

theorem d_Ev_workOutCast_0 : decode b_Ev_workOutCast 0 = .ok (.iload 4, 2) := by decide +kernel
theorem d_Ev_workOutCast_2 : decode b_Ev_workOutCast 2 = .ok (.invokestatic 167, 3) := by decide +kernel
theorem d_Ev_workOutCast_5 : decode b_Ev_workOutCast 5 = .ok (.ifCond .ne 17, 3) := by decide +kernel
theorem d_Ev_workOutCast_8 : decode b_Ev_workOutCast 8 = .ok (.aload_n 0, 1) := by decide +kernel
theorem d_Ev_workOutCast_9 : decode b_Ev_workOutCast 9 = .ok (.iload_n 1, 1) := by decide +kernel
theorem d_Ev_workOutCast_10 : decode b_Ev_workOutCast 10 = .ok (.iload 4, 2) := by decide +kernel
theorem d_Ev_workOutCast_12 : decode b_Ev_workOutCast 12 = .ok (.lload_n 2, 1) := by decide +kernel
theorem d_Ev_workOutCast_13 : decode b_Ev_workOutCast 13 = .ok (.invokestatic 172, 3) := by decide +kernel
theorem d_Ev_workOutCast_16 : decode b_Ev_workOutCast 16 = .ok (.invokevirtual 115, 3) := by decide +kernel
theorem d_Ev_workOutCast_19 : decode b_Ev_workOutCast 19 = .ok (.goto 67, 3) := by decide +kernel
theorem d_Ev_workOutCast_22 : decode b_Ev_workOutCast 22 = .ok (.lload_n 2, 1) := by decide +kernel
theorem d_Ev_workOutCast_23 : decode b_Ev_workOutCast 23 = .ok (.lconst 0, 1) := by decide +kernel
theorem d_Ev_workOutCast_24 : decode b_Ev_workOutCast 24 = .ok (.lcmp, 1) := by decide +kernel
theorem d_Ev_workOutCast_25 : decode b_Ev_workOutCast 25 = .ok (.ifCond .eq 13, 3) := by decide +kernel
theorem d_Ev_workOutCast_28 : decode b_Ev_workOutCast 28 = .ok (.aload_n 0, 1) := by decide +kernel
theorem d_Ev_workOutCast_29 : decode b_Ev_workOutCast 29 = .ok (.iload_n 1, 1) := by decide +kernel
theorem d_Ev_workOutCast_30 : decode b_Ev_workOutCast 30 = .ok (.iload 4, 2) := by decide +kernel
theorem d_Ev_workOutCast_32 : decode b_Ev_workOutCast 32 = .ok (.invokevirtual 160, 3) := by decide +kernel
theorem d_Ev_workOutCast_35 : decode b_Ev_workOutCast 35 = .ok (.ifCond .eq 12, 3) := by decide +kernel
theorem d_Ev_workOutCast_38 : decode b_Ev_workOutCast 38 = .ok (.aload_n 0, 1) := by decide +kernel
theorem d_Ev_workOutCast_39 : decode b_Ev_workOutCast 39 = .ok (.iload_n 1, 1) := by decide +kernel
theorem d_Ev_workOutCast_40 : decode b_Ev_workOutCast 40 = .ok (.lload_n 2, 1) := by decide +kernel
theorem d_Ev_workOutCast_41 : decode b_Ev_workOutCast 41 = .ok (.invokevirtual 115, 3) := by decide +kernel
theorem d_Ev_workOutCast_44 : decode b_Ev_workOutCast 44 = .ok (.goto 42, 3) := by decide +kernel
theorem d_Ev_workOutCast_47 : decode b_Ev_workOutCast 47 = .ok (.aload_n 0, 1) := by decide +kernel
theorem d_Ev_workOutCast_48 : decode b_Ev_workOutCast 48 = .ok (.lload_n 2, 1) := by decide +kernel
theorem d_Ev_workOutCast_49 : decode b_Ev_workOutCast 49 = .ok (.l2i, 1) := by decide +kernel
theorem d_Ev_workOutCast_50 : decode b_Ev_workOutCast 50 = .ok (.bipush 27, 2) := by decide +kernel
theorem d_Ev_workOutCast_52 : decode b_Ev_workOutCast 52 = .ok (.invokestatic 127, 3) := by decide +kernel
theorem d_Ev_workOutCast_55 : decode b_Ev_workOutCast 55 = .ok (.invokevirtual 107, 3) := by decide +kernel
theorem d_Ev_workOutCast_58 : decode b_Ev_workOutCast 58 = .ok (.ifCond .eq 28, 3) := by decide +kernel
theorem d_Ev_workOutCast_61 : decode b_Ev_workOutCast 61 = .ok (.aload_n 0, 1) := by decide +kernel
theorem d_Ev_workOutCast_62 : decode b_Ev_workOutCast 62 = .ok (.lload_n 2, 1) := by decide +kernel
theorem d_Ev_workOutCast_63 : decode b_Ev_workOutCast 63 = .ok (.l2i, 1) := by decide +kernel
theorem d_Ev_workOutCast_64 : decode b_Ev_workOutCast 64 = .ok (.iload 4, 2) := by decide +kernel
theorem d_Ev_workOutCast_66 : decode b_Ev_workOutCast 66 = .ok (.invokevirtual 164, 3) := by decide +kernel
theorem d_Ev_workOutCast_69 : decode b_Ev_workOutCast 69 = .ok (.ifCond .eq 12, 3) := by decide +kernel
theorem d_Ev_workOutCast_72 : decode b_Ev_workOutCast 72 = .ok (.aload_n 0, 1) := by decide +kernel
theorem d_Ev_workOutCast_73 : decode b_Ev_workOutCast 73 = .ok (.iload_n 1, 1) := by decide +kernel
theorem d_Ev_workOutCast_74 : decode b_Ev_workOutCast 74 = .ok (.lload_n 2, 1) := by decide +kernel
theorem d_Ev_workOutCast_75 : decode b_Ev_workOutCast 75 = .ok (.invokevirtual 115, 3) := by decide +kernel
theorem d_Ev_workOutCast_78 : decode b_Ev_workOutCast 78 = .ok (.goto 8, 3) := by decide +kernel
theorem d_Ev_workOutCast_81 : decode b_Ev_workOutCast 81 = .ok (.aload_n 0, 1) := by decide +kernel
theorem d_Ev_workOutCast_82 : decode b_Ev_workOutCast 82 = .ok (.iconst 4, 1) := by decide +kernel
theorem d_Ev_workOutCast_83 : decode b_Ev_workOutCast 83 = .ok (.invokevirtual 157, 3) := by decide +kernel
theorem d_Ev_workOutCast_86 : decode b_Ev_workOutCast 86 = .ok (.return_, 1) := by decide +kernel
theorem g_Ev_workOutCast {X : WX} {d : Nat} (hd : 3 ≤ d) (e : Nat) (i x k : Int) (M : Mem) (hT : RT M) (hI : TI M) (he : e < 4) (hi : 0 ≤ i ∧ i < 48) (hf : 0 ≤ M (22 + 9 * e) i ∧ M (22 + 9 * e) i < 48) (hkf : vK M (M (25 + 9 * e) (M (22 + 9 * e) i))) (hk : vK M k) (hx : reB k = true → 0 ≤ x ∧ x ≤ M 55 5) (hl3 : 0 ≤ M 9 3 ∧ M 9 3 ≤ 300) (hl4 : 0 ≤ M 9 4 ∧ M 9 4 ≤ 300) (hl5 : 0 ≤ M 9 5 ∧ M 9 5 ≤ 1) : MG X gt d KE KE y_Ev_workOutCast b_Ev_workOutCast 5 none [vr ((19 + 9 * e : Nat) : Int), vi i, vl x, vi k] M (fun r M' => r = none ∧ M' = effD M e i (cstR M e i x k)) := by
  refine MG_of_G (by decide) (Nat.le_of_ble_eq_true rfl) (Nat.le_refl _) (by decide) ?_
  show G X gt d KE KE y_Ev_workOutCast b_Ev_workOutCast 5 none _ 0 [(0, vr ((19 + 9 * e : Nat) : Int)), (1, vi i), (2, vl x), (4, vi k)] [] KE M
  have hI0 := hI
  obtain ⟨hI1, hI2, hI3, hI4, hI5, hI6, hI7, hI8, hI9, hI10, hI11, hI12, hI13, hI14⟩ := hI
  refine G_rngl (i := 1) rfl (fun hr1 => ?_)
  refine G_rngL (i := 2) rfl (fun hr2 => ?_)
  refine G_rngl (i := 3) rfl (fun hr4 => ?_)
  refine G_iload (i := 4) (n := 3) (len := 2) (Or.inr ⟨rfl, d_Ev_workOutCast_0⟩) rfl (G_pc (pc' := 2) rfl ?_)
  refine G_callS (K1 := KE) (d2 := 0) (as := [vi k]) (rest := []) d_Ev_workOutCast_2 mf_Ki_isReference ml_Ev_167 rfl rfl (Nat.le_of_ble_eq_true rfl) (by omega) ⟨Nat.le_refl _, Nat.le_refl _⟩ (g_Ki_isReference (by omega) k _) (fun r1 M2 kq3 q3 => ?_)
  clear kq3; obtain ⟨q3a, q3b⟩ := q3; subst r1; subst M2
  refine G_ps (pc' := 5) (st' := [vi (b2i (reB k))]) rfl rfl ?_
  refine G_if_ne (tgt := 22) d_Ev_workOutCast_5 (by decide) (fun h4 => ?_) (fun h4 => G_pc (pc' := 8) rfl ?_)
  · skip
    replace h4 := b2i_nz.mp h4
    replace h4 := reB_t.mp h4
    have hx9 := hx (reB_t.mpr (by omega))
    have hwx : w32 x = x := w32_id (by omega)
    refine G_lload (i := 2) (n := 2) (len := 1) (Or.inl ⟨2, rfl, rfl, d_Ev_workOutCast_22⟩) rfl (G_pc (pc' := 23) rfl ?_)
    refine G_lconst0 d_Ev_workOutCast_23 (G_pc (pc' := 24) rfl ?_)
    refine G_lcmp_eq (tgt := 38) d_Ev_workOutCast_24 d_Ev_workOutCast_25 (by decide) (fun h5 => ?_) (fun h5 => G_pc (pc' := 28) rfl ?_)
    · skip
      refine G_aload (i := 0) (n := 0) (len := 1) (Or.inl ⟨0, rfl, rfl, d_Ev_workOutCast_38⟩) rfl (by omega) (G_pc (pc' := 39) rfl ?_)
      refine G_iload (i := 1) (n := 1) (len := 1) (Or.inl ⟨1, rfl, rfl, d_Ev_workOutCast_39⟩) rfl (G_pc (pc' := 40) rfl ?_)
      refine G_lload (i := 2) (n := 2) (len := 1) (Or.inl ⟨2, rfl, rfl, d_Ev_workOutCast_40⟩) rfl (G_pc (pc' := 41) rfl ?_)
      refine G_callV (K1 := KE) (d2 := 1) (o := (19 + 9 * e)) (cl := 1) (as := [vi i, vl x]) (rest := []) d_Ev_workOutCast_41 mf_Ev_settle ml_Ev_115 (kd_Ev he) rfl (by show 19 + 9 * e < 87; omega) rfl rfl (Nat.le_of_ble_eq_true rfl) (by omega) ⟨Nat.le_refl _, Nat.le_refl _⟩ (g_Ev_settle (by omega) e i x _ he (by omega)) (fun r6 M7 kq8 q8 => ?_)
      clear kq8; obtain ⟨q8a, q8b⟩ := q8; subst r6; subst M7
      refine G_ps (pc' := 44) (st' := []) rfl rfl ?_
      refine G_goto (tgt := 86) d_Ev_workOutCast_44 (by decide) ?_
      refine G_vret d_Ev_workOutCast_86 rfl rfl ?_
      first | (exfalso; omega) | exact ⟨rfl, eff_s (by clear hI0 hI1 hI2 hI3 hI4 hI5 hI6 hI7 hI8 hI9 hI10 hI11 hI12 hI13 hI14 hT; unfold cstR; first | (rw [if_pos (reB_f.mpr (by omega))]; done) | (rw [if_neg (show ¬ reB k = false by rw [reB_t.mpr (by omega)]; decide)]; clear hwx; simp [*]; done))⟩
    · skip
      refine G_aload (i := 0) (n := 0) (len := 1) (Or.inl ⟨0, rfl, rfl, d_Ev_workOutCast_28⟩) rfl (by omega) (G_pc (pc' := 29) rfl ?_)
      refine G_iload (i := 1) (n := 1) (len := 1) (Or.inl ⟨1, rfl, rfl, d_Ev_workOutCast_29⟩) rfl (G_pc (pc' := 30) rfl ?_)
      refine G_iload (i := 4) (n := 3) (len := 2) (Or.inr ⟨rfl, d_Ev_workOutCast_30⟩) rfl (G_pc (pc' := 32) rfl ?_)
      refine G_callV (K1 := KE) (d2 := 2) (o := (19 + 9 * e)) (cl := 1) (as := [vi i, vi k]) (rest := []) d_Ev_workOutCast_32 mf_Ev_fitsAnyway ml_Ev_160 (kd_Ev he) rfl (by show 19 + 9 * e < 87; omega) rfl rfl (Nat.le_of_ble_eq_true rfl) (by omega) ⟨Nat.le_refl _, Nat.le_refl _⟩ (g_Ev_fitsAnyway (by omega) e i k M hT hI0 he (by omega) hf hkf hk) (fun r9 M10 kq11 q11 => ?_)
      clear kq11; obtain ⟨q11a, q11b⟩ := q11; subst r9; subst M10
      refine G_ps (pc' := 35) (st' := [vi (b2i (suitsB M (M (25 + 9 * e) (M (22 + 9 * e) i)) k))]) rfl rfl ?_
      refine G_if_eq (tgt := 47) d_Ev_workOutCast_35 (by decide) (fun h12 => ?_) (fun h12 => G_pc (pc' := 38) rfl ?_)
      · skip
        replace h12 := b2i_0.mp h12
        refine G_aload (i := 0) (n := 0) (len := 1) (Or.inl ⟨0, rfl, rfl, d_Ev_workOutCast_47⟩) rfl (by omega) (G_pc (pc' := 48) rfl ?_)
        refine G_lload (i := 2) (n := 2) (len := 1) (Or.inl ⟨2, rfl, rfl, d_Ev_workOutCast_48⟩) rfl (G_pc (pc' := 49) rfl ?_)
        refine G_l2i d_Ev_workOutCast_49 (G_pc (pc' := 50) rfl ?_)
        refine G_bipush (n := 27) d_Ev_workOutCast_50 (by decide) (G_pc (pc' := 52) rfl ?_)
        refine G_callN (K1 := KE) (d2 := 0) (as := [vi (w32 x), vi 27]) (rest := [vr ((19 + 9 * e : Nat) : Int)]) d_Ev_workOutCast_52 mf_De_placeOf (by decide) rfl rfl (Nat.le_of_ble_eq_true rfl) (by omega) ⟨Nat.le_refl _, Nat.le_refl _⟩ (g_De_placeOf (by omega) (w32 x) 27 _ (by omega) (by omega)) (fun r13 M14 kq15 q15 => ?_)
        clear kq15; obtain ⟨q15a, q15b⟩ := q15; subst r13; subst M14
        refine G_ps (pc' := 55) (st' := [vi (28 * (w32 x) + 27), vr ((19 + 9 * e : Nat) : Int)]) rfl rfl ?_
        refine G_callV (K1 := KE) (d2 := 1) (o := (19 + 9 * e)) (cl := 1) (as := [vi (28 * (w32 x) + 27)]) (rest := []) d_Ev_workOutCast_55 mf_Ev_has ml_Ev_107 (kd_Ev he) rfl (by show 19 + 9 * e < 87; omega) rfl rfl (Nat.le_of_ble_eq_true rfl) (by omega) ⟨Nat.le_refl _, Nat.le_refl _⟩ (g_Ev_has (by omega) e (28 * (w32 x) + 27) M he (by omega) (by omega) (by omega) (by omega)) (fun r16 M17 kq18 q18 => ?_)
        clear kq18
        rcases Classical.em (kbD M (28 * (w32 x) + 27) = 1) with hkb | hkb
        · skip
          obtain ⟨q18a, q18b⟩ := q18.1 hkb; subst r16; subst M17
          refine G_ps (pc' := 58) (st' := [vi 1]) rfl rfl ?_
          refine G_if_eq (tgt := 86) d_Ev_workOutCast_58 (by decide) (fun h19 => absurd h19 (by decide)) (fun h19 => G_pc (pc' := 61) rfl ?_)
          refine G_aload (i := 0) (n := 0) (len := 1) (Or.inl ⟨0, rfl, rfl, d_Ev_workOutCast_61⟩) rfl (by omega) (G_pc (pc' := 62) rfl ?_)
          refine G_lload (i := 2) (n := 2) (len := 1) (Or.inl ⟨2, rfl, rfl, d_Ev_workOutCast_62⟩) rfl (G_pc (pc' := 63) rfl ?_)
          refine G_l2i d_Ev_workOutCast_63 (G_pc (pc' := 64) rfl ?_)
          refine G_iload (i := 4) (n := 3) (len := 2) (Or.inr ⟨rfl, d_Ev_workOutCast_64⟩) rfl (G_pc (pc' := 66) rfl ?_)
          refine G_callV (K1 := KE) (d2 := 2) (o := (19 + 9 * e)) (cl := 1) (as := [vi (w32 x), vi k]) (rest := []) d_Ev_workOutCast_66 mf_Ev_isObjectOf ml_Ev_164 (kd_Ev he) rfl (by show 19 + 9 * e < 87; omega) rfl rfl (Nat.le_of_ble_eq_true rfl) (by omega) ⟨Nat.le_refl _, Nat.le_refl _⟩ (g_Ev_isObjectOf (by omega) e (w32 x) k M hT hI0 he (by omega) hk) (fun r20 M21 kq22 q22 => ?_)
          clear kq22; obtain ⟨q22a, q22b⟩ := q22; subst r20; subst M21
          refine G_ps (pc' := 69) (st' := [vi (b2i (suitsB M (M 60 (w32 x)) k))]) rfl rfl ?_
          refine G_if_eq (tgt := 81) d_Ev_workOutCast_69 (by decide) (fun h23 => ?_) (fun h23 => G_pc (pc' := 72) rfl ?_)
          · skip
            replace h23 := b2i_0.mp h23
            refine G_aload (i := 0) (n := 0) (len := 1) (Or.inl ⟨0, rfl, rfl, d_Ev_workOutCast_81⟩) rfl (by omega) (G_pc (pc' := 82) rfl ?_)
            refine G_iconst (n := 4) d_Ev_workOutCast_82 (by decide) (G_pc (pc' := 83) rfl ?_)
            refine G_callV (K1 := KE) (d2 := 0) (o := (19 + 9 * e)) (cl := 1) (as := [vi 4]) (rest := []) d_Ev_workOutCast_83 mf_Ev_fail ml_Ev_157 (kd_Ev he) rfl (by show 19 + 9 * e < 87; omega) rfl rfl (Nat.le_of_ble_eq_true rfl) (by omega) ⟨Nat.le_refl _, Nat.le_refl _⟩ (g_Ev_fail (by omega) e 4 _ he) (fun r24 M25 kq26 q26 => ?_)
            clear kq26; obtain ⟨q26a, q26b⟩ := q26; subst r24; subst M25
            refine G_ps (pc' := 86) (st' := []) rfl rfl ?_
            refine G_vret d_Ev_workOutCast_86 rfl rfl ?_
            first | (exfalso; omega) | exact ⟨rfl, eff_f (by clear hI0 hI1 hI2 hI3 hI4 hI5 hI6 hI7 hI8 hI9 hI10 hI11 hI12 hI13 hI14 hT; unfold cstR; first | (rw [if_pos (reB_f.mpr (by omega))]; done) | (rw [if_neg (show ¬ reB k = false by rw [reB_t.mpr (by omega)]; decide)]; clear hwx; simp [*]; done))⟩
          · skip
            replace h23 := b2i_nz.mp h23
            refine G_aload (i := 0) (n := 0) (len := 1) (Or.inl ⟨0, rfl, rfl, d_Ev_workOutCast_72⟩) rfl (by omega) (G_pc (pc' := 73) rfl ?_)
            refine G_iload (i := 1) (n := 1) (len := 1) (Or.inl ⟨1, rfl, rfl, d_Ev_workOutCast_73⟩) rfl (G_pc (pc' := 74) rfl ?_)
            refine G_lload (i := 2) (n := 2) (len := 1) (Or.inl ⟨2, rfl, rfl, d_Ev_workOutCast_74⟩) rfl (G_pc (pc' := 75) rfl ?_)
            refine G_callV (K1 := KE) (d2 := 1) (o := (19 + 9 * e)) (cl := 1) (as := [vi i, vl x]) (rest := []) d_Ev_workOutCast_75 mf_Ev_settle ml_Ev_115 (kd_Ev he) rfl (by show 19 + 9 * e < 87; omega) rfl rfl (Nat.le_of_ble_eq_true rfl) (by omega) ⟨Nat.le_refl _, Nat.le_refl _⟩ (g_Ev_settle (by omega) e i x _ he (by omega)) (fun r27 M28 kq29 q29 => ?_)
            clear kq29; obtain ⟨q29a, q29b⟩ := q29; subst r27; subst M28
            refine G_ps (pc' := 78) (st' := []) rfl rfl ?_
            refine G_goto (tgt := 86) d_Ev_workOutCast_78 (by decide) ?_
            refine G_vret d_Ev_workOutCast_86 rfl rfl ?_
            first | (exfalso; omega) | exact ⟨rfl, eff_s (by clear hI0 hI1 hI2 hI3 hI4 hI5 hI6 hI7 hI8 hI9 hI10 hI11 hI12 hI13 hI14 hT; unfold cstR; first | (rw [if_pos (reB_f.mpr (by omega))]; done) | (rw [if_neg (show ¬ reB k = false by rw [reB_t.mpr (by omega)]; decide)]; clear hwx; simp [*]; done))⟩
        · skip
          obtain ⟨q18a, q18b⟩ := q18.2 hkb; subst r16; subst M17
          refine G_ps (pc' := 58) (st' := [vi 0]) rfl rfl ?_
          refine G_if_eq (tgt := 86) d_Ev_workOutCast_58 (by decide) (fun h30 => ?_) (fun h30 => absurd h30 (by decide))
          refine G_vret d_Ev_workOutCast_86 rfl rfl ?_
          first | (exfalso; omega) | exact ⟨rfl, eff_w (by clear hI0 hI1 hI2 hI3 hI4 hI5 hI6 hI7 hI8 hI9 hI10 hI11 hI12 hI13 hI14 hT; unfold cstR; first | (rw [if_pos (reB_f.mpr (by omega))]; done) | (rw [if_neg (show ¬ reB k = false by rw [reB_t.mpr (by omega)]; decide)]; clear hwx; simp [*]; done))⟩
      · skip
        replace h12 := b2i_nz.mp h12
        refine G_aload (i := 0) (n := 0) (len := 1) (Or.inl ⟨0, rfl, rfl, d_Ev_workOutCast_38⟩) rfl (by omega) (G_pc (pc' := 39) rfl ?_)
        refine G_iload (i := 1) (n := 1) (len := 1) (Or.inl ⟨1, rfl, rfl, d_Ev_workOutCast_39⟩) rfl (G_pc (pc' := 40) rfl ?_)
        refine G_lload (i := 2) (n := 2) (len := 1) (Or.inl ⟨2, rfl, rfl, d_Ev_workOutCast_40⟩) rfl (G_pc (pc' := 41) rfl ?_)
        refine G_callV (K1 := KE) (d2 := 1) (o := (19 + 9 * e)) (cl := 1) (as := [vi i, vl x]) (rest := []) d_Ev_workOutCast_41 mf_Ev_settle ml_Ev_115 (kd_Ev he) rfl (by show 19 + 9 * e < 87; omega) rfl rfl (Nat.le_of_ble_eq_true rfl) (by omega) ⟨Nat.le_refl _, Nat.le_refl _⟩ (g_Ev_settle (by omega) e i x _ he (by omega)) (fun r31 M32 kq33 q33 => ?_)
        clear kq33; obtain ⟨q33a, q33b⟩ := q33; subst r31; subst M32
        refine G_ps (pc' := 44) (st' := []) rfl rfl ?_
        refine G_goto (tgt := 86) d_Ev_workOutCast_44 (by decide) ?_
        refine G_vret d_Ev_workOutCast_86 rfl rfl ?_
        first | (exfalso; omega) | exact ⟨rfl, eff_s (by clear hI0 hI1 hI2 hI3 hI4 hI5 hI6 hI7 hI8 hI9 hI10 hI11 hI12 hI13 hI14 hT; unfold cstR; first | (rw [if_pos (reB_f.mpr (by omega))]; done) | (rw [if_neg (show ¬ reB k = false by rw [reB_t.mpr (by omega)]; decide)]; clear hwx; simp [*]; done))⟩
  · skip
    replace h4 := b2i_0.mp h4
    replace h4 := reB_f.mp h4
    refine G_aload (i := 0) (n := 0) (len := 1) (Or.inl ⟨0, rfl, rfl, d_Ev_workOutCast_8⟩) rfl (by omega) (G_pc (pc' := 9) rfl ?_)
    refine G_iload (i := 1) (n := 1) (len := 1) (Or.inl ⟨1, rfl, rfl, d_Ev_workOutCast_9⟩) rfl (G_pc (pc' := 10) rfl ?_)
    refine G_iload (i := 4) (n := 3) (len := 2) (Or.inr ⟨rfl, d_Ev_workOutCast_10⟩) rfl (G_pc (pc' := 12) rfl ?_)
    refine G_lload (i := 2) (n := 2) (len := 1) (Or.inl ⟨2, rfl, rfl, d_Ev_workOutCast_12⟩) rfl (G_pc (pc' := 13) rfl ?_)
    refine G_callS (K1 := KE) (d2 := 0) (as := [vi k, vl x]) (rest := [vi i, vr ((19 + 9 * e : Nat) : Int)]) d_Ev_workOutCast_13 mf_Ki_narrowed ml_Ev_172 rfl rfl (Nat.le_of_ble_eq_true rfl) (by omega) ⟨Nat.le_refl _, Nat.le_refl _⟩ (g_Ki_narrowed (by omega) k x _) (fun r34 M35 kq36 q36 => ?_)
    clear kq36; obtain ⟨q36a, q36b⟩ := q36; subst r34; subst M35
    refine G_ps (pc' := 16) (st' := [vl (naD k x), vi i, vr ((19 + 9 * e : Nat) : Int)]) rfl rfl ?_
    refine G_callV (K1 := KE) (d2 := 1) (o := (19 + 9 * e)) (cl := 1) (as := [vi i, vl (naD k x)]) (rest := []) d_Ev_workOutCast_16 mf_Ev_settle ml_Ev_115 (kd_Ev he) rfl (by show 19 + 9 * e < 87; omega) rfl rfl (Nat.le_of_ble_eq_true rfl) (by omega) ⟨Nat.le_refl _, Nat.le_refl _⟩ (g_Ev_settle (by omega) e i (naD k x) _ he (by omega)) (fun r37 M38 kq39 q39 => ?_)
    clear kq39; obtain ⟨q39a, q39b⟩ := q39; subst r37; subst M38
    refine G_ps (pc' := 19) (st' := []) rfl rfl ?_
    refine G_goto (tgt := 86) d_Ev_workOutCast_19 (by decide) ?_
    refine G_vret d_Ev_workOutCast_86 rfl rfl ?_
    first | (exfalso; omega) | exact ⟨rfl, eff_s (by clear hI0 hI1 hI2 hI3 hI4 hI5 hI6 hI7 hI8 hI9 hI10 hI11 hI12 hI13 hI14 hT; unfold cstR; first | (rw [if_pos (reB_f.mpr (by omega))]; done) | (rw [if_neg (show ¬ reB k = false by rw [reB_t.mpr (by omega)]; decide)]; clear hwx; simp [*]; done))⟩

def sgnR (c k x y : Int) : Int × Int := if (c = 47 ∨ c = 37) ∧ y = 0 then (2, 1) else if c = 130 ∨ c = 131 ∨ c = 132 then (0, shvD c k x y) else if c = 33 ∨ c = 126 ∨ c = 147 ∨ c = 148 then (0, naD k (chgD c x)) else if c = 37 ∨ c = 38 ∨ c = 42 ∨ c = 43 ∨ c = 45 ∨ c = 47 ∨ c = 94 ∨ c = 124 then (0, naD k (cmbD c x y)) else (0, b2i (holD c x y))
theorem d_Ev_workOutSign_0 : decode b_Ev_workOutSign 0 = .ok (.aload_n 0, 1) := by decide +kernel
theorem d_Ev_workOutSign_1 : decode b_Ev_workOutSign 1 = .ok (.getfield 12, 3) := by decide +kernel
theorem d_Ev_workOutSign_4 : decode b_Ev_workOutSign 4 = .ok (.iload_n 1, 1) := by decide +kernel
theorem d_Ev_workOutSign_5 : decode b_Ev_workOutSign 5 = .ok (.invokevirtual 124, 3) := by decide +kernel
theorem d_Ev_workOutSign_8 : decode b_Ev_workOutSign 8 = .ok (.istore 6, 2) := by decide +kernel
theorem d_Ev_workOutSign_10 : decode b_Ev_workOutSign 10 = .ok (.aload_n 0, 1) := by decide +kernel
theorem d_Ev_workOutSign_11 : decode b_Ev_workOutSign 11 = .ok (.getfield 12, 3) := by decide +kernel
theorem d_Ev_workOutSign_14 : decode b_Ev_workOutSign 14 = .ok (.iload_n 1, 1) := by decide +kernel
theorem d_Ev_workOutSign_15 : decode b_Ev_workOutSign 15 = .ok (.invokevirtual 80, 3) := by decide +kernel
theorem d_Ev_workOutSign_18 : decode b_Ev_workOutSign 18 = .ok (.istore 7, 2) := by decide +kernel
theorem d_Ev_workOutSign_20 : decode b_Ev_workOutSign 20 = .ok (.iload 6, 2) := by decide +kernel
theorem d_Ev_workOutSign_22 : decode b_Ev_workOutSign 22 = .ok (.bipush 47, 2) := by decide +kernel
theorem d_Ev_workOutSign_24 : decode b_Ev_workOutSign 24 = .ok (.if_icmp .eq 10, 3) := by decide +kernel
theorem d_Ev_workOutSign_27 : decode b_Ev_workOutSign 27 = .ok (.iload 6, 2) := by decide +kernel
theorem d_Ev_workOutSign_29 : decode b_Ev_workOutSign 29 = .ok (.bipush 37, 2) := by decide +kernel
theorem d_Ev_workOutSign_31 : decode b_Ev_workOutSign 31 = .ok (.if_icmp .ne 16, 3) := by decide +kernel
theorem d_Ev_workOutSign_34 : decode b_Ev_workOutSign 34 = .ok (.lload 4, 2) := by decide +kernel
theorem d_Ev_workOutSign_36 : decode b_Ev_workOutSign 36 = .ok (.lconst 0, 1) := by decide +kernel
theorem d_Ev_workOutSign_37 : decode b_Ev_workOutSign 37 = .ok (.lcmp, 1) := by decide +kernel
theorem d_Ev_workOutSign_38 : decode b_Ev_workOutSign 38 = .ok (.ifCond .ne 9, 3) := by decide +kernel
theorem d_Ev_workOutSign_41 : decode b_Ev_workOutSign 41 = .ok (.aload_n 0, 1) := by decide +kernel
theorem d_Ev_workOutSign_42 : decode b_Ev_workOutSign 42 = .ok (.iconst 1, 1) := by decide +kernel
theorem d_Ev_workOutSign_43 : decode b_Ev_workOutSign 43 = .ok (.invokevirtual 157, 3) := by decide +kernel
theorem d_Ev_workOutSign_46 : decode b_Ev_workOutSign 46 = .ok (.return_, 1) := by decide +kernel
theorem d_Ev_workOutSign_47 : decode b_Ev_workOutSign 47 = .ok (.iload 6, 2) := by decide +kernel
theorem d_Ev_workOutSign_49 : decode b_Ev_workOutSign 49 = .ok (.lookupswitch 189 #[(33, 149), (37, 168), (38, 168), (42, 168), (43, 168), (45, 168), (47, 168), (94, 168), (124, 168), (126, 149), (130, 131), (131, 131), (132, 131), (147, 149), (148, 149)], 131) := by decide +kernel
theorem d_Ev_workOutSign_180 : decode b_Ev_workOutSign 180 = .ok (.aload_n 0, 1) := by decide +kernel
theorem d_Ev_workOutSign_181 : decode b_Ev_workOutSign 181 = .ok (.iload_n 1, 1) := by decide +kernel
theorem d_Ev_workOutSign_182 : decode b_Ev_workOutSign 182 = .ok (.iload 6, 2) := by decide +kernel
theorem d_Ev_workOutSign_184 : decode b_Ev_workOutSign 184 = .ok (.iload 7, 2) := by decide +kernel
theorem d_Ev_workOutSign_186 : decode b_Ev_workOutSign 186 = .ok (.lload_n 2, 1) := by decide +kernel
theorem d_Ev_workOutSign_187 : decode b_Ev_workOutSign 187 = .ok (.lload 4, 2) := by decide +kernel
theorem d_Ev_workOutSign_189 : decode b_Ev_workOutSign 189 = .ok (.invokestatic 179, 3) := by decide +kernel
theorem d_Ev_workOutSign_192 : decode b_Ev_workOutSign 192 = .ok (.invokevirtual 115, 3) := by decide +kernel
theorem d_Ev_workOutSign_195 : decode b_Ev_workOutSign 195 = .ok (.goto 64, 3) := by decide +kernel
theorem d_Ev_workOutSign_198 : decode b_Ev_workOutSign 198 = .ok (.aload_n 0, 1) := by decide +kernel
theorem d_Ev_workOutSign_199 : decode b_Ev_workOutSign 199 = .ok (.iload_n 1, 1) := by decide +kernel
theorem d_Ev_workOutSign_200 : decode b_Ev_workOutSign 200 = .ok (.iload 7, 2) := by decide +kernel
theorem d_Ev_workOutSign_202 : decode b_Ev_workOutSign 202 = .ok (.iload 6, 2) := by decide +kernel
theorem d_Ev_workOutSign_204 : decode b_Ev_workOutSign 204 = .ok (.lload_n 2, 1) := by decide +kernel
theorem d_Ev_workOutSign_205 : decode b_Ev_workOutSign 205 = .ok (.invokestatic 183, 3) := by decide +kernel
theorem d_Ev_workOutSign_208 : decode b_Ev_workOutSign 208 = .ok (.invokestatic 172, 3) := by decide +kernel
theorem d_Ev_workOutSign_211 : decode b_Ev_workOutSign 211 = .ok (.invokevirtual 115, 3) := by decide +kernel
theorem d_Ev_workOutSign_214 : decode b_Ev_workOutSign 214 = .ok (.goto 45, 3) := by decide +kernel
theorem d_Ev_workOutSign_217 : decode b_Ev_workOutSign 217 = .ok (.aload_n 0, 1) := by decide +kernel
theorem d_Ev_workOutSign_218 : decode b_Ev_workOutSign 218 = .ok (.iload_n 1, 1) := by decide +kernel
theorem d_Ev_workOutSign_219 : decode b_Ev_workOutSign 219 = .ok (.iload 7, 2) := by decide +kernel
theorem d_Ev_workOutSign_221 : decode b_Ev_workOutSign 221 = .ok (.iload 6, 2) := by decide +kernel
theorem d_Ev_workOutSign_223 : decode b_Ev_workOutSign 223 = .ok (.lload_n 2, 1) := by decide +kernel
theorem d_Ev_workOutSign_224 : decode b_Ev_workOutSign 224 = .ok (.lload 4, 2) := by decide +kernel
theorem d_Ev_workOutSign_226 : decode b_Ev_workOutSign 226 = .ok (.invokestatic 186, 3) := by decide +kernel
theorem d_Ev_workOutSign_229 : decode b_Ev_workOutSign 229 = .ok (.invokestatic 172, 3) := by decide +kernel
theorem d_Ev_workOutSign_232 : decode b_Ev_workOutSign 232 = .ok (.invokevirtual 115, 3) := by decide +kernel
theorem d_Ev_workOutSign_235 : decode b_Ev_workOutSign 235 = .ok (.goto 24, 3) := by decide +kernel
theorem d_Ev_workOutSign_238 : decode b_Ev_workOutSign 238 = .ok (.aload_n 0, 1) := by decide +kernel
theorem d_Ev_workOutSign_239 : decode b_Ev_workOutSign 239 = .ok (.iload_n 1, 1) := by decide +kernel
theorem d_Ev_workOutSign_240 : decode b_Ev_workOutSign 240 = .ok (.iload 6, 2) := by decide +kernel
theorem d_Ev_workOutSign_242 : decode b_Ev_workOutSign 242 = .ok (.lload_n 2, 1) := by decide +kernel
theorem d_Ev_workOutSign_243 : decode b_Ev_workOutSign 243 = .ok (.lload 4, 2) := by decide +kernel
theorem d_Ev_workOutSign_245 : decode b_Ev_workOutSign 245 = .ok (.invokestatic 190, 3) := by decide +kernel
theorem d_Ev_workOutSign_248 : decode b_Ev_workOutSign 248 = .ok (.ifCond .eq 7, 3) := by decide +kernel
theorem d_Ev_workOutSign_251 : decode b_Ev_workOutSign 251 = .ok (.lconst 1, 1) := by decide +kernel
theorem d_Ev_workOutSign_252 : decode b_Ev_workOutSign 252 = .ok (.goto 4, 3) := by decide +kernel
theorem d_Ev_workOutSign_255 : decode b_Ev_workOutSign 255 = .ok (.lconst 0, 1) := by decide +kernel
theorem d_Ev_workOutSign_256 : decode b_Ev_workOutSign 256 = .ok (.invokevirtual 115, 3) := by decide +kernel
theorem d_Ev_workOutSign_259 : decode b_Ev_workOutSign 259 = .ok (.return_, 1) := by decide +kernel
theorem g_Ev_workOutSign {X : WX} {d : Nat} (hd : 2 ≤ d) (e : Nat) (i x y : Int) (M : Mem) (he : e < 4) (hi : 0 ≤ i ∧ i < 48) : MG X gt d KE KE y_Ev_workOutSign b_Ev_workOutSign 8 none [vr ((19 + 9 * e : Nat) : Int), vi i, vl x, vl y] M (fun r M' => r = none ∧ M' = effD M e i (sgnR (M (21 + 9 * e) i) (M (25 + 9 * e) i) x y)) := by
  refine MG_of_G (by decide) (Nat.le_of_ble_eq_true rfl) (Nat.le_refl _) (by decide) ?_
  show G X gt d KE KE y_Ev_workOutSign b_Ev_workOutSign 8 none _ 0 [(0, vr ((19 + 9 * e : Nat) : Int)), (1, vi i), (2, vl x), (4, vl y)] [] KE M
  refine G_rngl (i := 1) rfl (fun hr1 => ?_)
  refine G_rngL (i := 2) rfl (fun hr2 => ?_)
  refine G_rngL (i := 3) rfl (fun hr4 => ?_)
  refine G_aload (i := 0) (n := 0) (len := 1) (Or.inl ⟨0, rfl, rfl, d_Ev_workOutSign_0⟩) rfl (by omega) (G_pc (pc' := 1) rfl ?_)
  refine G_get (o := (19 + 9 * e)) (c := 1) (k := 4) (v := ((20 + 9 * e : Nat) : Int)) d_Ev_workOutSign_1 fl_Ev_12 (kd_Ev he) (by decide) (by show 19 + 9 * e < 87; omega) (gf_Ev4 he) rfl (G_pc (pc' := 4) rfl ?_)
  refine G_iload (i := 1) (n := 1) (len := 1) (Or.inl ⟨1, rfl, rfl, d_Ev_workOutSign_4⟩) rfl (G_pc (pc' := 5) rfl ?_)
  refine G_callV (K1 := KE) (d2 := 0) (o := (20 + 9 * e)) (cl := 5) (as := [vi i]) (rest := []) d_Ev_workOutSign_5 mf_St_codeAt ml_Ev_124 (kd_St he) rfl (by show 20 + 9 * e < 87; omega) rfl rfl (Nat.le_of_ble_eq_true rfl) (by omega) ⟨Nat.le_refl _, Nat.le_refl _⟩ (g_St_codeAt (by omega) e i _ he (by omega)) (fun r1 M2 kq3 q3 => ?_)
  clear kq3; obtain ⟨q3a, q3b⟩ := q3; subst r1; subst M2
  refine G_ps (pc' := 8) (st' := [vi (M (21 + 9 * e) i)]) rfl rfl ?_
  refine G_istore (i := 6) (len := 2) (ls' := [(6, vi (M (21 + 9 * e) i)), (0, vr ((19 + 9 * e : Nat) : Int)), (1, vi i), (2, vl x), (4, vl y)]) (Or.inr ⟨rfl, d_Ev_workOutSign_8⟩) (by decide) rfl (G_pc (pc' := 10) rfl ?_)
  refine G_aload (i := 0) (n := 1) (len := 1) (Or.inl ⟨0, rfl, rfl, d_Ev_workOutSign_10⟩) rfl (by omega) (G_pc (pc' := 11) rfl ?_)
  refine G_get (o := (19 + 9 * e)) (c := 1) (k := 4) (v := ((20 + 9 * e : Nat) : Int)) d_Ev_workOutSign_11 fl_Ev_12 (kd_Ev he) (by decide) (by show 19 + 9 * e < 87; omega) (gf_Ev4 he) rfl (G_pc (pc' := 14) rfl ?_)
  refine G_iload (i := 1) (n := 2) (len := 1) (Or.inl ⟨1, rfl, rfl, d_Ev_workOutSign_14⟩) rfl (G_pc (pc' := 15) rfl ?_)
  refine G_callV (K1 := KE) (d2 := 0) (o := (20 + 9 * e)) (cl := 5) (as := [vi i]) (rest := []) d_Ev_workOutSign_15 mf_St_kindAt ml_Ev_80 (kd_St he) rfl (by show 20 + 9 * e < 87; omega) rfl rfl (Nat.le_of_ble_eq_true rfl) (by omega) ⟨Nat.le_refl _, Nat.le_refl _⟩ (g_St_kindAt (by omega) e i _ he (by omega)) (fun r4 M5 kq6 q6 => ?_)
  clear kq6; obtain ⟨q6a, q6b⟩ := q6; subst r4; subst M5
  refine G_ps (pc' := 18) (st' := [vi (M (25 + 9 * e) i)]) rfl rfl ?_
  refine G_istore (i := 7) (len := 2) (ls' := [(7, vi (M (25 + 9 * e) i)), (6, vi (M (21 + 9 * e) i)), (0, vr ((19 + 9 * e : Nat) : Int)), (1, vi i), (2, vl x), (4, vl y)]) (Or.inr ⟨rfl, d_Ev_workOutSign_18⟩) (by decide) rfl (G_pc (pc' := 20) rfl ?_)
  refine G_iload (i := 6) (n := 1) (len := 2) (Or.inr ⟨rfl, d_Ev_workOutSign_20⟩) rfl (G_pc (pc' := 22) rfl ?_)
  refine G_bipush (n := 47) d_Ev_workOutSign_22 (by decide) (G_pc (pc' := 24) rfl ?_)
  refine G_icmp_eq (tgt := 34) d_Ev_workOutSign_24 (by decide) (fun h7 => ?_) (fun h7 => G_pc (pc' := 27) rfl ?_)
  · skip
    refine G_lload (i := 4) (n := 5) (len := 2) (Or.inr ⟨rfl, d_Ev_workOutSign_34⟩) rfl (G_pc (pc' := 36) rfl ?_)
    refine G_lconst0 d_Ev_workOutSign_36 (G_pc (pc' := 37) rfl ?_)
    refine G_lcmp_ne (tgt := 47) d_Ev_workOutSign_37 d_Ev_workOutSign_38 (by decide) (fun h8 => ?_) (fun h8 => G_pc (pc' := 41) rfl ?_)
    · skip
      refine G_iload (i := 6) (n := 1) (len := 2) (Or.inr ⟨rfl, d_Ev_workOutSign_47⟩) rfl (G_pc (pc' := 49) rfl ?_)
      by_cases h9 : M (21 + 9 * e) i = 33 ∨ M (21 + 9 * e) i = 126 ∨ M (21 + 9 * e) i = 147 ∨ M (21 + 9 * e) i = 148
      · skip
        have e10o : Op.lookupswitch.offset [(33, 149), (37, 168), (38, 168), (42, 168), (43, 168), (45, 168), (47, 168), (94, 168), (124, 168), (126, 149), (130, 131), (131, 131), (132, 131), (147, 149), (148, 149)] 189 (M (21 + 9 * e) i) = 149 := by rcases h9 with e10 | e10 | e10 | e10 <;> rw [e10] <;> rfl
        refine G_lookup (off := 149) (tgt := 198) d_Ev_workOutSign_49 (by decide) e10o (by decide) ?_
        refine G_aload (i := 0) (n := 2) (len := 1) (Or.inl ⟨0, rfl, rfl, d_Ev_workOutSign_198⟩) rfl (by omega) (G_pc (pc' := 199) rfl ?_)
        refine G_iload (i := 1) (n := 3) (len := 1) (Or.inl ⟨1, rfl, rfl, d_Ev_workOutSign_199⟩) rfl (G_pc (pc' := 200) rfl ?_)
        refine G_iload (i := 7) (n := 0) (len := 2) (Or.inr ⟨rfl, d_Ev_workOutSign_200⟩) rfl (G_pc (pc' := 202) rfl ?_)
        refine G_iload (i := 6) (n := 1) (len := 2) (Or.inr ⟨rfl, d_Ev_workOutSign_202⟩) rfl (G_pc (pc' := 204) rfl ?_)
        refine G_lload (i := 2) (n := 4) (len := 1) (Or.inl ⟨2, rfl, rfl, d_Ev_workOutSign_204⟩) rfl (G_pc (pc' := 205) rfl ?_)
        refine G_callS (K1 := KE) (d2 := 0) (as := [vi (M (21 + 9 * e) i), vl x]) (rest := [vi (M (25 + 9 * e) i), vi i, vr ((19 + 9 * e : Nat) : Int)]) d_Ev_workOutSign_205 mf_Ev_changed ml_Ev_183 rfl rfl (Nat.le_of_ble_eq_true rfl) (by omega) ⟨Nat.le_refl _, Nat.le_refl _⟩ (g_Ev_changed (by omega) (M (21 + 9 * e) i) x _) (fun r11 M12 kq13 q13 => ?_)
        clear kq13; obtain ⟨q13a, q13b⟩ := q13; subst r11; subst M12
        refine G_ps (pc' := 208) (st' := [vl (chgD (M (21 + 9 * e) i) x), vi (M (25 + 9 * e) i), vi i, vr ((19 + 9 * e : Nat) : Int)]) rfl rfl ?_
        refine G_callS (K1 := KE) (d2 := 0) (as := [vi (M (25 + 9 * e) i), vl (chgD (M (21 + 9 * e) i) x)]) (rest := [vi i, vr ((19 + 9 * e : Nat) : Int)]) d_Ev_workOutSign_208 mf_Ki_narrowed ml_Ev_172 rfl rfl (Nat.le_of_ble_eq_true rfl) (by omega) ⟨Nat.le_refl _, Nat.le_refl _⟩ (g_Ki_narrowed (by omega) (M (25 + 9 * e) i) (chgD (M (21 + 9 * e) i) x) _) (fun r14 M15 kq16 q16 => ?_)
        clear kq16; obtain ⟨q16a, q16b⟩ := q16; subst r14; subst M15
        refine G_ps (pc' := 211) (st' := [vl (naD (M (25 + 9 * e) i) (chgD (M (21 + 9 * e) i) x)), vi i, vr ((19 + 9 * e : Nat) : Int)]) rfl rfl ?_
        refine G_callV (K1 := KE) (d2 := 1) (o := (19 + 9 * e)) (cl := 1) (as := [vi i, vl (naD (M (25 + 9 * e) i) (chgD (M (21 + 9 * e) i) x))]) (rest := []) d_Ev_workOutSign_211 mf_Ev_settle ml_Ev_115 (kd_Ev he) rfl (by show 19 + 9 * e < 87; omega) rfl rfl (Nat.le_of_ble_eq_true rfl) (by omega) ⟨Nat.le_refl _, Nat.le_refl _⟩ (g_Ev_settle (by omega) e i (naD (M (25 + 9 * e) i) (chgD (M (21 + 9 * e) i) x)) _ he (by omega)) (fun r17 M18 kq19 q19 => ?_)
        clear kq19; obtain ⟨q19a, q19b⟩ := q19; subst r17; subst M18
        refine G_ps (pc' := 214) (st' := []) rfl rfl ?_
        refine G_goto (tgt := 259) d_Ev_workOutSign_214 (by decide) ?_
        refine G_vret d_Ev_workOutSign_259 rfl rfl ?_
        first | (exfalso; omega) | exact ⟨rfl, eff_s (by unfold sgnR; first | ((repeat (first | (rw [if_pos (by omega)]; done) | (rw [if_neg (by omega)]))); done) | (simp [*, b2i]; done) | grind [b2i])⟩
      by_cases h9 : M (21 + 9 * e) i = 37 ∨ M (21 + 9 * e) i = 38 ∨ M (21 + 9 * e) i = 42 ∨ M (21 + 9 * e) i = 43 ∨ M (21 + 9 * e) i = 45 ∨ M (21 + 9 * e) i = 47 ∨ M (21 + 9 * e) i = 94 ∨ M (21 + 9 * e) i = 124
      · skip
        have e20o : Op.lookupswitch.offset [(33, 149), (37, 168), (38, 168), (42, 168), (43, 168), (45, 168), (47, 168), (94, 168), (124, 168), (126, 149), (130, 131), (131, 131), (132, 131), (147, 149), (148, 149)] 189 (M (21 + 9 * e) i) = 168 := by rcases h9 with e20 | e20 | e20 | e20 | e20 | e20 | e20 | e20 <;> rw [e20] <;> rfl
        refine G_lookup (off := 168) (tgt := 217) d_Ev_workOutSign_49 (by decide) e20o (by decide) ?_
        refine G_aload (i := 0) (n := 2) (len := 1) (Or.inl ⟨0, rfl, rfl, d_Ev_workOutSign_217⟩) rfl (by omega) (G_pc (pc' := 218) rfl ?_)
        refine G_iload (i := 1) (n := 3) (len := 1) (Or.inl ⟨1, rfl, rfl, d_Ev_workOutSign_218⟩) rfl (G_pc (pc' := 219) rfl ?_)
        refine G_iload (i := 7) (n := 0) (len := 2) (Or.inr ⟨rfl, d_Ev_workOutSign_219⟩) rfl (G_pc (pc' := 221) rfl ?_)
        refine G_iload (i := 6) (n := 1) (len := 2) (Or.inr ⟨rfl, d_Ev_workOutSign_221⟩) rfl (G_pc (pc' := 223) rfl ?_)
        refine G_lload (i := 2) (n := 4) (len := 1) (Or.inl ⟨2, rfl, rfl, d_Ev_workOutSign_223⟩) rfl (G_pc (pc' := 224) rfl ?_)
        refine G_lload (i := 4) (n := 5) (len := 2) (Or.inr ⟨rfl, d_Ev_workOutSign_224⟩) rfl (G_pc (pc' := 226) rfl ?_)
        refine G_callS (K1 := KE) (d2 := 0) (as := [vi (M (21 + 9 * e) i), vl x, vl y]) (rest := [vi (M (25 + 9 * e) i), vi i, vr ((19 + 9 * e : Nat) : Int)]) d_Ev_workOutSign_226 mf_Ev_combined ml_Ev_186 rfl rfl (Nat.le_of_ble_eq_true rfl) (by omega) ⟨Nat.le_refl _, Nat.le_refl _⟩ (g_Ev_combined (by omega) (M (21 + 9 * e) i) x y _ (by omega)) (fun r21 M22 kq23 q23 => ?_)
        clear kq23; obtain ⟨q23a, q23b⟩ := q23; subst r21; subst M22
        refine G_ps (pc' := 229) (st' := [vl (cmbD (M (21 + 9 * e) i) x y), vi (M (25 + 9 * e) i), vi i, vr ((19 + 9 * e : Nat) : Int)]) rfl rfl ?_
        refine G_callS (K1 := KE) (d2 := 0) (as := [vi (M (25 + 9 * e) i), vl (cmbD (M (21 + 9 * e) i) x y)]) (rest := [vi i, vr ((19 + 9 * e : Nat) : Int)]) d_Ev_workOutSign_229 mf_Ki_narrowed ml_Ev_172 rfl rfl (Nat.le_of_ble_eq_true rfl) (by omega) ⟨Nat.le_refl _, Nat.le_refl _⟩ (g_Ki_narrowed (by omega) (M (25 + 9 * e) i) (cmbD (M (21 + 9 * e) i) x y) _) (fun r24 M25 kq26 q26 => ?_)
        clear kq26; obtain ⟨q26a, q26b⟩ := q26; subst r24; subst M25
        refine G_ps (pc' := 232) (st' := [vl (naD (M (25 + 9 * e) i) (cmbD (M (21 + 9 * e) i) x y)), vi i, vr ((19 + 9 * e : Nat) : Int)]) rfl rfl ?_
        refine G_callV (K1 := KE) (d2 := 1) (o := (19 + 9 * e)) (cl := 1) (as := [vi i, vl (naD (M (25 + 9 * e) i) (cmbD (M (21 + 9 * e) i) x y))]) (rest := []) d_Ev_workOutSign_232 mf_Ev_settle ml_Ev_115 (kd_Ev he) rfl (by show 19 + 9 * e < 87; omega) rfl rfl (Nat.le_of_ble_eq_true rfl) (by omega) ⟨Nat.le_refl _, Nat.le_refl _⟩ (g_Ev_settle (by omega) e i (naD (M (25 + 9 * e) i) (cmbD (M (21 + 9 * e) i) x y)) _ he (by omega)) (fun r27 M28 kq29 q29 => ?_)
        clear kq29; obtain ⟨q29a, q29b⟩ := q29; subst r27; subst M28
        refine G_ps (pc' := 235) (st' := []) rfl rfl ?_
        refine G_goto (tgt := 259) d_Ev_workOutSign_235 (by decide) ?_
        refine G_vret d_Ev_workOutSign_259 rfl rfl ?_
        first | (exfalso; omega) | exact ⟨rfl, eff_s (by unfold sgnR; first | ((repeat (first | (rw [if_pos (by omega)]; done) | (rw [if_neg (by omega)]))); done) | (simp [*, b2i]; done) | grind [b2i])⟩
      by_cases h9 : M (21 + 9 * e) i = 130 ∨ M (21 + 9 * e) i = 131 ∨ M (21 + 9 * e) i = 132
      · skip
        have e30o : Op.lookupswitch.offset [(33, 149), (37, 168), (38, 168), (42, 168), (43, 168), (45, 168), (47, 168), (94, 168), (124, 168), (126, 149), (130, 131), (131, 131), (132, 131), (147, 149), (148, 149)] 189 (M (21 + 9 * e) i) = 131 := by rcases h9 with e30 | e30 | e30 <;> rw [e30] <;> rfl
        refine G_lookup (off := 131) (tgt := 180) d_Ev_workOutSign_49 (by decide) e30o (by decide) ?_
        refine G_aload (i := 0) (n := 2) (len := 1) (Or.inl ⟨0, rfl, rfl, d_Ev_workOutSign_180⟩) rfl (by omega) (G_pc (pc' := 181) rfl ?_)
        refine G_iload (i := 1) (n := 3) (len := 1) (Or.inl ⟨1, rfl, rfl, d_Ev_workOutSign_181⟩) rfl (G_pc (pc' := 182) rfl ?_)
        refine G_iload (i := 6) (n := 1) (len := 2) (Or.inr ⟨rfl, d_Ev_workOutSign_182⟩) rfl (G_pc (pc' := 184) rfl ?_)
        refine G_iload (i := 7) (n := 0) (len := 2) (Or.inr ⟨rfl, d_Ev_workOutSign_184⟩) rfl (G_pc (pc' := 186) rfl ?_)
        refine G_lload (i := 2) (n := 4) (len := 1) (Or.inl ⟨2, rfl, rfl, d_Ev_workOutSign_186⟩) rfl (G_pc (pc' := 187) rfl ?_)
        refine G_lload (i := 4) (n := 5) (len := 2) (Or.inr ⟨rfl, d_Ev_workOutSign_187⟩) rfl (G_pc (pc' := 189) rfl ?_)
        refine G_callS (K1 := KE) (d2 := 0) (as := [vi (M (21 + 9 * e) i), vi (M (25 + 9 * e) i), vl x, vl y]) (rest := [vi i, vr ((19 + 9 * e : Nat) : Int)]) d_Ev_workOutSign_189 mf_Ev_shifted ml_Ev_179 rfl rfl (Nat.le_of_ble_eq_true rfl) (by omega) ⟨Nat.le_refl _, Nat.le_refl _⟩ (g_Ev_shifted (by omega) (M (21 + 9 * e) i) (M (25 + 9 * e) i) x y _) (fun r31 M32 kq33 q33 => ?_)
        clear kq33; obtain ⟨q33a, q33b⟩ := q33; subst r31; subst M32
        refine G_ps (pc' := 192) (st' := [vl (shvD (M (21 + 9 * e) i) (M (25 + 9 * e) i) x y), vi i, vr ((19 + 9 * e : Nat) : Int)]) rfl rfl ?_
        refine G_callV (K1 := KE) (d2 := 1) (o := (19 + 9 * e)) (cl := 1) (as := [vi i, vl (shvD (M (21 + 9 * e) i) (M (25 + 9 * e) i) x y)]) (rest := []) d_Ev_workOutSign_192 mf_Ev_settle ml_Ev_115 (kd_Ev he) rfl (by show 19 + 9 * e < 87; omega) rfl rfl (Nat.le_of_ble_eq_true rfl) (by omega) ⟨Nat.le_refl _, Nat.le_refl _⟩ (g_Ev_settle (by omega) e i (shvD (M (21 + 9 * e) i) (M (25 + 9 * e) i) x y) _ he (by omega)) (fun r34 M35 kq36 q36 => ?_)
        clear kq36; obtain ⟨q36a, q36b⟩ := q36; subst r34; subst M35
        refine G_ps (pc' := 195) (st' := []) rfl rfl ?_
        refine G_goto (tgt := 259) d_Ev_workOutSign_195 (by decide) ?_
        refine G_vret d_Ev_workOutSign_259 rfl rfl ?_
        first | (exfalso; omega) | exact ⟨rfl, eff_s (by unfold sgnR; first | ((repeat (first | (rw [if_pos (by omega)]; done) | (rw [if_neg (by omega)]))); done) | (simp [*, b2i]; done) | grind [b2i])⟩
      have e37o : Op.lookupswitch.offset [(33, 149), (37, 168), (38, 168), (42, 168), (43, 168), (45, 168), (47, 168), (94, 168), (124, 168), (126, 149), (130, 131), (131, 131), (132, 131), (147, 149), (148, 149)] 189 (M (21 + 9 * e) i) = 189 := by rw [lk_ne (by omega), lk_ne (by omega), lk_ne (by omega), lk_ne (by omega), lk_ne (by omega), lk_ne (by omega), lk_ne (by omega), lk_ne (by omega), lk_ne (by omega), lk_ne (by omega), lk_ne (by omega), lk_ne (by omega), lk_ne (by omega), lk_ne (by omega), lk_ne (by omega)]; rfl
      refine G_lookup (off := 189) (tgt := 238) d_Ev_workOutSign_49 (by decide) e37o (by decide) ?_
      refine G_aload (i := 0) (n := 2) (len := 1) (Or.inl ⟨0, rfl, rfl, d_Ev_workOutSign_238⟩) rfl (by omega) (G_pc (pc' := 239) rfl ?_)
      refine G_iload (i := 1) (n := 3) (len := 1) (Or.inl ⟨1, rfl, rfl, d_Ev_workOutSign_239⟩) rfl (G_pc (pc' := 240) rfl ?_)
      refine G_iload (i := 6) (n := 1) (len := 2) (Or.inr ⟨rfl, d_Ev_workOutSign_240⟩) rfl (G_pc (pc' := 242) rfl ?_)
      refine G_lload (i := 2) (n := 4) (len := 1) (Or.inl ⟨2, rfl, rfl, d_Ev_workOutSign_242⟩) rfl (G_pc (pc' := 243) rfl ?_)
      refine G_lload (i := 4) (n := 5) (len := 2) (Or.inr ⟨rfl, d_Ev_workOutSign_243⟩) rfl (G_pc (pc' := 245) rfl ?_)
      refine G_callS (K1 := KE) (d2 := 0) (as := [vi (M (21 + 9 * e) i), vl x, vl y]) (rest := [vi i, vr ((19 + 9 * e : Nat) : Int)]) d_Ev_workOutSign_245 mf_Ev_holds ml_Ev_190 rfl rfl (Nat.le_of_ble_eq_true rfl) (by omega) ⟨Nat.le_refl _, Nat.le_refl _⟩ (g_Ev_holds (by omega) (M (21 + 9 * e) i) x y _) (fun r38 M39 kq40 q40 => ?_)
      clear kq40; obtain ⟨q40a, q40b⟩ := q40; subst r38; subst M39
      refine G_ps (pc' := 248) (st' := [vi (b2i (holD (M (21 + 9 * e) i) x y)), vi i, vr ((19 + 9 * e : Nat) : Int)]) rfl rfl ?_
      refine G_if_eq (tgt := 255) d_Ev_workOutSign_248 (by decide) (fun h41 => ?_) (fun h41 => G_pc (pc' := 251) rfl ?_)
      · skip
        replace h41 := b2i_0.mp h41
        refine G_lconst0 d_Ev_workOutSign_255 (G_pc (pc' := 256) rfl ?_)
        refine G_callV (K1 := KE) (d2 := 1) (o := (19 + 9 * e)) (cl := 1) (as := [vi i, vl 0]) (rest := []) d_Ev_workOutSign_256 mf_Ev_settle ml_Ev_115 (kd_Ev he) rfl (by show 19 + 9 * e < 87; omega) rfl rfl (Nat.le_of_ble_eq_true rfl) (by omega) ⟨Nat.le_refl _, Nat.le_refl _⟩ (g_Ev_settle (by omega) e i 0 _ he (by omega)) (fun r42 M43 kq44 q44 => ?_)
        clear kq44; obtain ⟨q44a, q44b⟩ := q44; subst r42; subst M43
        refine G_ps (pc' := 259) (st' := []) rfl rfl ?_
        refine G_vret d_Ev_workOutSign_259 rfl rfl ?_
        first | (exfalso; omega) | exact ⟨rfl, eff_s (by unfold sgnR; first | ((repeat (first | (rw [if_pos (by omega)]; done) | (rw [if_neg (by omega)]))); done) | (simp [*, b2i]; done) | grind [b2i])⟩
      · skip
        replace h41 := b2i_nz.mp h41
        refine G_lconst1 d_Ev_workOutSign_251 (G_pc (pc' := 252) rfl ?_)
        refine G_goto (tgt := 256) d_Ev_workOutSign_252 (by decide) ?_
        refine G_callV (K1 := KE) (d2 := 1) (o := (19 + 9 * e)) (cl := 1) (as := [vi i, vl 1]) (rest := []) d_Ev_workOutSign_256 mf_Ev_settle ml_Ev_115 (kd_Ev he) rfl (by show 19 + 9 * e < 87; omega) rfl rfl (Nat.le_of_ble_eq_true rfl) (by omega) ⟨Nat.le_refl _, Nat.le_refl _⟩ (g_Ev_settle (by omega) e i 1 _ he (by omega)) (fun r45 M46 kq47 q47 => ?_)
        clear kq47; obtain ⟨q47a, q47b⟩ := q47; subst r45; subst M46
        refine G_ps (pc' := 259) (st' := []) rfl rfl ?_
        refine G_vret d_Ev_workOutSign_259 rfl rfl ?_
        first | (exfalso; omega) | exact ⟨rfl, eff_s (by unfold sgnR; first | ((repeat (first | (rw [if_pos (by omega)]; done) | (rw [if_neg (by omega)]))); done) | (simp [*, b2i]; done) | grind [b2i])⟩
    · skip
      refine G_aload (i := 0) (n := 2) (len := 1) (Or.inl ⟨0, rfl, rfl, d_Ev_workOutSign_41⟩) rfl (by omega) (G_pc (pc' := 42) rfl ?_)
      refine G_iconst (n := 1) d_Ev_workOutSign_42 (by decide) (G_pc (pc' := 43) rfl ?_)
      refine G_callV (K1 := KE) (d2 := 0) (o := (19 + 9 * e)) (cl := 1) (as := [vi 1]) (rest := []) d_Ev_workOutSign_43 mf_Ev_fail ml_Ev_157 (kd_Ev he) rfl (by show 19 + 9 * e < 87; omega) rfl rfl (Nat.le_of_ble_eq_true rfl) (by omega) ⟨Nat.le_refl _, Nat.le_refl _⟩ (g_Ev_fail (by omega) e 1 _ he) (fun r48 M49 kq50 q50 => ?_)
      clear kq50; obtain ⟨q50a, q50b⟩ := q50; subst r48; subst M49
      refine G_ps (pc' := 46) (st' := []) rfl rfl ?_
      refine G_vret d_Ev_workOutSign_46 rfl rfl ?_
      first | (exfalso; omega) | exact ⟨rfl, eff_f (by unfold sgnR; first | ((repeat (first | (rw [if_pos (by omega)]; done) | (rw [if_neg (by omega)]))); done) | (simp [*, b2i]; done) | grind [b2i])⟩
  · skip
    refine G_iload (i := 6) (n := 1) (len := 2) (Or.inr ⟨rfl, d_Ev_workOutSign_27⟩) rfl (G_pc (pc' := 29) rfl ?_)
    refine G_bipush (n := 37) d_Ev_workOutSign_29 (by decide) (G_pc (pc' := 31) rfl ?_)
    refine G_icmp_ne (tgt := 47) d_Ev_workOutSign_31 (by decide) (fun h51 => ?_) (fun h51 => G_pc (pc' := 34) rfl ?_)
    · skip
      refine G_iload (i := 6) (n := 1) (len := 2) (Or.inr ⟨rfl, d_Ev_workOutSign_47⟩) rfl (G_pc (pc' := 49) rfl ?_)
      by_cases h52 : M (21 + 9 * e) i = 33 ∨ M (21 + 9 * e) i = 126 ∨ M (21 + 9 * e) i = 147 ∨ M (21 + 9 * e) i = 148
      · skip
        have e53o : Op.lookupswitch.offset [(33, 149), (37, 168), (38, 168), (42, 168), (43, 168), (45, 168), (47, 168), (94, 168), (124, 168), (126, 149), (130, 131), (131, 131), (132, 131), (147, 149), (148, 149)] 189 (M (21 + 9 * e) i) = 149 := by rcases h52 with e53 | e53 | e53 | e53 <;> rw [e53] <;> rfl
        refine G_lookup (off := 149) (tgt := 198) d_Ev_workOutSign_49 (by decide) e53o (by decide) ?_
        refine G_aload (i := 0) (n := 2) (len := 1) (Or.inl ⟨0, rfl, rfl, d_Ev_workOutSign_198⟩) rfl (by omega) (G_pc (pc' := 199) rfl ?_)
        refine G_iload (i := 1) (n := 3) (len := 1) (Or.inl ⟨1, rfl, rfl, d_Ev_workOutSign_199⟩) rfl (G_pc (pc' := 200) rfl ?_)
        refine G_iload (i := 7) (n := 0) (len := 2) (Or.inr ⟨rfl, d_Ev_workOutSign_200⟩) rfl (G_pc (pc' := 202) rfl ?_)
        refine G_iload (i := 6) (n := 1) (len := 2) (Or.inr ⟨rfl, d_Ev_workOutSign_202⟩) rfl (G_pc (pc' := 204) rfl ?_)
        refine G_lload (i := 2) (n := 4) (len := 1) (Or.inl ⟨2, rfl, rfl, d_Ev_workOutSign_204⟩) rfl (G_pc (pc' := 205) rfl ?_)
        refine G_callS (K1 := KE) (d2 := 0) (as := [vi (M (21 + 9 * e) i), vl x]) (rest := [vi (M (25 + 9 * e) i), vi i, vr ((19 + 9 * e : Nat) : Int)]) d_Ev_workOutSign_205 mf_Ev_changed ml_Ev_183 rfl rfl (Nat.le_of_ble_eq_true rfl) (by omega) ⟨Nat.le_refl _, Nat.le_refl _⟩ (g_Ev_changed (by omega) (M (21 + 9 * e) i) x _) (fun r54 M55 kq56 q56 => ?_)
        clear kq56; obtain ⟨q56a, q56b⟩ := q56; subst r54; subst M55
        refine G_ps (pc' := 208) (st' := [vl (chgD (M (21 + 9 * e) i) x), vi (M (25 + 9 * e) i), vi i, vr ((19 + 9 * e : Nat) : Int)]) rfl rfl ?_
        refine G_callS (K1 := KE) (d2 := 0) (as := [vi (M (25 + 9 * e) i), vl (chgD (M (21 + 9 * e) i) x)]) (rest := [vi i, vr ((19 + 9 * e : Nat) : Int)]) d_Ev_workOutSign_208 mf_Ki_narrowed ml_Ev_172 rfl rfl (Nat.le_of_ble_eq_true rfl) (by omega) ⟨Nat.le_refl _, Nat.le_refl _⟩ (g_Ki_narrowed (by omega) (M (25 + 9 * e) i) (chgD (M (21 + 9 * e) i) x) _) (fun r57 M58 kq59 q59 => ?_)
        clear kq59; obtain ⟨q59a, q59b⟩ := q59; subst r57; subst M58
        refine G_ps (pc' := 211) (st' := [vl (naD (M (25 + 9 * e) i) (chgD (M (21 + 9 * e) i) x)), vi i, vr ((19 + 9 * e : Nat) : Int)]) rfl rfl ?_
        refine G_callV (K1 := KE) (d2 := 1) (o := (19 + 9 * e)) (cl := 1) (as := [vi i, vl (naD (M (25 + 9 * e) i) (chgD (M (21 + 9 * e) i) x))]) (rest := []) d_Ev_workOutSign_211 mf_Ev_settle ml_Ev_115 (kd_Ev he) rfl (by show 19 + 9 * e < 87; omega) rfl rfl (Nat.le_of_ble_eq_true rfl) (by omega) ⟨Nat.le_refl _, Nat.le_refl _⟩ (g_Ev_settle (by omega) e i (naD (M (25 + 9 * e) i) (chgD (M (21 + 9 * e) i) x)) _ he (by omega)) (fun r60 M61 kq62 q62 => ?_)
        clear kq62; obtain ⟨q62a, q62b⟩ := q62; subst r60; subst M61
        refine G_ps (pc' := 214) (st' := []) rfl rfl ?_
        refine G_goto (tgt := 259) d_Ev_workOutSign_214 (by decide) ?_
        refine G_vret d_Ev_workOutSign_259 rfl rfl ?_
        first | (exfalso; omega) | exact ⟨rfl, eff_s (by unfold sgnR; first | ((repeat (first | (rw [if_pos (by omega)]; done) | (rw [if_neg (by omega)]))); done) | (simp [*, b2i]; done) | grind [b2i])⟩
      by_cases h52 : M (21 + 9 * e) i = 37 ∨ M (21 + 9 * e) i = 38 ∨ M (21 + 9 * e) i = 42 ∨ M (21 + 9 * e) i = 43 ∨ M (21 + 9 * e) i = 45 ∨ M (21 + 9 * e) i = 47 ∨ M (21 + 9 * e) i = 94 ∨ M (21 + 9 * e) i = 124
      · skip
        have e63o : Op.lookupswitch.offset [(33, 149), (37, 168), (38, 168), (42, 168), (43, 168), (45, 168), (47, 168), (94, 168), (124, 168), (126, 149), (130, 131), (131, 131), (132, 131), (147, 149), (148, 149)] 189 (M (21 + 9 * e) i) = 168 := by rcases h52 with e63 | e63 | e63 | e63 | e63 | e63 | e63 | e63 <;> rw [e63] <;> rfl
        refine G_lookup (off := 168) (tgt := 217) d_Ev_workOutSign_49 (by decide) e63o (by decide) ?_
        refine G_aload (i := 0) (n := 2) (len := 1) (Or.inl ⟨0, rfl, rfl, d_Ev_workOutSign_217⟩) rfl (by omega) (G_pc (pc' := 218) rfl ?_)
        refine G_iload (i := 1) (n := 3) (len := 1) (Or.inl ⟨1, rfl, rfl, d_Ev_workOutSign_218⟩) rfl (G_pc (pc' := 219) rfl ?_)
        refine G_iload (i := 7) (n := 0) (len := 2) (Or.inr ⟨rfl, d_Ev_workOutSign_219⟩) rfl (G_pc (pc' := 221) rfl ?_)
        refine G_iload (i := 6) (n := 1) (len := 2) (Or.inr ⟨rfl, d_Ev_workOutSign_221⟩) rfl (G_pc (pc' := 223) rfl ?_)
        refine G_lload (i := 2) (n := 4) (len := 1) (Or.inl ⟨2, rfl, rfl, d_Ev_workOutSign_223⟩) rfl (G_pc (pc' := 224) rfl ?_)
        refine G_lload (i := 4) (n := 5) (len := 2) (Or.inr ⟨rfl, d_Ev_workOutSign_224⟩) rfl (G_pc (pc' := 226) rfl ?_)
        refine G_callS (K1 := KE) (d2 := 0) (as := [vi (M (21 + 9 * e) i), vl x, vl y]) (rest := [vi (M (25 + 9 * e) i), vi i, vr ((19 + 9 * e : Nat) : Int)]) d_Ev_workOutSign_226 mf_Ev_combined ml_Ev_186 rfl rfl (Nat.le_of_ble_eq_true rfl) (by omega) ⟨Nat.le_refl _, Nat.le_refl _⟩ (g_Ev_combined (by omega) (M (21 + 9 * e) i) x y _ (by omega)) (fun r64 M65 kq66 q66 => ?_)
        clear kq66; obtain ⟨q66a, q66b⟩ := q66; subst r64; subst M65
        refine G_ps (pc' := 229) (st' := [vl (cmbD (M (21 + 9 * e) i) x y), vi (M (25 + 9 * e) i), vi i, vr ((19 + 9 * e : Nat) : Int)]) rfl rfl ?_
        refine G_callS (K1 := KE) (d2 := 0) (as := [vi (M (25 + 9 * e) i), vl (cmbD (M (21 + 9 * e) i) x y)]) (rest := [vi i, vr ((19 + 9 * e : Nat) : Int)]) d_Ev_workOutSign_229 mf_Ki_narrowed ml_Ev_172 rfl rfl (Nat.le_of_ble_eq_true rfl) (by omega) ⟨Nat.le_refl _, Nat.le_refl _⟩ (g_Ki_narrowed (by omega) (M (25 + 9 * e) i) (cmbD (M (21 + 9 * e) i) x y) _) (fun r67 M68 kq69 q69 => ?_)
        clear kq69; obtain ⟨q69a, q69b⟩ := q69; subst r67; subst M68
        refine G_ps (pc' := 232) (st' := [vl (naD (M (25 + 9 * e) i) (cmbD (M (21 + 9 * e) i) x y)), vi i, vr ((19 + 9 * e : Nat) : Int)]) rfl rfl ?_
        refine G_callV (K1 := KE) (d2 := 1) (o := (19 + 9 * e)) (cl := 1) (as := [vi i, vl (naD (M (25 + 9 * e) i) (cmbD (M (21 + 9 * e) i) x y))]) (rest := []) d_Ev_workOutSign_232 mf_Ev_settle ml_Ev_115 (kd_Ev he) rfl (by show 19 + 9 * e < 87; omega) rfl rfl (Nat.le_of_ble_eq_true rfl) (by omega) ⟨Nat.le_refl _, Nat.le_refl _⟩ (g_Ev_settle (by omega) e i (naD (M (25 + 9 * e) i) (cmbD (M (21 + 9 * e) i) x y)) _ he (by omega)) (fun r70 M71 kq72 q72 => ?_)
        clear kq72; obtain ⟨q72a, q72b⟩ := q72; subst r70; subst M71
        refine G_ps (pc' := 235) (st' := []) rfl rfl ?_
        refine G_goto (tgt := 259) d_Ev_workOutSign_235 (by decide) ?_
        refine G_vret d_Ev_workOutSign_259 rfl rfl ?_
        first | (exfalso; omega) | exact ⟨rfl, eff_s (by unfold sgnR; first | ((repeat (first | (rw [if_pos (by omega)]; done) | (rw [if_neg (by omega)]))); done) | (simp [*, b2i]; done) | grind [b2i])⟩
      by_cases h52 : M (21 + 9 * e) i = 130 ∨ M (21 + 9 * e) i = 131 ∨ M (21 + 9 * e) i = 132
      · skip
        have e73o : Op.lookupswitch.offset [(33, 149), (37, 168), (38, 168), (42, 168), (43, 168), (45, 168), (47, 168), (94, 168), (124, 168), (126, 149), (130, 131), (131, 131), (132, 131), (147, 149), (148, 149)] 189 (M (21 + 9 * e) i) = 131 := by rcases h52 with e73 | e73 | e73 <;> rw [e73] <;> rfl
        refine G_lookup (off := 131) (tgt := 180) d_Ev_workOutSign_49 (by decide) e73o (by decide) ?_
        refine G_aload (i := 0) (n := 2) (len := 1) (Or.inl ⟨0, rfl, rfl, d_Ev_workOutSign_180⟩) rfl (by omega) (G_pc (pc' := 181) rfl ?_)
        refine G_iload (i := 1) (n := 3) (len := 1) (Or.inl ⟨1, rfl, rfl, d_Ev_workOutSign_181⟩) rfl (G_pc (pc' := 182) rfl ?_)
        refine G_iload (i := 6) (n := 1) (len := 2) (Or.inr ⟨rfl, d_Ev_workOutSign_182⟩) rfl (G_pc (pc' := 184) rfl ?_)
        refine G_iload (i := 7) (n := 0) (len := 2) (Or.inr ⟨rfl, d_Ev_workOutSign_184⟩) rfl (G_pc (pc' := 186) rfl ?_)
        refine G_lload (i := 2) (n := 4) (len := 1) (Or.inl ⟨2, rfl, rfl, d_Ev_workOutSign_186⟩) rfl (G_pc (pc' := 187) rfl ?_)
        refine G_lload (i := 4) (n := 5) (len := 2) (Or.inr ⟨rfl, d_Ev_workOutSign_187⟩) rfl (G_pc (pc' := 189) rfl ?_)
        refine G_callS (K1 := KE) (d2 := 0) (as := [vi (M (21 + 9 * e) i), vi (M (25 + 9 * e) i), vl x, vl y]) (rest := [vi i, vr ((19 + 9 * e : Nat) : Int)]) d_Ev_workOutSign_189 mf_Ev_shifted ml_Ev_179 rfl rfl (Nat.le_of_ble_eq_true rfl) (by omega) ⟨Nat.le_refl _, Nat.le_refl _⟩ (g_Ev_shifted (by omega) (M (21 + 9 * e) i) (M (25 + 9 * e) i) x y _) (fun r74 M75 kq76 q76 => ?_)
        clear kq76; obtain ⟨q76a, q76b⟩ := q76; subst r74; subst M75
        refine G_ps (pc' := 192) (st' := [vl (shvD (M (21 + 9 * e) i) (M (25 + 9 * e) i) x y), vi i, vr ((19 + 9 * e : Nat) : Int)]) rfl rfl ?_
        refine G_callV (K1 := KE) (d2 := 1) (o := (19 + 9 * e)) (cl := 1) (as := [vi i, vl (shvD (M (21 + 9 * e) i) (M (25 + 9 * e) i) x y)]) (rest := []) d_Ev_workOutSign_192 mf_Ev_settle ml_Ev_115 (kd_Ev he) rfl (by show 19 + 9 * e < 87; omega) rfl rfl (Nat.le_of_ble_eq_true rfl) (by omega) ⟨Nat.le_refl _, Nat.le_refl _⟩ (g_Ev_settle (by omega) e i (shvD (M (21 + 9 * e) i) (M (25 + 9 * e) i) x y) _ he (by omega)) (fun r77 M78 kq79 q79 => ?_)
        clear kq79; obtain ⟨q79a, q79b⟩ := q79; subst r77; subst M78
        refine G_ps (pc' := 195) (st' := []) rfl rfl ?_
        refine G_goto (tgt := 259) d_Ev_workOutSign_195 (by decide) ?_
        refine G_vret d_Ev_workOutSign_259 rfl rfl ?_
        first | (exfalso; omega) | exact ⟨rfl, eff_s (by unfold sgnR; first | ((repeat (first | (rw [if_pos (by omega)]; done) | (rw [if_neg (by omega)]))); done) | (simp [*, b2i]; done) | grind [b2i])⟩
      have e80o : Op.lookupswitch.offset [(33, 149), (37, 168), (38, 168), (42, 168), (43, 168), (45, 168), (47, 168), (94, 168), (124, 168), (126, 149), (130, 131), (131, 131), (132, 131), (147, 149), (148, 149)] 189 (M (21 + 9 * e) i) = 189 := by rw [lk_ne (by omega), lk_ne (by omega), lk_ne (by omega), lk_ne (by omega), lk_ne (by omega), lk_ne (by omega), lk_ne (by omega), lk_ne (by omega), lk_ne (by omega), lk_ne (by omega), lk_ne (by omega), lk_ne (by omega), lk_ne (by omega), lk_ne (by omega), lk_ne (by omega)]; rfl
      refine G_lookup (off := 189) (tgt := 238) d_Ev_workOutSign_49 (by decide) e80o (by decide) ?_
      refine G_aload (i := 0) (n := 2) (len := 1) (Or.inl ⟨0, rfl, rfl, d_Ev_workOutSign_238⟩) rfl (by omega) (G_pc (pc' := 239) rfl ?_)
      refine G_iload (i := 1) (n := 3) (len := 1) (Or.inl ⟨1, rfl, rfl, d_Ev_workOutSign_239⟩) rfl (G_pc (pc' := 240) rfl ?_)
      refine G_iload (i := 6) (n := 1) (len := 2) (Or.inr ⟨rfl, d_Ev_workOutSign_240⟩) rfl (G_pc (pc' := 242) rfl ?_)
      refine G_lload (i := 2) (n := 4) (len := 1) (Or.inl ⟨2, rfl, rfl, d_Ev_workOutSign_242⟩) rfl (G_pc (pc' := 243) rfl ?_)
      refine G_lload (i := 4) (n := 5) (len := 2) (Or.inr ⟨rfl, d_Ev_workOutSign_243⟩) rfl (G_pc (pc' := 245) rfl ?_)
      refine G_callS (K1 := KE) (d2 := 0) (as := [vi (M (21 + 9 * e) i), vl x, vl y]) (rest := [vi i, vr ((19 + 9 * e : Nat) : Int)]) d_Ev_workOutSign_245 mf_Ev_holds ml_Ev_190 rfl rfl (Nat.le_of_ble_eq_true rfl) (by omega) ⟨Nat.le_refl _, Nat.le_refl _⟩ (g_Ev_holds (by omega) (M (21 + 9 * e) i) x y _) (fun r81 M82 kq83 q83 => ?_)
      clear kq83; obtain ⟨q83a, q83b⟩ := q83; subst r81; subst M82
      refine G_ps (pc' := 248) (st' := [vi (b2i (holD (M (21 + 9 * e) i) x y)), vi i, vr ((19 + 9 * e : Nat) : Int)]) rfl rfl ?_
      refine G_if_eq (tgt := 255) d_Ev_workOutSign_248 (by decide) (fun h84 => ?_) (fun h84 => G_pc (pc' := 251) rfl ?_)
      · skip
        replace h84 := b2i_0.mp h84
        refine G_lconst0 d_Ev_workOutSign_255 (G_pc (pc' := 256) rfl ?_)
        refine G_callV (K1 := KE) (d2 := 1) (o := (19 + 9 * e)) (cl := 1) (as := [vi i, vl 0]) (rest := []) d_Ev_workOutSign_256 mf_Ev_settle ml_Ev_115 (kd_Ev he) rfl (by show 19 + 9 * e < 87; omega) rfl rfl (Nat.le_of_ble_eq_true rfl) (by omega) ⟨Nat.le_refl _, Nat.le_refl _⟩ (g_Ev_settle (by omega) e i 0 _ he (by omega)) (fun r85 M86 kq87 q87 => ?_)
        clear kq87; obtain ⟨q87a, q87b⟩ := q87; subst r85; subst M86
        refine G_ps (pc' := 259) (st' := []) rfl rfl ?_
        refine G_vret d_Ev_workOutSign_259 rfl rfl ?_
        first | (exfalso; omega) | exact ⟨rfl, eff_s (by unfold sgnR; first | ((repeat (first | (rw [if_pos (by omega)]; done) | (rw [if_neg (by omega)]))); done) | (simp [*, b2i]; done) | grind [b2i])⟩
      · skip
        replace h84 := b2i_nz.mp h84
        refine G_lconst1 d_Ev_workOutSign_251 (G_pc (pc' := 252) rfl ?_)
        refine G_goto (tgt := 256) d_Ev_workOutSign_252 (by decide) ?_
        refine G_callV (K1 := KE) (d2 := 1) (o := (19 + 9 * e)) (cl := 1) (as := [vi i, vl 1]) (rest := []) d_Ev_workOutSign_256 mf_Ev_settle ml_Ev_115 (kd_Ev he) rfl (by show 19 + 9 * e < 87; omega) rfl rfl (Nat.le_of_ble_eq_true rfl) (by omega) ⟨Nat.le_refl _, Nat.le_refl _⟩ (g_Ev_settle (by omega) e i 1 _ he (by omega)) (fun r88 M89 kq90 q90 => ?_)
        clear kq90; obtain ⟨q90a, q90b⟩ := q90; subst r88; subst M89
        refine G_ps (pc' := 259) (st' := []) rfl rfl ?_
        refine G_vret d_Ev_workOutSign_259 rfl rfl ?_
        first | (exfalso; omega) | exact ⟨rfl, eff_s (by unfold sgnR; first | ((repeat (first | (rw [if_pos (by omega)]; done) | (rw [if_neg (by omega)]))); done) | (simp [*, b2i]; done) | grind [b2i])⟩
    · skip
      refine G_lload (i := 4) (n := 5) (len := 2) (Or.inr ⟨rfl, d_Ev_workOutSign_34⟩) rfl (G_pc (pc' := 36) rfl ?_)
      refine G_lconst0 d_Ev_workOutSign_36 (G_pc (pc' := 37) rfl ?_)
      refine G_lcmp_ne (tgt := 47) d_Ev_workOutSign_37 d_Ev_workOutSign_38 (by decide) (fun h91 => ?_) (fun h91 => G_pc (pc' := 41) rfl ?_)
      · skip
        refine G_iload (i := 6) (n := 1) (len := 2) (Or.inr ⟨rfl, d_Ev_workOutSign_47⟩) rfl (G_pc (pc' := 49) rfl ?_)
        by_cases h92 : M (21 + 9 * e) i = 33 ∨ M (21 + 9 * e) i = 126 ∨ M (21 + 9 * e) i = 147 ∨ M (21 + 9 * e) i = 148
        · skip
          have e93o : Op.lookupswitch.offset [(33, 149), (37, 168), (38, 168), (42, 168), (43, 168), (45, 168), (47, 168), (94, 168), (124, 168), (126, 149), (130, 131), (131, 131), (132, 131), (147, 149), (148, 149)] 189 (M (21 + 9 * e) i) = 149 := by rcases h92 with e93 | e93 | e93 | e93 <;> rw [e93] <;> rfl
          refine G_lookup (off := 149) (tgt := 198) d_Ev_workOutSign_49 (by decide) e93o (by decide) ?_
          refine G_aload (i := 0) (n := 2) (len := 1) (Or.inl ⟨0, rfl, rfl, d_Ev_workOutSign_198⟩) rfl (by omega) (G_pc (pc' := 199) rfl ?_)
          refine G_iload (i := 1) (n := 3) (len := 1) (Or.inl ⟨1, rfl, rfl, d_Ev_workOutSign_199⟩) rfl (G_pc (pc' := 200) rfl ?_)
          refine G_iload (i := 7) (n := 0) (len := 2) (Or.inr ⟨rfl, d_Ev_workOutSign_200⟩) rfl (G_pc (pc' := 202) rfl ?_)
          refine G_iload (i := 6) (n := 1) (len := 2) (Or.inr ⟨rfl, d_Ev_workOutSign_202⟩) rfl (G_pc (pc' := 204) rfl ?_)
          refine G_lload (i := 2) (n := 4) (len := 1) (Or.inl ⟨2, rfl, rfl, d_Ev_workOutSign_204⟩) rfl (G_pc (pc' := 205) rfl ?_)
          refine G_callS (K1 := KE) (d2 := 0) (as := [vi (M (21 + 9 * e) i), vl x]) (rest := [vi (M (25 + 9 * e) i), vi i, vr ((19 + 9 * e : Nat) : Int)]) d_Ev_workOutSign_205 mf_Ev_changed ml_Ev_183 rfl rfl (Nat.le_of_ble_eq_true rfl) (by omega) ⟨Nat.le_refl _, Nat.le_refl _⟩ (g_Ev_changed (by omega) (M (21 + 9 * e) i) x _) (fun r94 M95 kq96 q96 => ?_)
          clear kq96; obtain ⟨q96a, q96b⟩ := q96; subst r94; subst M95
          refine G_ps (pc' := 208) (st' := [vl (chgD (M (21 + 9 * e) i) x), vi (M (25 + 9 * e) i), vi i, vr ((19 + 9 * e : Nat) : Int)]) rfl rfl ?_
          refine G_callS (K1 := KE) (d2 := 0) (as := [vi (M (25 + 9 * e) i), vl (chgD (M (21 + 9 * e) i) x)]) (rest := [vi i, vr ((19 + 9 * e : Nat) : Int)]) d_Ev_workOutSign_208 mf_Ki_narrowed ml_Ev_172 rfl rfl (Nat.le_of_ble_eq_true rfl) (by omega) ⟨Nat.le_refl _, Nat.le_refl _⟩ (g_Ki_narrowed (by omega) (M (25 + 9 * e) i) (chgD (M (21 + 9 * e) i) x) _) (fun r97 M98 kq99 q99 => ?_)
          clear kq99; obtain ⟨q99a, q99b⟩ := q99; subst r97; subst M98
          refine G_ps (pc' := 211) (st' := [vl (naD (M (25 + 9 * e) i) (chgD (M (21 + 9 * e) i) x)), vi i, vr ((19 + 9 * e : Nat) : Int)]) rfl rfl ?_
          refine G_callV (K1 := KE) (d2 := 1) (o := (19 + 9 * e)) (cl := 1) (as := [vi i, vl (naD (M (25 + 9 * e) i) (chgD (M (21 + 9 * e) i) x))]) (rest := []) d_Ev_workOutSign_211 mf_Ev_settle ml_Ev_115 (kd_Ev he) rfl (by show 19 + 9 * e < 87; omega) rfl rfl (Nat.le_of_ble_eq_true rfl) (by omega) ⟨Nat.le_refl _, Nat.le_refl _⟩ (g_Ev_settle (by omega) e i (naD (M (25 + 9 * e) i) (chgD (M (21 + 9 * e) i) x)) _ he (by omega)) (fun r100 M101 kq102 q102 => ?_)
          clear kq102; obtain ⟨q102a, q102b⟩ := q102; subst r100; subst M101
          refine G_ps (pc' := 214) (st' := []) rfl rfl ?_
          refine G_goto (tgt := 259) d_Ev_workOutSign_214 (by decide) ?_
          refine G_vret d_Ev_workOutSign_259 rfl rfl ?_
          first | (exfalso; omega) | exact ⟨rfl, eff_s (by unfold sgnR; first | ((repeat (first | (rw [if_pos (by omega)]; done) | (rw [if_neg (by omega)]))); done) | (simp [*, b2i]; done) | grind [b2i])⟩
        by_cases h92 : M (21 + 9 * e) i = 37 ∨ M (21 + 9 * e) i = 38 ∨ M (21 + 9 * e) i = 42 ∨ M (21 + 9 * e) i = 43 ∨ M (21 + 9 * e) i = 45 ∨ M (21 + 9 * e) i = 47 ∨ M (21 + 9 * e) i = 94 ∨ M (21 + 9 * e) i = 124
        · skip
          have e103o : Op.lookupswitch.offset [(33, 149), (37, 168), (38, 168), (42, 168), (43, 168), (45, 168), (47, 168), (94, 168), (124, 168), (126, 149), (130, 131), (131, 131), (132, 131), (147, 149), (148, 149)] 189 (M (21 + 9 * e) i) = 168 := by rcases h92 with e103 | e103 | e103 | e103 | e103 | e103 | e103 | e103 <;> rw [e103] <;> rfl
          refine G_lookup (off := 168) (tgt := 217) d_Ev_workOutSign_49 (by decide) e103o (by decide) ?_
          refine G_aload (i := 0) (n := 2) (len := 1) (Or.inl ⟨0, rfl, rfl, d_Ev_workOutSign_217⟩) rfl (by omega) (G_pc (pc' := 218) rfl ?_)
          refine G_iload (i := 1) (n := 3) (len := 1) (Or.inl ⟨1, rfl, rfl, d_Ev_workOutSign_218⟩) rfl (G_pc (pc' := 219) rfl ?_)
          refine G_iload (i := 7) (n := 0) (len := 2) (Or.inr ⟨rfl, d_Ev_workOutSign_219⟩) rfl (G_pc (pc' := 221) rfl ?_)
          refine G_iload (i := 6) (n := 1) (len := 2) (Or.inr ⟨rfl, d_Ev_workOutSign_221⟩) rfl (G_pc (pc' := 223) rfl ?_)
          refine G_lload (i := 2) (n := 4) (len := 1) (Or.inl ⟨2, rfl, rfl, d_Ev_workOutSign_223⟩) rfl (G_pc (pc' := 224) rfl ?_)
          refine G_lload (i := 4) (n := 5) (len := 2) (Or.inr ⟨rfl, d_Ev_workOutSign_224⟩) rfl (G_pc (pc' := 226) rfl ?_)
          refine G_callS (K1 := KE) (d2 := 0) (as := [vi (M (21 + 9 * e) i), vl x, vl y]) (rest := [vi (M (25 + 9 * e) i), vi i, vr ((19 + 9 * e : Nat) : Int)]) d_Ev_workOutSign_226 mf_Ev_combined ml_Ev_186 rfl rfl (Nat.le_of_ble_eq_true rfl) (by omega) ⟨Nat.le_refl _, Nat.le_refl _⟩ (g_Ev_combined (by omega) (M (21 + 9 * e) i) x y _ (by omega)) (fun r104 M105 kq106 q106 => ?_)
          clear kq106; obtain ⟨q106a, q106b⟩ := q106; subst r104; subst M105
          refine G_ps (pc' := 229) (st' := [vl (cmbD (M (21 + 9 * e) i) x y), vi (M (25 + 9 * e) i), vi i, vr ((19 + 9 * e : Nat) : Int)]) rfl rfl ?_
          refine G_callS (K1 := KE) (d2 := 0) (as := [vi (M (25 + 9 * e) i), vl (cmbD (M (21 + 9 * e) i) x y)]) (rest := [vi i, vr ((19 + 9 * e : Nat) : Int)]) d_Ev_workOutSign_229 mf_Ki_narrowed ml_Ev_172 rfl rfl (Nat.le_of_ble_eq_true rfl) (by omega) ⟨Nat.le_refl _, Nat.le_refl _⟩ (g_Ki_narrowed (by omega) (M (25 + 9 * e) i) (cmbD (M (21 + 9 * e) i) x y) _) (fun r107 M108 kq109 q109 => ?_)
          clear kq109; obtain ⟨q109a, q109b⟩ := q109; subst r107; subst M108
          refine G_ps (pc' := 232) (st' := [vl (naD (M (25 + 9 * e) i) (cmbD (M (21 + 9 * e) i) x y)), vi i, vr ((19 + 9 * e : Nat) : Int)]) rfl rfl ?_
          refine G_callV (K1 := KE) (d2 := 1) (o := (19 + 9 * e)) (cl := 1) (as := [vi i, vl (naD (M (25 + 9 * e) i) (cmbD (M (21 + 9 * e) i) x y))]) (rest := []) d_Ev_workOutSign_232 mf_Ev_settle ml_Ev_115 (kd_Ev he) rfl (by show 19 + 9 * e < 87; omega) rfl rfl (Nat.le_of_ble_eq_true rfl) (by omega) ⟨Nat.le_refl _, Nat.le_refl _⟩ (g_Ev_settle (by omega) e i (naD (M (25 + 9 * e) i) (cmbD (M (21 + 9 * e) i) x y)) _ he (by omega)) (fun r110 M111 kq112 q112 => ?_)
          clear kq112; obtain ⟨q112a, q112b⟩ := q112; subst r110; subst M111
          refine G_ps (pc' := 235) (st' := []) rfl rfl ?_
          refine G_goto (tgt := 259) d_Ev_workOutSign_235 (by decide) ?_
          refine G_vret d_Ev_workOutSign_259 rfl rfl ?_
          first | (exfalso; omega) | exact ⟨rfl, eff_s (by unfold sgnR; first | ((repeat (first | (rw [if_pos (by omega)]; done) | (rw [if_neg (by omega)]))); done) | (simp [*, b2i]; done) | grind [b2i])⟩
        by_cases h92 : M (21 + 9 * e) i = 130 ∨ M (21 + 9 * e) i = 131 ∨ M (21 + 9 * e) i = 132
        · skip
          have e113o : Op.lookupswitch.offset [(33, 149), (37, 168), (38, 168), (42, 168), (43, 168), (45, 168), (47, 168), (94, 168), (124, 168), (126, 149), (130, 131), (131, 131), (132, 131), (147, 149), (148, 149)] 189 (M (21 + 9 * e) i) = 131 := by rcases h92 with e113 | e113 | e113 <;> rw [e113] <;> rfl
          refine G_lookup (off := 131) (tgt := 180) d_Ev_workOutSign_49 (by decide) e113o (by decide) ?_
          refine G_aload (i := 0) (n := 2) (len := 1) (Or.inl ⟨0, rfl, rfl, d_Ev_workOutSign_180⟩) rfl (by omega) (G_pc (pc' := 181) rfl ?_)
          refine G_iload (i := 1) (n := 3) (len := 1) (Or.inl ⟨1, rfl, rfl, d_Ev_workOutSign_181⟩) rfl (G_pc (pc' := 182) rfl ?_)
          refine G_iload (i := 6) (n := 1) (len := 2) (Or.inr ⟨rfl, d_Ev_workOutSign_182⟩) rfl (G_pc (pc' := 184) rfl ?_)
          refine G_iload (i := 7) (n := 0) (len := 2) (Or.inr ⟨rfl, d_Ev_workOutSign_184⟩) rfl (G_pc (pc' := 186) rfl ?_)
          refine G_lload (i := 2) (n := 4) (len := 1) (Or.inl ⟨2, rfl, rfl, d_Ev_workOutSign_186⟩) rfl (G_pc (pc' := 187) rfl ?_)
          refine G_lload (i := 4) (n := 5) (len := 2) (Or.inr ⟨rfl, d_Ev_workOutSign_187⟩) rfl (G_pc (pc' := 189) rfl ?_)
          refine G_callS (K1 := KE) (d2 := 0) (as := [vi (M (21 + 9 * e) i), vi (M (25 + 9 * e) i), vl x, vl y]) (rest := [vi i, vr ((19 + 9 * e : Nat) : Int)]) d_Ev_workOutSign_189 mf_Ev_shifted ml_Ev_179 rfl rfl (Nat.le_of_ble_eq_true rfl) (by omega) ⟨Nat.le_refl _, Nat.le_refl _⟩ (g_Ev_shifted (by omega) (M (21 + 9 * e) i) (M (25 + 9 * e) i) x y _) (fun r114 M115 kq116 q116 => ?_)
          clear kq116; obtain ⟨q116a, q116b⟩ := q116; subst r114; subst M115
          refine G_ps (pc' := 192) (st' := [vl (shvD (M (21 + 9 * e) i) (M (25 + 9 * e) i) x y), vi i, vr ((19 + 9 * e : Nat) : Int)]) rfl rfl ?_
          refine G_callV (K1 := KE) (d2 := 1) (o := (19 + 9 * e)) (cl := 1) (as := [vi i, vl (shvD (M (21 + 9 * e) i) (M (25 + 9 * e) i) x y)]) (rest := []) d_Ev_workOutSign_192 mf_Ev_settle ml_Ev_115 (kd_Ev he) rfl (by show 19 + 9 * e < 87; omega) rfl rfl (Nat.le_of_ble_eq_true rfl) (by omega) ⟨Nat.le_refl _, Nat.le_refl _⟩ (g_Ev_settle (by omega) e i (shvD (M (21 + 9 * e) i) (M (25 + 9 * e) i) x y) _ he (by omega)) (fun r117 M118 kq119 q119 => ?_)
          clear kq119; obtain ⟨q119a, q119b⟩ := q119; subst r117; subst M118
          refine G_ps (pc' := 195) (st' := []) rfl rfl ?_
          refine G_goto (tgt := 259) d_Ev_workOutSign_195 (by decide) ?_
          refine G_vret d_Ev_workOutSign_259 rfl rfl ?_
          first | (exfalso; omega) | exact ⟨rfl, eff_s (by unfold sgnR; first | ((repeat (first | (rw [if_pos (by omega)]; done) | (rw [if_neg (by omega)]))); done) | (simp [*, b2i]; done) | grind [b2i])⟩
        have e120o : Op.lookupswitch.offset [(33, 149), (37, 168), (38, 168), (42, 168), (43, 168), (45, 168), (47, 168), (94, 168), (124, 168), (126, 149), (130, 131), (131, 131), (132, 131), (147, 149), (148, 149)] 189 (M (21 + 9 * e) i) = 189 := by rw [lk_ne (by omega), lk_ne (by omega), lk_ne (by omega), lk_ne (by omega), lk_ne (by omega), lk_ne (by omega), lk_ne (by omega), lk_ne (by omega), lk_ne (by omega), lk_ne (by omega), lk_ne (by omega), lk_ne (by omega), lk_ne (by omega), lk_ne (by omega), lk_ne (by omega)]; rfl
        refine G_lookup (off := 189) (tgt := 238) d_Ev_workOutSign_49 (by decide) e120o (by decide) ?_
        refine G_aload (i := 0) (n := 2) (len := 1) (Or.inl ⟨0, rfl, rfl, d_Ev_workOutSign_238⟩) rfl (by omega) (G_pc (pc' := 239) rfl ?_)
        refine G_iload (i := 1) (n := 3) (len := 1) (Or.inl ⟨1, rfl, rfl, d_Ev_workOutSign_239⟩) rfl (G_pc (pc' := 240) rfl ?_)
        refine G_iload (i := 6) (n := 1) (len := 2) (Or.inr ⟨rfl, d_Ev_workOutSign_240⟩) rfl (G_pc (pc' := 242) rfl ?_)
        refine G_lload (i := 2) (n := 4) (len := 1) (Or.inl ⟨2, rfl, rfl, d_Ev_workOutSign_242⟩) rfl (G_pc (pc' := 243) rfl ?_)
        refine G_lload (i := 4) (n := 5) (len := 2) (Or.inr ⟨rfl, d_Ev_workOutSign_243⟩) rfl (G_pc (pc' := 245) rfl ?_)
        refine G_callS (K1 := KE) (d2 := 0) (as := [vi (M (21 + 9 * e) i), vl x, vl y]) (rest := [vi i, vr ((19 + 9 * e : Nat) : Int)]) d_Ev_workOutSign_245 mf_Ev_holds ml_Ev_190 rfl rfl (Nat.le_of_ble_eq_true rfl) (by omega) ⟨Nat.le_refl _, Nat.le_refl _⟩ (g_Ev_holds (by omega) (M (21 + 9 * e) i) x y _) (fun r121 M122 kq123 q123 => ?_)
        clear kq123; obtain ⟨q123a, q123b⟩ := q123; subst r121; subst M122
        refine G_ps (pc' := 248) (st' := [vi (b2i (holD (M (21 + 9 * e) i) x y)), vi i, vr ((19 + 9 * e : Nat) : Int)]) rfl rfl ?_
        refine G_if_eq (tgt := 255) d_Ev_workOutSign_248 (by decide) (fun h124 => ?_) (fun h124 => G_pc (pc' := 251) rfl ?_)
        · skip
          replace h124 := b2i_0.mp h124
          refine G_lconst0 d_Ev_workOutSign_255 (G_pc (pc' := 256) rfl ?_)
          refine G_callV (K1 := KE) (d2 := 1) (o := (19 + 9 * e)) (cl := 1) (as := [vi i, vl 0]) (rest := []) d_Ev_workOutSign_256 mf_Ev_settle ml_Ev_115 (kd_Ev he) rfl (by show 19 + 9 * e < 87; omega) rfl rfl (Nat.le_of_ble_eq_true rfl) (by omega) ⟨Nat.le_refl _, Nat.le_refl _⟩ (g_Ev_settle (by omega) e i 0 _ he (by omega)) (fun r125 M126 kq127 q127 => ?_)
          clear kq127; obtain ⟨q127a, q127b⟩ := q127; subst r125; subst M126
          refine G_ps (pc' := 259) (st' := []) rfl rfl ?_
          refine G_vret d_Ev_workOutSign_259 rfl rfl ?_
          first | (exfalso; omega) | exact ⟨rfl, eff_s (by unfold sgnR; first | ((repeat (first | (rw [if_pos (by omega)]; done) | (rw [if_neg (by omega)]))); done) | (simp [*, b2i]; done) | grind [b2i])⟩
        · skip
          replace h124 := b2i_nz.mp h124
          refine G_lconst1 d_Ev_workOutSign_251 (G_pc (pc' := 252) rfl ?_)
          refine G_goto (tgt := 256) d_Ev_workOutSign_252 (by decide) ?_
          refine G_callV (K1 := KE) (d2 := 1) (o := (19 + 9 * e)) (cl := 1) (as := [vi i, vl 1]) (rest := []) d_Ev_workOutSign_256 mf_Ev_settle ml_Ev_115 (kd_Ev he) rfl (by show 19 + 9 * e < 87; omega) rfl rfl (Nat.le_of_ble_eq_true rfl) (by omega) ⟨Nat.le_refl _, Nat.le_refl _⟩ (g_Ev_settle (by omega) e i 1 _ he (by omega)) (fun r128 M129 kq130 q130 => ?_)
          clear kq130; obtain ⟨q130a, q130b⟩ := q130; subst r128; subst M129
          refine G_ps (pc' := 259) (st' := []) rfl rfl ?_
          refine G_vret d_Ev_workOutSign_259 rfl rfl ?_
          first | (exfalso; omega) | exact ⟨rfl, eff_s (by unfold sgnR; first | ((repeat (first | (rw [if_pos (by omega)]; done) | (rw [if_neg (by omega)]))); done) | (simp [*, b2i]; done) | grind [b2i])⟩
      · skip
        refine G_aload (i := 0) (n := 2) (len := 1) (Or.inl ⟨0, rfl, rfl, d_Ev_workOutSign_41⟩) rfl (by omega) (G_pc (pc' := 42) rfl ?_)
        refine G_iconst (n := 1) d_Ev_workOutSign_42 (by decide) (G_pc (pc' := 43) rfl ?_)
        refine G_callV (K1 := KE) (d2 := 0) (o := (19 + 9 * e)) (cl := 1) (as := [vi 1]) (rest := []) d_Ev_workOutSign_43 mf_Ev_fail ml_Ev_157 (kd_Ev he) rfl (by show 19 + 9 * e < 87; omega) rfl rfl (Nat.le_of_ble_eq_true rfl) (by omega) ⟨Nat.le_refl _, Nat.le_refl _⟩ (g_Ev_fail (by omega) e 1 _ he) (fun r131 M132 kq133 q133 => ?_)
        clear kq133; obtain ⟨q133a, q133b⟩ := q133; subst r131; subst M132
        refine G_ps (pc' := 46) (st' := []) rfl rfl ?_
        refine G_vret d_Ev_workOutSign_46 rfl rfl ?_
        first | (exfalso; omega) | exact ⟨rfl, eff_f (by unfold sgnR; first | ((repeat (first | (rw [if_pos (by omega)]; done) | (rw [if_neg (by omega)]))); done) | (simp [*, b2i]; done) | grind [b2i])⟩

